-- 44.fermat.lean.txt
section
/-! primes, and what is raised to p - 1 -/
def isP (p : Nat) : Prop := 2 ≤ p ∧ ∀ d, d ∣ p → d = 1 ∨ d = p
theorem isP_of {p : Nat} (h2 : 2 ≤ p) (h : p < 1002001) (ht : ∀ k, k < 1001 → 2 ≤ k → k < p → p % k ≠ 0) : isP p := by
  refine ⟨h2, fun d hd => ?_⟩
  obtain ⟨e, he⟩ := hd
  by_cases h1 : d = 1
  · exact Or.inl h1
  by_cases hp : d = p
  · exact Or.inr hp
  exfalso
  have hd0 : 0 < d := by
    rcases Nat.eq_zero_or_pos d with q | q
    · subst q; omega
    · exact q
  have he0 : 0 < e := by
    rcases Nat.eq_zero_or_pos e with q | q
    · subst q; omega
    · exact q
  have he1 : e ≠ 1 := by intro q; subst q; omega
  have hdp : d < p := by
    have : d * 2 ≤ d * e := Nat.mul_le_mul_left d (by omega)
    omega
  have hep : e < p := by
    have : 2 * e ≤ d * e := Nat.mul_le_mul_right e (by omega)
    omega
  by_cases hs : d < 1001
  · exact ht d hs (by omega) hdp (by rw [he]; exact Nat.mul_mod_right d e)
  · by_cases hs2 : e < 1001
    · exact ht e hs2 (by omega) hep (by rw [he]; exact Nat.mul_mod_left d e)
    · have : 1001 * 1001 ≤ d * e := Nat.mul_le_mul (by omega) (by omega)
      omega
theorem isP_cop {p a : Nat} (h : isP p) (h0 : ¬ p ∣ a) : Nat.Coprime p a := by
  rcases h.2 _ (Nat.gcd_dvd_left p a) with q | q
  · exact q
  · exact absurd (q ▸ Nat.gcd_dvd_right p a) h0
theorem isP_mul {p a b : Nat} (h : isP p) (hd : p ∣ a * b) : p ∣ a ∨ p ∣ b := by
  by_cases ha : p ∣ a
  · exact Or.inl ha
  · exact Or.inr ((isP_cop h ha).dvd_of_dvd_mul_left hd)
def ch : Nat → Nat → Nat
  | _, 0 => 1
  | 0, _ + 1 => 0
  | n + 1, k + 1 => ch n k + ch n (k + 1)
theorem ch_zero (n : Nat) : ch n 0 = 1 := by cases n <;> rfl
theorem ch_big : ∀ n k : Nat, n < k → ch n k = 0 := by
  intro n
  induction n with
  | zero => intro k hk; cases k with
    | zero => omega
    | succ k => rfl
  | succ n ih => intro k hk; cases k with
    | zero => omega
    | succ k =>
      show ch n k + ch n (k + 1) = 0
      rw [ih k (by omega), ih (k + 1) (by omega)]
theorem ch_self (n : Nat) : ch n n = 1 := by
  induction n with
  | zero => rfl
  | succ n ih =>
    show ch n n + ch n (n + 1) = 1
    rw [ih, ch_big n (n + 1) (by omega)]
theorem ch_mul : ∀ n k : Nat, ch (n + 1) (k + 1) * (k + 1) = (n + 1) * ch n k := by
  intro n
  induction n with
  | zero =>
    intro k
    cases k with
    | zero => rfl
    | succ k =>
      show (ch 0 (k + 1) + ch 0 (k + 2)) * (k + 2) = 1 * ch 0 (k + 1)
      have a1 : ch 0 (k + 1) = 0 := rfl
      have a2 : ch 0 (k + 2) = 0 := rfl
      rw [a1, a2, Nat.mul_zero, Nat.zero_mul]
  | succ n ih =>
    intro k
    cases k with
    | zero =>
      have h : ch (n + 1) 1 = n + 1 := by
        have h9 := ih 0
        rw [ch_zero] at h9
        simpa using h9
      show (ch (n + 1) 0 + ch (n + 1) 1) * 1 = (n + 1 + 1) * 1
      rw [ch_zero]
      omega
    | succ k =>
      have h1 := ih k
      have h2 := ih (k + 1)
      show (ch (n + 1) (k + 1) + ch (n + 1) (k + 2)) * (k + 2) = (n + 2) * ch (n + 1) (k + 1)
      have h3 : ch (n + 1) (k + 1) = ch n k + ch n (k + 1) := rfl
      have h4 : (ch (n + 1) (k + 1) + ch (n + 1) (k + 2)) * (k + 2) = ch (n + 1) (k + 1) * (k + 1) + ch (n + 1) (k + 1) + ch (n + 1) (k + 2) * (k + 2) := by
        rw [Nat.add_mul, Nat.mul_succ (ch (n + 1) (k + 1)) (k + 1)]
      rw [h4, h1, h2]
      have h5 : (n + 2) * ch (n + 1) (k + 1) = (n + 1) * ch n k + (n + 1) * ch n (k + 1) + ch (n + 1) (k + 1) := by
        rw [Nat.succ_mul (n + 1), h3, Nat.mul_add]
      rw [h5]; omega
/-- the sum of f k, k below n -/
def sumf (f : Nat → Nat) : Nat → Nat
  | 0 => 0
  | n + 1 => sumf f n + f n
theorem sumf_add (f g : Nat → Nat) (n : Nat) : sumf (fun k => f k + g k) n = sumf f n + sumf g n := by
  induction n with
  | zero => rfl
  | succ n ih => show sumf (fun k => f k + g k) n + (f n + g n) = (sumf f n + f n) + (sumf g n + g n); rw [ih]; omega
theorem sumf_mul (f : Nat → Nat) (a n : Nat) : sumf (fun k => a * f k) n = a * sumf f n := by
  induction n with
  | zero => rfl
  | succ n ih => show sumf _ n + _ = a * (sumf f n + f n); rw [ih, Nat.mul_add]
theorem sumf_shift (f : Nat → Nat) (n : Nat) : sumf f (n + 1) = f 0 + sumf (fun k => f (k + 1)) n := by
  induction n with
  | zero => show sumf f 0 + f 0 = _; simp [sumf]
  | succ n ih =>
    have h : sumf f (n + 1 + 1) = sumf f (n + 1) + f (n + 1) := rfl
    rw [h, ih]
    show _ = f 0 + (sumf (fun k => f (k + 1)) n + f (n + 1))
    omega
theorem sumf_congr {f g : Nat → Nat} {n : Nat} (h : ∀ k, k < n → f k = g k) : sumf f n = sumf g n := by
  induction n with
  | zero => rfl
  | succ n ih => show sumf f n + f n = sumf g n + g n; rw [ih (fun k hk => h k (by omega)), h n (by omega)]
theorem binom (a n : Nat) : (a + 1) ^ n = sumf (fun k => ch n k * a ^ k) (n + 1) := by
  induction n with
  | zero => rfl
  | succ n ih =>
    rw [Nat.pow_succ, ih]
    have e1 : sumf (fun k => ch (n + 1) k * a ^ k) (n + 1 + 1) = ch (n + 1) 0 * a ^ 0 + sumf (fun k => ch (n + 1) (k + 1) * a ^ (k + 1)) (n + 1) := sumf_shift _ _
    have e2 : sumf (fun k => ch (n + 1) (k + 1) * a ^ (k + 1)) (n + 1) = sumf (fun k => ch n k * a ^ (k + 1) + ch n (k + 1) * a ^ (k + 1)) (n + 1) := sumf_congr (fun k _ => by show (ch n k + ch n (k + 1)) * _ = _; rw [Nat.add_mul])
    have e3 : sumf (fun k => ch n k * a ^ (k + 1)) (n + 1) = a * sumf (fun k => ch n k * a ^ k) (n + 1) := by
      rw [← sumf_mul]
      exact sumf_congr (fun k _ => by rw [Nat.pow_succ, ← Nat.mul_assoc, Nat.mul_comm _ a])
    have e4 : ch (n + 1) 0 * a ^ 0 + sumf (fun k => ch n (k + 1) * a ^ (k + 1)) (n + 1) = sumf (fun k => ch n k * a ^ k) (n + 1) := by
      have e5 : sumf (fun k => ch n k * a ^ k) (n + 1 + 1) = ch n 0 * a ^ 0 + sumf (fun k => ch n (k + 1) * a ^ (k + 1)) (n + 1) := sumf_shift _ _
      have e6 : sumf (fun k => ch n k * a ^ k) (n + 1 + 1) = sumf (fun k => ch n k * a ^ k) (n + 1) + ch n (n + 1) * a ^ (n + 1) := rfl
      rw [ch_big n (n + 1) (by omega), Nat.zero_mul] at e6
      have e7 := e5.symm.trans e6
      rw [ch_zero] at e7 ⊢
      exact e7
    rw [e1, e2, sumf_add, e3, Nat.mul_add, Nat.mul_one]
    rw [← e4]
    have e7 : ∀ s t u : Nat, s = t → t * a + t = u + (a * s + (t - u)) ∨ True := fun _ _ _ _ => Or.inr trivial
    rw [Nat.mul_comm a]
    rw [e4]
    omega
theorem ch_dvd {p k : Nat} (h : isP p) (h0 : 0 < k) (h1 : k < p) : p ∣ ch p k := by
  obtain ⟨q, rfl⟩ : ∃ q, p = q + 1 := ⟨p - 1, by omega⟩
  obtain ⟨j, rfl⟩ : ∃ j, k = j + 1 := ⟨k - 1, by omega⟩
  have h2 := ch_mul q j
  rcases isP_mul h (show q + 1 ∣ ch (q + 1) (j + 1) * (j + 1) from ⟨_, h2⟩) with h3 | h3
  · exact h3
  · exact absurd (Nat.le_of_dvd (by omega) h3) (by omega)
theorem sumf_dvd {f : Nat → Nat} {p n : Nat} (h : ∀ k, k < n → p ∣ f k) : p ∣ sumf f n := by
  induction n with
  | zero => exact Nat.dvd_zero p
  | succ n ih => exact Nat.dvd_add (ih (fun k hk => h k (by omega))) (h n (by omega))
theorem fermat0 {p : Nat} (h : isP p) (a : Nat) : a ^ p % p = a % p := by
  induction a with
  | zero => rw [Nat.zero_pow (by have := h.1; omega)]
  | succ a ih =>
    obtain ⟨q, rfl⟩ : ∃ q, p = q + 2 := ⟨p - 2, by have := h.1; omega⟩
    have e1 := binom a (q + 2)
    have e2 : sumf (fun k => ch (q + 2) k * a ^ k) (q + 2 + 1) = ch (q + 2) 0 * a ^ 0 + sumf (fun k => ch (q + 2) (k + 1) * a ^ (k + 1)) (q + 2) := sumf_shift _ _
    have e3 : sumf (fun k => ch (q + 2) (k + 1) * a ^ (k + 1)) (q + 2) = sumf (fun k => ch (q + 2) (k + 1) * a ^ (k + 1)) (q + 1) + ch (q + 2) (q + 2) * a ^ (q + 2) := rfl
    obtain ⟨z, hz⟩ : (q + 2) ∣ sumf (fun k => ch (q + 2) (k + 1) * a ^ (k + 1)) (q + 1) := sumf_dvd (fun k hk => Nat.dvd_mul_right_of_dvd (ch_dvd h (by omega) (by omega)) _)
    rw [e1, e2, e3, hz, ch_zero, ch_self, Nat.pow_zero, Nat.one_mul, Nat.one_mul]
    have e4 : 1 + ((q + 2) * z + a ^ (q + 2)) = (1 + a ^ (q + 2)) + (q + 2) * z := by omega
    rw [e4, Nat.add_mul_mod_self_left, Nat.add_mod, ih, ← Nat.add_mod, Nat.add_comm]
theorem fermat {p a : Nat} (h : isP p) (ha : ¬ p ∣ a) : a ^ (p - 1) % p = 1 := by
  have h2 := h.1
  have h1 := fermat0 h a
  obtain ⟨q, rfl⟩ : ∃ q, p = q + 1 := ⟨p - 1, by omega⟩
  have e : q + 1 - 1 = q := rfl
  rw [e]
  have hp1 : 1 ≤ a ^ q := Nat.pow_pos (by
    rcases Nat.eq_zero_or_pos a with z | z
    · subst z; exact absurd (Nat.dvd_zero _) ha
    · exact z)
  have h3 : (q + 1) ∣ a * (a ^ q - 1) := by
    rw [Nat.mul_sub, Nat.mul_one, Nat.mul_comm, ← Nat.pow_succ]
    have h4 : a ≤ a ^ (q + 1) := by rw [Nat.pow_succ]; exact Nat.le_mul_of_pos_left a hp1
    exact Nat.dvd_of_mod_eq_zero (Nat.sub_mod_eq_zero_of_mod_eq h1)
  rcases isP_mul h h3 with h4 | h4
  · exact absurd h4 ha
  · obtain ⟨z, hz⟩ := h4
    have h5 : a ^ q = (q + 1) * z + 1 := by omega
    rw [h5, Nat.mul_add_mod, Nat.mod_eq_of_lt (by omega)]

theorem prP : ∀ wh, wh < 7 → isP (pr wh).toNat := wh_cases (isP_of (by decide +kernel) (by decide +kernel) (by decide +kernel)) (isP_of (by decide +kernel) (by decide +kernel) (by decide +kernel)) (isP_of (by decide +kernel) (by decide +kernel) (by decide +kernel)) (isP_of (by decide +kernel) (by decide +kernel) (by decide +kernel)) (isP_of (by decide +kernel) (by decide +kernel) (by decide +kernel)) (isP_of (by decide +kernel) (by decide +kernel) (by decide +kernel)) (isP_of (by decide +kernel) (by decide +kernel) (by decide +kernel))
theorem fermatI {wh : Nat} (hwh : wh < 7) {v : Int} (h1 : 1 ≤ v) (h2 : v < pr wh) : v ^ (pr wh - 1).toNat % pr wh = 1 := by
  have hp := pr_rg wh hwh
  obtain ⟨a, rfl⟩ : ∃ a : Nat, v = (a : Int) := ⟨v.toNat, by omega⟩
  obtain ⟨p, hp9⟩ : ∃ p : Nat, pr wh = (p : Int) := ⟨(pr wh).toNat, by omega⟩
  have hP := prP wh hwh
  rw [hp9] at hP hp h2 ⊢
  have h3 := fermat (p := p) (a := a) hP (fun hd => by
    have := Nat.le_of_dvd (by omega) hd
    omega)
  have e : ((p : Int) - 1).toNat = p - 1 := by omega
  rw [e]
  exact_mod_cast h3
theorem iv_mul {wh : Nat} (hwh : wh < 7) {v : Int} (h1 : 1 ≤ v) (h2 : v < pr wh) : iv wh v * v % pr wh = 1 := by
  have hp := pr_rg wh hwh
  have h3 := fermatI hwh h1 h2
  have e : (pr wh - 1).toNat = (pr wh - 2).toNat + 1 := by omega
  rw [e, Int.pow_succ] at h3
  unfold iv e_pw
  rw [emod_mul_l]
  exact h3
theorem inv_uniq {p z z2 v : Int} (h0 : 0 ≤ z) (h1 : z < p) (g0 : 0 ≤ z2) (g1 : z2 < p) (h : z * v % p = 1) (g : z2 * v % p = 1) : z = z2 := by
  have e1 : z * (z2 * v) % p = z % p := by rw [← emod_mul_r, g, Int.mul_one]
  have e2 : z * (z2 * v) % p = z2 % p := by
    rw [show z * (z2 * v) = z2 * (z * v) by rw [Int.mul_left_comm], ← emod_mul_r, h, Int.mul_one]
  rw [e1, Int.emod_eq_of_lt h0 h1, Int.emod_eq_of_lt g0 g1] at e2
  exact e2
theorem iv_zero {wh : Nat} (hwh : wh < 7) : iv wh 0 = 0 := by
  have hp := pr_rg wh hwh
  unfold iv e_pw
  have e : (pr wh - 2).toNat = (pr wh - 3).toNat + 1 := by omega
  rw [e, Int.pow_succ, Int.mul_zero, Int.zero_emod]
theorem iv_is {wh : Nat} (hwh : wh < 7) {v z : Int} (h1 : 1 ≤ v) (h2 : v < pr wh) (h0 : 0 ≤ z) (h3 : z < pr wh) (h : z * v % pr wh = 1) : z = iv wh v := by
  have hr := iv_rg (v := v) hwh
  exact inv_uniq h0 h3 hr.1 hr.2 h (iv_mul hwh h1 h2)
/-- no number but 0 and p divides p -/
theorem pr_cop {wh : Nat} (hwh : wh < 7) {d v : Int} (h1 : 1 ≤ v) (h2 : v < pr wh) (hd : 0 ≤ d) (hp : d ∣ pr wh) (hv : d ∣ v) : d = 1 := by
  have hp9 := pr_rg wh hwh
  have h3 := (prP wh hwh).2 d.toNat (by
    have := Int.natAbs_dvd_natAbs.mpr hp
    rwa [show d.natAbs = d.toNat by omega, show (pr wh).natAbs = (pr wh).toNat by omega] at this)
  rcases h3 with h3 | h3
  · omega
  · have := Int.le_of_dvd (by omega) hv
    omega
end
-- 45.mod.lean.txt
section
/-! the reference: numbers -/
abbrev MO (y : Nat) (t : Int) (wh : Nat) (kn : Int) : e_C := .inl (5, [.int (eI t), .int (eI (wh : Int)), .int (eI kn), .ref (y + 1), .ref (y + 2), .ref (y + 3)])
/-- the greatest common divisor's steps -/
def XI (p v far near was is : Int) : Prop := 1 ≤ far ∧ 0 ≤ near ∧ near < far ∧ far ≤ p ∧ (∃ a b, 0 ≤ a ∧ a ≤ b ∧ 1 ≤ b ∧ b * far + a * near = p ∧ ((was = a ∧ is = -b) ∨ (was = -a ∧ is = b))) ∧ (∃ c, was * v = far + p * c) ∧ (∃ c, is * v = near + p * c) ∧ (∀ d, d ∣ far → d ∣ near → d ∣ p ∧ d ∣ v)
theorem XI.step {p v far near was is : Int} (h : XI p v far near was is) (h0 : 0 < near) : XI p v near (far - far / near * near) is (was - far / near * is) := by
  obtain ⟨h1, h2, h3, h4, ⟨a, b, a0, ab, b1, hab, hs⟩, ⟨c1, hc1⟩, ⟨c2, hc2⟩, hd⟩ := h
  have e1 := Int.emod_add_mul_ediv far near
  have e2 : far - far / near * near = far % near := by rw [Int.mul_comm (far / near)]; omega
  have e3 := Int.emod_nonneg far (show near ≠ 0 by omega)
  have e4 := Int.emod_lt_of_pos far h0
  have q1 : 1 ≤ far / near := (Int.le_ediv_iff_mul_le h0).mpr (by omega)
  have q2 : b * 1 ≤ b * (far / near) := Int.mul_le_mul_of_nonneg_left q1 (by omega)
  refine ⟨by omega, by omega, by omega, by omega, ⟨b, a + far / near * b, by omega, ?_, ?_, ?_, ?_⟩, ⟨c2, hc2⟩, ⟨c1 - far / near * c2, ?_⟩, fun d hd1 hd2 => ?_⟩
  · rw [Int.mul_comm (far / near)]; omega
  · rw [Int.mul_comm (far / near)]; omega
  · rw [← hab, Int.add_mul, Int.mul_sub, ← Int.mul_assoc b, Int.mul_comm b (far / near)]; omega
  · rcases hs with ⟨s1, s2⟩ | ⟨s1, s2⟩
    · exact Or.inr ⟨s2, by rw [s1, s2, Int.mul_neg]; omega⟩
    · exact Or.inl ⟨s2, by rw [s1, s2]; omega⟩
  · rw [Int.sub_mul, hc1, Int.mul_assoc, hc2, Int.mul_sub, Int.mul_add, Int.mul_left_comm (far / near) p c2]; omega
  · apply hd d _ hd1
    rw [show far = (far - far / near * near) + far / near * near by omega]
    exact Int.dvd_add hd2 (Int.dvd_mul_of_dvd_right hd1)
theorem XI.rg {p v far near was is : Int} (h : XI p v far near was is) : -p ≤ was ∧ was ≤ p ∧ -p ≤ is ∧ is ≤ p := by
  obtain ⟨h1, h2, h3, h4, ⟨a, b, a0, ab, b1, hab, hs⟩, -⟩ := h
  have q1 : b * 1 ≤ b * far := Int.mul_le_mul_of_nonneg_left h1 (by omega)
  have q2 : 0 ≤ a * near := Int.mul_nonneg a0 h2
  rcases hs with ⟨s1, s2⟩ | ⟨s1, s2⟩ <;> omega
def XJ (wh : Nat) (v far near was is : Int) : Prop := (v = 0 ∧ near = 0 ∧ was = 0) ∨ (1 ≤ v ∧ XI (pr wh) v far near was is)
theorem XJ.end {wh : Nat} (hwh : wh < 7) {v far near was is : Int} (hv : v < pr wh) (h : XJ wh v far near was is) (h0 : near ≤ 0) : was % pr wh = iv wh v := by
  have hp := pr_rg wh hwh
  rcases h with ⟨q1, -, q3⟩ | ⟨q1, q2⟩
  · rw [q1, q3, iv_zero hwh, Int.zero_emod]
  · have q2' := q2
    obtain ⟨h1, h2, h3, h4, -, ⟨c1, hc1⟩, -, hd⟩ := q2'
    have e0 : near = 0 := by omega
    obtain ⟨d1, d2⟩ := hd far (Int.dvd_refl far) (by rw [e0]; exact Int.dvd_zero far)
    have e1 : far = 1 := pr_cop hwh q1 hv (by omega) d1 d2
    refine iv_is hwh q1 hv (Int.emod_nonneg _ (by omega)) (Int.emod_lt_of_pos _ (by omega)) ?_
    rw [emod_mul_l, hc1, e1, Int.add_mul_emod_self_left]
    exact Int.emod_eq_of_lt (by omega) (by omega)
theorem bc_half {v : Int} (h0 : 0 ≤ v) (h1 : v < 128) : bc v = v % 2 + bc (v / 2) := by unfold bc; omega
/-- Horner's way, over N coefficients -/
def hv (p x : Int) (P : Int → Int) (N : Int) : Nat → Int
  | 0 => 0
  | j + 1 => (hv p x P N j * x + P (N - 1 - (j : Int))) % p
theorem hv_rg {p x : Int} {P : Int → Int} {N : Int} (hp : 0 < p) (j : Nat) : 0 ≤ hv p x P N j ∧ hv p x P N j < p := by
  cases j with
  | zero => unfold hv; omega
  | succ j => unfold hv; exact ⟨Int.emod_nonneg _ (by omega), Int.emod_lt_of_pos _ hp⟩
theorem hv_congr {p x : Int} {P Q : Int → Int} {N : Int} (j : Nat) (hj : (j : Int) ≤ N) (h : ∀ k, 0 ≤ k → k < N → P k = Q k) : hv p x P N j = hv p x Q N j := by
  induction j with
  | zero => rfl
  | succ j ih =>
    show (hv p x P N j * x + P (N - 1 - (j : Int))) % p = (hv p x Q N j * x + Q (N - 1 - (j : Int))) % p
    rw [ih (by omega), h _ (by omega) (by omega)]
theorem hv_hz {p x : Int} {P : Int → Int} (j : Nat) : hv p x P 7 j = hz p x P j := by
  induction j with
  | zero => rfl
  | succ j ih =>
    show (hv p x P 7 j * x + P (7 - 1 - (j : Int))) % p = (hz p x P j * x + P (6 - (j : Int))) % p
    rw [ih]
    rfl
set_option maxHeartbeats 4000000 in
set_option maxRecDepth 100000 in
theorem c_X5_thrown {K : e_K} {l : Launch} {w : e_W} {n : Nat} {y wh : Nat} {t kn : Int} (hY : w y = some (MO y t wh kn)) : e_Met K l yX5_thrown (Cond.code yX5_thrown cX5_thrown 1 (Option.some .int) :: e_TB) (0) (0) [.ref y] w n (fun r w' n' => r = some (.int (eI (t))) ∧ w' = w ∧ n' = n) (e_px0) := by
  refine e_ofV rfl (Nat.le_of_ble_eq_true rfl) ?_
  intro P9 E9 S9 M9 A9 B9 T9 C9 F hnm
  refine e_aload_n F dX5_thrown_0 rfl ?_
  refine e_get (ci := 5) (fi := 0) (q := (RX5, TX5, 6)) F hY rfl (by decide) w_fl_RX5_25 (by rfl) dX5_thrown_1 ?_
  refine e_iret F rfl (by omega) ?_ dX5_thrown_4
  exact ⟨rfl, rfl, rfl⟩
set_option maxHeartbeats 4000000 in
set_option maxRecDepth 100000 in
theorem c_X5_isIn {K : e_K} {l : Launch} {w : e_W} {n : Nat} {v a b : Int} (hv : e_r v) (ha : e_r a) (hb : e_r b) : e_Met K l yX5_isIn (Cond.code yX5_isIn cX5_isIn 3 (Option.some .boolean) :: e_TB) (0) (0) [.int (eI v), .int (eI a), .int (eI b)] w n (fun r w' n' => r = some (.int (eI (b01 (a ≤ v ∧ v ≤ b)))) ∧ w' = w ∧ n' = n) (e_px0) := by
  refine e_ofV rfl (Nat.le_of_ble_eq_true rfl) ?_
  intro P9 E9 S9 M9 A9 B9 T9 C9 F hnm
  refine e_iload_n F dX5_isIn_0 rfl ?_
  refine e_iload_n F dX5_isIn_1 rfl ?_
  refine e_icmp_lt F 14 dX5_isIn_2 (by decide) (hv) (ha) (fun c_2 => ?_) (fun c_2 => ?_)
  · refine e_iconst F dX5_isIn_14 ?_
    refine e_zret F rfl (by omega) (by omega) ?_ dX5_isIn_15
    refine ⟨?_, rfl, rfl⟩
    first | rw [b01_t (by omega)] | rw [b01_f (by omega)]
  · refine e_iload_n F dX5_isIn_5 rfl ?_
    refine e_iload_n F dX5_isIn_6 rfl ?_
    refine e_icmp_gt F 14 dX5_isIn_7 (by decide) (hv) (hb) (fun c_7 => ?_) (fun c_7 => ?_)
    · refine e_iconst F dX5_isIn_14 ?_
      refine e_zret F rfl (by omega) (by omega) ?_ dX5_isIn_15
      refine ⟨?_, rfl, rfl⟩
      first | rw [b01_t (by omega)] | rw [b01_f (by omega)]
    · refine e_iconst F dX5_isIn_10 ?_
      refine e_goto F 15 dX5_isIn_11 (by decide) ?_
      refine e_zret F rfl (by omega) (by omega) ?_ dX5_isIn_15
      refine ⟨?_, rfl, rfl⟩
      first | rw [b01_t (by omega)] | rw [b01_f (by omega)]
set_option maxHeartbeats 4000000 in
set_option maxRecDepth 100000 in
theorem c_X5_one {K : e_K} {l : Launch} {w : e_W} {n : Nat} {b : Int} (hb : b = 0 ∨ b = 1) : e_Met K l yX5_one (Cond.code yX5_one cX5_one 1 (Option.some .int) :: e_TB) (0) (0) [.int (eI b)] w n (fun r w' n' => r = some (.int (eI (b))) ∧ w' = w ∧ n' = n) (e_px0) := by
  refine e_ofV rfl (Nat.le_of_ble_eq_true rfl) ?_
  intro P9 E9 S9 M9 A9 B9 T9 C9 F hnm
  refine e_iload_n F dX5_one_0 rfl ?_
  refine e_if_eq F 8 dX5_one_1 (by decide) (by rcases hb with h | h <;> rw [h] <;> decide) (fun c_1 => ?_) (fun c_1 => ?_)
  · refine e_iconst F dX5_one_8 ?_
    refine e_iret F rfl (by omega) ?_ dX5_one_9
    rcases hb with h | h
    · subst h; first | exact ⟨rfl, rfl, rfl⟩ | exact absurd rfl c_1
    · subst h; first | exact ⟨rfl, rfl, rfl⟩ | exact absurd c_1 (by decide)
  · refine e_iconst F dX5_one_4 ?_
    refine e_goto F 9 dX5_one_5 (by decide) ?_
    refine e_iret F rfl (by omega) ?_ dX5_one_9
    rcases hb with h | h
    · subst h; first | exact ⟨rfl, rfl, rfl⟩ | exact absurd rfl c_1
    · subst h; first | exact ⟨rfl, rfl, rfl⟩ | exact absurd c_1 (by decide)
set_option maxHeartbeats 4000000 in
set_option maxRecDepth 100000 in
theorem c_X5_p {K : e_K} {l : Launch} {w : e_W} {n : Nat} {y wh : Nat} {t kn : Int} (hY : w y = some (MO y t wh kn)) (hwh : wh < 7) : e_Met K l yX5_p (Cond.code yX5_p cX5_p 1 (Option.some .int) :: e_TB) (0) (0) [.ref y] w n (fun r w' n' => r = some (.int (eI (pr wh))) ∧ w' = w ∧ n' = n) (e_px0) := by
  refine e_ofV rfl (Nat.le_of_ble_eq_true rfl) ?_
  intro P9 E9 S9 M9 A9 B9 T9 C9 F hnm
  refine e_gets F (i := 3) rfl w_fl_RX5_32 dX5_p_0 ?_
  refine e_aload_n F dX5_p_3 rfl ?_
  refine e_get (ci := 5) (fi := 1) (q := (RX5, TX5, 6)) F hY rfl (by decide) w_fl_RX5_7 (by rfl) dX5_p_4 ?_
  refine e_ialdS F (i := 3) (by decide) (by omega) (by omega) dX5_p_7 ?_
  refine e_iret F rfl (by omega) ?_ dX5_p_8
  exact ⟨rfl, rfl, rfl⟩
set_option maxHeartbeats 4000000 in
set_option maxRecDepth 100000 in
theorem c_X5_q {K : e_K} {l : Launch} {w : e_W} {n : Nat} {y wh : Nat} {t kn : Int} (hY : w y = some (MO y t wh kn)) (hwh : wh < 7) : e_Met K l yX5_q (Cond.code yX5_q cX5_q 1 (Option.some .int) :: e_TB) (0) (0) [.ref y] w n (fun r w' n' => r = some (.int (eI (gr wh))) ∧ w' = w ∧ n' = n) (e_px0) := by
  refine e_ofV rfl (Nat.le_of_ble_eq_true rfl) ?_
  intro P9 E9 S9 M9 A9 B9 T9 C9 F hnm
  refine e_gets F (i := 4) rfl w_fl_RX5_35 dX5_q_0 ?_
  refine e_aload_n F dX5_q_3 rfl ?_
  refine e_get (ci := 5) (fi := 1) (q := (RX5, TX5, 6)) F hY rfl (by decide) w_fl_RX5_7 (by rfl) dX5_q_4 ?_
  refine e_ialdS F (i := 4) (by decide) (by omega) (by omega) dX5_q_7 ?_
  refine e_iret F rfl (by omega) ?_ dX5_q_8
  exact ⟨rfl, rfl, rfl⟩
set_option maxHeartbeats 4000000 in
set_option maxRecDepth 100000 in
theorem c_X5_holders {K : e_K} {l : Launch} {w : e_W} {n : Nat} {y wh : Nat} {t kn : Int} (hY : w y = some (MO y t wh kn)) (hwh : wh < 7) : e_Met K l yX5_holders (Cond.code yX5_holders cX5_holders 1 (Option.some .int) :: e_TB) (1) (0) [.ref y] w n (fun r w' n' => r = some (.int (eI (ho wh))) ∧ w' = w ∧ n' = n) (e_px0) := by
  refine e_ofV rfl (Nat.le_of_ble_eq_true rfl) ?_
  intro P9 E9 S9 M9 A9 B9 T9 C9 F hnm
  have hp := pr_rg wh hwh
  have hho := ho_rg wh hwh
  refine e_bipush F dX5_holders_0 (by decide) ?_
  refine e_aload_n F dX5_holders_2 rfl ?_
  refine e_callVV F u_X5_p (by rfl) (c_X5_p hY hwh) hY rfl rfl w_ml_RX5_38 dX5_holders_3 (by rfl) (Nat.le_of_ble_eq_true rfl) (by decide) (by omega) (fun _ _ _ h _ => False.elim h) (fun r_3 w_3 n_3 h_3 hn_3 => ?_)
  obtain ⟨rfl, ew_3, en_3⟩ := h_3
  rw [ew_3, en_3]
  refine e_iconst F dX5_holders_6 ?_
  refine e_isub F dX5_holders_7 ?_
  refine e_mmin F ⟨by omega, by omega⟩ ⟨by omega, by omega⟩ w_ml_RX5_42 w_sm_J9_min_7cf53 w_in_RJ9 w_co_J9_min_7cf53 dX5_holders_8 (Nat.le_of_ble_eq_true rfl) (by decide) (by omega) ?_
  refine e_iret F rfl (by omega) ?_ dX5_holders_11
  exact ⟨rfl, rfl, rfl⟩
set_option maxHeartbeats 4000000 in
set_option maxRecDepth 100000 in
theorem c_X5_isNoDeal {K : e_K} {l : Launch} {w : e_W} {n : Nat} {i : Int} (hi : e_r i) : e_Met K l yX5_isNoDeal (Cond.code yX5_isNoDeal cX5_isNoDeal 1 (Option.some .boolean) :: e_TB) (1) (0) [.int (eI i)] w n (fun r w' n' => r = some (.int (eI (b01 (¬ (0 ≤ i ∧ i < 6))))) ∧ w' = w ∧ n' = n) (e_px0) := by
  refine e_ofV rfl (Nat.le_of_ble_eq_true rfl) ?_
  intro P9 E9 S9 M9 A9 B9 T9 C9 F hnm
  refine e_iload_n F dX5_isNoDeal_0 rfl ?_
  refine e_iconst F dX5_isNoDeal_1 ?_
  refine e_iconst F dX5_isNoDeal_2 ?_
  refine e_callSS F u_X5_isIn (by rfl) (c_X5_isIn (v := i) (a := 0) (b := 5) hi (by decide) (by decide)) w_ml_RX5_48 dX5_isNoDeal_3 (by rfl) (Nat.le_of_ble_eq_true rfl) (by decide) (by omega) (fun _ _ _ h _ => False.elim h) (fun r_3 w_3 n_3 h_3 hn_3 => ?_)
  obtain ⟨rfl, ew_3, en_3⟩ := h_3
  rw [ew_3, en_3]
  refine e_if_ne F 13 dX5_isNoDeal_6 (by decide) (b01_r _) (fun c_6 => ?_) (fun c_6 => ?_)
  ·
    rw [ne_eq, b01_0, Classical.not_not] at c_6
    refine e_iconst F dX5_isNoDeal_13 ?_
    refine e_zret F rfl (by omega) (by omega) ?_ dX5_isNoDeal_14
    refine ⟨?_, rfl, rfl⟩
    first | rw [b01_t (show (¬ (0 ≤ i ∧ i < 6)) by omega)] | rw [b01_f (show ¬ (¬ (0 ≤ i ∧ i < 6)) by omega)]
  ·
    rw [b01_0] at c_6
    refine e_iconst F dX5_isNoDeal_9 ?_
    refine e_goto F 14 dX5_isNoDeal_10 (by decide) ?_
    refine e_zret F rfl (by omega) (by omega) ?_ dX5_isNoDeal_14
    refine ⟨?_, rfl, rfl⟩
    first | rw [b01_t (show (¬ (0 ≤ i ∧ i < 6)) by omega)] | rw [b01_f (show ¬ (¬ (0 ≤ i ∧ i < 6)) by omega)]
set_option maxHeartbeats 4000000 in
set_option maxRecDepth 100000 in
theorem c_X5_isNoHolder {K : e_K} {l : Launch} {w : e_W} {n : Nat} {y wh : Nat} {t kn : Int} (hY : w y = some (MO y t wh kn)) (hwh : wh < 7) {h : Int} (hh : e_r h) : e_Met K l yX5_isNoHolder (Cond.code yX5_isNoHolder cX5_isNoHolder 2 (Option.some .boolean) :: e_TB) (2) (0) [.ref y, .int (eI h)] w n (fun r w' n' => r = some (.int (eI (b01 (¬ (1 ≤ h ∧ h ≤ ho wh))))) ∧ w' = w ∧ n' = n) (e_px0) := by
  refine e_ofV rfl (Nat.le_of_ble_eq_true rfl) ?_
  intro P9 E9 S9 M9 A9 B9 T9 C9 F hnm
  have hp := pr_rg wh hwh
  have hho := ho_rg wh hwh
  refine e_iload_n F dX5_isNoHolder_0 rfl ?_
  refine e_iconst F dX5_isNoHolder_1 ?_
  refine e_aload_n F dX5_isNoHolder_2 rfl ?_
  refine e_callVV F u_X5_holders (by rfl) (c_X5_holders hY hwh) hY rfl rfl w_ml_RX5_52 dX5_isNoHolder_3 (by rfl) (Nat.le_of_ble_eq_true rfl) (by decide) (by omega) (fun _ _ _ h _ => False.elim h) (fun r_3 w_3 n_3 h_3 hn_3 => ?_)
  obtain ⟨rfl, ew_3, en_3⟩ := h_3
  rw [ew_3, en_3]
  refine e_callSS F u_X5_isIn (by rfl) (c_X5_isIn (v := h) (a := 1) (b := ho wh) hh (by decide) ⟨by omega, by omega⟩) w_ml_RX5_48 dX5_isNoHolder_6 (by rfl) (Nat.le_of_ble_eq_true rfl) (by decide) (by omega) (fun _ _ _ h _ => False.elim h) (fun r_6 w_6 n_6 h_6 hn_6 => ?_)
  obtain ⟨rfl, ew_6, en_6⟩ := h_6
  rw [ew_6, en_6]
  refine e_if_ne F 16 dX5_isNoHolder_9 (by decide) (b01_r _) (fun c_9 => ?_) (fun c_9 => ?_)
  ·
    rw [ne_eq, b01_0, Classical.not_not] at c_9
    refine e_iconst F dX5_isNoHolder_16 ?_
    refine e_zret F rfl (by omega) (by omega) ?_ dX5_isNoHolder_17
    refine ⟨?_, rfl, rfl⟩
    first | rw [b01_t (show (¬ (1 ≤ h ∧ h ≤ ho wh)) by omega)] | rw [b01_f (show ¬ (¬ (1 ≤ h ∧ h ≤ ho wh)) by omega)]
  ·
    rw [b01_0] at c_9
    refine e_iconst F dX5_isNoHolder_12 ?_
    refine e_goto F 17 dX5_isNoHolder_13 (by decide) ?_
    refine e_zret F rfl (by omega) (by omega) ?_ dX5_isNoHolder_17
    refine ⟨?_, rfl, rfl⟩
    first | rw [b01_t (show (¬ (1 ≤ h ∧ h ≤ ho wh)) by omega)] | rw [b01_f (show ¬ (¬ (1 ≤ h ∧ h ≤ ho wh)) by omega)]
set_option maxHeartbeats 4000000 in
set_option maxRecDepth 100000 in
theorem c_X5_isNoSet {K : e_K} {l : Launch} {w : e_W} {n : Nat} {y wh : Nat} {t kn : Int} (hY : w y = some (MO y t wh kn)) (hwh : wh < 7) {s9 : Int} (hs9 : e_r s9) : e_Met K l yX5_isNoSet (Cond.code yX5_isNoSet cX5_isNoSet 2 (Option.some .boolean) :: e_TB) (2) (0) [.ref y, .int (eI s9)] w n (fun r w' n' => r = some (.int (eI (b01 (¬ (1 ≤ s9 ∧ s9 ≤ fl wh))))) ∧ w' = w ∧ n' = n) (e_px0) := by
  refine e_ofV rfl (Nat.le_of_ble_eq_true rfl) ?_
  intro P9 E9 S9 M9 A9 B9 T9 C9 F hnm
  have hp := pr_rg wh hwh
  have hho := ho_rg wh hwh
  have hf9 := fl_rg wh hwh
  refine e_iload_n F dX5_isNoSet_0 rfl ?_
  refine e_iconst F dX5_isNoSet_1 ?_
  refine e_iconst F dX5_isNoSet_2 ?_
  refine e_aload_n F dX5_isNoSet_3 rfl ?_
  refine e_callVV F u_X5_holders (by rfl) (c_X5_holders hY hwh) hY rfl rfl w_ml_RX5_52 dX5_isNoSet_4 (by rfl) (Nat.le_of_ble_eq_true rfl) (by decide) (by omega) (fun _ _ _ h _ => False.elim h) (fun r_4 w_4 n_4 h_4 hn_4 => ?_)
  obtain ⟨rfl, ew_4, en_4⟩ := h_4
  rw [ew_4, en_4]
  refine e_ishl F dX5_isNoSet_7 (by have := eI_shl1 (ho wh).toNat (by omega); rwa [Int.toNat_of_nonneg (by omega)] at this) ?_
  refine e_iconst F dX5_isNoSet_8 ?_
  refine e_isub F dX5_isNoSet_9 ?_
  refine e_callSS F u_X5_isIn (by rfl) (c_X5_isIn (v := s9) (a := 1) (b := fl wh) hs9 (by decide) ⟨by omega, by omega⟩) w_ml_RX5_48 dX5_isNoSet_10 (by rfl) (Nat.le_of_ble_eq_true rfl) (by decide) (by omega) (fun _ _ _ h _ => False.elim h) (fun r_10 w_10 n_10 h_10 hn_10 => ?_)
  obtain ⟨rfl, ew_10, en_10⟩ := h_10
  rw [ew_10, en_10]
  refine e_if_ne F 20 dX5_isNoSet_13 (by decide) (b01_r _) (fun c_13 => ?_) (fun c_13 => ?_)
  ·
    rw [ne_eq, b01_0, Classical.not_not] at c_13
    refine e_iconst F dX5_isNoSet_20 ?_
    refine e_zret F rfl (by omega) (by omega) ?_ dX5_isNoSet_21
    refine ⟨?_, rfl, rfl⟩
    first | rw [b01_t (show (¬ (1 ≤ s9 ∧ s9 ≤ fl wh)) by omega)] | rw [b01_f (show ¬ (¬ (1 ≤ s9 ∧ s9 ≤ fl wh)) by omega)]
  ·
    rw [b01_0] at c_13
    refine e_iconst F dX5_isNoSet_16 ?_
    refine e_goto F 21 dX5_isNoSet_17 (by decide) ?_
    refine e_zret F rfl (by omega) (by omega) ?_ dX5_isNoSet_21
    refine ⟨?_, rfl, rfl⟩
    first | rw [b01_t (show (¬ (1 ≤ s9 ∧ s9 ≤ fl wh)) by omega)] | rw [b01_f (show ¬ (¬ (1 ≤ s9 ∧ s9 ≤ fl wh)) by omega)]
set_option maxHeartbeats 4000000 in
set_option maxRecDepth 100000 in
theorem c_X5_has {K : e_K} {l : Launch} {w : e_W} {n : Nat} {s9 h : Int} (h0 : 0 ≤ s9) (h1 : s9 < 2147483648) (h2 : 1 ≤ h) (h3 : h ≤ 7) : e_Met K l yX5_has (Cond.code yX5_has cX5_has 2 (Option.some .boolean) :: e_TB) (0) (0) [.int (eI s9), .int (eI h)] w n (fun r w' n' => r = some (.int (eI (b01 (hs s9 h)))) ∧ w' = w ∧ n' = n) (e_px0) := by
  refine e_ofV rfl (Nat.le_of_ble_eq_true rfl) ?_
  intro P9 E9 S9 M9 A9 B9 T9 C9 F hnm
  have hd := div_rg (h - 1).toNat h0 h1
  refine e_iload_n F dX5_has_0 rfl ?_
  refine e_iload_n F dX5_has_1 rfl ?_
  refine e_iconst F dX5_has_2 ?_
  refine e_isub F dX5_has_3 ?_
  refine e_ishr F dX5_has_4 (eI_shr h0 h1 (by omega) (by omega)) ?_
  refine e_iconst F dX5_has_5 ?_
  refine e_irem F dX5_has_6 (⟨by omega, by omega⟩) (⟨by omega, by omega⟩) (by omega) ?_
  rw [Int.tmod_eq_emod_of_nonneg hd.1]
  refine e_iconst F dX5_has_7 ?_
  refine e_icmp_ne F 15 dX5_has_8 (by decide) (⟨by omega, by omega⟩) (⟨by omega, by omega⟩) (fun c_8 => ?_) (fun c_8 => ?_)
  · refine e_iconst F dX5_has_15 ?_
    refine e_zret F rfl (by omega) (by omega) ?_ dX5_has_16
    refine ⟨?_, rfl, rfl⟩
    first | rw [b01_f (by unfold hs; omega)] | rw [b01_t (by unfold hs; omega)]
  · refine e_iconst F dX5_has_11 ?_
    refine e_goto F 16 dX5_has_12 (by decide) ?_
    refine e_zret F rfl (by omega) (by omega) ?_ dX5_has_16
    refine ⟨?_, rfl, rfl⟩
    first | rw [b01_f (by unfold hs; omega)] | rw [b01_t (by unfold hs; omega)]
set_option maxHeartbeats 4000000 in
set_option maxRecDepth 100000 in
theorem c_X5_many {K : e_K} {l : Launch} {w : e_W} {n : Nat} {s9 : Int} (h0 : 0 ≤ s9) (h1 : s9 < 128) : e_Met K l yX5_many (Cond.code yX5_many cX5_many 3 (Option.some .int) :: e_TB) (0) (0) [.int (eI s9)] w n (fun r w' n' => r = some (.int (eI (bc s9))) ∧ w' = w ∧ n' = n) (e_px0) := by
  refine e_ofV rfl (Nat.le_of_ble_eq_true rfl) ?_
  intro P9 E9 S9 M9 A9 B9 T9 C9 F hnm
  have hb7 : bc s9 ≤ 7 := by unfold bc; omega
  have lp : ∀ (N : Nat) (m9 l9 : Int), l9.toNat < N → (0 ≤ l9 ∧ l9 < 128 ∧ m9 + bc l9 = bc s9 ∧ 0 ≤ m9 ∧ m9 ≤ 7) → e_V K P9 l E9 (0) (0) S9 M9 A9 B9 T9 C9 3 (fun r w' n' => r = some (.int (eI (bc s9))) ∧ w' = w ∧ n' = n) (e_px0) 4 [(1, .int (eI m9)), (2, .int (eI l9))] [] w n (0) := by
    intro N
    induction N with
    | zero => intro m9 l9 hN; exact absurd hN (Nat.not_lt_zero _)
    | succ N ih =>
      intro m9 l9 hN ⟨k1, k2, k3, k4, k5⟩
      refine e_iload_n F dX5_many_4 rfl ?_
      refine e_if_le F 21 dX5_many_5 (by decide) (⟨by omega, by omega⟩) (fun c_5 => ?_) (fun c_5 => ?_)
      ·
        obtain rfl : l9 = 0 := by omega
        refine e_iload_n F dX5_many_21 rfl ?_
        refine e_iret F rfl (by omega) ?_ dX5_many_22
        refine ⟨?_, rfl, rfl⟩
        have e9 : bc 0 = 0 := by decide
        rw [e9, Int.add_zero] at k3
        rw [k3]
      ·
        have hb9 := bc_half k1 k2
        have hb8 : 0 ≤ bc (l9 / 2) := by unfold bc; omega
        have e1 : l9.tmod 2 = l9 % 2 := Int.tmod_eq_emod_of_nonneg k1
        have e2 : l9.tdiv 2 = l9 / 2 := Int.tdiv_eq_ediv_of_nonneg k1
        refine e_iload_n F dX5_many_8 rfl ?_
        refine e_iload_n F dX5_many_9 rfl ?_
        refine e_iconst F dX5_many_10 ?_
        refine e_irem F dX5_many_11 (⟨by omega, by omega⟩) (⟨by omega, by omega⟩) (by omega) ?_
        rw [e1]
        refine e_iadd F dX5_many_12 ?_
        refine e_istore_n F dX5_many_13 (by decide) ?_
        refine e_iload_n F dX5_many_14 rfl ?_
        refine e_iconst F dX5_many_15 ?_
        refine e_idiv F dX5_many_16 (⟨by omega, by omega⟩) (⟨by omega, by omega⟩) (by omega) ?_
        rw [e2]
        refine e_istore_n F dX5_many_17 (by decide) ?_
        refine e_goto F 4 dX5_many_18 (by decide) ?_
        refine e_go (ih (m9 + l9 % 2) (l9 / 2) (by omega) ⟨by omega, by omega, by omega, by omega, by omega⟩) ?_
        exact (And.intro rfl (And.intro rfl (trivial)))
  refine e_iconst F dX5_many_0 ?_
  refine e_istore_n F dX5_many_1 (by decide) ?_
  refine e_iload_n F dX5_many_2 rfl ?_
  refine e_istore_n F dX5_many_3 (by decide) ?_
  exact e_go (lp 128 0 s9 (by omega) ⟨h0, h1, by omega, by omega, by omega⟩) (And.intro rfl (And.intro rfl (trivial)))
set_option maxHeartbeats 4000000 in
set_option maxRecDepth 100000 in
theorem c_X5_mod {K : e_K} {l : Launch} {w : e_W} {n : Nat} {y wh : Nat} {t kn : Int} (hY : w y = some (MO y t wh kn)) (hwh : wh < 7) {v : Int} (hv : e_r8 v) : e_Met K l yX5_mod (Cond.code yX5_mod cX5_mod 5 (Option.some .int) :: e_TB) (1) (0) [.ref y, .long (eJ v)] w n (fun r w' n' => r = some (.int (eI (v % pr wh))) ∧ w' = w ∧ n' = n) (e_px0) := by
  refine e_ofV rfl (Nat.le_of_ble_eq_true rfl) ?_
  intro P9 E9 S9 M9 A9 B9 T9 C9 F hnm
  have hp := pr_rg wh hwh
  have hho := ho_rg wh hwh
  have hb := tmod_bounds (a := v) (show 0 < pr wh by omega)
  have hm := emod_of_tmod (a := v) (show 0 < pr wh by omega)
  refine e_lload_n F dX5_mod_0 rfl ?_
  refine e_aload_n F dX5_mod_1 rfl ?_
  refine e_callVV F u_X5_p (by rfl) (c_X5_p hY hwh) hY rfl rfl w_ml_RX5_38 dX5_mod_2 (by rfl) (Nat.le_of_ble_eq_true rfl) (by decide) (by omega) (fun _ _ _ h _ => False.elim h) (fun r_2 w_2 n_2 h_2 hn_2 => ?_)
  obtain ⟨rfl, ew_2, en_2⟩ := h_2
  rw [ew_2, en_2]
  refine e_i2l F dX5_mod_5 (⟨by omega, by omega⟩) ?_
  refine e_lrem F dX5_mod_6 (hv) (⟨by omega, by omega⟩) (by omega) ?_
  refine e_lstore_n F dX5_mod_7 (by decide) ?_
  refine e_lload_n F dX5_mod_8 rfl ?_
  refine e_lconst F dX5_mod_9 (y := 0) (by decide) ?_
  refine e_lcmp F dX5_mod_10 (⟨by omega, by omega⟩) (⟨by omega, by omega⟩) ?_
  refine e_if_ge F 24 dX5_mod_11 (by decide) (e_cmp_r _ _) (fun c_11 => ?_) (fun c_11 => ?_)
  ·
    rw [e_cmp_ge] at c_11
    refine e_lload_n F dX5_mod_24 rfl ?_
    refine e_l2i F dX5_mod_25 ?_
    refine e_iret F rfl (by omega) ?_ dX5_mod_26
    refine ⟨?_, rfl, rfl⟩
    rw [hm]
    first | rw [if_neg (by omega)] | rw [if_pos (by omega)]
  ·
    rw [e_cmp_ge] at c_11
    refine e_lload_n F dX5_mod_14 rfl ?_
    refine e_aload_n F dX5_mod_15 rfl ?_
    refine e_callVV F u_X5_p (by rfl) (c_X5_p hY hwh) hY rfl rfl w_ml_RX5_38 dX5_mod_16 (by rfl) (Nat.le_of_ble_eq_true rfl) (by decide) (by omega) (fun _ _ _ h _ => False.elim h) (fun r_16 w_16 n_16 h_16 hn_16 => ?_)
    obtain ⟨rfl, ew_16, en_16⟩ := h_16
    rw [ew_16, en_16]
    refine e_i2l F dX5_mod_19 (⟨by omega, by omega⟩) ?_
    refine e_ladd F dX5_mod_20 ?_
    refine e_goto F 25 dX5_mod_21 (by decide) ?_
    refine e_l2i F dX5_mod_25 ?_
    refine e_iret F rfl (by omega) ?_ dX5_mod_26
    refine ⟨?_, rfl, rfl⟩
    rw [hm]
    first | rw [if_neg (by omega)] | rw [if_pos (by omega)]
set_option maxHeartbeats 4000000 in
set_option maxRecDepth 100000 in
theorem c_X5_inverse {K : e_K} {l : Launch} {w : e_W} {n : Nat} {y wh : Nat} {t kn : Int} (hY : w y = some (MO y t wh kn)) (hwh : wh < 7) {v : Int} (hv1 : 0 ≤ v) (hv2 : v < pr wh) : e_Met K l yX5_inverse (Cond.code yX5_inverse cX5_inverse 12 (Option.some .int) :: e_TB) (2) (0) [.ref y, .int (eI v)] w n (fun r w' n' => r = some (.int (eI (iv wh v))) ∧ w' = w ∧ n' = n) (e_px0) := by
  refine e_ofV rfl (Nat.le_of_ble_eq_true rfl) ?_
  intro P9 E9 S9 M9 A9 B9 T9 C9 F hnm
  have hp := pr_rg wh hwh
  have hho := ho_rg wh hwh
  have lp : ∀ (N : Nat) (far near was is : Int), near.toNat < N → (0 ≤ near ∧ XJ wh v far near was is) → e_V K P9 l E9 (2) (0) S9 M9 A9 B9 T9 C9 12 (fun r w' n' => r = some (.int (eI (iv wh v))) ∧ w' = w ∧ n' = n) (e_px0) 13 [(0, .ref y), (2, .int (eI far)), (3, .int (eI near)), (4, .long (eJ was)), (6, .long (eJ is))] [] w n (0) := by
    intro N
    induction N with
    | zero => intro far near was is hN; exact absurd hN (Nat.not_lt_zero _)
    | succ N ih =>
      intro far near was is hN ⟨k0, k1⟩
      refine e_iload_n F dX5_inverse_13 rfl ?_
      refine e_if_le F 57 dX5_inverse_14 (by decide) ((by rcases k1 with ⟨_, q, _⟩ | ⟨_, q1, q2, q3, q4, _⟩ <;> (constructor <;> omega))) (fun c_14 => ?_) (fun c_14 => ?_)
      · refine e_aload_n F dX5_inverse_57 rfl ?_
        refine e_lload F dX5_inverse_58 rfl ?_
        refine e_callVV F u_X5_mod (by rfl) (c_X5_mod hY hwh (v := was) (by rcases k1 with ⟨_, _, q⟩ | ⟨_, q⟩ <;> first | (have q9 := q.rg; constructor <;> omega) | (constructor <;> omega))) hY rfl rfl w_ml_RX5_55 dX5_inverse_60 (by rfl) (Nat.le_of_ble_eq_true rfl) (by decide) (by omega) (fun _ _ _ h _ => False.elim h) (fun r_60 w_60 n_60 h_60 hn_60 => ?_)
        obtain ⟨rfl, ew_60, en_60⟩ := h_60
        rw [ew_60, en_60]
        refine e_iret F rfl (by omega) ?_ dX5_inverse_63
        exact ⟨by rw [XJ.end hwh hv2 k1 (by omega)], rfl, rfl⟩
      ·
        obtain ⟨k3, k2⟩ : 1 ≤ v ∧ XI (pr wh) v far near was is := k1.resolve_left (fun q => by omega)
        have kr := k2.rg
        obtain ⟨f1, f2, f3, f4, -⟩ := id k2
        have e1 : far.tdiv near = far / near := Int.tdiv_eq_ediv_of_nonneg (by omega)
        have e5 : 0 ≤ far / near ∧ far / near ≤ far := ⟨Int.ediv_nonneg (by omega) (by omega), Int.ediv_le_self _ (by omega)⟩
        refine e_iload_n F dX5_inverse_17 rfl ?_
        refine e_iload_n F dX5_inverse_18 rfl ?_
        refine e_idiv F dX5_inverse_19 (⟨by omega, by omega⟩) (⟨by omega, by omega⟩) (by omega) ?_
        rw [e1]
        refine e_istore F dX5_inverse_20 (by decide) ?_
        refine e_iload_n F dX5_inverse_22 rfl ?_
        refine e_iload F dX5_inverse_23 rfl ?_
        refine e_iload_n F dX5_inverse_25 rfl ?_
        refine e_imul F dX5_inverse_26 ?_
        refine e_isub F dX5_inverse_27 ?_
        refine e_istore F dX5_inverse_28 (by decide) ?_
        refine e_lload F dX5_inverse_30 rfl ?_
        refine e_iload F dX5_inverse_32 rfl ?_
        refine e_i2l F dX5_inverse_34 (⟨by omega, by omega⟩) ?_
        refine e_lload F dX5_inverse_35 rfl ?_
        refine e_lmul F dX5_inverse_37 ?_
        refine e_lsub F dX5_inverse_38 ?_
        refine e_lstore F dX5_inverse_39 (by decide) ?_
        refine e_iload_n F dX5_inverse_41 rfl ?_
        refine e_istore_n F dX5_inverse_42 (by decide) ?_
        refine e_iload F dX5_inverse_43 rfl ?_
        refine e_istore_n F dX5_inverse_45 (by decide) ?_
        refine e_lload F dX5_inverse_46 rfl ?_
        refine e_lstore F dX5_inverse_48 (by decide) ?_
        refine e_lload F dX5_inverse_50 rfl ?_
        refine e_lstore F dX5_inverse_52 (by decide) ?_
        refine e_goto F 13 dX5_inverse_54 (by decide) ?_
        refine e_go (ih near (far - far / near * near) is (was - far / near * is) (by have := k2.step (by omega); obtain ⟨_, z1, z2, _⟩ := this; omega) ⟨(k2.step (by omega)).2.1, Or.inr ⟨k3, k2.step (by omega)⟩⟩) ?_
        exact (And.intro rfl (And.intro rfl (And.intro rfl (And.intro rfl (And.intro rfl (trivial))))))
  refine e_aload_n F dX5_inverse_0 rfl ?_
  refine e_callVV F u_X5_p (by rfl) (c_X5_p hY hwh) hY rfl rfl w_ml_RX5_38 dX5_inverse_1 (by rfl) (Nat.le_of_ble_eq_true rfl) (by decide) (by omega) (fun _ _ _ h _ => False.elim h) (fun r_1 w_1 n_1 h_1 hn_1 => ?_)
  obtain ⟨rfl, ew_1, en_1⟩ := h_1
  rw [ew_1, en_1]
  refine e_istore_n F dX5_inverse_4 (by decide) ?_
  refine e_iload_n F dX5_inverse_5 rfl ?_
  refine e_istore_n F dX5_inverse_6 (by decide) ?_
  refine e_lconst F dX5_inverse_7 (y := 0) (by decide) ?_
  refine e_lstore F dX5_inverse_8 (by decide) ?_
  refine e_lconst F dX5_inverse_10 (y := 1) (by decide) ?_
  refine e_lstore F dX5_inverse_11 (by decide) ?_
  refine e_go (lp 2000000 (pr wh) v 0 1 (by omega) ⟨hv1, ?_⟩) (And.intro rfl (And.intro rfl (And.intro rfl (And.intro rfl (And.intro rfl (trivial))))))
  by_cases e : v = 0
  · exact Or.inl ⟨e, e, rfl⟩
  · exact Or.inr ⟨by omega, by omega, by omega, by omega, by omega, ⟨0, 1, by omega, by omega, by omega, by omega, Or.inr ⟨by omega, rfl⟩⟩, ⟨-1, by omega⟩, ⟨0, by omega⟩, fun d h1 h2 => ⟨h1, h2⟩⟩
set_option maxHeartbeats 4000000 in
set_option maxRecDepth 100000 in
theorem c_X5_raised {K : e_K} {l : Launch} {w : e_W} {n : Nat} {b k m : Int} (hb1 : 0 ≤ b) (hb2 : b < 2147483648) (hm1 : 2 ≤ m) (hm2 : m ≤ 36000109) (hk1 : 0 ≤ k) (hk2 : k < 2147483648) : e_Met K l yX5_raised (Cond.code yX5_raised cX5_raised 8 (Option.some .int) :: e_TB) (0) (0) [.int (eI b), .int (eI k), .int (eI m)] w n (fun r w' n' => r = some (.int (eI (e_pw b k.toNat m))) ∧ w' = w ∧ n' = n) (e_px0) := by
  refine e_ofV rfl (Nat.le_of_ble_eq_true rfl) ?_
  intro P9 E9 S9 M9 A9 B9 T9 C9 F hnm
  have lp : ∀ (N : Nat) (res fac op : Int), op.toNat < N → (0 ≤ res ∧ res < m ∧ 0 ≤ fac ∧ fac < m ∧ 0 ≤ op ∧ op < 2147483648 ∧ res * fac ^ op.toNat % m = e_pw b k.toNat m) → e_V K P9 l E9 (0) (0) S9 M9 A9 B9 T9 C9 8 (fun r w' n' => r = some (.int (eI (e_pw b k.toNat m))) ∧ w' = w ∧ n' = n) (e_px0) 11 [(2, .int (eI m)), (3, .long (eJ res)), (5, .long (eJ fac)), (7, .int (eI op))] [] w n (0) := by
    intro N
    induction N with
    | zero => intro res fac op hN; exact absurd hN (Nat.not_lt_zero _)
    | succ N ih =>
      intro res fac op hN ⟨h3, h4, h5, h6, h7, h8, h9⟩
      refine e_iload F dX5_raised_11 rfl ?_
      refine e_if_le F 51 dX5_raised_13 (by decide) (⟨by omega, by omega⟩) (fun c_13 => ?_) (fun c_13 => ?_)
      · refine e_lload_n F dX5_raised_51 rfl ?_
        refine e_l2i F dX5_raised_52 ?_
        refine e_iret F rfl (by omega) ?_ dX5_raised_53
        refine ⟨?_, rfl, rfl⟩
        have ho : op.toNat = 0 := by omega
        rw [ho, Int.pow_zero, Int.mul_one, Int.emod_eq_of_lt h3 h4] at h9
        rw [h9]
      ·
        have e1 : op.tmod 2 = op % 2 := Int.tmod_eq_emod_of_nonneg h7
        have e2 : op.tdiv 2 = op / 2 := Int.tdiv_eq_ediv_of_nonneg h7
        refine e_iload F dX5_raised_16 rfl ?_
        refine e_iconst F dX5_raised_18 ?_
        refine e_irem F dX5_raised_19 (⟨by omega, by omega⟩) (⟨by omega, by omega⟩) (by omega) ?_
        rw [e1]
        refine e_iconst F dX5_raised_20 ?_
        refine e_icmp_ne F 32 dX5_raised_21 (by decide) (⟨by omega, by omega⟩) (⟨by omega, by omega⟩) (fun c_21 => ?_) (fun c_21 => ?_)
        ·
          have g1 := h3
          have g2 := h4
          refine e_lload F dX5_raised_32 rfl ?_
          refine e_lload F dX5_raised_34 rfl ?_
          refine e_lmul F dX5_raised_36 ?_
          refine e_iload_n F dX5_raised_37 rfl ?_
          refine e_i2l F dX5_raised_38 (⟨by omega, by omega⟩) ?_
          refine e_lrem F dX5_raised_39 ((mul_rg h5 h6 h5 h6 hm2).2) (⟨by omega, by omega⟩) (by omega) ?_
          rw [Int.tmod_eq_emod_of_nonneg (mul_rg h5 h6 h5 h6 hm2).1]
          have g3 : 0 ≤ fac * fac % m := Int.emod_nonneg _ (by omega)
          have g4 : fac * fac % m < m := Int.emod_lt_of_pos _ (by omega)
          refine e_lstore F dX5_raised_40 (by decide) ?_
          refine e_iload F dX5_raised_42 rfl ?_
          refine e_iconst F dX5_raised_44 ?_
          refine e_idiv F dX5_raised_45 (⟨by omega, by omega⟩) (⟨by omega, by omega⟩) (by omega) ?_
          rw [e2]
          have g5 := raise_step (r := res) (x := fac) (m := m) (k := op.toNat)
          first | rw [if_pos (by omega), h9] at g5 | rw [if_neg (by omega), h9] at g5
          rw [show op.toNat / 2 = (op / 2).toNat by omega] at g5
          refine e_istore F dX5_raised_46 (by decide) ?_
          refine e_goto F 11 dX5_raised_48 (by decide) ?_
          exact e_go (ih _ _ (op / 2) (by omega) ⟨g1, g2, g3, g4, by omega, by omega, g5⟩) (And.intro rfl (And.intro rfl (And.intro rfl (And.intro rfl (trivial)))))
        ·
          have g1 : 0 ≤ res * fac % m := Int.emod_nonneg _ (by omega)
          have g2 : res * fac % m < m := Int.emod_lt_of_pos _ (by omega)
          refine e_lload_n F dX5_raised_24 rfl ?_
          refine e_lload F dX5_raised_25 rfl ?_
          refine e_lmul F dX5_raised_27 ?_
          refine e_iload_n F dX5_raised_28 rfl ?_
          refine e_i2l F dX5_raised_29 (⟨by omega, by omega⟩) ?_
          refine e_lrem F dX5_raised_30 ((mul_rg h3 h4 h5 h6 hm2).2) (⟨by omega, by omega⟩) (by omega) ?_
          rw [Int.tmod_eq_emod_of_nonneg (mul_rg h3 h4 h5 h6 hm2).1]
          refine e_lstore_n F dX5_raised_31 (by decide) ?_
          refine e_lload F dX5_raised_32 rfl ?_
          refine e_lload F dX5_raised_34 rfl ?_
          refine e_lmul F dX5_raised_36 ?_
          refine e_iload_n F dX5_raised_37 rfl ?_
          refine e_i2l F dX5_raised_38 (⟨by omega, by omega⟩) ?_
          refine e_lrem F dX5_raised_39 ((mul_rg h5 h6 h5 h6 hm2).2) (⟨by omega, by omega⟩) (by omega) ?_
          rw [Int.tmod_eq_emod_of_nonneg (mul_rg h5 h6 h5 h6 hm2).1]
          have g3 : 0 ≤ fac * fac % m := Int.emod_nonneg _ (by omega)
          have g4 : fac * fac % m < m := Int.emod_lt_of_pos _ (by omega)
          refine e_lstore F dX5_raised_40 (by decide) ?_
          refine e_iload F dX5_raised_42 rfl ?_
          refine e_iconst F dX5_raised_44 ?_
          refine e_idiv F dX5_raised_45 (⟨by omega, by omega⟩) (⟨by omega, by omega⟩) (by omega) ?_
          rw [e2]
          have g5 := raise_step (r := res) (x := fac) (m := m) (k := op.toNat)
          first | rw [if_pos (by omega), h9] at g5 | rw [if_neg (by omega), h9] at g5
          rw [show op.toNat / 2 = (op / 2).toNat by omega] at g5
          refine e_istore F dX5_raised_46 (by decide) ?_
          refine e_goto F 11 dX5_raised_48 (by decide) ?_
          exact e_go (ih _ _ (op / 2) (by omega) ⟨g1, g2, g3, g4, by omega, by omega, g5⟩) (And.intro rfl (And.intro rfl (And.intro rfl (And.intro rfl (trivial)))))
  refine e_lconst F dX5_raised_0 (y := 1) (by decide) ?_
  refine e_lstore_n F dX5_raised_1 (by decide) ?_
  refine e_iload_n F dX5_raised_2 rfl ?_
  refine e_iload_n F dX5_raised_3 rfl ?_
  refine e_irem F dX5_raised_4 (⟨by omega, by omega⟩) (⟨by omega, by omega⟩) (by omega) ?_
  rw [Int.tmod_eq_emod_of_nonneg hb1]
  have hbm : 0 ≤ b % m ∧ b % m < m := ⟨Int.emod_nonneg _ (by omega), Int.emod_lt_of_pos _ (by omega)⟩
  refine e_i2l F dX5_raised_5 (⟨by omega, by omega⟩) ?_
  refine e_lstore F dX5_raised_6 (by decide) ?_
  refine e_iload_n F dX5_raised_8 rfl ?_
  refine e_istore F dX5_raised_9 (by decide) ?_
  exact e_go (lp 2147483648 1 (b % m) k (by omega) ⟨by omega, by omega, hbm.1, hbm.2, hk1, hk2, by rw [Int.one_mul, emod_pow]; rfl⟩) (And.intro rfl (And.intro rfl (And.intro rfl (And.intro rfl (trivial)))))
set_option maxHeartbeats 4000000 in
set_option maxRecDepth 100000 in
theorem c_X5_sealBy {K : e_K} {l : Launch} {w : e_W} {n : Nat} {y wh : Nat} {t kn : Int} (hY : w y = some (MO y t wh kn)) (hwh : wh < 7) {v : Int} (h0 : 0 ≤ v) (h1 : v < pr wh) : e_Met K l yX5_sealBy (Cond.code yX5_sealBy cX5_sealBy 2 (Option.some .int) :: e_TB) (1) (0) [.ref y, .int (eI v)] w n (fun r w' n' => r = some (.int (eI (sl wh v))) ∧ w' = w ∧ n' = n) (e_px0) := by
  refine e_ofV rfl (Nat.le_of_ble_eq_true rfl) ?_
  intro P9 E9 S9 M9 A9 B9 T9 C9 F hnm
  have hp := pr_rg wh hwh
  have hho := ho_rg wh hwh
  have hg := gr_rg wh hwh
  have hb := bs_rg wh hwh
  refine e_gets F (i := 5) rfl w_fl_RX5_59 dX5_sealBy_0 ?_
  refine e_aload_n F dX5_sealBy_3 rfl ?_
  refine e_get (ci := 5) (fi := 1) (q := (RX5, TX5, 6)) F hY rfl (by decide) w_fl_RX5_7 (by rfl) dX5_sealBy_4 ?_
  refine e_ialdS F (i := 5) (by decide) (by omega) (by omega) dX5_sealBy_7 ?_
  refine e_iload_n F dX5_sealBy_8 rfl ?_
  refine e_aload_n F dX5_sealBy_9 rfl ?_
  change e_V _ _ _ _ _ _ _ _ _ _ _ _ _ _ _ _ _ (_ :: _ :: .int (eI (bs wh)) :: _) _ _ _
  refine e_callVV F u_X5_q (by rfl) (c_X5_q hY hwh) hY rfl rfl w_ml_RX5_62 dX5_sealBy_10 (by rfl) (Nat.le_of_ble_eq_true rfl) (by decide) (by omega) (fun _ _ _ h _ => False.elim h) (fun r_10 w_10 n_10 h_10 hn_10 => ?_)
  obtain ⟨rfl, ew_10, en_10⟩ := h_10
  rw [ew_10, en_10]
  refine e_callSS F u_X5_raised (by rfl) (c_X5_raised (b := bs wh) (k := v) (m := gr wh) (by omega) (by omega) (by omega) (by omega) h0 (by omega)) w_ml_RX5_65 dX5_sealBy_13 (by rfl) (Nat.le_of_ble_eq_true rfl) (by decide) (by omega) (fun _ _ _ h _ => False.elim h) (fun r_13 w_13 n_13 h_13 hn_13 => ?_)
  obtain ⟨rfl, ew_13, en_13⟩ := h_13
  rw [ew_13, en_13]
  refine e_iret F rfl (by omega) ?_ dX5_sealBy_16
  exact ⟨by unfold sl; rw [Int.emod_eq_of_lt h0 h1], rfl, rfl⟩
set_option maxHeartbeats 4000000 in
set_option maxRecDepth 100000 in
theorem c_X5_value {K : e_K} {l : Launch} {w : e_W} {n : Nat} {y wh : Nat} {t kn : Int} (hY : w y = some (MO y t wh kn)) (hwh : wh < 7) {a Z : Nat} {f : Int → Int} {x : Int} (ha : w a = some (e_ia Z f)) (hZ : Z ≤ 8) (hf : ∀ j : Int, 0 ≤ j → j < Z → 0 ≤ f j ∧ f j < pr wh) (hx0 : 0 ≤ x) (hx1 : x < pr wh) : e_Met K l yX5_value (Cond.code yX5_value cX5_value 6 (Option.some .int) :: e_TB) (1) (0) [.ref y, .ref a, .int (eI x)] w n (fun r w' n' => r = some (.int (eI (hv (pr wh) x f (Z : Int) Z))) ∧ w' = w ∧ n' = n) (e_px0) := by
  refine e_ofV rfl (Nat.le_of_ble_eq_true rfl) ?_
  intro P9 E9 S9 M9 A9 B9 T9 C9 F hnm
  have hp := pr_rg wh hwh
  have hho := ho_rg wh hwh
  have lp : ∀ (N : Nat) (j : Nat), (Z - j) < N → j ≤ Z → e_V K P9 l E9 (1) (0) S9 M9 A9 B9 T9 C9 6 (fun r w' n' => r = some (.int (eI (hv (pr wh) x f (Z : Int) Z))) ∧ w' = w ∧ n' = n) (e_px0) 8 [(0, .ref y), (1, .ref a), (2, .int (eI x)), (3, .long (eJ (hv (pr wh) x f (Z : Int) j))), (5, .int (eI ((Z : Int) - 1 - (j : Int))))] [] w n (0) := by
    intro N
    induction N with
    | zero => intro j hN; exact absurd hN (Nat.not_lt_zero _)
    | succ N ih =>
      intro j hN hj
      refine e_iload F dX5_value_8 rfl ?_
      refine e_if_lt F 36 dX5_value_10 (by decide) (⟨by omega, by omega⟩) (fun c_10 => ?_) (fun c_10 => ?_)
      ·
        obtain rfl : j = Z := by omega
        refine e_lload_n F dX5_value_36 rfl ?_
        refine e_l2i F dX5_value_37 ?_
        refine e_iret F rfl (by omega) ?_ dX5_value_38
        exact ⟨rfl, rfl, rfl⟩
      ·
        have h1 := hv_rg (x := x) (P := f) (N := (Z : Int)) (show 0 < pr wh by omega) j
        have h2 := hf ((Z : Int) - 1 - (j : Int)) (by omega) (by omega)
        have h3 := mul_rg (m := 1000003) h1.1 (by omega) hx0 (by omega) (by omega)
        have h4 : hv (pr wh) x f (Z : Int) j * x ≤ 1000003 * 1000003 := Int.mul_le_mul (by omega) (by omega) hx0 (by omega)
        refine e_lload_n F dX5_value_13 rfl ?_
        refine e_iload_n F dX5_value_14 rfl ?_
        refine e_i2l F dX5_value_15 (⟨by omega, by omega⟩) ?_
        refine e_lmul F dX5_value_16 ?_
        refine e_aload_n F dX5_value_17 rfl ?_
        refine e_iload F dX5_value_18 rfl ?_
        refine e_iald F (by first | assumption | exact e_up_s | (rw [e_up_n (by first | assumption | omega)]; first | assumption | exact e_up_s | (rw [e_up_n (by first | assumption | omega)]; first | assumption | exact e_up_s | (rw [e_up_n (by first | assumption | omega)]; first | assumption | exact e_up_s))) | exact hD.1 | exact hD1.1 | exact hD2.1 | exact gD.1 | exact gD1.1 | exact gD2.1 | exact gQ.1 | exact hQ.1 | exact gS.1 | exact hS.1 | exact zD.1) (by omega) (by omega) (by first | decide | omega) dX5_value_20 ?_
        refine e_i2l F dX5_value_21 (⟨by omega, by omega⟩) ?_
        refine e_ladd F dX5_value_22 ?_
        refine e_aload_n F dX5_value_23 rfl ?_
        refine e_callVV F u_X5_p (by rfl) (c_X5_p hY hwh) hY rfl rfl w_ml_RX5_38 dX5_value_24 (by rfl) (Nat.le_of_ble_eq_true rfl) (by decide) (by omega) (fun _ _ _ h _ => False.elim h) (fun r_24 w_24 n_24 h_24 hn_24 => ?_)
        obtain ⟨rfl, ew_24, en_24⟩ := h_24
        rw [ew_24, en_24]
        refine e_i2l F dX5_value_27 (⟨by omega, by omega⟩) ?_
        refine e_lrem F dX5_value_28 (⟨by omega, by omega⟩) (⟨by omega, by omega⟩) (by omega) ?_
        rw [Int.tmod_eq_emod_of_nonneg (by omega)]
        refine e_lstore_n F dX5_value_29 (by decide) ?_
        refine e_iinc F dX5_value_30 rfl (by decide) ?_
        refine e_goto F 8 dX5_value_33 (by decide) ?_
        refine e_go (ih (j + 1) (by omega) (by omega)) ?_
        rw [show (Z : Int) - 1 - ((j + 1 : Nat) : Int) = (Z : Int) - 1 - (j : Int) + -1 by omega]
        exact (And.intro rfl (And.intro rfl (And.intro rfl (And.intro rfl (And.intro rfl (trivial))))))
  refine e_lconst F dX5_value_0 (y := 0) (by decide) ?_
  refine e_lstore_n F dX5_value_1 (by decide) ?_
  refine e_aload_n F dX5_value_2 rfl ?_
  refine e_alenI F (by first | assumption | exact e_up_s | (rw [e_up_n (by first | assumption | omega)]; first | assumption | exact e_up_s | (rw [e_up_n (by first | assumption | omega)]; first | assumption | exact e_up_s | (rw [e_up_n (by first | assumption | omega)]; first | assumption | exact e_up_s))) | exact hD.1 | exact hD1.1 | exact hD2.1 | exact gD.1 | exact gD1.1 | exact gD2.1 | exact gQ.1 | exact hQ.1 | exact gS.1 | exact hS.1 | exact zD.1) dX5_value_3 ?_
  refine e_iconst F dX5_value_4 ?_
  refine e_isub F dX5_value_5 ?_
  refine e_istore F dX5_value_6 (by decide) ?_
  refine e_go (lp (Z + 1) 0 (by omega) (by omega)) ?_
  rw [show (Z : Int) - 1 - ((0 : Nat) : Int) = (Z : Int) - 1 by omega]
  exact (And.intro rfl (And.intro rfl (And.intro rfl (And.intro rfl (And.intro rfl (trivial))))))
set_option maxHeartbeats 4000000 in
set_option maxRecDepth 100000 in
theorem c_X5_degreeOf {K : e_K} {l : Launch} {w : e_W} {n : Nat} {a : Nat} {f : Int → Int} (ha : w a = some (e_ia 7 f)) (hf : ∀ j : Int, 0 ≤ j → j < 7 → 0 ≤ f j ∧ f j < 1000004) : e_Met K l yX5_degreeOf (Cond.code yX5_degreeOf cX5_degreeOf 2 (Option.some .int) :: e_TB) (0) (0) [.ref a] w n (fun r w' n' => r = some (.int (eI (hiK f 7))) ∧ w' = w ∧ n' = n) (e_px0) := by
  refine e_ofV rfl (Nat.le_of_ble_eq_true rfl) ?_
  intro P9 E9 S9 M9 A9 B9 T9 C9 F hnm
  have lp : ∀ (N j : Nat), j < N → (j ≤ 7 ∧ hiK f 7 = hiK f j) → e_V K P9 l E9 (0) (0) S9 M9 A9 B9 T9 C9 2 (fun r w' n' => r = some (.int (eI (hiK f 7))) ∧ w' = w ∧ n' = n) (e_px0) 5 [(0, .ref a), (1, .int (eI ((j : Int) - 1)))] [] w n (0) := by
    intro N
    induction N with
    | zero => intro j hN; exact absurd hN (Nat.not_lt_zero _)
    | succ N ih =>
      intro j0 hN ⟨hj, he⟩
      cases j0 with
      | zero =>
        refine e_iload_n F dX5_degreeOf_5 rfl ?_
        refine e_if_lt F 23 dX5_degreeOf_6 (by decide) (⟨by omega, by omega⟩) (fun c_6 => ?_) (fun c_6 => ?_)
        · refine e_iconst F dX5_degreeOf_23 ?_
          refine e_iret F rfl (by omega) ?_ dX5_degreeOf_24
          exact ⟨by rw [he]; rfl, rfl, rfl⟩
        · exact absurd c_6 (by omega)
      | succ j =>
        have h9 := hf (j : Int) (by omega) (by omega)
        have e9 : ((j + 1 : Nat) : Int) - 1 = (j : Int) := by omega
        rw [e9]
        refine e_iload_n F dX5_degreeOf_5 rfl ?_
        refine e_if_lt F 23 dX5_degreeOf_6 (by decide) (⟨by omega, by omega⟩) (fun c_6 => ?_) (fun c_6 => ?_)
        · exact absurd c_6 (by omega)
        · refine e_aload_n F dX5_degreeOf_9 rfl ?_
          refine e_iload_n F dX5_degreeOf_10 rfl ?_
          refine e_iald F (by first | assumption | exact e_up_s | (rw [e_up_n (by first | assumption | omega)]; first | assumption | exact e_up_s | (rw [e_up_n (by first | assumption | omega)]; first | assumption | exact e_up_s | (rw [e_up_n (by first | assumption | omega)]; first | assumption | exact e_up_s))) | exact hD.1 | exact hD1.1 | exact hD2.1 | exact gD.1 | exact gD1.1 | exact gD2.1 | exact gQ.1 | exact hQ.1 | exact gS.1 | exact hS.1 | exact zD.1) (by omega) (by omega) (by first | decide | omega) dX5_degreeOf_11 ?_
          refine e_if_le F 17 dX5_degreeOf_12 (by decide) (⟨by omega, by omega⟩) (fun c_12 => ?_) (fun c_12 => ?_)
          · refine e_iinc F dX5_degreeOf_17 rfl (by decide) ?_
            refine e_goto F 5 dX5_degreeOf_20 (by decide) ?_
            refine e_go (ih j (by omega) ⟨by omega, by rw [he]; show (if f (j : Int) ≠ 0 then (j : Int) else hiK f j) = _; rw [if_neg (by omega)]⟩) ?_
            exact (And.intro rfl (And.intro rfl (trivial)))
          · refine e_iload_n F dX5_degreeOf_15 rfl ?_
            refine e_iret F rfl (by omega) ?_ dX5_degreeOf_16
            exact ⟨by rw [he]; show some (Value.int _) = some (Value.int (eI (if f (j : Int) ≠ 0 then (j : Int) else hiK f j))); rw [if_pos (by omega)], rfl, rfl⟩
  refine e_aload_n F dX5_degreeOf_0 rfl ?_
  refine e_alenI F (by first | assumption | exact e_up_s | (rw [e_up_n (by first | assumption | omega)]; first | assumption | exact e_up_s | (rw [e_up_n (by first | assumption | omega)]; first | assumption | exact e_up_s | (rw [e_up_n (by first | assumption | omega)]; first | assumption | exact e_up_s))) | exact hD.1 | exact hD1.1 | exact hD2.1 | exact gD.1 | exact gD1.1 | exact gD2.1 | exact gQ.1 | exact hQ.1 | exact gS.1 | exact hS.1 | exact zD.1) dX5_degreeOf_1 ?_
  refine e_iconst F dX5_degreeOf_2 ?_
  refine e_isub F dX5_degreeOf_3 ?_
  refine e_istore_n F dX5_degreeOf_4 (by decide) ?_
  exact e_go (lp 8 7 (by omega) ⟨by omega, rfl⟩) (And.intro rfl (And.intro rfl (trivial)))
end
-- 46.thr.lean.txt
section
/-! the reference: the poly through a set -/
def trT (wh : Nat) (A M9 N9 : Int → Int) (h : Int) : Int := (A h - hv (pr wh) h M9 7 7) % pr wh * iv wh (hv (pr wh) h N9 8 8) % pr wh
def trK (wh : Nat) (set : Int) (A : Int → Int) : Nat → (Int → Int) × (Int → Int)
  | 0 => (fun _ => 0, fun k => if k = 0 then 1 else 0)
  | k + 1 => if hs set ((k : Int) + 1) then (fun c => ((trK wh set A k).1 c + trT wh A (trK wh set A k).1 (trK wh set A k).2 ((k : Int) + 1) * (trK wh set A k).2 c) % pr wh, tmS (pr wh) ((k : Int) + 1) (trK wh set A k).2) else trK wh set A k
theorem trK_rg {wh : Nat} (hwh : wh < 7) (set : Int) (A : Int → Int) (k : Nat) (c : Int) : (0 ≤ (trK wh set A k).1 c ∧ (trK wh set A k).1 c < pr wh) ∧ (0 ≤ (trK wh set A k).2 c ∧ (trK wh set A k).2 c < pr wh) := by
  have hp := pr_rg wh hwh
  induction k generalizing c with
  | zero => unfold trK; dsimp only; split <;> omega
  | succ k ih =>
    unfold trK
    split
    · exact ⟨⟨Int.emod_nonneg _ (by omega), Int.emod_lt_of_pos _ (by omega)⟩, ⟨Int.emod_nonneg _ (by omega), Int.emod_lt_of_pos _ (by omega)⟩⟩
    · exact ih c
theorem trK_congr {wh : Nat} {set : Int} {A A2 : Int → Int} (k : Nat) (h : ∀ j : Int, 1 ≤ j → j ≤ k → A j = A2 j) : trK wh set A k = trK wh set A2 k := by
  induction k with
  | zero => rfl
  | succ k ih =>
    have e := ih (fun j h1 h2 => h j h1 (by omega))
    unfold trK
    rw [e]
    unfold trT
    rw [h ((k : Int) + 1) (by omega) (by omega)]
def atV (wh : Nat) (set : Int) (A : Int → Int) (x : Int) : Int := hv (pr wh) (x % pr wh) (trK wh set A (ho wh).toNat).1 7 7
theorem trT_rg {wh : Nat} (hwh : wh < 7) {A M9 N9 : Int → Int} {h : Int} : 0 ≤ trT wh A M9 N9 h ∧ trT wh A M9 N9 h < pr wh := emod_rg _ hwh
set_option maxHeartbeats 4000000 in
set_option maxRecDepth 100000 in
theorem c_X5_through {K : e_K} {l : Launch} {w : e_W} {n : Nat} {y wh : Nat} {t kn : Int} (hY : w y = some (MO y t wh kn)) (hwh : wh < 7) {a NA : Nat} {f : Int → Int} (ha : w a = some (e_ia NA f)) (hNA : (NA : Int) = ho wh + 1) (hf : ∀ j : Int, 0 ≤ j → j < NA → -1 ≤ f j ∧ f j < pr wh) {set : Int} (hs0 : 0 ≤ set) (hs1 : set < 128) : e_Met K l yX5_through (Cond.code yX5_through cX5_through 8 (Option.some (.array .int)) :: e_TB) (3) (2) [.ref y, .ref a, .int (eI set)] w n (fun r w' n' => r = some (.ref n) ∧ (∃ g, w' n = some (e_ia 7 g) ∧ ∀ j : Int, 0 ≤ j → j < 7 → g j = (trK wh set f (ho wh).toNat).1 j) ∧ KB w w' n ∧ n' = n + 2) (e_px0) := by
  refine e_ofV rfl (Nat.le_of_ble_eq_true rfl) ?_
  intro P9 E9 S9 M9 A9 B9 T9 C9 F hnm
  have hp := pr_rg wh hwh
  have hho := ho_rg wh hwh
  refine e_dom ?_
  intro hdom
  have hyn := hdom _ _ hY
  have han := hdom _ _ ha
  have lp : ∀ (N k : Nat) (wl : e_W) (g1 g2 : Int → Int), 8 - k < N → ((k : Int) ≤ ho wh ∧ wl n = some (e_ia 7 g1) ∧ wl (n + 1) = some (e_ia 8 g2) ∧ (∀ j : Int, 0 ≤ j → j < 7 → g1 j = (trK wh set f k).1 j) ∧ (∀ j : Int, 0 ≤ j → j < 8 → g2 j = (trK wh set f k).2 j) ∧ KB w wl n) → e_V K P9 l E9 (3) (2) S9 M9 A9 B9 T9 C9 8 (fun r w' n' => r = some (.ref n) ∧ (∃ g, w' n = some (e_ia 7 g) ∧ ∀ j : Int, 0 ≤ j → j < 7 → g j = (trK wh set f (ho wh).toNat).1 j) ∧ KB w w' n ∧ n' = n + 2) (e_px0) 19 [(0, .ref y), (1, .ref a), (2, .int (eI set)), (3, .ref n), (4, .ref (n + 1)), (5, .int (eI ((k : Int) + 1)))] [] wl (n + 1 + 1) ((0 + 1 + 1)) := by
    intro N
    induction N with
    | zero => intro k wl g1 g2 hN; exact absurd hN (Nat.not_lt_zero _)
    | succ N ih =>
      intro k wl g1 g2 hN ⟨hk, gn, gn1, ge1, ge2, gK⟩
      have gY : wl y = some (MO y t wh kn) := (gK y (by omega)).trans hY
      have ga : wl a = some (e_ia NA f) := (gK a (by omega)).trans ha
      have hr := fun c => trK_rg hwh set f k c
      have l2 : (k : Int) < ho wh → hs set ((k : Int) + 1) → ∀ (N2 c : Nat) (w2 : e_W) (g3 g4 : Int → Int), c < N2 → (c ≤ 8 ∧ w2 n = some (e_ia 7 g3) ∧ w2 (n + 1) = some (e_ia 8 g4) ∧ (∀ j : Int, 0 ≤ j → j < 7 → g3 j = ((trK wh set f k).1 j + (trT wh f (trK wh set f k).1 (trK wh set f k).2 ((k : Int) + 1)) * (trK wh set f k).2 j) % pr wh) ∧ (∀ j : Int, 0 ≤ j → j < 8 → g4 j = if (c : Int) ≤ j then tmS (pr wh) ((k : Int) + 1) (trK wh set f k).2 j else (trK wh set f k).2 j) ∧ KB w w2 n) → e_V K P9 l E9 (3) (2) S9 M9 A9 B9 T9 C9 8 (fun r w' n' => r = some (.ref n) ∧ (∃ g, w' n = some (e_ia 7 g) ∧ ∀ j : Int, 0 ≤ j → j < 7 → g j = (trK wh set f (ho wh).toNat).1 j) ∧ KB w w' n ∧ n' = n + 2) (e_px0) 123 [(0, .ref y), (1, .ref a), (2, .int (eI set)), (3, .ref n), (4, .ref (n + 1)), (5, .int (eI ((k : Int) + 1))), (6, .int (eI (trT wh f (trK wh set f k).1 (trK wh set f k).2 ((k : Int) + 1)))), (7, .int (eI ((c : Int) - 1)))] [] w2 (n + 1 + 1) ((0 + 1 + 1)) := by
        intro hlt hset N2
        induction N2 with
        | zero => intro c w2 g3 g4 hN; exact absurd hN (Nat.not_lt_zero _)
        | succ N2 ih2 =>
          intro c0 w2 g3 g4 hN2 ⟨hc, gn2, gn3, ge3, ge4, gK2⟩
          have gY2 : w2 y = some (MO y t wh kn) := (gK2 y (by omega)).trans hY
          cases c0 with
          | zero =>
            refine e_iload F dX5_through_123 rfl ?_
            refine e_if_lt F 171 dX5_through_125 (by decide) (⟨by omega, by omega⟩) (fun c_125 => ?_) (fun c_125 => ?_)
            · refine e_iinc F dX5_through_171 rfl (by decide) ?_
              refine e_goto F 19 dX5_through_174 (by decide) ?_
              have e9 : trK wh set f (k + 1) = (fun c => ((trK wh set f k).1 c + (trT wh f (trK wh set f k).1 (trK wh set f k).2 ((k : Int) + 1)) * (trK wh set f k).2 c) % pr wh, tmS (pr wh) ((k : Int) + 1) (trK wh set f k).2) := if_pos hset
              refine e_go (ih (k + 1) w2 g3 g4 (by omega) ⟨by omega, gn2, gn3, fun j j0 j1 => by rw [e9]; exact ge3 j j0 j1, fun j j0 j1 => by rw [e9, ge4 j j0 j1, if_pos (by omega)], gK2⟩) ?_
              exact (And.intro rfl (And.intro rfl (And.intro rfl (And.intro rfl (And.intro rfl (And.intro rfl (trivial)))))))
            · exact absurd c_125 (by omega)
          | succ c =>
            have e9 : ((c + 1 : Nat) : Int) - 1 = (c : Int) := by omega
            rw [e9]
            have hk2 := (hr (c : Int)).2
            have hk3 := (hr ((c : Int) - 1)).2
            have gc : g4 (c : Int) = (trK wh set f k).2 (c : Int) := by rw [ge4 _ (by omega) (by omega), if_neg (by omega)]
            have gc1 : 0 < (c : Int) → g4 ((c : Int) - 1) = (trK wh set f k).2 ((c : Int) - 1) := fun q => by rw [ge4 _ (by omega) (by omega), if_neg (by omega)]
            have hm0 : 0 ≤ ((k : Int) + 1) * (trK wh set f k).2 (c : Int) ∧ ((k : Int) + 1) * (trK wh set f k).2 (c : Int) ≤ 8 * 1000003 := ⟨Int.mul_nonneg (by omega) (by omega), Int.mul_le_mul (by omega) (by omega) (by omega) (by omega)⟩
            refine e_iload F dX5_through_123 rfl ?_
            refine e_if_lt F 171 dX5_through_125 (by decide) (⟨by omega, by omega⟩) (fun c_125 => ?_) (fun c_125 => ?_)
            · exact absurd c_125 (by omega)
            · refine e_aload F dX5_through_128 rfl ?_
              refine e_iload F dX5_through_130 rfl ?_
              refine e_aload_n F dX5_through_132 rfl ?_
              refine e_iload F dX5_through_133 rfl ?_
              refine e_if_le F 148 dX5_through_135 (by decide) (⟨by omega, by omega⟩) (fun c_135 => ?_) (fun c_135 => ?_)
              · refine e_iconst F dX5_through_148 ?_
                refine e_i2l F dX5_through_149 (⟨by first | (rw [gc1 (by omega)]; omega) | omega, by first | (rw [gc1 (by omega)]; omega) | omega⟩) ?_
                refine e_iload F dX5_through_150 rfl ?_
                refine e_i2l F dX5_through_152 (⟨by omega, by omega⟩) ?_
                refine e_aload F dX5_through_153 rfl ?_
                refine e_iload F dX5_through_155 rfl ?_
                refine e_iald F gn3 (by omega) (by omega) (by first | decide | omega) dX5_through_157 ?_
                refine e_i2l F dX5_through_158 (⟨by rw [gc]; omega, by rw [gc]; omega⟩) ?_
                rw [gc]
                refine e_lmul F dX5_through_159 ?_
                refine e_lsub F dX5_through_160 ?_
                refine e_callVV F u_X5_mod (by rfl) (c_X5_mod gY2 hwh (by first | (rw [gc1 (by omega)]; constructor <;> omega) | (constructor <;> omega))) gY2 rfl rfl w_ml_RX5_55 dX5_through_161 (by rfl) (Nat.le_of_ble_eq_true rfl) (by decide) (by omega) (fun _ _ _ h _ => False.elim h) (fun r_161 w_161 n_161 h_161 hn_161 => ?_)
                obtain ⟨rfl, ew_161, en_161⟩ := h_161
                rw [ew_161, en_161]
                refine e_iast F gn3 (by omega) (by omega) (by first | decide | omega) dX5_through_164 ?_
                refine e_iinc F dX5_through_165 rfl (by decide) ?_
                refine e_goto F 123 dX5_through_168 (by decide) ?_
                refine e_go (ih2 c _ g3 _ (by omega) ⟨by omega, by rw [e_up_n (by omega)]; exact gn2, e_up_s, ge3, fun j j0 j1 => ?_, fun j hj => by rw [e_up_n (by omega)]; exact gK2 j hj⟩) ?_
                · unfold e_fu
                  by_cases e8 : j = (c : Int)
                  · rw [if_pos e8, if_pos (by omega), e8]
                    unfold tmS
                    first | rw [if_pos (show 0 < (c : Int) by omega), gc1 (by omega)] | rw [if_neg (show ¬ 0 < (c : Int) by omega)]
                  · rw [if_neg e8, ge4 j j0 j1]
                    by_cases e7 : (c : Int) ≤ j
                    · rw [if_pos e7, if_pos (by omega)]
                    · rw [if_neg e7, if_neg (by omega)]
                · rw [show (c : Int) - 1 = (c : Int) + -1 by omega]
                  exact (And.intro rfl (And.intro rfl (And.intro rfl (And.intro rfl (And.intro rfl (And.intro rfl (And.intro rfl (And.intro rfl (trivial)))))))))
              · refine e_aload F dX5_through_138 rfl ?_
                refine e_iload F dX5_through_140 rfl ?_
                refine e_iconst F dX5_through_142 ?_
                refine e_isub F dX5_through_143 ?_
                refine e_iald F gn3 (by omega) (by omega) (by first | decide | omega) dX5_through_144 ?_
                refine e_goto F 149 dX5_through_145 (by decide) ?_
                refine e_i2l F dX5_through_149 (⟨by first | (rw [gc1 (by omega)]; omega) | omega, by first | (rw [gc1 (by omega)]; omega) | omega⟩) ?_
                refine e_iload F dX5_through_150 rfl ?_
                refine e_i2l F dX5_through_152 (⟨by omega, by omega⟩) ?_
                refine e_aload F dX5_through_153 rfl ?_
                refine e_iload F dX5_through_155 rfl ?_
                refine e_iald F gn3 (by omega) (by omega) (by first | decide | omega) dX5_through_157 ?_
                refine e_i2l F dX5_through_158 (⟨by rw [gc]; omega, by rw [gc]; omega⟩) ?_
                rw [gc]
                refine e_lmul F dX5_through_159 ?_
                refine e_lsub F dX5_through_160 ?_
                refine e_callVV F u_X5_mod (by rfl) (c_X5_mod gY2 hwh (by first | (rw [gc1 (by omega)]; constructor <;> omega) | (constructor <;> omega))) gY2 rfl rfl w_ml_RX5_55 dX5_through_161 (by rfl) (Nat.le_of_ble_eq_true rfl) (by decide) (by omega) (fun _ _ _ h _ => False.elim h) (fun r_161 w_161 n_161 h_161 hn_161 => ?_)
                obtain ⟨rfl, ew_161, en_161⟩ := h_161
                rw [ew_161, en_161]
                refine e_iast F gn3 (by omega) (by omega) (by first | decide | omega) dX5_through_164 ?_
                refine e_iinc F dX5_through_165 rfl (by decide) ?_
                refine e_goto F 123 dX5_through_168 (by decide) ?_
                refine e_go (ih2 c _ g3 _ (by omega) ⟨by omega, by rw [e_up_n (by omega)]; exact gn2, e_up_s, ge3, fun j j0 j1 => ?_, fun j hj => by rw [e_up_n (by omega)]; exact gK2 j hj⟩) ?_
                · unfold e_fu
                  by_cases e8 : j = (c : Int)
                  · rw [if_pos e8, if_pos (by omega), e8]
                    unfold tmS
                    first | rw [if_pos (show 0 < (c : Int) by omega), gc1 (by omega)] | rw [if_neg (show ¬ 0 < (c : Int) by omega)]
                  · rw [if_neg e8, ge4 j j0 j1]
                    by_cases e7 : (c : Int) ≤ j
                    · rw [if_pos e7, if_pos (by omega)]
                    · rw [if_neg e7, if_neg (by omega)]
                · rw [show (c : Int) - 1 = (c : Int) + -1 by omega]
                  exact (And.intro rfl (And.intro rfl (And.intro rfl (And.intro rfl (And.intro rfl (And.intro rfl (And.intro rfl (And.intro rfl (trivial)))))))))
      have l1 : (k : Int) < ho wh → hs set ((k : Int) + 1) → ∀ (N2 c : Nat) (w2 : e_W) (g3 : Int → Int), 8 - c < N2 → (c ≤ 7 ∧ w2 n = some (e_ia 7 g3) ∧ w2 (n + 1) = some (e_ia 8 g2) ∧ (∀ j : Int, 0 ≤ j → j < 7 → g3 j = if j < (c : Int) then ((trK wh set f k).1 j + (trT wh f (trK wh set f k).1 (trK wh set f k).2 ((k : Int) + 1)) * (trK wh set f k).2 j) % pr wh else (trK wh set f k).1 j) ∧ KB w w2 n) → e_V K P9 l E9 (3) (2) S9 M9 A9 B9 T9 C9 8 (fun r w' n' => r = some (.ref n) ∧ (∃ g, w' n = some (e_ia 7 g) ∧ ∀ j : Int, 0 ≤ j → j < 7 → g j = (trK wh set f (ho wh).toNat).1 j) ∧ KB w w' n ∧ n' = n + 2) (e_px0) 82 [(0, .ref y), (1, .ref a), (2, .int (eI set)), (3, .ref n), (4, .ref (n + 1)), (5, .int (eI ((k : Int) + 1))), (6, .int (eI (trT wh f (trK wh set f k).1 (trK wh set f k).2 ((k : Int) + 1)))), (7, .int (eI (c : Int)))] [] w2 (n + 1 + 1) ((0 + 1 + 1)) := by
        intro hlt hset N2
        induction N2 with
        | zero => intro c w2 g3 hN; exact absurd hN (Nat.not_lt_zero _)
        | succ N2 ih2 =>
          intro c w2 g3 hN2 ⟨hc, gn2, gn3, ge3, gK2⟩
          have gY2 : w2 y = some (MO y t wh kn) := (gK2 y (by omega)).trans hY
          have hk1 := (hr (c : Int)).1
          have hk2 := (hr (c : Int)).2
          have hT : 0 ≤ (trT wh f (trK wh set f k).1 (trK wh set f k).2 ((k : Int) + 1)) ∧ (trT wh f (trK wh set f k).1 (trK wh set f k).2 ((k : Int) + 1)) < pr wh := trT_rg hwh
          have hm := mul_rg (m := 1000003) (a := (trT wh f (trK wh set f k).1 (trK wh set f k).2 ((k : Int) + 1))) (b := (trK wh set f k).2 (c : Int)) hT.1 (by omega) hk2.1 (by omega) (by omega)
          have hm2 : (trT wh f (trK wh set f k).1 (trK wh set f k).2 ((k : Int) + 1)) * (trK wh set f k).2 (c : Int) ≤ 1000003 * 1000003 := Int.mul_le_mul (by omega) (by omega) (by omega) (by omega)
          refine e_iload F dX5_through_82 rfl ?_
          refine e_bipush F dX5_through_84 (by decide) ?_
          refine e_icmp_gt F 119 dX5_through_86 (by decide) (⟨by omega, by omega⟩) (⟨by omega, by omega⟩) (fun c_86 => ?_) (fun c_86 => ?_)
          · refine e_bipush F dX5_through_119 (by decide) ?_
            refine e_istore F dX5_through_121 (by decide) ?_
            obtain rfl : c = 7 := by omega
            exact e_go (l2 hlt hset 9 8 w2 g3 g2 (by omega) ⟨by omega, gn2, gn3, fun j j0 j1 => by rw [ge3 j j0 j1, if_pos (by omega)], fun j j0 j1 => by rw [if_neg (by omega)]; exact ge2 j j0 j1, gK2⟩) (And.intro rfl (And.intro rfl (And.intro rfl (And.intro rfl (And.intro rfl (And.intro rfl (And.intro rfl (And.intro rfl (trivial)))))))))
          · refine e_aload_n F dX5_through_89 rfl ?_
            refine e_iload F dX5_through_90 rfl ?_
            refine e_aload_n F dX5_through_92 rfl ?_
            refine e_aload_n F dX5_through_93 rfl ?_
            refine e_iload F dX5_through_94 rfl ?_
            refine e_iald F gn2 (by omega) (by omega) (by first | decide | omega) dX5_through_96 ?_
            have gc : g3 (c : Int) = (trK wh set f k).1 (c : Int) := by rw [ge3 _ (by omega) (by omega), if_neg (by omega)]
            have gd : g2 (c : Int) = (trK wh set f k).2 (c : Int) := ge2 _ (by omega) (by omega)
            refine e_i2l F dX5_through_97 (⟨by rw [gc]; omega, by rw [gc]; omega⟩) ?_
            refine e_iload F dX5_through_98 rfl ?_
            refine e_i2l F dX5_through_100 (⟨by omega, by omega⟩) ?_
            refine e_aload F dX5_through_101 rfl ?_
            refine e_iload F dX5_through_103 rfl ?_
            refine e_iald F gn3 (by omega) (by omega) (by first | decide | omega) dX5_through_105 ?_
            refine e_i2l F dX5_through_106 (⟨by rw [gd]; omega, by rw [gd]; omega⟩) ?_
            rw [gd]
            refine e_lmul F dX5_through_107 ?_
            rw [gc]
            refine e_ladd F dX5_through_108 ?_
            refine e_callVV F u_X5_mod (by rfl) (c_X5_mod gY2 hwh (by constructor <;> omega)) gY2 rfl rfl w_ml_RX5_55 dX5_through_109 (by rfl) (Nat.le_of_ble_eq_true rfl) (by decide) (by omega) (fun _ _ _ h _ => False.elim h) (fun r_109 w_109 n_109 h_109 hn_109 => ?_)
            obtain ⟨rfl, ew_109, en_109⟩ := h_109
            rw [ew_109, en_109]
            refine e_iast F gn2 (by omega) (by omega) (by first | decide | omega) dX5_through_112 ?_
            refine e_iinc F dX5_through_113 rfl (by decide) ?_
            refine e_goto F 82 dX5_through_116 (by decide) ?_
            refine e_go (ih2 (c + 1) _ _ (by omega) ⟨by omega, e_up_s, by rw [e_up_n (by omega)]; exact gn3, fun j j0 j1 => ?_, fun j hj => by rw [e_up_n (by omega)]; exact gK2 j hj⟩) ?_
            · unfold e_fu
              by_cases e8 : j = (c : Int)
              · rw [if_pos e8, if_pos (by omega), e8]
              · rw [if_neg e8, ge3 j j0 j1]
                by_cases e7 : j < (c : Int)
                · rw [if_pos e7, if_pos (by omega)]
                · rw [if_neg e7, if_neg (by omega)]
            · exact (And.intro rfl (And.intro rfl (And.intro rfl (And.intro rfl (And.intro rfl (And.intro rfl (And.intro rfl (And.intro rfl (trivial)))))))))
      refine e_iload F dX5_through_19 rfl ?_
      refine e_aload_n F dX5_through_21 rfl ?_
      refine e_callVV F u_X5_holders (by rfl) (c_X5_holders gY hwh) gY rfl rfl w_ml_RX5_52 dX5_through_22 (by rfl) (Nat.le_of_ble_eq_true rfl) (by decide) (by omega) (fun _ _ _ h _ => False.elim h) (fun r_22 w_22 n_22 h_22 hn_22 => ?_)
      obtain ⟨rfl, ew_22, en_22⟩ := h_22
      rw [ew_22, en_22]
      refine e_icmp_gt F 177 dX5_through_25 (by decide) (⟨by omega, by omega⟩) (⟨by omega, by omega⟩) (fun c_25 => ?_) (fun c_25 => ?_)
      ·
        obtain rfl : k = (ho wh).toNat := by omega
        refine e_aload_n F dX5_through_177 rfl ?_
        refine e_aret F rfl (Or.inr ⟨_, rfl⟩) (Or.inr ⟨_, rfl⟩) (by omega) ?_ dX5_through_178
        exact ⟨rfl, ⟨g1, gn, ge1⟩, gK, rfl⟩
      · refine e_iload_n F dX5_through_28 rfl ?_
        refine e_iload F dX5_through_29 rfl ?_
        refine e_callSS F u_X5_has (by rfl) (c_X5_has hs0 (by omega) (h := (k : Int) + 1) (by omega) (by omega)) w_ml_RX5_87 dX5_through_31 (by rfl) (Nat.le_of_ble_eq_true rfl) (by decide) (by omega) (fun _ _ _ h _ => False.elim h) (fun r_31 w_31 n_31 h_31 hn_31 => ?_)
        obtain ⟨rfl, ew_31, en_31⟩ := h_31
        rw [ew_31, en_31]
        refine e_if_ne F 40 dX5_through_34 (by decide) (b01_r _) (fun c_34 => ?_) (fun c_34 => ?_)
        ·
          rw [ne_eq, b01_0, Classical.not_not] at c_34
          refine e_aload_n F dX5_through_40 rfl ?_
          refine e_aload_n F dX5_through_41 rfl ?_
          refine e_aload_n F dX5_through_42 rfl ?_
          refine e_iload F dX5_through_43 rfl ?_
          refine e_iald F ga (by omega) (by omega) (by first | decide | omega) dX5_through_45 ?_
          have hfk := hf ((k : Int) + 1) (by omega) (by omega)
          refine e_i2l F dX5_through_46 (⟨by omega, by omega⟩) ?_
          refine e_aload_n F dX5_through_47 rfl ?_
          refine e_aload_n F dX5_through_48 rfl ?_
          refine e_iload F dX5_through_49 rfl ?_
          refine e_callVV F u_X5_value (by rfl) (c_X5_value gY hwh (Z := 7) (x := (k : Int) + 1) gn (by decide) (fun j j0 j1 => by rw [ge1 j j0 j1]; exact (hr j).1) (by omega) (by omega)) gY rfl rfl w_ml_RX5_91 dX5_through_51 (by rfl) (Nat.le_of_ble_eq_true rfl) (by decide) (by omega) (fun _ _ _ h _ => False.elim h) (fun r_51 w_51 n_51 h_51 hn_51 => ?_)
          obtain ⟨rfl, ew_51, en_51⟩ := h_51
          have e51 : hv (pr wh) ((k : Int) + 1) g1 ((7 : Nat) : Int) 7 = hv (pr wh) ((k : Int) + 1) (trK wh set f k).1 7 7 := hv_congr 7 (by decide) (fun j j0 j1 => ge1 j j0 j1)
          rw [ew_51, en_51, e51]
          have hv51 := hv_rg (x := (k : Int) + 1) (P := (trK wh set f k).1) (N := 7) (show 0 < pr wh by omega) 7
          refine e_i2l F dX5_through_54 (⟨by omega, by omega⟩) ?_
          refine e_lsub F dX5_through_55 ?_
          refine e_callVV F u_X5_mod (by rfl) (c_X5_mod gY hwh (by constructor <;> omega)) gY rfl rfl w_ml_RX5_55 dX5_through_56 (by rfl) (Nat.le_of_ble_eq_true rfl) (by decide) (by omega) (fun _ _ _ h _ => False.elim h) (fun r_56 w_56 n_56 h_56 hn_56 => ?_)
          obtain ⟨rfl, ew_56, en_56⟩ := h_56
          rw [ew_56, en_56]
          have hm56 := emod_rg (f ((k : Int) + 1) - hv (pr wh) ((k : Int) + 1) (trK wh set f k).1 7 7) hwh
          refine e_i2l F dX5_through_59 (⟨by omega, by omega⟩) ?_
          refine e_aload_n F dX5_through_60 rfl ?_
          refine e_aload_n F dX5_through_61 rfl ?_
          refine e_aload F dX5_through_62 rfl ?_
          refine e_iload F dX5_through_64 rfl ?_
          refine e_callVV F u_X5_value (by rfl) (c_X5_value gY hwh (Z := 8) (x := (k : Int) + 1) gn1 (by decide) (fun j j0 j1 => by rw [ge2 j j0 j1]; exact (hr j).2) (by omega) (by omega)) gY rfl rfl w_ml_RX5_91 dX5_through_66 (by rfl) (Nat.le_of_ble_eq_true rfl) (by decide) (by omega) (fun _ _ _ h _ => False.elim h) (fun r_66 w_66 n_66 h_66 hn_66 => ?_)
          obtain ⟨rfl, ew_66, en_66⟩ := h_66
          have e66 : hv (pr wh) ((k : Int) + 1) g2 ((8 : Nat) : Int) 8 = hv (pr wh) ((k : Int) + 1) (trK wh set f k).2 8 8 := hv_congr 8 (by decide) (fun j j0 j1 => ge2 j j0 j1)
          rw [ew_66, en_66, e66]
          have hv66 := hv_rg (x := (k : Int) + 1) (P := (trK wh set f k).2) (N := 8) (show 0 < pr wh by omega) 8
          refine e_callVV F u_X5_inverse (by rfl) (c_X5_inverse gY hwh hv66.1 hv66.2) gY rfl rfl w_ml_RX5_76 dX5_through_69 (by rfl) (Nat.le_of_ble_eq_true rfl) (by decide) (by omega) (fun _ _ _ h _ => False.elim h) (fun r_69 w_69 n_69 h_69 hn_69 => ?_)
          obtain ⟨rfl, ew_69, en_69⟩ := h_69
          rw [ew_69, en_69]
          have hi69 := iv_rg (v := hv (pr wh) ((k : Int) + 1) (trK wh set f k).2 8 8) hwh
          refine e_i2l F dX5_through_72 (⟨by omega, by omega⟩) ?_
          refine e_lmul F dX5_through_73 ?_
          refine e_callVV F u_X5_mod (by rfl) (c_X5_mod gY hwh (mul_rg (m := 1000003) hm56.1 (by omega) hi69.1 (by omega) (by omega)).2) gY rfl rfl w_ml_RX5_55 dX5_through_74 (by rfl) (Nat.le_of_ble_eq_true rfl) (by decide) (by omega) (fun _ _ _ h _ => False.elim h) (fun r_74 w_74 n_74 h_74 hn_74 => ?_)
          obtain ⟨rfl, ew_74, en_74⟩ := h_74
          rw [ew_74, en_74]
          refine e_istore F dX5_through_77 (by decide) ?_
          refine e_iconst F dX5_through_79 ?_
          refine e_istore F dX5_through_80 (by decide) ?_
          refine e_go (l1 (by omega) c_34 9 0 wl g1 (by omega) ⟨by omega, gn, gn1, fun j j0 j1 => by rw [if_neg (by omega)]; exact ge1 j j0 j1, gK⟩) ?_
          exact (And.intro rfl (And.intro rfl (And.intro rfl (And.intro rfl (And.intro rfl (And.intro rfl (And.intro rfl (And.intro rfl (trivial)))))))))
        ·
          rw [b01_0] at c_34
          refine e_goto F 171 dX5_through_37 (by decide) ?_
          refine e_iinc F dX5_through_171 rfl (by decide) ?_
          refine e_goto F 19 dX5_through_174 (by decide) ?_
          have e9 : trK wh set f (k + 1) = trK wh set f k := if_neg c_34
          refine e_go (ih (k + 1) wl g1 g2 (by omega) ⟨by omega, gn, gn1, fun j j0 j1 => by rw [e9]; exact ge1 j j0 j1, fun j j0 j1 => by rw [e9]; exact ge2 j j0 j1, gK⟩) ?_
          exact (And.intro rfl (And.intro rfl (And.intro rfl (And.intro rfl (And.intro rfl (And.intro rfl (trivial)))))))
  refine e_bipush F dX5_through_0 (by decide) ?_
  refine e_newI F (N := 7) (by first | rfl | omega) (by decide) (by omega) w_ac_int dX5_through_2 ?_
  refine e_astore_n F dX5_through_4 (by decide) ?_
  refine e_bipush F dX5_through_5 (by decide) ?_
  refine e_newI F (N := 8) (by first | rfl | omega) (by decide) (by omega) w_ac_int dX5_through_7 ?_
  refine e_astore F dX5_through_9 (by decide) ?_
  refine e_aload F dX5_through_11 rfl ?_
  refine e_iconst F dX5_through_13 ?_
  refine e_iconst F dX5_through_14 ?_
  refine e_iast F e_up_s (by omega) (by omega) (by first | decide | omega) dX5_through_15 ?_
  refine e_iconst F dX5_through_16 ?_
  refine e_istore F dX5_through_17 (by decide) ?_
  refine e_go (lp 9 0 _ (fun _ => 0) (e_fu (fun _ => 0) 0 1) (by omega) ⟨by omega, by rw [e_up_n (by omega), e_up_n (by omega)]; exact e_up_s, e_up_s, fun j j0 j1 => rfl, fun j j0 j1 => rfl, fun j hj => by rw [e_up_n (by omega), e_up_n (by omega), e_up_n (by omega)]⟩) ?_
  exact (And.intro rfl (And.intro rfl (And.intro rfl (And.intro rfl (And.intro rfl (And.intro rfl (trivial)))))))
set_option maxHeartbeats 4000000 in
set_option maxRecDepth 100000 in
theorem c_X5_at {K : e_K} {l : Launch} {w : e_W} {n : Nat} {y wh : Nat} {t kn : Int} (hY : w y = some (MO y t wh kn)) (hwh : wh < 7) {a NA : Nat} {f : Int → Int} (ha : w a = some (e_ia NA f)) (hNA : (NA : Int) = ho wh + 1) (hf : ∀ j : Int, 0 ≤ j → j < NA → -1 ≤ f j ∧ f j < pr wh) {set : Int} (hs0 : 0 ≤ set) (hs1 : set < 128) {x : Int} (hx : e_r x) : e_Met K l yX5_at (Cond.code yX5_at cX5_at 4 (Option.some .int) :: e_TB) (4) (2) [.ref y, .ref a, .int (eI set), .int (eI x)] w n (fun r w' n' => r = some (.int (eI (atV wh set f x))) ∧ KB w w' n) (e_px0) := by
  refine e_ofV rfl (Nat.le_of_ble_eq_true rfl) ?_
  intro P9 E9 S9 M9 A9 B9 T9 C9 F hnm
  have hp := pr_rg wh hwh
  have hho := ho_rg wh hwh
  refine e_dom ?_
  intro hdom
  have hyn := hdom _ _ hY
  have hxm := emod_rg x hwh
  have hr := fun c => trK_rg hwh set f (ho wh).toNat c
  refine e_aload_n F dX5_at_0 rfl ?_
  refine e_aload_n F dX5_at_1 rfl ?_
  refine e_aload_n F dX5_at_2 rfl ?_
  refine e_iload_n F dX5_at_3 rfl ?_
  refine e_callVV F u_X5_through (by rfl) (c_X5_through hY hwh ha hNA hf hs0 hs1) hY rfl rfl w_ml_RX5_95 dX5_at_4 (by rfl) (Nat.le_of_ble_eq_true rfl) (by decide) (by omega) (fun _ _ _ h _ => False.elim h) (fun r_4 w_4 n_4 h_4 hn_4 => ?_)
  obtain ⟨rfl, ⟨g, hg, he⟩, gK, en_4⟩ := h_4
  rw [en_4]
  have gY : w_4 y = some (MO y t wh kn) := (gK y (by omega)).trans hY
  refine e_aload_n F dX5_at_7 rfl ?_
  refine e_iload_n F dX5_at_8 rfl ?_
  refine e_i2l F dX5_at_9 (hx) ?_
  refine e_callVV F u_X5_mod (by rfl) (c_X5_mod gY hwh (v := x) ⟨by omega, by omega⟩) gY rfl rfl w_ml_RX5_55 dX5_at_10 (by rfl) (Nat.le_of_ble_eq_true rfl) (by decide) (by omega) (fun _ _ _ h _ => False.elim h) (fun r_10 w_10 n_10 h_10 hn_10 => ?_)
  obtain ⟨rfl, ew_10, en_10⟩ := h_10
  rw [ew_10, en_10]
  refine e_callVV F u_X5_value (by rfl) (c_X5_value gY hwh (Z := 7) (x := x % pr wh) hg (by decide) (fun j j0 j1 => by rw [he j j0 j1]; exact (hr j).1) hxm.1 hxm.2) gY rfl rfl w_ml_RX5_91 dX5_at_13 (by rfl) (Nat.le_of_ble_eq_true rfl) (by decide) (by omega) (fun _ _ _ h _ => False.elim h) (fun r_13 w_13 n_13 h_13 hn_13 => ?_)
  obtain ⟨rfl, ew_13, en_13⟩ := h_13
  have e13 : hv (pr wh) (x % pr wh) g ((7 : Nat) : Int) 7 = atV wh set f x := hv_congr 7 (by decide) (fun j j0 j1 => he j j0 j1)
  rw [ew_13, en_13, e13]
  refine e_iret F rfl (by omega) ?_ dX5_at_16
  exact ⟨rfl, gK⟩
set_option maxHeartbeats 4000000 in
set_option maxRecDepth 100000 in
theorem c_X5_weightsAt {K : e_K} {l : Launch} {w : e_W} {n : Nat} {y wh : Nat} {t kn : Int} (hY : w y = some (MO y t wh kn)) (hwh : wh < 7) {set x : Int} (hs0 : 0 ≤ set) (hs1 : set < 128) (hx : e_r x) : e_Met K l yX5_weightsAt (Cond.code yX5_weightsAt cX5_weightsAt 5 (Option.some .int) :: e_TB) (5) (3) [.ref y, .int (eI set), .int (eI x)] w n (fun r w' n' => r = some (.int (eI (atV wh set (fun _ => 1) x))) ∧ KB w w' n) (e_px0) := by
  refine e_ofV rfl (Nat.le_of_ble_eq_true rfl) ?_
  intro P9 E9 S9 M9 A9 B9 T9 C9 F hnm
  have hp := pr_rg wh hwh
  have hho := ho_rg wh hwh
  refine e_dom ?_
  intro hdom
  have hyn := hdom _ _ hY
  have lp : ∀ (N k : Nat) (wl : e_W) (g : Int → Int), 8 - k < N → ((k : Int) ≤ ho wh ∧ wl n = some (e_ia ((ho wh).toNat + 1) g) ∧ (∀ j : Int, 0 ≤ j → j < ho wh + 1 → g j = if 1 ≤ j ∧ j ≤ (k : Int) then 1 else 0) ∧ KB w wl n) → e_V K P9 l E9 (5) (3) S9 M9 A9 B9 T9 C9 5 (fun r w' n' => r = some (.int (eI (atV wh set (fun _ => 1) x))) ∧ KB w w' n) (e_px0) 12 [(0, .ref y), (1, .int (eI set)), (2, .int (eI x)), (3, .ref n), (4, .int (eI ((k : Int) + 1)))] [] wl (n + 1) ((0 + 1)) := by
    intro N
    induction N with
    | zero => intro k wl g hN; exact absurd hN (Nat.not_lt_zero _)
    | succ N ih =>
      intro k wl g hN ⟨hk, gn, ge, gK⟩
      have gY : wl y = some (MO y t wh kn) := (gK y (by omega)).trans hY
      refine e_iload F dX5_weightsAt_12 rfl ?_
      refine e_aload_n F dX5_weightsAt_14 rfl ?_
      refine e_callVV F u_X5_holders (by rfl) (c_X5_holders gY hwh) gY rfl rfl w_ml_RX5_52 dX5_weightsAt_15 (by rfl) (Nat.le_of_ble_eq_true rfl) (by decide) (by omega) (fun _ _ _ h _ => False.elim h) (fun r_15 w_15 n_15 h_15 hn_15 => ?_)
      obtain ⟨rfl, ew_15, en_15⟩ := h_15
      rw [ew_15, en_15]
      refine e_icmp_gt F 32 dX5_weightsAt_18 (by decide) (⟨by omega, by omega⟩) (⟨by omega, by omega⟩) (fun c_18 => ?_) (fun c_18 => ?_)
      ·
        obtain rfl : k = (ho wh).toNat := by omega
        refine e_aload_n F dX5_weightsAt_32 rfl ?_
        refine e_aload_n F dX5_weightsAt_33 rfl ?_
        refine e_iload_n F dX5_weightsAt_34 rfl ?_
        refine e_iload_n F dX5_weightsAt_35 rfl ?_
        refine e_callVV F u_X5_at (by rfl) (c_X5_at gY hwh (a := n) (NA := ((ho wh).toNat + 1)) (f := g) gn (by omega) (fun j j0 j1 => by rw [ge j j0 (by omega)]; split <;> omega) hs0 hs1 hx) gY rfl rfl w_ml_RX5_106 dX5_weightsAt_36 (by rfl) (Nat.le_of_ble_eq_true rfl) (by decide) (by omega) (fun _ _ _ h _ => False.elim h) (fun r_36 w_36 n_36 h_36 hn_36 => ?_)
        obtain ⟨rfl, gK2⟩ := h_36
        refine e_iret F rfl (by omega) ?_ dX5_weightsAt_39
        have e9 : atV wh set g x = atV wh set (fun _ => 1) x := by
          unfold atV
          rw [trK_congr (A2 := fun _ => 1) (ho wh).toNat (fun j j0 j1 => by rw [ge j (by omega) (by omega), if_pos (by omega)])]
        exact ⟨by rw [e9], fun j hj => (gK2 j (by omega)).trans (gK j hj)⟩
      · refine e_aload_n F dX5_weightsAt_21 rfl ?_
        refine e_iload F dX5_weightsAt_22 rfl ?_
        refine e_iconst F dX5_weightsAt_24 ?_
        refine e_iast F (by first | assumption | exact e_up_s | (rw [e_up_n (by first | assumption | omega)]; first | assumption | exact e_up_s | (rw [e_up_n (by first | assumption | omega)]; first | assumption | exact e_up_s | (rw [e_up_n (by first | assumption | omega)]; first | assumption | exact e_up_s))) | exact hD.1 | exact hD1.1 | exact hD2.1 | exact gD.1 | exact gD1.1 | exact gD2.1 | exact gQ.1 | exact hQ.1 | exact gS.1 | exact hS.1 | exact zD.1) (by omega) (by omega) (by first | decide | omega) dX5_weightsAt_25 ?_
        refine e_iinc F dX5_weightsAt_26 rfl (by decide) ?_
        refine e_goto F 12 dX5_weightsAt_29 (by decide) ?_
        refine e_go (ih (k + 1) _ _ (by omega) ⟨by omega, e_up_s, fun j j0 j1 => ?_, fun j hj => by rw [e_up_n (by omega)]; exact gK j hj⟩) ?_
        · unfold e_fu
          by_cases e8 : j = (k : Int) + 1
          · rw [if_pos e8, if_pos (by omega)]
          · rw [if_neg e8, ge j j0 j1]
            by_cases e7 : 1 ≤ j ∧ j ≤ (k : Int)
            · rw [if_pos e7, if_pos (by omega)]
            · rw [if_neg e7, if_neg (by omega)]
        · exact (And.intro rfl (And.intro rfl (And.intro rfl (And.intro rfl (And.intro rfl (trivial))))))
  refine e_aload_n F dX5_weightsAt_0 rfl ?_
  refine e_callVV F u_X5_holders (by rfl) (c_X5_holders hY hwh) hY rfl rfl w_ml_RX5_52 dX5_weightsAt_1 (by rfl) (Nat.le_of_ble_eq_true rfl) (by decide) (by omega) (fun _ _ _ h _ => False.elim h) (fun r_1 w_1 n_1 h_1 hn_1 => ?_)
  obtain ⟨rfl, ew_1, en_1⟩ := h_1
  rw [ew_1, en_1]
  refine e_iconst F dX5_weightsAt_4 ?_
  refine e_iadd F dX5_weightsAt_5 ?_
  refine e_newI F (N := ((ho wh).toNat + 1)) (by omega) (by omega) (by omega) w_ac_int dX5_weightsAt_6 ?_
  refine e_astore_n F dX5_weightsAt_8 (by decide) ?_
  refine e_iconst F dX5_weightsAt_9 ?_
  refine e_istore F dX5_weightsAt_10 (by decide) ?_
  refine e_go (lp 9 0 _ (fun _ => 0) (by omega) ⟨by omega, e_up_s, fun j j0 j1 => by rw [if_neg (by omega)], fun j hj => e_up_n (by omega)⟩) ?_
  exact (And.intro rfl (And.intro rfl (And.intro rfl (And.intro rfl (And.intro rfl (trivial))))))
set_option maxHeartbeats 4000000 in
set_option maxRecDepth 100000 in
theorem c_X5_values {K : e_K} {l : Launch} {w : e_W} {n : Nat} {y wh : Nat} {t kn : Int} (hY : w y = some (MO y t wh kn)) (hwh : wh < 7) {a Z : Nat} {f : Int → Int} (ha : w a = some (e_ia Z f)) (hZ : Z ≤ 8) (hf : ∀ j : Int, 0 ≤ j → j < Z → 0 ≤ f j ∧ f j < pr wh) : e_Met K l yX5_values (Cond.code yX5_values cX5_values 4 (Option.some (.array .int)) :: e_TB) (2) (1) [.ref y, .ref a] w n (fun r w' n' => r = some (.ref n) ∧ (∃ g, w' n = some (e_ia ((ho wh).toNat + 1) g) ∧ g 0 = -1 ∧ ∀ j : Int, 1 ≤ j → j ≤ ho wh → g j = hv (pr wh) j f (Z : Int) Z) ∧ KB w w' n ∧ n' = n + 1) (e_px0) := by
  refine e_ofV rfl (Nat.le_of_ble_eq_true rfl) ?_
  intro P9 E9 S9 M9 A9 B9 T9 C9 F hnm
  have hp := pr_rg wh hwh
  have hho := ho_rg wh hwh
  refine e_dom ?_
  intro hdom
  have hyn := hdom _ _ hY
  have han := hdom _ _ ha
  have lp : ∀ (N k : Nat) (wl : e_W) (g : Int → Int), 8 - k < N → ((k : Int) ≤ ho wh ∧ wl n = some (e_ia ((ho wh).toNat + 1) g) ∧ (∀ j : Int, 0 ≤ j → j < ho wh + 1 → g j = if j = 0 then -1 else if j ≤ (k : Int) then hv (pr wh) j f (Z : Int) Z else 0) ∧ KB w wl n) → e_V K P9 l E9 (2) (1) S9 M9 A9 B9 T9 C9 4 (fun r w' n' => r = some (.ref n) ∧ (∃ g, w' n = some (e_ia ((ho wh).toNat + 1) g) ∧ g 0 = -1 ∧ ∀ j : Int, 1 ≤ j → j ≤ ho wh → g j = hv (pr wh) j f (Z : Int) Z) ∧ KB w w' n ∧ n' = n + 1) (e_px0) 15 [(0, .ref y), (1, .ref a), (2, .ref n), (3, .int (eI ((k : Int) + 1)))] [] wl (n + 1) ((0 + 1)) := by
    intro N
    induction N with
    | zero => intro k wl g hN; exact absurd hN (Nat.not_lt_zero _)
    | succ N ih =>
      intro k wl g hN ⟨hk, gn, ge, gK⟩
      have gY : wl y = some (MO y t wh kn) := (gK y (by omega)).trans hY
      have ga : wl a = some (e_ia Z f) := (gK a (by omega)).trans ha
      refine e_iload_n F dX5_values_15 rfl ?_
      refine e_aload_n F dX5_values_16 rfl ?_
      refine e_callVV F u_X5_holders (by rfl) (c_X5_holders gY hwh) gY rfl rfl w_ml_RX5_52 dX5_values_17 (by rfl) (Nat.le_of_ble_eq_true rfl) (by decide) (by omega) (fun _ _ _ h _ => False.elim h) (fun r_17 w_17 n_17 h_17 hn_17 => ?_)
      obtain ⟨rfl, ew_17, en_17⟩ := h_17
      rw [ew_17, en_17]
      refine e_icmp_gt F 38 dX5_values_20 (by decide) (⟨by omega, by omega⟩) (⟨by omega, by omega⟩) (fun c_20 => ?_) (fun c_20 => ?_)
      ·
        obtain rfl : k = (ho wh).toNat := by omega
        refine e_aload_n F dX5_values_38 rfl ?_
        refine e_aret F rfl (Or.inr ⟨_, rfl⟩) (Or.inr ⟨_, rfl⟩) (by omega) ?_ dX5_values_39
        exact ⟨rfl, ⟨g, gn, by rw [ge 0 (by omega) (by omega), if_pos rfl], fun j j0 j1 => by rw [ge j (by omega) (by omega), if_neg (by omega), if_pos (by omega)]⟩, gK, rfl⟩
      · refine e_aload_n F dX5_values_23 rfl ?_
        refine e_iload_n F dX5_values_24 rfl ?_
        refine e_aload_n F dX5_values_25 rfl ?_
        refine e_aload_n F dX5_values_26 rfl ?_
        refine e_iload_n F dX5_values_27 rfl ?_
        refine e_callVV F u_X5_value (by rfl) (c_X5_value gY hwh (x := (k : Int) + 1) ga hZ hf (by omega) (by omega)) gY rfl rfl w_ml_RX5_91 dX5_values_28 (by rfl) (Nat.le_of_ble_eq_true rfl) (by decide) (by omega) (fun _ _ _ h _ => False.elim h) (fun r_28 w_28 n_28 h_28 hn_28 => ?_)
        obtain ⟨rfl, ew_28, en_28⟩ := h_28
        rw [ew_28, en_28]
        refine e_iast F gn (by omega) (by omega) (by first | decide | omega) dX5_values_31 ?_
        refine e_iinc F dX5_values_32 rfl (by decide) ?_
        refine e_goto F 15 dX5_values_35 (by decide) ?_
        refine e_go (ih (k + 1) _ _ (by omega) ⟨by omega, e_up_s, fun j j0 j1 => ?_, fun j hj => by rw [e_up_n (by omega)]; exact gK j hj⟩) ?_
        · unfold e_fu
          by_cases e8 : j = (k : Int) + 1
          · rw [if_pos e8, if_neg (by omega), if_pos (by omega), e8]
          · rw [if_neg e8, ge j j0 j1]
            by_cases e7 : j = 0
            · rw [if_pos e7, if_pos e7]
            · rw [if_neg e7, if_neg e7]
              by_cases e6 : j ≤ (k : Int)
              · rw [if_pos e6, if_pos (by omega)]
              · rw [if_neg e6, if_neg (by omega)]
        · exact (And.intro rfl (And.intro rfl (And.intro rfl (And.intro rfl (trivial)))))
  refine e_aload_n F dX5_values_0 rfl ?_
  refine e_callVV F u_X5_holders (by rfl) (c_X5_holders hY hwh) hY rfl rfl w_ml_RX5_52 dX5_values_1 (by rfl) (Nat.le_of_ble_eq_true rfl) (by decide) (by omega) (fun _ _ _ h _ => False.elim h) (fun r_1 w_1 n_1 h_1 hn_1 => ?_)
  obtain ⟨rfl, ew_1, en_1⟩ := h_1
  rw [ew_1, en_1]
  refine e_iconst F dX5_values_4 ?_
  refine e_iadd F dX5_values_5 ?_
  refine e_newI F (N := ((ho wh).toNat + 1)) (by omega) (by omega) (by omega) w_ac_int dX5_values_6 ?_
  refine e_astore_n F dX5_values_8 (by decide) ?_
  refine e_aload_n F dX5_values_9 rfl ?_
  refine e_iconst F dX5_values_10 ?_
  refine e_iconst F dX5_values_11 ?_
  refine e_iast F e_up_s (by omega) (by omega) (by first | decide | omega) dX5_values_12 ?_
  refine e_iconst F dX5_values_13 ?_
  refine e_istore_n F dX5_values_14 (by decide) ?_
  refine e_go (lp 9 0 _ (e_fu (fun _ => 0) 0 (-1)) (by omega) ⟨by omega, e_up_s, fun j j0 j1 => ?_, fun j hj => by rw [e_up_n (by omega), e_up_n (by omega)]⟩) ?_
  · unfold e_fu
    by_cases e8 : j = 0
    · rw [if_pos e8, if_pos e8]
    · rw [if_neg e8, if_neg e8, if_neg (by omega)]
  · exact (And.intro rfl (And.intro rfl (And.intro rfl (And.intro rfl (trivial)))))
set_option maxHeartbeats 4000000 in
set_option maxRecDepth 100000 in
theorem c_X5_poly {K : e_K} {l : Launch} {w : e_W} {n : Nat} {y wh : Nat} {t kn : Int} (hY : w y = some (MO y t wh kn)) (hwh : wh < 7) {g9 a9 b9 c9 d9 : Int} (h0 : 0 ≤ g9) (h1 : g9 ≤ 6) (ha9 : e_r a9) (hb9 : e_r b9) (hc9 : e_r c9) (hd9 : e_r d9) : e_Met K l yX5_poly (Cond.code yX5_poly cX5_poly 9 (Option.some (.array .int)) :: e_TB) (2) (2) [.ref y, .int (eI g9), .int (eI a9), .int (eI b9), .int (eI c9), .int (eI d9)] w n (fun r w' n' => r = some (.ref (n + 1)) ∧ (∃ g, w' (n + 1) = some (e_ia (g9.toNat + 1) g) ∧ ∀ j : Int, 0 ≤ j → j ≤ g9 → g j = bcm (pr wh) g9 a9 b9 c9 d9 j) ∧ KB w w' n ∧ n' = n + 2) (e_px0) := by
  refine e_ofV rfl (Nat.le_of_ble_eq_true rfl) ?_
  intro P9 E9 S9 M9 A9 B9 T9 C9 F hnm
  have hp := pr_rg wh hwh
  have hho := ho_rg wh hwh
  refine e_dom ?_
  intro hdom
  have hyn := hdom _ _ hY
  have lp : ∀ (N k : Nat) (wl : e_W) (g : Int → Int), 8 - k < N → ((k : Int) ≤ g9 + 1 ∧ k ≤ 4 ∧ wl n = some (e_ia 4 (e_fu (e_fu (e_fu (e_fu (fun _ => 0) 0 a9) 1 b9) 2 c9) 3 d9)) ∧ wl (n + 1) = some (e_ia (g9.toNat + 1) g) ∧ (∀ j : Int, 0 ≤ j → j < g9 + 1 → g j = if j < (k : Int) then bcm (pr wh) g9 a9 b9 c9 d9 j else 0) ∧ KB w wl n) → e_V K P9 l E9 (2) (2) S9 M9 A9 B9 T9 C9 9 (fun r w' n' => r = some (.ref (n + 1)) ∧ (∃ g, w' (n + 1) = some (e_ia (g9.toNat + 1) g) ∧ ∀ j : Int, 0 ≤ j → j ≤ g9 → g j = bcm (pr wh) g9 a9 b9 c9 d9 j) ∧ KB w w' n ∧ n' = n + 2) (e_px0) 33 [(0, .ref y), (1, .int (eI g9)), (6, .ref n), (7, .ref (n + 1)), (8, .int (eI (k : Int)))] [] wl (n + 1 + 1) ((0 + 1 + 1)) := by
    intro N
    induction N with
    | zero => intro k wl g hN; exact absurd hN (Nat.not_lt_zero _)
    | succ N ih =>
      intro k wl g hN ⟨hk, hk4, gt, gn, ge, gK⟩
      have gY : wl y = some (MO y t wh kn) := (gK y (by omega)).trans hY
      refine e_iload F dX5_poly_33 rfl ?_
      refine e_iload_n F dX5_poly_35 rfl ?_
      refine e_icmp_gt F 66 dX5_poly_36 (by decide) (⟨by omega, by omega⟩) (⟨by omega, by omega⟩) (fun c_36 => ?_) (fun c_36 => ?_)
      · refine e_aload F dX5_poly_66 rfl ?_
        refine e_aret F rfl (Or.inr ⟨_, rfl⟩) (Or.inr ⟨_, rfl⟩) (by omega) ?_ dX5_poly_68
        refine ⟨rfl, ⟨g, gn, fun j j0 j1 => ?_⟩, gK, rfl⟩
        rw [ge j j0 (by omega)]
        by_cases e6 : j < (k : Int)
        · rw [if_pos e6]
        · rw [if_neg e6]
          have h4 : k = 4 := by omega
          unfold bcm
          rw [if_neg (by omega), if_neg (by omega), if_neg (by omega), if_neg (by omega)]
      · refine e_iload F dX5_poly_39 rfl ?_
        refine e_iconst F dX5_poly_41 ?_
        refine e_icmp_ge F 66 dX5_poly_42 (by decide) (⟨by omega, by omega⟩) (⟨by omega, by omega⟩) (fun c_42 => ?_) (fun c_42 => ?_)
        · refine e_aload F dX5_poly_66 rfl ?_
          refine e_aret F rfl (Or.inr ⟨_, rfl⟩) (Or.inr ⟨_, rfl⟩) (by omega) ?_ dX5_poly_68
          refine ⟨rfl, ⟨g, gn, fun j j0 j1 => ?_⟩, gK, rfl⟩
          rw [ge j j0 (by omega)]
          by_cases e6 : j < (k : Int)
          · rw [if_pos e6]
          · rw [if_neg e6]
            have h4 : k = 4 := by omega
            unfold bcm
            rw [if_neg (by omega), if_neg (by omega), if_neg (by omega), if_neg (by omega)]
        · refine e_aload F dX5_poly_45 rfl ?_
          refine e_iload F dX5_poly_47 rfl ?_
          refine e_aload_n F dX5_poly_49 rfl ?_
          refine e_aload F dX5_poly_50 rfl ?_
          refine e_iload F dX5_poly_52 rfl ?_
          refine e_iald F gt (by omega) (by omega) (by first | decide | omega) dX5_poly_54 ?_
          have htk : e_r ((e_fu (e_fu (e_fu (e_fu (fun _ => 0) 0 a9) 1 b9) 2 c9) 3 d9) (k : Int)) ∧ (e_fu (e_fu (e_fu (e_fu (fun _ => 0) 0 a9) 1 b9) 2 c9) 3 d9) (k : Int) % pr wh = bcm (pr wh) g9 a9 b9 c9 d9 (k : Int) := by
            rcases (show k = 0 ∨ k = 1 ∨ k = 2 ∨ k = 3 by omega) with rfl | rfl | rfl | rfl
            · exact ⟨ha9, rfl⟩
            · exact ⟨hb9, (if_pos (show (1 : Int) ≤ g9 by omega)).symm⟩
            · exact ⟨hc9, (if_pos (show (2 : Int) ≤ g9 by omega)).symm⟩
            · exact ⟨hd9, (if_pos (show (3 : Int) ≤ g9 by omega)).symm⟩
          refine e_i2l F dX5_poly_55 (htk.1) ?_
          refine e_callVV F u_X5_mod (by rfl) (c_X5_mod gY hwh (by have := htk.1; constructor <;> omega)) gY rfl rfl w_ml_RX5_55 dX5_poly_56 (by rfl) (Nat.le_of_ble_eq_true rfl) (by decide) (by omega) (fun _ _ _ h _ => False.elim h) (fun r_56 w_56 n_56 h_56 hn_56 => ?_)
          obtain ⟨rfl, ew_56, en_56⟩ := h_56
          rw [ew_56, en_56, htk.2]
          refine e_iast F gn (by omega) (by omega) (by first | decide | omega) dX5_poly_59 ?_
          refine e_iinc F dX5_poly_60 rfl (by decide) ?_
          refine e_goto F 33 dX5_poly_63 (by decide) ?_
          refine e_go (ih (k + 1) _ _ (by omega) ⟨by omega, by omega, by rw [e_up_n (by omega)]; exact gt, e_up_s, fun j j0 j1 => ?_, fun j hj => by rw [e_up_n (by omega)]; exact gK j hj⟩) ?_
          · unfold e_fu
            by_cases e8 : j = (k : Int)
            · rw [if_pos e8, if_pos (by omega), e8]
            · rw [if_neg e8, ge j j0 j1]
              by_cases e7 : j < (k : Int)
              · rw [if_pos e7, if_pos (by omega)]
              · rw [if_neg e7, if_neg (by omega)]
          · exact (And.intro rfl (And.intro rfl (And.intro rfl (And.intro rfl (And.intro rfl (trivial))))))
  refine e_iconst F dX5_poly_0 ?_
  refine e_newI F (N := 4) (by first | rfl | omega) (by decide) (by omega) w_ac_int dX5_poly_1 ?_
  refine e_dup F dX5_poly_3 rfl ?_
  refine e_iconst F dX5_poly_4 ?_
  refine e_iload_n F dX5_poly_5 rfl ?_
  refine e_iast F e_up_s (by omega) (by omega) (by first | decide | omega) dX5_poly_6 ?_
  refine e_dup F dX5_poly_7 rfl ?_
  refine e_iconst F dX5_poly_8 ?_
  refine e_iload_n F dX5_poly_9 rfl ?_
  refine e_iast F e_up_s (by omega) (by omega) (by first | decide | omega) dX5_poly_10 ?_
  refine e_dup F dX5_poly_11 rfl ?_
  refine e_iconst F dX5_poly_12 ?_
  refine e_iload F dX5_poly_13 rfl ?_
  refine e_iast F e_up_s (by omega) (by omega) (by first | decide | omega) dX5_poly_15 ?_
  refine e_dup F dX5_poly_16 rfl ?_
  refine e_iconst F dX5_poly_17 ?_
  refine e_iload F dX5_poly_18 rfl ?_
  refine e_iast F e_up_s (by omega) (by omega) (by first | decide | omega) dX5_poly_20 ?_
  refine e_astore F dX5_poly_21 (by decide) ?_
  refine e_iload_n F dX5_poly_23 rfl ?_
  refine e_iconst F dX5_poly_24 ?_
  refine e_iadd F dX5_poly_25 ?_
  refine e_newI F (N := (g9.toNat + 1)) (by omega) (by omega) (by omega) w_ac_int dX5_poly_26 ?_
  refine e_astore F dX5_poly_28 (by decide) ?_
  refine e_iconst F dX5_poly_30 ?_
  refine e_istore F dX5_poly_31 (by decide) ?_
  refine e_go (lp 9 0 _ (fun _ => 0) (by omega) ⟨by omega, by omega, by rw [e_up_n (by omega)]; exact e_up_s, e_up_s, fun j j0 j1 => by rw [if_neg (by omega)], fun j hj => by rw [e_up_n (by omega), e_up_n (by omega), e_up_n (by omega), e_up_n (by omega), e_up_n (by omega), e_up_n (by omega)]⟩) ?_
  exact (And.intro rfl (And.intro rfl (And.intro rfl (And.intro rfl (And.intro rfl (trivial))))))
end
-- 47.state.lean.txt
section
/-! the reference: its state -/
abbrev RD : Type := Int × Int × (Int → Int) × (Int → Int)
abbrev RD.dg (r : RD) : Int := r.1
abbrev RD.hp (r : RD) : Int := r.2.1
abbrev RD.A (r : RD) : Int → Int := r.2.2.1
abbrev RD.E (r : RD) : Int → Int := r.2.2.2
def RW (w : e_W) (y : Nat) (o : Option Nat) (Z : Nat) (p lo : Int) (A : Int → Int) : Prop := ∃ (a : Nat) (f : Int → Int), o = some a ∧ y + 3 < a ∧ w a = some (e_ia Z f) ∧ (∀ j : Int, 0 ≤ j → j < Z → -1 ≤ f j ∧ f j < p) ∧ ∀ j : Int, lo ≤ j → j < Z → f j = A j
def MD (w : e_W) (y wh : Nat) (o1 o2 : Option Nat) (r : RD) : Prop := (r.dg = -1 ∧ o1 = none ∧ o2 = none ∧ r.hp = 0) ∨ ((0 ≤ r.dg ∧ r.dg ≤ 6) ∧ RW w y o1 ((ho wh).toNat + 1) (pr wh) 1 r.A ∧ ((r.hp = 0 ∧ o2 = none) ∨ (r.hp = 1 ∧ RW w y o2 (r.dg.toNat + 1) (pr wh) 0 r.E)))
def RV (wh : Nat) (r : RD) : Prop := (∀ j, 1 ≤ j → j < 8 → r.A j = -1 ∨ (0 ≤ r.A j ∧ r.A j < pr wh ∧ j ≤ ho wh)) ∧ (r.hp = 1 → ∀ k, 0 ≤ k → k ≤ r.dg → 0 ≤ r.E k ∧ r.E k < pr wh) ∧ (r.dg = -1 → ∀ j, 1 ≤ j → j < 8 → r.A j = -1)
def MW (w : e_W) (y wh : Nat) (kn t : Int) (R : Nat → RD) : Prop := w y = some (MO y t wh kn) ∧ wh < 7 ∧ (∃ G, w (y + 1) = some (e_ia 6 G) ∧ ∀ j : Nat, j < 6 → G (j : Int) = (R j).dg) ∧ (∃ S P, w (y + 2) = some (e_ra 6 S) ∧ w (y + 3) = some (e_ra 6 P) ∧ ∀ j : Nat, j < 6 → MD w y wh (S (j : Int)) (P (j : Int)) (R j)) ∧ ∀ j : Nat, j < 6 → RV wh (R j)
def updR (R : Nat → RD) (i : Nat) (r : RD) : Nat → RD := fun j => if j = i then r else R j
def FM (w w' : e_W) (y n : Nat) : Prop := ∀ q, q < n → q < y ∨ y + 4 ≤ q → w' q = w q
theorem RW.to {w w' : e_W} {y Z : Nat} {o : Option Nat} {p lo : Int} {A : Int → Int} (h : RW w y o Z p lo A) (hk : ∀ q e, y + 3 < q → w q = some e → w' q = some e) : RW w' y o Z p lo A := by
  obtain ⟨a, f, h1, h2, h3, h4, h5⟩ := h
  exact ⟨a, f, h1, h2, hk a _ h2 h3, h4, h5⟩
theorem MD.to {w w' : e_W} {y wh : Nat} {o1 o2 : Option Nat} {r : RD} (h : MD w y wh o1 o2 r) (hk : ∀ q e, y + 3 < q → w q = some e → w' q = some e) : MD w' y wh o1 o2 r := by
  rcases h with h | ⟨h1, h2, h3⟩
  · exact Or.inl h
  · exact Or.inr ⟨h1, h2.to hk, h3.imp id (fun h => ⟨h.1, h.2.to hk⟩)⟩
theorem MD.dg {w : e_W} {y wh : Nat} {o1 o2 : Option Nat} {r : RD} (h : MD w y wh o1 o2 r) : -1 ≤ r.dg ∧ r.dg ≤ 6 := by
  rcases h with h | h <;> omega
theorem MD.hp {w : e_W} {y wh : Nat} {o1 o2 : Option Nat} {r : RD} (h : MD w y wh o1 o2 r) : r.hp = 0 ∨ r.hp = 1 := by
  rcases h with h | ⟨_, _, h | h⟩
  · exact Or.inl h.2.2.2
  · exact Or.inl h.1
  · exact Or.inr h.1
theorem MD.row {w : e_W} {y wh : Nat} {o1 o2 : Option Nat} {r : RD} (h : MD w y wh o1 o2 r) (he : ¬ r.dg = -1) : RW w y o1 ((ho wh).toNat + 1) (pr wh) 1 r.A := by
  rcases h with h | h
  · exact absurd h.1 he
  · exact h.2.1
theorem MD.pw {w : e_W} {y wh : Nat} {o1 o2 : Option Nat} {r : RD} (h : MD w y wh o1 o2 r) : (r.hp = 0 ∧ o2 = none) ∨ (r.hp = 1 ∧ RW w y o2 (r.dg.toNat + 1) (pr wh) 0 r.E ∧ 0 ≤ r.dg) := by
  rcases h with h | ⟨h1, _, h | h⟩
  · exact Or.inl ⟨h.2.2.2, h.2.2.1⟩
  · exact Or.inl h
  · exact Or.inr ⟨h.1, h.2, h1.1⟩
theorem MW.kb {w w' : e_W} {y wh n : Nat} {kn t : Int} {R : Nat → RD} (h : MW w y wh kn t R) (hdom : ∀ q e, w q = some e → q < n) (hk : KB w w' n) : MW w' y wh kn t R := by
  obtain ⟨hY, hwh, ⟨G, hG, hGe⟩, ⟨S, P, hS, hP, hMD⟩, hRV⟩ := h
  have hg : ∀ q e, w q = some e → w' q = some e := fun q e he => by rw [hk q (hdom q e he)]; exact he
  exact ⟨hg _ _ hY, hwh, ⟨G, hg _ _ hG, hGe⟩, ⟨S, P, hg _ _ hS, hg _ _ hP, fun j hj => (hMD j hj).to (fun q e _ he => hg q e he)⟩, hRV⟩
theorem MW.th {w : e_W} {y wh : Nat} {kn kn2 t t2 : Int} {R : Nat → RD} (h : MW w y wh kn t R) : MW (e_up w y (MO y t2 wh kn2)) y wh kn2 t2 R := by
  obtain ⟨hY, hwh, ⟨G, hG, hGe⟩, ⟨S, P, hS, hP, hMD⟩, hRV⟩ := h
  exact ⟨e_up_s, hwh, ⟨G, by rw [e_up_n (by omega)]; exact hG, hGe⟩, ⟨S, P, by rw [e_up_n (by omega)]; exact hS, by rw [e_up_n (by omega)]; exact hP, fun j hj => (hMD j hj).to (fun q e h1 he => by rw [e_up_n (by omega)]; exact he)⟩, hRV⟩
theorem e_up_same {w : e_W} {a : Nat} {c : e_C} (h : w a = some c) : e_up w a c = w := by
  funext q
  unfold e_up
  split
  · rename_i e; rw [e, h]
  · rfl
theorem FM.rf {w : e_W} {y n : Nat} : FM w w y n := fun _ _ _ => rfl
theorem FM.kb {w w1 w2 : e_W} {y n n1 : Nat} (h : FM w w1 y n) (hn : n ≤ n1) (h2 : KB w1 w2 n1) : FM w w2 y n := fun q h1 h3 => (h2 q (by omega)).trans (h q h1 h3)
theorem FM.tr {w w1 w2 : e_W} {y n n1 : Nat} (h : FM w w1 y n) (hn : n ≤ n1) (h2 : FM w1 w2 y n1) : FM w w2 y n := fun q h1 h3 => (h2 q (by omega) h3).trans (h q h1 h3)
theorem FM.th {w : e_W} {y n : Nat} {c : e_C} : FM w (e_up w y c) y n := fun q h1 h3 => e_up_n (by omega)
theorem FM.of {w w' : e_W} {y n : Nat} (h : KB w w' n) : FM w w' y n := fun q h1 _ => h q h1
theorem MW.rgA {w : e_W} {y wh : Nat} {kn t : Int} {R : Nat → RD} (h : MW w y wh kn t R) {i : Nat} (hi : i < 6) {j : Int} (h1 : 1 ≤ j) (h2 : j < 8) : -1 ≤ (R i).A j ∧ (R i).A j < pr wh := by
  have hp := pr_rg wh h.2.1
  rcases (h.2.2.2.2 i hi).1 j h1 h2 with q | q <;> omega
/-- the set, from the greatest holder down -/
def sfK (A : Int → Int) (M : Nat) : Nat → Int
  | 0 => 0
  | j + 1 => 2 * sfK A M j + (if A ((M : Int) - (j : Int)) ≠ -1 then 1 else 0)
theorem sfK_st (A : Int → Int) (M : Nat) : ∀ j, j ≤ M → sfK A M j * 2 ^ (M - j) + stK A (M - j) = stK A M := by
  intro j
  induction j with
  | zero => intro _; show 0 * _ + stK A (M - 0) = _; rw [Int.zero_mul, Nat.sub_zero, Int.zero_add]
  | succ j ih =>
    intro hj
    obtain ⟨m, hm⟩ : ∃ m, M - j = m + 1 := ⟨M - j - 1, by omega⟩
    have h1 := ih (by omega)
    rw [hm] at h1
    rw [show M - (j + 1) = m by omega]
    have e1 : stK A (m + 1) = stK A m + (if A ((m : Int) + 1) ≠ -1 then 2 ^ m else 0) := rfl
    have e2 : sfK A M (j + 1) = 2 * sfK A M j + (if A ((M : Int) - (j : Int)) ≠ -1 then 1 else 0) := rfl
    have e3 : (M : Int) - (j : Int) = (m : Int) + 1 := by omega
    rw [e1, Int.pow_succ] at h1
    rw [e2, e3, ← h1, Int.add_mul]
    have e4 : sfK A M j * (2 ^ m * 2) = 2 * sfK A M j * 2 ^ m := by rw [Int.mul_comm (2 ^ m : Int) 2, ← Int.mul_assoc, Int.mul_comm (sfK A M j) 2]
    rw [e4]
    split
    · rw [Int.one_mul]; omega
    · rw [Int.zero_mul]; omega
theorem sfK_rg (A : Int → Int) (M : Nat) (j : Nat) : 0 ≤ sfK A M j ∧ sfK A M j < 2 ^ j := by
  induction j with
  | zero => unfold sfK; decide
  | succ j ih =>
    unfold sfK
    rw [Int.pow_succ]
    split <;> omega
theorem stK_top {A : Int → Int} {M : Nat} (h : ∀ j : Int, M < j → j < 8 → A j = -1) : ∀ k, M ≤ k → k ≤ 7 → stK A k = stK A M := by
  intro k
  induction k with
  | zero => intro h1 _; rw [show M = 0 by omega]
  | succ k ih =>
    intro h1 h2
    by_cases e : M = k + 1
    · rw [e]
    · have e1 : stK A (k + 1) = stK A k + (if A ((k : Int) + 1) ≠ -1 then 2 ^ k else 0) := rfl
      rw [e1, ih (by omega) (by omega), if_neg (fun q => q (h _ (by omega) (by omega))), Int.add_zero]
theorem RV.top {wh : Nat} (hwh : wh < 7) {r : RD} (h : RV wh r) : sfK r.A (ho wh).toNat (ho wh).toNat = st7 r.A := by
  have hho := ho_rg wh hwh
  have h1 := sfK_st r.A (ho wh).toNat (ho wh).toNat (Nat.le_refl _)
  rw [Nat.sub_self] at h1
  have h2 : stK r.A 7 = stK r.A (ho wh).toNat := stK_top (fun j h3 h4 => by
    rcases h.1 j (by omega) h4 with q | q
    · exact q
    · omega) 7 (by omega) (by omega)
  have h3 : stK r.A 0 = 0 := rfl
  rw [h3, Int.pow_zero, Int.mul_one, Int.add_zero] at h1
  rw [h1]
  exact h2.symm
theorem st7_emp {A : Int → Int} (h : ∀ j : Int, 1 ≤ j → j < 8 → A j = -1) : st7 A = 0 := stK_top (M := 0) (fun j h1 h2 => h j (by omega) h2) 7 (by omega) (by omega)
section RV
variable {K : e_K} {p : Program} {l : Launch} {e : Env} {d mc : Nat} {s : State} {m : MethodId} {args : Array Value} {below : List Frame} {meth : Method} {c : Code} {cc : ByteArray} {nL : Nat} {ret : Option FieldType} {own : String} {post : Option Value → e_W → Nat → Prop} {px : String → e_W → Nat → Prop} {pc : Nat} {L : List (Nat × Value)} {st : List Value} {w : e_W} {n k : Nat}
theorem e_aaldr (F : e_F K p l s m args meth c cc nL ret own) {a Z b : Nat} {f : Int → Option Nat} {i : Int} (hw : w a = some (e_ra Z f)) (h0 : 0 ≤ i) (hN : i < Z) (hb : Z < 2147483648) (hv : f i = some b) (hd : decode cc pc = .ok (.aaload, 1)) (kk : e_V K p l e d mc s m args below meth c nL post px (pc + 1) (L) (.ref b :: st) (w) (n) (k)) : e_V K p l e d mc s m args below meth c nL post px (pc) (L) (.int (eI i) :: .ref a :: st) (w) (n) (k) := e_aaldR F hw h0 hN hb hd (by rw [hv]; exact kk)
theorem e_aaldn (F : e_F K p l s m args meth c cc nL ret own) {a Z : Nat} {f : Int → Option Nat} {i : Int} (hw : w a = some (e_ra Z f)) (h0 : 0 ≤ i) (hN : i < Z) (hb : Z < 2147483648) (hv : f i = none) (hd : decode cc pc = .ok (.aaload, 1)) (kk : e_V K p l e d mc s m args below meth c nL post px (pc + 1) (L) (.null :: st) (w) (n) (k)) : e_V K p l e d mc s m args below meth c nL post px (pc) (L) (.int (eI i) :: .ref a :: st) (w) (n) (k) := e_aaldR F hw h0 hN hb hd (by rw [hv]; exact kk)
end RV
set_option maxHeartbeats 4000000 in
set_option maxRecDepth 100000 in
theorem c_X5_refuse {K : e_K} {l : Launch} {w : e_W} {n : Nat} {y wh : Nat} {t kn b9 k9 : Int} (hY : w y = some (MO y t wh kn)) (ht0 : 0 ≤ t) (ht1 : t ≤ 2) (hb : b9 = 0 ∨ b9 = 1) (hk0 : 1 ≤ k9) (hk1 : k9 ≤ 2) : e_Met K l yX5_refuse (Cond.code yX5_refuse cX5_refuse 3 (Option.some .boolean) :: e_TB) (0) (0) [.ref y, .int (eI b9), .int (eI k9)] w n (fun r w' n' => r = some (.int (eI (b01 (0 < (if b9 = 1 ∧ t = 0 then k9 else t))))) ∧ n' = n ∧ w' = e_up w y (MO y (if b9 = 1 ∧ t = 0 then k9 else t) wh kn)) (e_px0) := by
  refine e_ofV rfl (Nat.le_of_ble_eq_true rfl) ?_
  intro P9 E9 S9 M9 A9 B9 T9 C9 F hnm
  refine e_iload_n F dX5_refuse_0 rfl ?_
  refine e_if_eq F 16 dX5_refuse_1 (by decide) (by rcases hb with h | h <;> rw [h] <;> decide) (fun c_1 => ?_) (fun c_1 => ?_)
  · refine e_aload_n F dX5_refuse_16 rfl ?_
    refine e_get (ci := 5) (fi := 0) (q := (RX5, TX5, 6)) F (by first | exact e_up_s | exact hY) rfl (by decide) w_fl_RX5_25 (by rfl) dX5_refuse_17 ?_
    refine e_if_le F 27 dX5_refuse_20 (by decide) (⟨by omega, by omega⟩) (fun c_20 => ?_) (fun c_20 => ?_)
    · refine e_iconst F dX5_refuse_27 ?_
      refine e_zret F rfl (by omega) (by omega) ?_ dX5_refuse_28
      first
      | (exfalso; omega)
      | (refine ⟨?_, rfl, ?_⟩
         · rw [if_pos (show b9 = 1 ∧ t = 0 by omega)]; first | rw [b01_t (by omega)] | rw [b01_f (by omega)]
         · rw [if_pos (show b9 = 1 ∧ t = 0 by omega)]; rfl)
      | (refine ⟨?_, rfl, ?_⟩
         · rw [if_neg (by omega)]; first | rw [b01_t (by omega)] | rw [b01_f (by omega)]
         · rw [if_neg (by omega), e_up_same hY])
    · refine e_iconst F dX5_refuse_23 ?_
      refine e_goto F 28 dX5_refuse_24 (by decide) ?_
      refine e_zret F rfl (by omega) (by omega) ?_ dX5_refuse_28
      first
      | (exfalso; omega)
      | (refine ⟨?_, rfl, ?_⟩
         · rw [if_pos (show b9 = 1 ∧ t = 0 by omega)]; first | rw [b01_t (by omega)] | rw [b01_f (by omega)]
         · rw [if_pos (show b9 = 1 ∧ t = 0 by omega)]; rfl)
      | (refine ⟨?_, rfl, ?_⟩
         · rw [if_neg (by omega)]; first | rw [b01_t (by omega)] | rw [b01_f (by omega)]
         · rw [if_neg (by omega), e_up_same hY])
  · refine e_aload_n F dX5_refuse_4 rfl ?_
    refine e_get (ci := 5) (fi := 0) (q := (RX5, TX5, 6)) F hY rfl (by decide) w_fl_RX5_25 (by rfl) dX5_refuse_5 ?_
    refine e_if_ne F 16 dX5_refuse_8 (by decide) (⟨by omega, by omega⟩) (fun c_8 => ?_) (fun c_8 => ?_)
    · refine e_aload_n F dX5_refuse_16 rfl ?_
      refine e_get (ci := 5) (fi := 0) (q := (RX5, TX5, 6)) F (by first | exact e_up_s | exact hY) rfl (by decide) w_fl_RX5_25 (by rfl) dX5_refuse_17 ?_
      refine e_if_le F 27 dX5_refuse_20 (by decide) (⟨by omega, by omega⟩) (fun c_20 => ?_) (fun c_20 => ?_)
      · refine e_iconst F dX5_refuse_27 ?_
        refine e_zret F rfl (by omega) (by omega) ?_ dX5_refuse_28
        first
        | (exfalso; omega)
        | (refine ⟨?_, rfl, ?_⟩
           · rw [if_pos (show b9 = 1 ∧ t = 0 by omega)]; first | rw [b01_t (by omega)] | rw [b01_f (by omega)]
           · rw [if_pos (show b9 = 1 ∧ t = 0 by omega)]; rfl)
        | (refine ⟨?_, rfl, ?_⟩
           · rw [if_neg (by omega)]; first | rw [b01_t (by omega)] | rw [b01_f (by omega)]
           · rw [if_neg (by omega), e_up_same hY])
      · refine e_iconst F dX5_refuse_23 ?_
        refine e_goto F 28 dX5_refuse_24 (by decide) ?_
        refine e_zret F rfl (by omega) (by omega) ?_ dX5_refuse_28
        first
        | (exfalso; omega)
        | (refine ⟨?_, rfl, ?_⟩
           · rw [if_pos (show b9 = 1 ∧ t = 0 by omega)]; first | rw [b01_t (by omega)] | rw [b01_f (by omega)]
           · rw [if_pos (show b9 = 1 ∧ t = 0 by omega)]; rfl)
        | (refine ⟨?_, rfl, ?_⟩
           · rw [if_neg (by omega)]; first | rw [b01_t (by omega)] | rw [b01_f (by omega)]
           · rw [if_neg (by omega), e_up_same hY])
    · refine e_aload_n F dX5_refuse_11 rfl ?_
      refine e_iload_n F dX5_refuse_12 rfl ?_
      refine e_set (host := "") (ci := 5) (fi := 0) (q := (RX5, TX5, 6)) F hY rfl (by decide) w_fl_RX5_25 rfl (by rfl) (by rfl) (Nat.le_of_ble_eq_true rfl) dX5_refuse_13 ?_
      refine e_aload_n F dX5_refuse_16 rfl ?_
      refine e_get (ci := 5) (fi := 0) (q := (RX5, TX5, 6)) F (by first | exact e_up_s | exact hY) rfl (by decide) w_fl_RX5_25 (by rfl) dX5_refuse_17 ?_
      refine e_if_le F 27 dX5_refuse_20 (by decide) (⟨by omega, by omega⟩) (fun c_20 => ?_) (fun c_20 => ?_)
      · refine e_iconst F dX5_refuse_27 ?_
        refine e_zret F rfl (by omega) (by omega) ?_ dX5_refuse_28
        first
        | (exfalso; omega)
        | (refine ⟨?_, rfl, ?_⟩
           · rw [if_pos (show b9 = 1 ∧ t = 0 by omega)]; first | rw [b01_t (by omega)] | rw [b01_f (by omega)]
           · rw [if_pos (show b9 = 1 ∧ t = 0 by omega)]; rfl)
        | (refine ⟨?_, rfl, ?_⟩
           · rw [if_neg (by omega)]; first | rw [b01_t (by omega)] | rw [b01_f (by omega)]
           · rw [if_neg (by omega), e_up_same hY])
      · refine e_iconst F dX5_refuse_23 ?_
        refine e_goto F 28 dX5_refuse_24 (by decide) ?_
        refine e_zret F rfl (by omega) (by omega) ?_ dX5_refuse_28
        first
        | (exfalso; omega)
        | (refine ⟨?_, rfl, ?_⟩
           · rw [if_pos (show b9 = 1 ∧ t = 0 by omega)]; first | rw [b01_t (by omega)] | rw [b01_f (by omega)]
           · rw [if_pos (show b9 = 1 ∧ t = 0 by omega)]; rfl)
        | (refine ⟨?_, rfl, ?_⟩
           · rw [if_neg (by omega)]; first | rw [b01_t (by omega)] | rw [b01_f (by omega)]
           · rw [if_neg (by omega), e_up_same hY])
set_option maxHeartbeats 4000000 in
set_option maxRecDepth 100000 in
theorem c_X5_start {K : e_K} {l : Launch} {w : e_W} {n : Nat} {y wh : Nat} {t kn b9 k9 : Int} (hY : w y = some (MO y t wh kn)) (hb : b9 = 0 ∨ b9 = 1) (hk0 : 1 ≤ k9) (hk1 : k9 ≤ 2) : e_Met K l yX5_start (Cond.code yX5_start cX5_start 3 (Option.some .boolean) :: e_TB) (1) (0) [.ref y, .int (eI b9), .int (eI k9)] w n (fun r w' n' => r = some (.int (eI b9)) ∧ n' = n ∧ w' = e_up w y (MO y (if b9 = 1 then k9 else 0) wh kn)) (e_px0) := by
  refine e_ofV rfl (Nat.le_of_ble_eq_true rfl) ?_
  intro P9 E9 S9 M9 A9 B9 T9 C9 F hnm
  refine e_aload_n F dX5_start_0 rfl ?_
  refine e_iconst F dX5_start_1 ?_
  refine e_set (host := "") (ci := 5) (fi := 0) (q := (RX5, TX5, 6)) F hY rfl (by decide) w_fl_RX5_25 rfl (by rfl) (by rfl) (Nat.le_of_ble_eq_true rfl) dX5_start_2 ?_
  refine e_aload_n F dX5_start_5 rfl ?_
  refine e_iload_n F dX5_start_6 rfl ?_
  refine e_iload_n F dX5_start_7 rfl ?_
  refine e_callVV F u_X5_refuse (by rfl) (c_X5_refuse (t := 0) (wh := wh) (kn := kn) (y := y) e_up_s (by decide) (by decide) hb hk0 hk1) e_up_s rfl rfl w_ml_RX5_28 dX5_start_8 (by rfl) (Nat.le_of_ble_eq_true rfl) (by decide) (by omega) (fun _ _ _ h _ => False.elim h) (fun r_8 w_8 n_8 h_8 hn_8 => ?_)
  obtain ⟨rfl, en_8, ew_8⟩ := h_8
  rw [en_8, ew_8]
  refine e_zret F rfl (by omega) (b01_or _) ?_ dX5_start_11
  refine ⟨?_, rfl, ?_⟩
  · rcases hb with h | h
    · rw [if_neg (by omega), b01_f (by omega), h]
    · rw [if_pos (by omega), b01_t (by omega), h]
  · rw [e_up_up]
    rcases hb with h | h
    · rw [if_neg (by omega), if_neg (by omega)]
    · rw [if_pos (by omega), if_pos (by omega)]
set_option maxHeartbeats 4000000 in
set_option maxRecDepth 100000 in
theorem c_X5_isEmpty {K : e_K} {l : Launch} {w : e_W} {n : Nat} {y wh : Nat} {t kn : Int} {R : Nat → RD} (hM : MW w y wh kn t R) {i : Nat} (hi : i < 6) : e_Met K l yX5_isEmpty (Cond.code yX5_isEmpty cX5_isEmpty 2 (Option.some .boolean) :: e_TB) (0) (0) [.ref y, .int (eI (i : Int))] w n (fun r w' n' => r = some (.int (eI (b01 ((R i).dg = -1)))) ∧ w' = w ∧ n' = n) (e_px0) := by
  refine e_ofV rfl (Nat.le_of_ble_eq_true rfl) ?_
  intro P9 E9 S9 M9 A9 B9 T9 C9 F hnm
  obtain ⟨hY, hwh, ⟨G, hG, hGe⟩, ⟨SS, PP, hS, hP, hMD⟩, hRV⟩ := id hM
  have hp := pr_rg wh hwh
  have hho := ho_rg wh hwh
  have hdg := MD.dg (hMD i hi)
  have hGi := hGe i hi
  have hRi := hRV i hi
  refine e_aload_n F dX5_isEmpty_0 rfl ?_
  refine e_get (ci := 5) (fi := 3) (q := (RX5, TX5, 6)) F hY rfl (by decide) w_fl_RX5_13 (by rfl) dX5_isEmpty_1 ?_
  refine e_iload_n F dX5_isEmpty_4 rfl ?_
  refine e_iald F hG (by omega) (by omega) (by first | decide | omega) dX5_isEmpty_5 ?_
  rw [hGi]
  refine e_iconst F dX5_isEmpty_6 ?_
  refine e_icmp_ne F 14 dX5_isEmpty_7 (by decide) (⟨by omega, by omega⟩) (⟨by omega, by omega⟩) (fun c_7 => ?_) (fun c_7 => ?_)
  · refine e_iconst F dX5_isEmpty_14 ?_
    refine e_zret F rfl (by omega) (by omega) ?_ dX5_isEmpty_15
    refine ⟨?_, rfl, rfl⟩
    first | rw [b01_t (by omega)] | rw [b01_f (by omega)]
  · refine e_iconst F dX5_isEmpty_10 ?_
    refine e_goto F 15 dX5_isEmpty_11 (by decide) ?_
    refine e_zret F rfl (by omega) (by omega) ?_ dX5_isEmpty_15
    refine ⟨?_, rfl, rfl⟩
    first | rw [b01_t (by omega)] | rw [b01_f (by omega)]
theorem pow_le7 {k : Nat} (h : k ≤ 7) : (2 : Int) ^ k ≤ 2 ^ 7 := by
  have h1 : (2 : Nat) ^ k ≤ 2 ^ 7 := Nat.pow_le_pow_right (by omega) h
  have h2 : (((2 : Nat) ^ k : Nat) : Int) ≤ (((2 : Nat) ^ 7 : Nat) : Int) := by exact_mod_cast h1
  rw [Int.natCast_pow, Int.natCast_pow] at h2
  exact h2
set_option maxHeartbeats 4000000 in
set_option maxRecDepth 100000 in
theorem c_X5_setOf {K : e_K} {l : Launch} {w : e_W} {n : Nat} {y wh : Nat} {t kn : Int} {R : Nat → RD} (hM : MW w y wh kn t R) {i : Nat} (hi : i < 6) : e_Met K l yX5_setOf (Cond.code yX5_setOf cX5_setOf 4 (Option.some .int) :: e_TB) (2) (0) [.ref y, .int (eI (i : Int))] w n (fun r w' n' => r = some (.int (eI (st7 (R i).A))) ∧ w' = w ∧ n' = n) (e_px0) := by
  refine e_ofV rfl (Nat.le_of_ble_eq_true rfl) ?_
  intro P9 E9 S9 M9 A9 B9 T9 C9 F hnm
  obtain ⟨hY, hwh, ⟨G, hG, hGe⟩, ⟨SS, PP, hS, hP, hMD⟩, hRV⟩ := id hM
  have hp := pr_rg wh hwh
  have hho := ho_rg wh hwh
  have hdg := MD.dg (hMD i hi)
  have hGi := hGe i hi
  have hRi := hRV i hi
  have lp : ∀ (N j : Nat), 8 - j < N → (j ≤ (ho wh).toNat) → e_V K P9 l E9 (2) (0) S9 M9 A9 B9 T9 C9 4 (fun r w' n' => r = some (.int (eI (st7 (R i).A))) ∧ w' = w ∧ n' = n) (e_px0) 7 [(0, .ref y), (1, .int (eI (i : Int))), (2, .int (eI (sfK (R i).A (ho wh).toNat j))), (3, .int (eI ((((ho wh).toNat : Nat) : Int) - (j : Int))))] [] w n (0) := by
    intro N
    induction N with
    | zero => intro j hN; exact absurd hN (Nat.not_lt_zero _)
    | succ N ih =>
      intro j hN hj
      have hsf := sfK_rg (R i).A (ho wh).toNat j
      have hpw : (2 : Int) ^ j ≤ 2 ^ 7 := pow_le7 (by omega)
      refine e_iload_n F dX5_setOf_7 rfl ?_
      refine e_if_le F 50 dX5_setOf_8 (by decide) (⟨by omega, by omega⟩) (fun c_8 => ?_) (fun c_8 => ?_)
      ·
        obtain rfl : j = (ho wh).toNat := by omega
        refine e_iload_n F dX5_setOf_50 rfl ?_
        refine e_iret F rfl (by omega) ?_ dX5_setOf_51
        exact ⟨by rw [hRi.top hwh], rfl, rfl⟩
      · refine e_iconst F dX5_setOf_11 ?_
        refine e_iload_n F dX5_setOf_12 rfl ?_
        refine e_imul F dX5_setOf_13 ?_
        refine e_aload_n F dX5_setOf_14 rfl ?_
        refine e_iload_n F dX5_setOf_15 rfl ?_
        refine e_callVV F u_X5_isEmpty (by rfl) (c_X5_isEmpty hM (i := i) hi) hY rfl rfl w_ml_RX5_113 dX5_setOf_16 (by rfl) (Nat.le_of_ble_eq_true rfl) (by decide) (by omega) (fun _ _ _ h _ => False.elim h) (fun r_16 w_16 n_16 h_16 hn_16 => ?_)
        obtain ⟨rfl, ew_16, en_16⟩ := h_16
        rw [ew_16, en_16]
        refine e_if_ne F 38 dX5_setOf_19 (by decide) (b01_r _) (fun c_19 => ?_) (fun c_19 => ?_)
        ·
          rw [ne_eq, b01_0, Classical.not_not] at c_19
          refine e_iconst F dX5_setOf_38 ?_
          refine e_callSS F u_X5_one (by rfl) (c_X5_one (b := _) (by first | exact Or.inl rfl | exact Or.inr rfl)) w_ml_RX5_80 dX5_setOf_39 (by rfl) (Nat.le_of_ble_eq_true rfl) (by decide) (by omega) (fun _ _ _ h _ => False.elim h) (fun r_39 w_39 n_39 h_39 hn_39 => ?_)
          obtain ⟨rfl, ew_39, en_39⟩ := h_39
          rw [ew_39, en_39]
          refine e_iadd F dX5_setOf_42 ?_
          refine e_istore_n F dX5_setOf_43 (by decide) ?_
          refine e_iinc F dX5_setOf_44 rfl (by decide) ?_
          refine e_goto F 7 dX5_setOf_47 (by decide) ?_
          first
          | (refine e_go (ih (j + 1) (by omega) (by omega)) ?_
             have e1 : sfK (R i).A (ho wh).toNat (j + 1) = 2 * sfK (R i).A (ho wh).toNat j + 1 := by
               show 2 * sfK (R i).A (ho wh).toNat j + (if _ then _ else _) = _
               rw [if_pos c_31]
             rw [e1, show ((((ho wh).toNat : Nat) : Int) - ((j + 1 : Nat) : Int)) = (((ho wh).toNat : Nat) : Int) - (j : Int) + -1 by omega]
             exact (And.intro rfl (And.intro rfl (And.intro rfl (And.intro rfl (trivial))))))
          | (refine e_go (ih (j + 1) (by omega) (by omega)) ?_
             have e1 : sfK (R i).A (ho wh).toNat (j + 1) = 2 * sfK (R i).A (ho wh).toNat j + 0 := by
               show 2 * sfK (R i).A (ho wh).toNat j + (if _ then _ else _) = _
               rw [if_neg (fun q => q (hRi.2.2 c_19 _ (by omega) (by omega)))]
             rw [e1, show ((((ho wh).toNat : Nat) : Int) - ((j + 1 : Nat) : Int)) = (((ho wh).toNat : Nat) : Int) - (j : Int) + -1 by omega]
             exact (And.intro rfl (And.intro rfl (And.intro rfl (And.intro rfl (trivial))))))
          | (refine e_go (ih (j + 1) (by omega) (by omega)) ?_
             have e1 : sfK (R i).A (ho wh).toNat (j + 1) = 2 * sfK (R i).A (ho wh).toNat j + 0 := by
               show 2 * sfK (R i).A (ho wh).toNat j + (if _ then _ else _) = _
               rw [if_neg (fun q => q c_31)]
             rw [e1, show ((((ho wh).toNat : Nat) : Int) - ((j + 1 : Nat) : Int)) = (((ho wh).toNat : Nat) : Int) - (j : Int) + -1 by omega]
             exact (And.intro rfl (And.intro rfl (And.intro rfl (And.intro rfl (trivial))))))
        ·
          rw [b01_0] at c_19
          obtain ⟨a, f, hSa, hya, hwa, hfr, hfA⟩ := MD.row (hMD i hi) c_19
          refine e_aload_n F dX5_setOf_22 rfl ?_
          refine e_get (ci := 5) (fi := 4) (q := (RX5, TX5, 6)) F hY rfl (by decide) w_fl_RX5_18 (by rfl) dX5_setOf_23 ?_
          refine e_iload_n F dX5_setOf_26 rfl ?_
          refine e_aaldr F hS (by omega) (by omega) (by decide) (hSa) dX5_setOf_27 ?_
          refine e_iload_n F dX5_setOf_28 rfl ?_
          refine e_iald F hwa (by omega) (by omega) (by first | decide | omega) dX5_setOf_29 ?_
          rw [hfA _ (by omega) (by omega)]
          have hAr := hM.rgA hi (j := (((ho wh).toNat : Nat) : Int) - (j : Int)) (by omega) (by omega)
          refine e_iconst F dX5_setOf_30 ?_
          refine e_icmp_eq F 38 dX5_setOf_31 (by decide) (⟨by omega, by omega⟩) (⟨by omega, by omega⟩) (fun c_31 => ?_) (fun c_31 => ?_)
          · refine e_iconst F dX5_setOf_38 ?_
            refine e_callSS F u_X5_one (by rfl) (c_X5_one (b := _) (by first | exact Or.inl rfl | exact Or.inr rfl)) w_ml_RX5_80 dX5_setOf_39 (by rfl) (Nat.le_of_ble_eq_true rfl) (by decide) (by omega) (fun _ _ _ h _ => False.elim h) (fun r_39 w_39 n_39 h_39 hn_39 => ?_)
            obtain ⟨rfl, ew_39, en_39⟩ := h_39
            rw [ew_39, en_39]
            refine e_iadd F dX5_setOf_42 ?_
            refine e_istore_n F dX5_setOf_43 (by decide) ?_
            refine e_iinc F dX5_setOf_44 rfl (by decide) ?_
            refine e_goto F 7 dX5_setOf_47 (by decide) ?_
            first
            | (refine e_go (ih (j + 1) (by omega) (by omega)) ?_
               have e1 : sfK (R i).A (ho wh).toNat (j + 1) = 2 * sfK (R i).A (ho wh).toNat j + 1 := by
                 show 2 * sfK (R i).A (ho wh).toNat j + (if _ then _ else _) = _
                 rw [if_pos c_31]
               rw [e1, show ((((ho wh).toNat : Nat) : Int) - ((j + 1 : Nat) : Int)) = (((ho wh).toNat : Nat) : Int) - (j : Int) + -1 by omega]
               exact (And.intro rfl (And.intro rfl (And.intro rfl (And.intro rfl (trivial))))))
            | (refine e_go (ih (j + 1) (by omega) (by omega)) ?_
               have e1 : sfK (R i).A (ho wh).toNat (j + 1) = 2 * sfK (R i).A (ho wh).toNat j + 0 := by
                 show 2 * sfK (R i).A (ho wh).toNat j + (if _ then _ else _) = _
                 rw [if_neg (fun q => q (hRi.2.2 c_19 _ (by omega) (by omega)))]
               rw [e1, show ((((ho wh).toNat : Nat) : Int) - ((j + 1 : Nat) : Int)) = (((ho wh).toNat : Nat) : Int) - (j : Int) + -1 by omega]
               exact (And.intro rfl (And.intro rfl (And.intro rfl (And.intro rfl (trivial))))))
            | (refine e_go (ih (j + 1) (by omega) (by omega)) ?_
               have e1 : sfK (R i).A (ho wh).toNat (j + 1) = 2 * sfK (R i).A (ho wh).toNat j + 0 := by
                 show 2 * sfK (R i).A (ho wh).toNat j + (if _ then _ else _) = _
                 rw [if_neg (fun q => q c_31)]
               rw [e1, show ((((ho wh).toNat : Nat) : Int) - ((j + 1 : Nat) : Int)) = (((ho wh).toNat : Nat) : Int) - (j : Int) + -1 by omega]
               exact (And.intro rfl (And.intro rfl (And.intro rfl (And.intro rfl (trivial))))))
          · refine e_iconst F dX5_setOf_34 ?_
            refine e_goto F 39 dX5_setOf_35 (by decide) ?_
            refine e_callSS F u_X5_one (by rfl) (c_X5_one (b := _) (by first | exact Or.inl rfl | exact Or.inr rfl)) w_ml_RX5_80 dX5_setOf_39 (by rfl) (Nat.le_of_ble_eq_true rfl) (by decide) (by omega) (fun _ _ _ h _ => False.elim h) (fun r_39 w_39 n_39 h_39 hn_39 => ?_)
            obtain ⟨rfl, ew_39, en_39⟩ := h_39
            rw [ew_39, en_39]
            refine e_iadd F dX5_setOf_42 ?_
            refine e_istore_n F dX5_setOf_43 (by decide) ?_
            refine e_iinc F dX5_setOf_44 rfl (by decide) ?_
            refine e_goto F 7 dX5_setOf_47 (by decide) ?_
            first
            | (refine e_go (ih (j + 1) (by omega) (by omega)) ?_
               have e1 : sfK (R i).A (ho wh).toNat (j + 1) = 2 * sfK (R i).A (ho wh).toNat j + 1 := by
                 show 2 * sfK (R i).A (ho wh).toNat j + (if _ then _ else _) = _
                 rw [if_pos c_31]
               rw [e1, show ((((ho wh).toNat : Nat) : Int) - ((j + 1 : Nat) : Int)) = (((ho wh).toNat : Nat) : Int) - (j : Int) + -1 by omega]
               exact (And.intro rfl (And.intro rfl (And.intro rfl (And.intro rfl (trivial))))))
            | (refine e_go (ih (j + 1) (by omega) (by omega)) ?_
               have e1 : sfK (R i).A (ho wh).toNat (j + 1) = 2 * sfK (R i).A (ho wh).toNat j + 0 := by
                 show 2 * sfK (R i).A (ho wh).toNat j + (if _ then _ else _) = _
                 rw [if_neg (fun q => q (hRi.2.2 c_19 _ (by omega) (by omega)))]
               rw [e1, show ((((ho wh).toNat : Nat) : Int) - ((j + 1 : Nat) : Int)) = (((ho wh).toNat : Nat) : Int) - (j : Int) + -1 by omega]
               exact (And.intro rfl (And.intro rfl (And.intro rfl (And.intro rfl (trivial))))))
            | (refine e_go (ih (j + 1) (by omega) (by omega)) ?_
               have e1 : sfK (R i).A (ho wh).toNat (j + 1) = 2 * sfK (R i).A (ho wh).toNat j + 0 := by
                 show 2 * sfK (R i).A (ho wh).toNat j + (if _ then _ else _) = _
                 rw [if_neg (fun q => q c_31)]
               rw [e1, show ((((ho wh).toNat : Nat) : Int) - ((j + 1 : Nat) : Int)) = (((ho wh).toNat : Nat) : Int) - (j : Int) + -1 by omega]
               exact (And.intro rfl (And.intro rfl (And.intro rfl (And.intro rfl (trivial))))))
  refine e_iconst F dX5_setOf_0 ?_
  refine e_istore_n F dX5_setOf_1 (by decide) ?_
  refine e_aload_n F dX5_setOf_2 rfl ?_
  refine e_callVV F u_X5_holders (by rfl) (c_X5_holders hY hwh) hY rfl rfl w_ml_RX5_52 dX5_setOf_3 (by rfl) (Nat.le_of_ble_eq_true rfl) (by decide) (by omega) (fun _ _ _ h _ => False.elim h) (fun r_3 w_3 n_3 h_3 hn_3 => ?_)
  obtain ⟨rfl, ew_3, en_3⟩ := h_3
  rw [ew_3, en_3]
  refine e_istore_n F dX5_setOf_6 (by decide) ?_
  refine e_go (lp 9 0 (by omega) (by omega)) ?_
  rw [show ((((ho wh).toNat : Nat) : Int) - ((0 : Nat) : Int)) = ho wh by omega]
  exact (And.intro rfl (And.intro rfl (And.intro rfl (And.intro rfl (trivial)))))
end
-- 48.ask.lean.txt
section
/-! the reference: what its public methods stand on -/
def thB (set st : Int) : Nat → Bool
  | 0 => true
  | k + 1 => thB set st k && (!decide (hs set ((k : Int) + 1)) || decide (hs st ((k : Int) + 1)))
theorem thB_mono {set st : Int} {j M : Nat} (h : j ≤ M) (hM : thB set st M = true) : thB set st j = true := by
  induction M with
  | zero => rw [show j = 0 by omega]; rfl
  | succ M ih =>
    by_cases e : j = M + 1
    · rw [e]; exact hM
    · have h2 : (thB set st M && (!decide (hs set ((M : Int) + 1)) || decide (hs st ((M : Int) + 1)))) = true := hM
      exact ih (by omega) (by simp only [Bool.and_eq_true] at h2; exact h2.1)
theorem hiK_congr {P Q : Int → Int} (k : Nat) (h : ∀ j : Int, 0 ≤ j → j < k → P j = Q j) : hiK P k = hiK Q k := by
  induction k with
  | zero => rfl
  | succ k ih =>
    show (if P (k : Int) ≠ 0 then (k : Int) else hiK P k) = (if Q (k : Int) ≠ 0 then (k : Int) else hiK Q k)
    rw [ih (fun j h1 h2 => h j h1 (by omega)), h (k : Int) (by omega) (by omega)]
abbrev agD (wh : Nat) (r : RD) (set : Int) : Prop := hiK (trK wh set r.A (ho wh).toNat).1 7 ≤ r.dg
def foK (dg st : Int) : Nat → Int
  | 0 => 0
  | k + 1 => if hs st ((k : Int) + 1) ∧ bc (foK dg st k) ≤ dg then foK dg st k + 2 ^ k else foK dg st k
theorem foK_rg (dg st : Int) (k : Nat) : 0 ≤ foK dg st k ∧ foK dg st k < 2 ^ k := by
  induction k with
  | zero => unfold foK; decide
  | succ k ih =>
    unfold foK
    have hp : (0 : Int) < 2 ^ k := Int.pow_pos (by omega)
    rw [Int.pow_succ]
    split <;> omega
def foV (wh : Nat) (r : RD) : Int := if r.dg < bc (foK r.dg (st7 r.A) (ho wh).toNat) then foK r.dg (st7 r.A) (ho wh).toNat else 0
theorem foV_rg {wh : Nat} (hwh : wh < 7) (r : RD) : 0 ≤ foV wh r ∧ foV wh r < 128 := by
  have hho := ho_rg wh hwh
  have h1 := foK_rg r.dg (st7 r.A) (ho wh).toNat
  have h2 := pow_le7 (k := (ho wh).toNat) (by omega)
  have h3 : (2 : Int) ^ 7 = 128 := by decide
  unfold foV
  split <;> omega
def suK (wh : Nat) (r : RD) : Nat → Int
  | 0 => 0
  | k + 1 => if hs (st7 r.A) ((k : Int) + 1) ∧ agD wh r (st7 r.A - 2 ^ k) then suK wh r k + 2 ^ k else suK wh r k
theorem suK_rg (wh : Nat) (r : RD) (k : Nat) : 0 ≤ suK wh r k ∧ suK wh r k < 2 ^ k := by
  induction k with
  | zero => unfold suK; decide
  | succ k ih =>
    unfold suK
    have hp : (0 : Int) < 2 ^ k := Int.pow_pos (by omega)
    rw [Int.pow_succ]
    split <;> omega
def wrV (wh : Nat) (r : RD) : Int := if r.dg = -1 then -9 else if agD wh r (st7 r.A) then 0 else if bc (st7 r.A) < r.dg + 3 then -9 else ffd (suK wh r (ho wh).toNat) (ho wh) (ho wh).toNat
def stV (wh : Nat) (r : RD) (k : Int) : Int := if r.hp = 1 ∧ k ≤ r.dg then sl wh (r.E k) else -1
abbrev fiV (wh : Nat) (r : RD) (h : Int) : Prop := r.A h = hv (pr wh) h r.E ((r.dg.toNat + 1 : Nat) : Int) (r.dg.toNat + 1)
def puR (r : RD) (h v : Int) : RD := (r.dg, r.hp, e_fu r.A h v, r.E)
def emR (r : RD) : RD := (-1, 0, fun _ => -1, r.E)
def fdR (R : Nat → RD) : Nat → Int
  | 0 => 0
  | k + 1 => fdR R k + (if (R k).dg = -1 then 0 else 1)
theorem fdR_rg (R : Nat → RD) (k : Nat) : 0 ≤ fdR R k ∧ fdR R k ≤ k := by
  induction k with
  | zero => unfold fdR; decide
  | succ k ih => unfold fdR; split <;> omega
def hoR (wh : Nat) (kn : Int) (R : Nat → RD) (c : Int) : Int := if c = 5 then fdR R 6 else if c = 0 then (wh : Int) else if c = 1 then pr wh else if c = 2 then gr wh else if c = 3 then bs wh else if c = 4 then ho wh else kn
theorem MW.up {w w' : e_W} {y wh i : Nat} {kn t : Int} {R : Nat → RD} {G G2 : Int → Int} {SS PP S2 P2 : Int → Option Nat} {r : RD} (hwh : wh < 7) (hGe : ∀ j : Nat, j < 6 → G (j : Int) = (R j).dg) (hMD : ∀ j : Nat, j < 6 → MD w y wh (SS (j : Int)) (PP (j : Int)) (R j)) (hRV : ∀ j : Nat, j < 6 → RV wh (R j))
    (h0 : w' y = some (MO y t wh kn)) (h1 : w' (y + 1) = some (e_ia 6 G2)) (h2 : w' (y + 2) = some (e_ra 6 S2)) (h3 : w' (y + 3) = some (e_ra 6 P2)) (hk : ∀ q e, y + 3 < q → w q = some e → w' q = some e)
    (g1 : ∀ j : Nat, j < 6 → G2 (j : Int) = if j = i then r.dg else G (j : Int)) (g2 : ∀ j : Nat, j < 6 → j ≠ i → S2 (j : Int) = SS (j : Int)) (g3 : ∀ j : Nat, j < 6 → j ≠ i → P2 (j : Int) = PP (j : Int)) (hd : MD w' y wh (S2 (i : Int)) (P2 (i : Int)) r) (hr : RV wh r) : MW w' y wh kn t (updR R i r) := by
  refine ⟨h0, hwh, ⟨G2, h1, fun j hj => ?_⟩, ⟨S2, P2, h2, h3, fun j hj => ?_⟩, fun j hj => ?_⟩
  · rw [g1 j hj]
    unfold updR
    split
    · rfl
    · exact hGe j hj
  · unfold updR
    by_cases e : j = i
    · rw [if_pos e, e]; exact hd
    · rw [if_neg e, g2 j hj e, g3 j hj e]; exact (hMD j hj).to hk
  · unfold updR
    split
    · exact hr
    · exact hRV j hj
set_option maxHeartbeats 4000000 in
set_option maxRecDepth 100000 in
theorem c_X5_isThere {K : e_K} {l : Launch} {w : e_W} {n : Nat} {y wh : Nat} {t kn : Int} {R : Nat → RD} (hM : MW w y wh kn t R) {i : Nat} (hi : i < 6) {set : Int} (hs0 : 0 ≤ set) (hs1 : set < 128) : e_Met K l yX5_isThere (Cond.code yX5_isThere cX5_isThere 4 (Option.some .boolean) :: e_TB) (3) (0) [.ref y, .int (eI (i : Int)), .int (eI set)] w n (fun r w' n' => r = some (.int (eI (b01 (thB set (st7 (R i).A) (ho wh).toNat = true ∧ (R i).dg ≠ -1)))) ∧ w' = w ∧ n' = n) (e_px0) := by
  refine e_ofV rfl (Nat.le_of_ble_eq_true rfl) ?_
  intro P9 E9 S9 M9 A9 B9 T9 C9 F hnm
  obtain ⟨hY, hwh, ⟨G, hG, hGe⟩, ⟨SS, PP, hS, hP, hMD⟩, hRV⟩ := id hM
  have hp := pr_rg wh hwh
  have hho := ho_rg wh hwh
  have hdg := MD.dg (hMD i hi)
  have hGi := hGe i hi
  have hRi := hRV i hi
  have hst := st7_rg (R i).A
  have lp : ∀ (N : Nat) (k : Nat), (8 - k) < N → ((k : Int) ≤ ho wh ∧ thB set (st7 (R i).A) k = true) → e_V K P9 l E9 (3) (0) S9 M9 A9 B9 T9 C9 4 (fun r w' n' => r = some (.int (eI (b01 (thB set (st7 (R i).A) (ho wh).toNat = true ∧ (R i).dg ≠ -1)))) ∧ w' = w ∧ n' = n) (e_px0) 2 [(0, .ref y), (1, .int (eI (i : Int))), (2, .int (eI set)), (3, .int (eI ((k : Int) + 1)))] [] w n (0) := by
    intro N
    induction N with
    | zero => intro k hN; exact absurd hN (Nat.not_lt_zero _)
    | succ N ih =>
      intro k hN ⟨hk, hb⟩
      refine e_iload_n F dX5_isThere_2 rfl ?_
      refine e_aload_n F dX5_isThere_3 rfl ?_
      refine e_callVV F u_X5_holders (by rfl) (c_X5_holders hY hwh) hY rfl rfl w_ml_RX5_52 dX5_isThere_4 (by rfl) (Nat.le_of_ble_eq_true rfl) (by decide) (by omega) (fun _ _ _ h _ => False.elim h) (fun r_4 w_4 n_4 h_4 hn_4 => ?_)
      obtain ⟨rfl, ew_4, en_4⟩ := h_4
      rw [ew_4, en_4]
      refine e_icmp_gt F 38 dX5_isThere_7 (by decide) (⟨by omega, by omega⟩) (⟨by omega, by omega⟩) (fun c_7 => ?_) (fun c_7 => ?_)
      ·
        obtain rfl : k = (ho wh).toNat := by omega
        refine e_aload_n F dX5_isThere_38 rfl ?_
        refine e_iload_n F dX5_isThere_39 rfl ?_
        refine e_callVV F u_X5_isEmpty (by rfl) (c_X5_isEmpty hM (i := i) hi) hY rfl rfl w_ml_RX5_113 dX5_isThere_40 (by rfl) (Nat.le_of_ble_eq_true rfl) (by decide) (by omega) (fun _ _ _ h _ => False.elim h) (fun r_40 w_40 n_40 h_40 hn_40 => ?_)
        obtain ⟨rfl, ew_40, en_40⟩ := h_40
        rw [ew_40, en_40]
        refine e_if_ne F 50 dX5_isThere_43 (by decide) (b01_r _) (fun c_43 => ?_) (fun c_43 => ?_)
        ·
          rw [ne_eq, b01_0, Classical.not_not] at c_43
          refine e_iconst F dX5_isThere_50 ?_
          refine e_zret F rfl (by omega) (by omega) ?_ dX5_isThere_51
          refine ⟨?_, rfl, rfl⟩
          first | rw [b01_t (And.intro hb c_43)] | rw [b01_f (fun q => q.2 c_43)]
        ·
          rw [b01_0] at c_43
          refine e_iconst F dX5_isThere_46 ?_
          refine e_goto F 51 dX5_isThere_47 (by decide) ?_
          refine e_zret F rfl (by omega) (by omega) ?_ dX5_isThere_51
          refine ⟨?_, rfl, rfl⟩
          first | rw [b01_t (And.intro hb c_43)] | rw [b01_f (fun q => q.2 c_43)]
      · refine e_iload_n F dX5_isThere_10 rfl ?_
        refine e_iload_n F dX5_isThere_11 rfl ?_
        refine e_callSS F u_X5_has (by rfl) (c_X5_has hs0 (by omega) (h := (k : Int) + 1) (by omega) (by omega)) w_ml_RX5_87 dX5_isThere_12 (by rfl) (Nat.le_of_ble_eq_true rfl) (by decide) (by omega) (fun _ _ _ h _ => False.elim h) (fun r_12 w_12 n_12 h_12 hn_12 => ?_)
        obtain ⟨rfl, ew_12, en_12⟩ := h_12
        rw [ew_12, en_12]
        refine e_if_eq F 32 dX5_isThere_15 (by decide) (b01_r _) (fun c_15 => ?_) (fun c_15 => ?_)
        ·
          rw [b01_0] at c_15
          refine e_iinc F dX5_isThere_32 rfl (by decide) ?_
          refine e_goto F 2 dX5_isThere_35 (by decide) ?_
          have e9 : thB set (st7 (R i).A) (k + 1) = true := by
            show (thB set (st7 (R i).A) k && (!decide (hs set ((k : Int) + 1)) || decide (hs (st7 (R i).A) ((k : Int) + 1)))) = true
            rw [hb]
            first | (rw [decide_eq_false c_15]; rfl) | (rw [decide_eq_true c_27, Bool.or_true]; rfl)
          exact e_go (ih (k + 1) (by omega) ⟨by omega, e9⟩) (And.intro rfl (And.intro rfl (And.intro rfl (And.intro rfl (trivial)))))
        ·
          rw [b01_0, Classical.not_not] at c_15
          refine e_aload_n F dX5_isThere_18 rfl ?_
          refine e_iload_n F dX5_isThere_19 rfl ?_
          refine e_callVV F u_X5_setOf (by rfl) (c_X5_setOf hM (i := i) hi) hY rfl rfl w_ml_RX5_116 dX5_isThere_20 (by rfl) (Nat.le_of_ble_eq_true rfl) (by decide) (by omega) (fun _ _ _ h _ => False.elim h) (fun r_20 w_20 n_20 h_20 hn_20 => ?_)
          obtain ⟨rfl, ew_20, en_20⟩ := h_20
          rw [ew_20, en_20]
          refine e_iload_n F dX5_isThere_23 rfl ?_
          refine e_callSS F u_X5_has (by rfl) (c_X5_has hst.1 (by omega) (h := (k : Int) + 1) (by omega) (by omega)) w_ml_RX5_87 dX5_isThere_24 (by rfl) (Nat.le_of_ble_eq_true rfl) (by decide) (by omega) (fun _ _ _ h _ => False.elim h) (fun r_24 w_24 n_24 h_24 hn_24 => ?_)
          obtain ⟨rfl, ew_24, en_24⟩ := h_24
          rw [ew_24, en_24]
          refine e_if_ne F 32 dX5_isThere_27 (by decide) (b01_r _) (fun c_27 => ?_) (fun c_27 => ?_)
          ·
            rw [ne_eq, b01_0, Classical.not_not] at c_27
            refine e_iinc F dX5_isThere_32 rfl (by decide) ?_
            refine e_goto F 2 dX5_isThere_35 (by decide) ?_
            have e9 : thB set (st7 (R i).A) (k + 1) = true := by
              show (thB set (st7 (R i).A) k && (!decide (hs set ((k : Int) + 1)) || decide (hs (st7 (R i).A) ((k : Int) + 1)))) = true
              rw [hb]
              first | (rw [decide_eq_false c_15]; rfl) | (rw [decide_eq_true c_27, Bool.or_true]; rfl)
            exact e_go (ih (k + 1) (by omega) ⟨by omega, e9⟩) (And.intro rfl (And.intro rfl (And.intro rfl (And.intro rfl (trivial)))))
          ·
            rw [b01_0] at c_27
            refine e_iconst F dX5_isThere_30 ?_
            refine e_zret F rfl (by omega) (Or.inl rfl) ?_ dX5_isThere_31
            refine ⟨?_, rfl, rfl⟩
            rw [b01_f (fun q => ?_)]
            have q2 : (thB set (st7 (R i).A) k && (!decide (hs set ((k : Int) + 1)) || decide (hs (st7 (R i).A) ((k : Int) + 1)))) = true := thB_mono (j := k + 1) (M := (ho wh).toNat) (by omega) q.1
            simp only [Bool.and_eq_true, Bool.or_eq_true, Bool.not_eq_true', decide_eq_true_eq, decide_eq_false_iff_not] at q2
            exact q2.2.elim (fun z => z c_15) (fun z => c_27 z)
  refine e_iconst F dX5_isThere_0 ?_
  refine e_istore_n F dX5_isThere_1 (by decide) ?_
  exact e_go (lp 9 0 (by omega) ⟨by omega, rfl⟩) (And.intro rfl (And.intro rfl (And.intro rfl (And.intro rfl (trivial)))))
set_option maxHeartbeats 4000000 in
set_option maxRecDepth 100000 in
theorem c_X5_isEnough {K : e_K} {l : Launch} {w : e_W} {n : Nat} {y wh : Nat} {t kn : Int} {R : Nat → RD} (hM : MW w y wh kn t R) {i : Nat} (hi : i < 6) {set : Int} (hs0 : 0 ≤ set) (hs1 : set < 128) : e_Met K l yX5_isEnough (Cond.code yX5_isEnough cX5_isEnough 3 (Option.some .boolean) :: e_TB) (4) (0) [.ref y, .int (eI (i : Int)), .int (eI set)] w n (fun r w' n' => r = some (.int (eI (b01 ((thB set (st7 (R i).A) (ho wh).toNat = true ∧ (R i).dg ≠ -1) ∧ (R i).dg < bc set)))) ∧ w' = w ∧ n' = n) (e_px0) := by
  refine e_ofV rfl (Nat.le_of_ble_eq_true rfl) ?_
  intro P9 E9 S9 M9 A9 B9 T9 C9 F hnm
  obtain ⟨hY, hwh, ⟨G, hG, hGe⟩, ⟨SS, PP, hS, hP, hMD⟩, hRV⟩ := id hM
  have hp := pr_rg wh hwh
  have hho := ho_rg wh hwh
  have hdg := MD.dg (hMD i hi)
  have hGi := hGe i hi
  have hRi := hRV i hi
  have hbr : 0 ≤ bc set ∧ bc set ≤ 7 := bc_rg hs0 hs1
  refine e_aload_n F dX5_isEnough_0 rfl ?_
  refine e_iload_n F dX5_isEnough_1 rfl ?_
  refine e_iload_n F dX5_isEnough_2 rfl ?_
  refine e_callVV F u_X5_isThere (by rfl) (c_X5_isThere hM hi hs0 hs1) hY rfl rfl w_ml_RX5_122 dX5_isEnough_3 (by rfl) (Nat.le_of_ble_eq_true rfl) (by decide) (by omega) (fun _ _ _ h _ => False.elim h) (fun r_3 w_3 n_3 h_3 hn_3 => ?_)
  obtain ⟨rfl, ew_3, en_3⟩ := h_3
  rw [ew_3, en_3]
  refine e_if_eq F 26 dX5_isEnough_6 (by decide) (b01_r _) (fun c_6 => ?_) (fun c_6 => ?_)
  ·
    rw [b01_0] at c_6
    refine e_iconst F dX5_isEnough_26 ?_
    refine e_zret F rfl (by omega) (by omega) ?_ dX5_isEnough_27
    refine ⟨?_, rfl, rfl⟩
    first | rw [b01_t (And.intro c_6 (show (R i).dg < bc set by omega))] | rw [b01_f (fun q => c_6 q.1)] | rw [b01_f (fun q => by have := q.2; omega)]
  ·
    rw [b01_0, Classical.not_not] at c_6
    refine e_iload_n F dX5_isEnough_9 rfl ?_
    refine e_callSS F u_X5_many (by rfl) (c_X5_many hs0 hs1) w_ml_RX5_119 dX5_isEnough_10 (by rfl) (Nat.le_of_ble_eq_true rfl) (by decide) (by omega) (fun _ _ _ h _ => False.elim h) (fun r_10 w_10 n_10 h_10 hn_10 => ?_)
    obtain ⟨rfl, ew_10, en_10⟩ := h_10
    rw [ew_10, en_10]
    refine e_aload_n F dX5_isEnough_13 rfl ?_
    refine e_get (ci := 5) (fi := 3) (q := (RX5, TX5, 6)) F hY rfl (by decide) w_fl_RX5_13 (by rfl) dX5_isEnough_14 ?_
    refine e_iload_n F dX5_isEnough_17 rfl ?_
    refine e_iald F hG (by omega) (by omega) (by first | decide | omega) dX5_isEnough_18 ?_
    rw [hGi]
    refine e_icmp_le F 26 dX5_isEnough_19 (by decide) (⟨by omega, by omega⟩) (⟨by omega, by omega⟩) (fun c_19 => ?_) (fun c_19 => ?_)
    · refine e_iconst F dX5_isEnough_26 ?_
      refine e_zret F rfl (by omega) (by omega) ?_ dX5_isEnough_27
      refine ⟨?_, rfl, rfl⟩
      first | rw [b01_t (And.intro c_6 (show (R i).dg < bc set by omega))] | rw [b01_f (fun q => c_6 q.1)] | rw [b01_f (fun q => by have := q.2; omega)]
    · refine e_iconst F dX5_isEnough_22 ?_
      refine e_goto F 27 dX5_isEnough_23 (by decide) ?_
      refine e_zret F rfl (by omega) (by omega) ?_ dX5_isEnough_27
      refine ⟨?_, rfl, rfl⟩
      first | rw [b01_t (And.intro c_6 (show (R i).dg < bc set by omega))] | rw [b01_f (fun q => c_6 q.1)] | rw [b01_f (fun q => by have := q.2; omega)]
set_option maxHeartbeats 4000000 in
set_option maxRecDepth 100000 in
theorem c_X5_isAgreed {K : e_K} {l : Launch} {w : e_W} {n : Nat} {y wh : Nat} {t kn : Int} {R : Nat → RD} (hM : MW w y wh kn t R) {i : Nat} (hi : i < 6) {set : Int} (hs0 : 0 ≤ set) (hs1 : set < 128) (hne : ¬ (R i).dg = -1) : e_Met K l yX5_isAgreed (Cond.code yX5_isAgreed cX5_isAgreed 3 (Option.some .boolean) :: e_TB) (4) (2) [.ref y, .int (eI (i : Int)), .int (eI set)] w n (fun r w' n' => r = some (.int (eI (b01 (agD wh (R i) set)))) ∧ KB w w' n) (e_px0) := by
  refine e_ofV rfl (Nat.le_of_ble_eq_true rfl) ?_
  intro P9 E9 S9 M9 A9 B9 T9 C9 F hnm
  obtain ⟨hY, hwh, ⟨G, hG, hGe⟩, ⟨SS, PP, hS, hP, hMD⟩, hRV⟩ := id hM
  have hp := pr_rg wh hwh
  have hho := ho_rg wh hwh
  have hdg := MD.dg (hMD i hi)
  have hGi := hGe i hi
  have hRi := hRV i hi
  obtain ⟨a, f, hSa, hya, hwa, hfr, hfA⟩ := MD.row (hMD i hi)  hne
  refine e_dom ?_
  intro hdom
  have hyn := hdom _ _ hY
  have hgn := hdom _ _ hG
  refine e_aload_n F dX5_isAgreed_0 rfl ?_
  refine e_aload_n F dX5_isAgreed_1 rfl ?_
  refine e_get (ci := 5) (fi := 4) (q := (RX5, TX5, 6)) F hY rfl (by decide) w_fl_RX5_18 (by rfl) dX5_isAgreed_2 ?_
  refine e_iload_n F dX5_isAgreed_5 rfl ?_
  refine e_aaldr F hS (by omega) (by omega) (by decide) (hSa) dX5_isAgreed_6 ?_
  refine e_iload_n F dX5_isAgreed_7 rfl ?_
  refine e_callVV F u_X5_through (by rfl) (c_X5_through hY hwh hwa (by omega) hfr hs0 hs1) hY rfl rfl w_ml_RX5_95 dX5_isAgreed_8 (by rfl) (Nat.le_of_ble_eq_true rfl) (by decide) (by omega) (fun _ _ _ h _ => False.elim h) (fun r_8 w_8 n_8 h_8 hn_8 => ?_)
  obtain ⟨rfl, ⟨g, hg, he⟩, gK, en_8⟩ := h_8
  rw [en_8]
  have gY : w_8 y = some (MO y t wh kn) := (gK y (by omega)).trans hY
  have gG : w_8 (y + 1) = some (e_ia 6 G) := (gK _ (by omega)).trans hG
  have eT : trK wh set f (ho wh).toNat = trK wh set (R i).A (ho wh).toNat := trK_congr _ (fun j j0 j1 => hfA j j0 (by omega))
  rw [eT] at he
  have hr := fun c => (trK_rg hwh set (R i).A (ho wh).toNat c).1
  refine e_callSS F u_X5_degreeOf (by rfl) (c_X5_degreeOf hg (fun j j0 j1 => by rw [he j j0 j1]; have := hr j; omega)) w_ml_RX5_125 dX5_isAgreed_11 (by rfl) (Nat.le_of_ble_eq_true rfl) (by decide) (by omega) (fun _ _ _ h _ => False.elim h) (fun r_11 w_11 n_11 h_11 hn_11 => ?_)
  obtain ⟨rfl, ew_11, en_11⟩ := h_11
  have e11 : hiK g 7 = hiK (trK wh set (R i).A (ho wh).toNat).1 7 := hiK_congr 7 (fun j j0 j1 => he j j0 (by omega))
  rw [ew_11, en_11, e11]
  have hh9 := hiK_rg (trK wh set (R i).A (ho wh).toNat).1 7
  refine e_aload_n F dX5_isAgreed_14 rfl ?_
  refine e_get (ci := 5) (fi := 3) (q := (RX5, TX5, 6)) F gY rfl (by decide) w_fl_RX5_13 (by rfl) dX5_isAgreed_15 ?_
  refine e_iload_n F dX5_isAgreed_18 rfl ?_
  refine e_iald F gG (by omega) (by omega) (by first | decide | omega) dX5_isAgreed_19 ?_
  rw [hGi]
  refine e_icmp_gt F 27 dX5_isAgreed_20 (by decide) (⟨by omega, by omega⟩) (⟨by omega, by omega⟩) (fun c_20 => ?_) (fun c_20 => ?_)
  · refine e_iconst F dX5_isAgreed_27 ?_
    refine e_zret F rfl (by omega) (by omega) ?_ dX5_isAgreed_28
    refine ⟨?_, gK⟩
    first | rw [b01_t (by unfold agD; omega)] | rw [b01_f (by unfold agD; omega)]
  · refine e_iconst F dX5_isAgreed_23 ?_
    refine e_goto F 28 dX5_isAgreed_24 (by decide) ?_
    refine e_zret F rfl (by omega) (by omega) ?_ dX5_isAgreed_28
    refine ⟨?_, gK⟩
    first | rw [b01_t (by unfold agD; omega)] | rw [b01_f (by unfold agD; omega)]
set_option maxHeartbeats 4000000 in
set_option maxRecDepth 100000 in
theorem c_X5_firstOf {K : e_K} {l : Launch} {w : e_W} {n : Nat} {y wh : Nat} {t kn : Int} {R : Nat → RD} (hM : MW w y wh kn t R) {i : Nat} (hi : i < 6) : e_Met K l yX5_firstOf (Cond.code yX5_firstOf cX5_firstOf 4 (Option.some .int) :: e_TB) (3) (0) [.ref y, .int (eI (i : Int))] w n (fun r w' n' => r = some (.int (eI (foV wh (R i)))) ∧ w' = w ∧ n' = n) (e_px0) := by
  refine e_ofV rfl (Nat.le_of_ble_eq_true rfl) ?_
  intro P9 E9 S9 M9 A9 B9 T9 C9 F hnm
  obtain ⟨hY, hwh, ⟨G, hG, hGe⟩, ⟨SS, PP, hS, hP, hMD⟩, hRV⟩ := id hM
  have hp := pr_rg wh hwh
  have hho := ho_rg wh hwh
  have hdg := MD.dg (hMD i hi)
  have hGi := hGe i hi
  have hRi := hRV i hi
  have hst := st7_rg (R i).A
  have lp : ∀ (N : Nat) (k : Nat), (8 - k) < N → (k : Int) ≤ ho wh → e_V K P9 l E9 (3) (0) S9 M9 A9 B9 T9 C9 4 (fun r w' n' => r = some (.int (eI (foV wh (R i)))) ∧ w' = w ∧ n' = n) (e_px0) 4 [(0, .ref y), (1, .int (eI (i : Int))), (2, .int (eI (foK (R i).dg (st7 (R i).A) k))), (3, .int (eI ((k : Int) + 1)))] [] w n (0) := by
    intro N
    induction N with
    | zero => intro k hN; exact absurd hN (Nat.not_lt_zero _)
    | succ N ih =>
      intro k hN hk
      refine e_iload_n F dX5_firstOf_4 rfl ?_
      refine e_aload_n F dX5_firstOf_5 rfl ?_
      refine e_callVV F u_X5_holders (by rfl) (c_X5_holders hY hwh) hY rfl rfl w_ml_RX5_52 dX5_firstOf_6 (by rfl) (Nat.le_of_ble_eq_true rfl) (by decide) (by omega) (fun _ _ _ h _ => False.elim h) (fun r_6 w_6 n_6 h_6 hn_6 => ?_)
      obtain ⟨rfl, ew_6, en_6⟩ := h_6
      rw [ew_6, en_6]
      refine e_icmp_gt F 51 dX5_firstOf_9 (by decide) (⟨by omega, by omega⟩) (⟨by omega, by omega⟩) (fun c_9 => ?_) (fun c_9 => ?_)
      ·
        obtain rfl : k = (ho wh).toNat := by omega
        refine e_iload_n F dX5_firstOf_51 rfl ?_
        have hfo := foK_rg (R i).dg (st7 (R i).A) (ho wh).toNat
        have hpw := pow_le7 (k := (ho wh).toNat) (by omega)
        have h128 : (2 : Int) ^ 7 = 128 := by decide
        have hbf : 0 ≤ bc (foK (R i).dg (st7 (R i).A) (ho wh).toNat) ∧ bc (foK (R i).dg (st7 (R i).A) (ho wh).toNat) ≤ 7 := bc_rg hfo.1 (by omega)
        refine e_callSS F u_X5_many (by rfl) (c_X5_many hfo.1 (by omega)) w_ml_RX5_119 dX5_firstOf_52 (by rfl) (Nat.le_of_ble_eq_true rfl) (by decide) (by omega) (fun _ _ _ h _ => False.elim h) (fun r_52 w_52 n_52 h_52 hn_52 => ?_)
        obtain ⟨rfl, ew_52, en_52⟩ := h_52
        rw [ew_52, en_52]
        refine e_aload_n F dX5_firstOf_55 rfl ?_
        refine e_get (ci := 5) (fi := 3) (q := (RX5, TX5, 6)) F hY rfl (by decide) w_fl_RX5_13 (by rfl) dX5_firstOf_56 ?_
        refine e_iload_n F dX5_firstOf_59 rfl ?_
        refine e_iald F hG (by omega) (by omega) (by first | decide | omega) dX5_firstOf_60 ?_
        rw [hGi]
        refine e_icmp_le F 68 dX5_firstOf_61 (by decide) (⟨by omega, by omega⟩) (⟨by omega, by omega⟩) (fun c_61 => ?_) (fun c_61 => ?_)
        · refine e_iconst F dX5_firstOf_68 ?_
          refine e_iret F rfl (by omega) ?_ dX5_firstOf_69
          refine ⟨?_, rfl, rfl⟩
          unfold foV
          first | rw [if_pos (by omega)] | rw [if_neg (by omega)]
        · refine e_iload_n F dX5_firstOf_64 rfl ?_
          refine e_goto F 69 dX5_firstOf_65 (by decide) ?_
          refine e_iret F rfl (by omega) ?_ dX5_firstOf_69
          refine ⟨?_, rfl, rfl⟩
          unfold foV
          first | rw [if_pos (by omega)] | rw [if_neg (by omega)]
      ·
        have hfo := foK_rg (R i).dg (st7 (R i).A) k
        have hpw := pow_le7 (k := k) (by omega)
        have h128 : (2 : Int) ^ 7 = 128 := by decide
        have hbf : 0 ≤ bc (foK (R i).dg (st7 (R i).A) k) ∧ bc (foK (R i).dg (st7 (R i).A) k) ≤ 7 := bc_rg hfo.1 (by omega)
        refine e_aload_n F dX5_firstOf_12 rfl ?_
        refine e_iload_n F dX5_firstOf_13 rfl ?_
        refine e_callVV F u_X5_setOf (by rfl) (c_X5_setOf hM (i := i) hi) hY rfl rfl w_ml_RX5_116 dX5_firstOf_14 (by rfl) (Nat.le_of_ble_eq_true rfl) (by decide) (by omega) (fun _ _ _ h _ => False.elim h) (fun r_14 w_14 n_14 h_14 hn_14 => ?_)
        obtain ⟨rfl, ew_14, en_14⟩ := h_14
        rw [ew_14, en_14]
        refine e_iload_n F dX5_firstOf_17 rfl ?_
        refine e_callSS F u_X5_has (by rfl) (c_X5_has hst.1 (by omega) (h := (k : Int) + 1) (by omega) (by omega)) w_ml_RX5_87 dX5_firstOf_18 (by rfl) (Nat.le_of_ble_eq_true rfl) (by decide) (by omega) (fun _ _ _ h _ => False.elim h) (fun r_18 w_18 n_18 h_18 hn_18 => ?_)
        obtain ⟨rfl, ew_18, en_18⟩ := h_18
        rw [ew_18, en_18]
        refine e_if_eq F 45 dX5_firstOf_21 (by decide) (b01_r _) (fun c_21 => ?_) (fun c_21 => ?_)
        ·
          rw [b01_0] at c_21
          refine e_iinc F dX5_firstOf_45 rfl (by decide) ?_
          refine e_goto F 4 dX5_firstOf_48 (by decide) ?_
          first
          | (have e9 : foK (R i).dg (st7 (R i).A) (k + 1) = (foK (R i).dg (st7 (R i).A) k) + 2 ^ k := if_pos ⟨c_21, by omega⟩
             refine e_go (ih (k + 1) (by omega) (by omega)) ?_
             rw [e9]
             exact (And.intro rfl (And.intro rfl (And.intro rfl (And.intro rfl (trivial))))))
          | (have e9 : foK (R i).dg (st7 (R i).A) (k + 1) = (foK (R i).dg (st7 (R i).A) k) := if_neg (fun q => c_21 q.1)
             refine e_go (ih (k + 1) (by omega) (by omega)) ?_
             rw [e9]
             exact (And.intro rfl (And.intro rfl (And.intro rfl (And.intro rfl (trivial))))))
          | (have e9 : foK (R i).dg (st7 (R i).A) (k + 1) = (foK (R i).dg (st7 (R i).A) k) := if_neg (fun q => by have := q.2; omega)
             refine e_go (ih (k + 1) (by omega) (by omega)) ?_
             rw [e9]
             exact (And.intro rfl (And.intro rfl (And.intro rfl (And.intro rfl (trivial))))))
        ·
          rw [b01_0, Classical.not_not] at c_21
          refine e_iload_n F dX5_firstOf_24 rfl ?_
          refine e_callSS F u_X5_many (by rfl) (c_X5_many hfo.1 (by omega)) w_ml_RX5_119 dX5_firstOf_25 (by rfl) (Nat.le_of_ble_eq_true rfl) (by decide) (by omega) (fun _ _ _ h _ => False.elim h) (fun r_25 w_25 n_25 h_25 hn_25 => ?_)
          obtain ⟨rfl, ew_25, en_25⟩ := h_25
          rw [ew_25, en_25]
          refine e_aload_n F dX5_firstOf_28 rfl ?_
          refine e_get (ci := 5) (fi := 3) (q := (RX5, TX5, 6)) F hY rfl (by decide) w_fl_RX5_13 (by rfl) dX5_firstOf_29 ?_
          refine e_iload_n F dX5_firstOf_32 rfl ?_
          refine e_iald F hG (by omega) (by omega) (by first | decide | omega) dX5_firstOf_33 ?_
          rw [hGi]
          refine e_icmp_gt F 45 dX5_firstOf_34 (by decide) (⟨by omega, by omega⟩) (⟨by omega, by omega⟩) (fun c_34 => ?_) (fun c_34 => ?_)
          · refine e_iinc F dX5_firstOf_45 rfl (by decide) ?_
            refine e_goto F 4 dX5_firstOf_48 (by decide) ?_
            first
            | (have e9 : foK (R i).dg (st7 (R i).A) (k + 1) = (foK (R i).dg (st7 (R i).A) k) + 2 ^ k := if_pos ⟨c_21, by omega⟩
               refine e_go (ih (k + 1) (by omega) (by omega)) ?_
               rw [e9]
               exact (And.intro rfl (And.intro rfl (And.intro rfl (And.intro rfl (trivial))))))
            | (have e9 : foK (R i).dg (st7 (R i).A) (k + 1) = (foK (R i).dg (st7 (R i).A) k) := if_neg (fun q => c_21 q.1)
               refine e_go (ih (k + 1) (by omega) (by omega)) ?_
               rw [e9]
               exact (And.intro rfl (And.intro rfl (And.intro rfl (And.intro rfl (trivial))))))
            | (have e9 : foK (R i).dg (st7 (R i).A) (k + 1) = (foK (R i).dg (st7 (R i).A) k) := if_neg (fun q => by have := q.2; omega)
               refine e_go (ih (k + 1) (by omega) (by omega)) ?_
               rw [e9]
               exact (And.intro rfl (And.intro rfl (And.intro rfl (And.intro rfl (trivial))))))
          · refine e_iload_n F dX5_firstOf_37 rfl ?_
            refine e_iconst F dX5_firstOf_38 ?_
            refine e_iload_n F dX5_firstOf_39 rfl ?_
            refine e_iconst F dX5_firstOf_40 ?_
            refine e_isub F dX5_firstOf_41 ?_
            rw [show (k : Int) + 1 - 1 = (k : Int) by omega]
            refine e_ishl F dX5_firstOf_42 (eI_shl1 k (by omega)) ?_
            refine e_iadd F dX5_firstOf_43 ?_
            refine e_istore_n F dX5_firstOf_44 (by decide) ?_
            refine e_iinc F dX5_firstOf_45 rfl (by decide) ?_
            refine e_goto F 4 dX5_firstOf_48 (by decide) ?_
            first
            | (have e9 : foK (R i).dg (st7 (R i).A) (k + 1) = (foK (R i).dg (st7 (R i).A) k) + 2 ^ k := if_pos ⟨c_21, by omega⟩
               refine e_go (ih (k + 1) (by omega) (by omega)) ?_
               rw [e9]
               exact (And.intro rfl (And.intro rfl (And.intro rfl (And.intro rfl (trivial))))))
            | (have e9 : foK (R i).dg (st7 (R i).A) (k + 1) = (foK (R i).dg (st7 (R i).A) k) := if_neg (fun q => c_21 q.1)
               refine e_go (ih (k + 1) (by omega) (by omega)) ?_
               rw [e9]
               exact (And.intro rfl (And.intro rfl (And.intro rfl (And.intro rfl (trivial))))))
            | (have e9 : foK (R i).dg (st7 (R i).A) (k + 1) = (foK (R i).dg (st7 (R i).A) k) := if_neg (fun q => by have := q.2; omega)
               refine e_go (ih (k + 1) (by omega) (by omega)) ?_
               rw [e9]
               exact (And.intro rfl (And.intro rfl (And.intro rfl (And.intro rfl (trivial))))))
  refine e_iconst F dX5_firstOf_0 ?_
  refine e_istore_n F dX5_firstOf_1 (by decide) ?_
  refine e_iconst F dX5_firstOf_2 ?_
  refine e_istore_n F dX5_firstOf_3 (by decide) ?_
  exact e_go (lp 9 0 (by omega) (by omega)) (And.intro rfl (And.intro rfl (And.intro rfl (And.intro rfl (trivial)))))
set_option maxHeartbeats 4000000 in
set_option maxRecDepth 100000 in
theorem c_X5_suspectsOf {K : e_K} {l : Launch} {w : e_W} {n : Nat} {y wh : Nat} {t kn : Int} {R : Nat → RD} (hM : MW w y wh kn t R) {i : Nat} (hi : i < 6) (hne : ¬ (R i).dg = -1) : e_Met K l yX5_suspectsOf (Cond.code yX5_suspectsOf cX5_suspectsOf 5 (Option.some .int) :: e_TB) (5) (14) [.ref y, .int (eI (i : Int))] w n (fun r w' n' => r = some (.int (eI (suK wh (R i) (ho wh).toNat))) ∧ KB w w' n) (e_px0) := by
  refine e_ofV rfl (Nat.le_of_ble_eq_true rfl) ?_
  intro P9 E9 S9 M9 A9 B9 T9 C9 F hnm
  obtain ⟨hY, hwh, ⟨G, hG, hGe⟩, ⟨SS, PP, hS, hP, hMD⟩, hRV⟩ := id hM
  have hp := pr_rg wh hwh
  have hho := ho_rg wh hwh
  have hdg := MD.dg (hMD i hi)
  have hGi := hGe i hi
  have hRi := hRV i hi
  refine e_dom ?_
  intro hdom
  have hyn := hdom _ _ hY
  have hst := st7_rg (R i).A
  have lp : ∀ (N k nl : Nat) (wl : e_W), 8 - k < N → ((k : Int) ≤ ho wh ∧ KB w wl n ∧ n ≤ nl) → e_V K P9 l E9 (5) (14) S9 M9 A9 B9 T9 C9 5 (fun r w' n' => r = some (.int (eI (suK wh (R i) (ho wh).toNat))) ∧ KB w w' n) (e_px0) 11 [(0, .ref y), (1, .int (eI (i : Int))), (2, .int (eI (st7 (R i).A))), (3, .int (eI (suK wh (R i) k))), (4, .int (eI ((k : Int) + 1)))] [] wl nl ((2 * k)) := by
    intro N
    induction N with
    | zero => intro k nl wl hN; exact absurd hN (Nat.not_lt_zero _)
    | succ N ih =>
      intro k nl wl hN ⟨hk, gK, gn⟩
      have gM := hM.kb hdom gK
      have gY := gM.1
      refine e_iload F dX5_suspectsOf_11 rfl ?_
      refine e_aload_n F dX5_suspectsOf_13 rfl ?_
      refine e_callVV F u_X5_holders (by rfl) (c_X5_holders gY hwh) gY rfl rfl w_ml_RX5_52 dX5_suspectsOf_14 (by rfl) (Nat.le_of_ble_eq_true rfl) (by decide) (by omega) (fun _ _ _ h _ => False.elim h) (fun r_14 w_14 n_14 h_14 hn_14 => ?_)
      obtain ⟨rfl, ew_14, en_14⟩ := h_14
      rw [ew_14, en_14]
      refine e_icmp_gt F 60 dX5_suspectsOf_17 (by decide) (⟨by omega, by omega⟩) (⟨by omega, by omega⟩) (fun c_17 => ?_) (fun c_17 => ?_)
      ·
        obtain rfl : k = (ho wh).toNat := by omega
        refine e_iload_n F dX5_suspectsOf_60 rfl ?_
        refine e_iret F rfl (by omega) ?_ dX5_suspectsOf_61
        exact ⟨rfl, gK⟩
      ·
        have hk7 : k < 7 := by omega
        refine e_iload_n F dX5_suspectsOf_20 rfl ?_
        refine e_iload F dX5_suspectsOf_21 rfl ?_
        refine e_callSS F u_X5_has (by rfl) (c_X5_has hst.1 (by omega) (h := (k : Int) + 1) (by omega) (by omega)) w_ml_RX5_87 dX5_suspectsOf_23 (by rfl) (Nat.le_of_ble_eq_true rfl) (by decide) (by omega) (fun _ _ _ h _ => False.elim h) (fun r_23 w_23 n_23 h_23 hn_23 => ?_)
        obtain ⟨rfl, ew_23, en_23⟩ := h_23
        rw [ew_23, en_23]
        refine e_if_eq F 54 dX5_suspectsOf_26 (by decide) (b01_r _) (fun c_26 => ?_) (fun c_26 => ?_)
        ·
          rw [b01_0] at c_26
          refine e_iinc F dX5_suspectsOf_54 rfl (by decide) ?_
          refine e_goto F 11 dX5_suspectsOf_57 (by decide) ?_
          first
          | (have e9 : suK wh (R i) (k + 1) = (suK wh (R i) k) + 2 ^ k := if_pos ⟨c_26, c_42⟩
             refine e_wid (by omega) (e_go (ih (k + 1) n_39 w_39 (by omega) ⟨by omega, fun j hj => (gK2 j (by omega)).trans (gK j hj), by omega⟩) ?_)
             rw [e9]
             exact (And.intro rfl (And.intro rfl (And.intro rfl (And.intro rfl (And.intro rfl (trivial)))))))
          | (have e9 : suK wh (R i) (k + 1) = (suK wh (R i) k) := if_neg (fun q => c_42 q.2)
             refine e_wid (by omega) (e_go (ih (k + 1) n_39 w_39 (by omega) ⟨by omega, fun j hj => (gK2 j (by omega)).trans (gK j hj), by omega⟩) ?_)
             rw [e9]
             exact (And.intro rfl (And.intro rfl (And.intro rfl (And.intro rfl (And.intro rfl (trivial)))))))
          | (have e9 : suK wh (R i) (k + 1) = (suK wh (R i) k) := if_neg (fun q => c_26 q.1)
             refine e_wid (by omega) (e_go (ih (k + 1) nl wl (by omega) ⟨by omega, gK, by omega⟩) ?_)
             rw [e9]
             exact (And.intro rfl (And.intro rfl (And.intro rfl (And.intro rfl (And.intro rfl (trivial)))))))
        ·
          rw [b01_0, Classical.not_not] at c_26
          have hle := hs_le (k := k) hst.1 hst.2 hk7 c_26
          have hp0 : (0 : Int) < 2 ^ k := Int.pow_pos (by omega)
          refine e_aload_n F dX5_suspectsOf_29 rfl ?_
          refine e_iload_n F dX5_suspectsOf_30 rfl ?_
          refine e_iload_n F dX5_suspectsOf_31 rfl ?_
          refine e_iconst F dX5_suspectsOf_32 ?_
          refine e_iload F dX5_suspectsOf_33 rfl ?_
          refine e_iconst F dX5_suspectsOf_35 ?_
          refine e_isub F dX5_suspectsOf_36 ?_
          rw [show (k : Int) + 1 - 1 = (k : Int) by omega]
          refine e_ishl F dX5_suspectsOf_37 (eI_shl1 k (by omega)) ?_
          refine e_isub F dX5_suspectsOf_38 ?_
          refine e_callVV F u_X5_isAgreed (by rfl) (c_X5_isAgreed gM hi (set := st7 (R i).A - 2 ^ k) (by omega) (by omega) hne) gY rfl rfl w_ml_RX5_168 dX5_suspectsOf_39 (by rfl) (Nat.le_of_ble_eq_true rfl) (by decide) (by omega) (fun _ _ _ h _ => False.elim h) (fun r_39 w_39 n_39 h_39 hn_39 => ?_)
          obtain ⟨rfl, gK2⟩ := h_39
          refine e_if_eq F 54 dX5_suspectsOf_42 (by decide) (b01_r _) (fun c_42 => ?_) (fun c_42 => ?_)
          ·
            rw [b01_0] at c_42
            refine e_iinc F dX5_suspectsOf_54 rfl (by decide) ?_
            refine e_goto F 11 dX5_suspectsOf_57 (by decide) ?_
            first
            | (have e9 : suK wh (R i) (k + 1) = (suK wh (R i) k) + 2 ^ k := if_pos ⟨c_26, c_42⟩
               refine e_wid (by omega) (e_go (ih (k + 1) n_39 w_39 (by omega) ⟨by omega, fun j hj => (gK2 j (by omega)).trans (gK j hj), by omega⟩) ?_)
               rw [e9]
               exact (And.intro rfl (And.intro rfl (And.intro rfl (And.intro rfl (And.intro rfl (trivial)))))))
            | (have e9 : suK wh (R i) (k + 1) = (suK wh (R i) k) := if_neg (fun q => c_42 q.2)
               refine e_wid (by omega) (e_go (ih (k + 1) n_39 w_39 (by omega) ⟨by omega, fun j hj => (gK2 j (by omega)).trans (gK j hj), by omega⟩) ?_)
               rw [e9]
               exact (And.intro rfl (And.intro rfl (And.intro rfl (And.intro rfl (And.intro rfl (trivial)))))))
            | (have e9 : suK wh (R i) (k + 1) = (suK wh (R i) k) := if_neg (fun q => c_26 q.1)
               refine e_wid (by omega) (e_go (ih (k + 1) nl wl (by omega) ⟨by omega, gK, by omega⟩) ?_)
               rw [e9]
               exact (And.intro rfl (And.intro rfl (And.intro rfl (And.intro rfl (And.intro rfl (trivial)))))))
          ·
            rw [b01_0, Classical.not_not] at c_42
            refine e_iload_n F dX5_suspectsOf_45 rfl ?_
            refine e_iconst F dX5_suspectsOf_46 ?_
            refine e_iload F dX5_suspectsOf_47 rfl ?_
            refine e_iconst F dX5_suspectsOf_49 ?_
            refine e_isub F dX5_suspectsOf_50 ?_
            rw [show (k : Int) + 1 - 1 = (k : Int) by omega]
            refine e_ishl F dX5_suspectsOf_51 (eI_shl1 k (by omega)) ?_
            refine e_iadd F dX5_suspectsOf_52 ?_
            refine e_istore_n F dX5_suspectsOf_53 (by decide) ?_
            refine e_iinc F dX5_suspectsOf_54 rfl (by decide) ?_
            refine e_goto F 11 dX5_suspectsOf_57 (by decide) ?_
            first
            | (have e9 : suK wh (R i) (k + 1) = (suK wh (R i) k) + 2 ^ k := if_pos ⟨c_26, c_42⟩
               refine e_wid (by omega) (e_go (ih (k + 1) n_39 w_39 (by omega) ⟨by omega, fun j hj => (gK2 j (by omega)).trans (gK j hj), by omega⟩) ?_)
               rw [e9]
               exact (And.intro rfl (And.intro rfl (And.intro rfl (And.intro rfl (And.intro rfl (trivial)))))))
            | (have e9 : suK wh (R i) (k + 1) = (suK wh (R i) k) := if_neg (fun q => c_42 q.2)
               refine e_wid (by omega) (e_go (ih (k + 1) n_39 w_39 (by omega) ⟨by omega, fun j hj => (gK2 j (by omega)).trans (gK j hj), by omega⟩) ?_)
               rw [e9]
               exact (And.intro rfl (And.intro rfl (And.intro rfl (And.intro rfl (And.intro rfl (trivial)))))))
            | (have e9 : suK wh (R i) (k + 1) = (suK wh (R i) k) := if_neg (fun q => c_26 q.1)
               refine e_wid (by omega) (e_go (ih (k + 1) nl wl (by omega) ⟨by omega, gK, by omega⟩) ?_)
               rw [e9]
               exact (And.intro rfl (And.intro rfl (And.intro rfl (And.intro rfl (And.intro rfl (trivial)))))))
  refine e_aload_n F dX5_suspectsOf_0 rfl ?_
  refine e_iload_n F dX5_suspectsOf_1 rfl ?_
  refine e_callVV F u_X5_setOf (by rfl) (c_X5_setOf hM (i := i) hi) hY rfl rfl w_ml_RX5_116 dX5_suspectsOf_2 (by rfl) (Nat.le_of_ble_eq_true rfl) (by decide) (by omega) (fun _ _ _ h _ => False.elim h) (fun r_2 w_2 n_2 h_2 hn_2 => ?_)
  obtain ⟨rfl, ew_2, en_2⟩ := h_2
  rw [ew_2, en_2]
  refine e_istore_n F dX5_suspectsOf_5 (by decide) ?_
  refine e_iconst F dX5_suspectsOf_6 ?_
  refine e_istore_n F dX5_suspectsOf_7 (by decide) ?_
  refine e_iconst F dX5_suspectsOf_8 ?_
  refine e_istore F dX5_suspectsOf_9 (by decide) ?_
  exact e_wid (by omega) (e_go (lp 9 0 n w (by omega) ⟨by omega, fun _ _ => rfl, Nat.le_refl _⟩) (And.intro rfl (And.intro rfl (And.intro rfl (And.intro rfl (And.intro rfl (trivial)))))))
set_option maxHeartbeats 4000000 in
set_option maxRecDepth 100000 in
theorem c_X5_wrongOf {K : e_K} {l : Launch} {w : e_W} {n : Nat} {y wh : Nat} {t kn : Int} {R : Nat → RD} (hM : MW w y wh kn t R) {i : Nat} (hi : i < 6) : e_Met K l yX5_wrongOf (Cond.code yX5_wrongOf cX5_wrongOf 4 (Option.some .int) :: e_TB) (6) (16) [.ref y, .int (eI (i : Int))] w n (fun r w' n' => r = some (.int (eI (wrV wh (R i)))) ∧ KB w w' n) (e_px0) := by
  refine e_ofV rfl (Nat.le_of_ble_eq_true rfl) ?_
  intro P9 E9 S9 M9 A9 B9 T9 C9 F hnm
  obtain ⟨hY, hwh, ⟨G, hG, hGe⟩, ⟨SS, PP, hS, hP, hMD⟩, hRV⟩ := id hM
  have hp := pr_rg wh hwh
  have hho := ho_rg wh hwh
  have hdg := MD.dg (hMD i hi)
  have hGi := hGe i hi
  have hRi := hRV i hi
  refine e_dom ?_
  intro hdom
  have hyn := hdom _ _ hY
  have hst := st7_rg (R i).A
  have hbr : 0 ≤ bc (st7 (R i).A) ∧ bc (st7 (R i).A) ≤ 7 := bc_rg hst.1 hst.2
  have hsu := suK_rg wh (R i) (ho wh).toNat
  have hpw := pow_le7 (k := (ho wh).toNat) (by omega)
  have h128 : (2 : Int) ^ 7 = 128 := by decide
  have lp : ¬ (R i).dg = -1 → ¬ agD wh (R i) (st7 (R i).A) → ¬ bc (st7 (R i).A) < (R i).dg + 3 → ∀ (N k nl : Nat) (wl : e_W), 8 - k < N → ((k : Int) ≤ ho wh ∧ ffd (suK wh (R i) (ho wh).toNat) (ho wh) (ho wh).toNat = ffd (suK wh (R i) (ho wh).toNat) (ho wh) ((ho wh).toNat - k) ∧ KB w wl n) → e_V K P9 l E9 (6) (16) S9 M9 A9 B9 T9 C9 4 (fun r w' n' => r = some (.int (eI (wrV wh (R i)))) ∧ KB w w' n) (e_px0) 56 [(0, .ref y), (2, .int (eI (suK wh (R i) (ho wh).toNat))), (3, .int (eI ((k : Int) + 1)))] [] wl nl (16) := by
    intro hne ha hb N
    induction N with
    | zero => intro k nl wl hN; exact absurd hN (Nat.not_lt_zero _)
    | succ N ih =>
      intro k nl wl hN ⟨hk, he, gK⟩
      have gM := hM.kb hdom gK
      have gY := gM.1
      refine e_iload_n F dX5_wrongOf_56 rfl ?_
      refine e_aload_n F dX5_wrongOf_57 rfl ?_
      refine e_callVV F u_X5_holders (by rfl) (c_X5_holders gY hwh) gY rfl rfl w_ml_RX5_52 dX5_wrongOf_58 (by rfl) (Nat.le_of_ble_eq_true rfl) (by decide) (by omega) (fun _ _ _ h _ => False.elim h) (fun r_58 w_58 n_58 h_58 hn_58 => ?_)
      obtain ⟨rfl, ew_58, en_58⟩ := h_58
      rw [ew_58, en_58]
      refine e_icmp_gt F 80 dX5_wrongOf_61 (by decide) (⟨by omega, by omega⟩) (⟨by omega, by omega⟩) (fun c_61 => ?_) (fun c_61 => ?_)
      ·
        obtain rfl : k = (ho wh).toNat := by omega
        refine e_bipush F dX5_wrongOf_80 (by decide) ?_
        refine e_iret F rfl (by omega) ?_ dX5_wrongOf_82
        refine ⟨?_, gK⟩
        unfold wrV
        rw [if_neg hne, if_neg ha, if_neg hb, he, Nat.sub_self]
        rfl
      · refine e_iload_n F dX5_wrongOf_64 rfl ?_
        refine e_iload_n F dX5_wrongOf_65 rfl ?_
        refine e_callSS F u_X5_has (by rfl) (c_X5_has hsu.1 (by omega) (h := (k : Int) + 1) (by omega) (by omega)) w_ml_RX5_87 dX5_wrongOf_66 (by rfl) (Nat.le_of_ble_eq_true rfl) (by decide) (by omega) (fun _ _ _ h _ => False.elim h) (fun r_66 w_66 n_66 h_66 hn_66 => ?_)
        obtain ⟨rfl, ew_66, en_66⟩ := h_66
        rw [ew_66, en_66]
        refine e_if_eq F 74 dX5_wrongOf_69 (by decide) (b01_r _) (fun c_69 => ?_) (fun c_69 => ?_)
        ·
          rw [b01_0] at c_69
          have e8 : (ho wh).toNat - k = ((ho wh).toNat - (k + 1)) + 1 := by omega
          have e7 : ffd (suK wh (R i) (ho wh).toNat) (ho wh) ((ho wh).toNat - k) = if hs (suK wh (R i) (ho wh).toNat) (ho wh - ((((ho wh).toNat - (k + 1) : Nat)) : Int)) then ho wh - ((((ho wh).toNat - (k + 1) : Nat)) : Int) else ffd (suK wh (R i) (ho wh).toNat) (ho wh) ((ho wh).toNat - (k + 1)) := by rw [e8]; rfl
          rw [show ho wh - ((((ho wh).toNat - (k + 1) : Nat)) : Int) = (k : Int) + 1 by omega] at e7
          refine e_iinc F dX5_wrongOf_74 rfl (by decide) ?_
          refine e_goto F 56 dX5_wrongOf_77 (by decide) ?_
          refine e_go (ih (k + 1) _ _ (by omega) ⟨by omega, by rw [he, e7, if_neg c_69], gK⟩) ?_
          exact (And.intro rfl (And.intro rfl (And.intro rfl (trivial))))
        ·
          rw [b01_0, Classical.not_not] at c_69
          have e8 : (ho wh).toNat - k = ((ho wh).toNat - (k + 1)) + 1 := by omega
          have e7 : ffd (suK wh (R i) (ho wh).toNat) (ho wh) ((ho wh).toNat - k) = if hs (suK wh (R i) (ho wh).toNat) (ho wh - ((((ho wh).toNat - (k + 1) : Nat)) : Int)) then ho wh - ((((ho wh).toNat - (k + 1) : Nat)) : Int) else ffd (suK wh (R i) (ho wh).toNat) (ho wh) ((ho wh).toNat - (k + 1)) := by rw [e8]; rfl
          rw [show ho wh - ((((ho wh).toNat - (k + 1) : Nat)) : Int) = (k : Int) + 1 by omega] at e7
          refine e_iload_n F dX5_wrongOf_72 rfl ?_
          refine e_iret F rfl (by omega) ?_ dX5_wrongOf_73
          refine ⟨?_, gK⟩
          unfold wrV
          rw [if_neg hne, if_neg ha, if_neg hb, he, e7, if_pos c_69]
  refine e_aload_n F dX5_wrongOf_0 rfl ?_
  refine e_iload_n F dX5_wrongOf_1 rfl ?_
  refine e_callVV F u_X5_isEmpty (by rfl) (c_X5_isEmpty hM (i := i) hi) hY rfl rfl w_ml_RX5_113 dX5_wrongOf_2 (by rfl) (Nat.le_of_ble_eq_true rfl) (by decide) (by omega) (fun _ _ _ h _ => False.elim h) (fun r_2 w_2 n_2 h_2 hn_2 => ?_)
  obtain ⟨rfl, ew_2, en_2⟩ := h_2
  rw [ew_2, en_2]
  refine e_if_eq F 11 dX5_wrongOf_5 (by decide) (b01_r _) (fun c_5 => ?_) (fun c_5 => ?_)
  ·
    rw [b01_0] at c_5
    refine e_aload_n F dX5_wrongOf_11 rfl ?_
    refine e_iload_n F dX5_wrongOf_12 rfl ?_
    refine e_aload_n F dX5_wrongOf_13 rfl ?_
    refine e_iload_n F dX5_wrongOf_14 rfl ?_
    refine e_callVV F u_X5_setOf (by rfl) (c_X5_setOf hM (i := i) hi) hY rfl rfl w_ml_RX5_116 dX5_wrongOf_15 (by rfl) (Nat.le_of_ble_eq_true rfl) (by decide) (by omega) (fun _ _ _ h _ => False.elim h) (fun r_15 w_15 n_15 h_15 hn_15 => ?_)
    obtain ⟨rfl, ew_15, en_15⟩ := h_15
    rw [ew_15, en_15]
    refine e_callVV F u_X5_isAgreed (by rfl) (c_X5_isAgreed hM hi (set := st7 (R i).A) hst.1 hst.2 c_5) hY rfl rfl w_ml_RX5_168 dX5_wrongOf_18 (by rfl) (Nat.le_of_ble_eq_true rfl) (by decide) (by omega) (fun _ _ _ h _ => False.elim h) (fun r_18 w_18 n_18 h_18 hn_18 => ?_)
    obtain ⟨rfl, gK⟩ := h_18
    have gM := hM.kb hdom gK
    have gY := gM.1
    have gG : w_18 (y + 1) = some (e_ia 6 G) := (gK _ (by have := hdom _ _ hG; omega)).trans hG
    refine e_if_eq F 26 dX5_wrongOf_21 (by decide) (b01_r _) (fun c_21 => ?_) (fun c_21 => ?_)
    ·
      rw [b01_0] at c_21
      refine e_aload_n F dX5_wrongOf_26 rfl ?_
      refine e_iload_n F dX5_wrongOf_27 rfl ?_
      refine e_callVV F u_X5_setOf (by rfl) (c_X5_setOf gM (i := i) hi) gY rfl rfl w_ml_RX5_116 dX5_wrongOf_28 (by rfl) (Nat.le_of_ble_eq_true rfl) (by decide) (by omega) (fun _ _ _ h _ => False.elim h) (fun r_28 w_28 n_28 h_28 hn_28 => ?_)
      obtain ⟨rfl, ew_28, en_28⟩ := h_28
      rw [ew_28, en_28]
      refine e_callSS F u_X5_many (by rfl) (c_X5_many hst.1 hst.2) w_ml_RX5_119 dX5_wrongOf_31 (by rfl) (Nat.le_of_ble_eq_true rfl) (by decide) (by omega) (fun _ _ _ h _ => False.elim h) (fun r_31 w_31 n_31 h_31 hn_31 => ?_)
      obtain ⟨rfl, ew_31, en_31⟩ := h_31
      rw [ew_31, en_31]
      refine e_aload_n F dX5_wrongOf_34 rfl ?_
      refine e_get (ci := 5) (fi := 3) (q := (RX5, TX5, 6)) F gY rfl (by decide) w_fl_RX5_13 (by rfl) dX5_wrongOf_35 ?_
      refine e_iload_n F dX5_wrongOf_38 rfl ?_
      refine e_iald F gG (by omega) (by omega) (by first | decide | omega) dX5_wrongOf_39 ?_
      rw [hGi]
      refine e_iconst F dX5_wrongOf_40 ?_
      refine e_iadd F dX5_wrongOf_41 ?_
      refine e_icmp_ge F 48 dX5_wrongOf_42 (by decide) (⟨by omega, by omega⟩) (⟨by omega, by omega⟩) (fun c_42 => ?_) (fun c_42 => ?_)
      · refine e_aload_n F dX5_wrongOf_48 rfl ?_
        refine e_iload_n F dX5_wrongOf_49 rfl ?_
        refine e_callVV F u_X5_suspectsOf (by rfl) (c_X5_suspectsOf gM hi c_5) gY rfl rfl w_ml_RX5_171 dX5_wrongOf_50 (by rfl) (Nat.le_of_ble_eq_true rfl) (by decide) (by omega) (fun _ _ _ h _ => False.elim h) (fun r_50 w_50 n_50 h_50 hn_50 => ?_)
        obtain ⟨rfl, gK2⟩ := h_50
        refine e_istore_n F dX5_wrongOf_53 (by decide) ?_
        refine e_iconst F dX5_wrongOf_54 ?_
        refine e_istore_n F dX5_wrongOf_55 (by decide) ?_
        exact e_wid (by omega) (e_go (lp c_5 c_21 (by omega) 9 0 _ _ (by omega) ⟨by omega, rfl, fun j hj => (gK2 j (by omega)).trans (gK j hj)⟩) (And.intro rfl (And.intro rfl (And.intro rfl (trivial)))))
      · refine e_bipush F dX5_wrongOf_45 (by decide) ?_
        refine e_iret F rfl (by omega) ?_ dX5_wrongOf_47
        refine ⟨?_, gK⟩
        unfold wrV
        rw [if_neg c_5, if_neg c_21, if_pos (by omega)]
    ·
      rw [b01_0, Classical.not_not] at c_21
      refine e_iconst F dX5_wrongOf_24 ?_
      refine e_iret F rfl (by omega) ?_ dX5_wrongOf_25
      refine ⟨?_, gK⟩
      unfold wrV
      rw [if_neg c_5, if_pos c_21]
  ·
    rw [b01_0, Classical.not_not] at c_5
    refine e_bipush F dX5_wrongOf_8 (by decide) ?_
    refine e_iret F rfl (by omega) ?_ dX5_wrongOf_10
    refine ⟨?_, fun _ _ => rfl⟩
    unfold wrV
    rw [if_pos c_5]
set_option maxHeartbeats 4000000 in
set_option maxRecDepth 100000 in
theorem c_X5_shareOf {K : e_K} {l : Launch} {w : e_W} {n : Nat} {y wh : Nat} {t kn : Int} {R : Nat → RD} (hM : MW w y wh kn t R) {i : Nat} (hi : i < 6) {h : Int} (h1 : 1 ≤ h) (h2 : h ≤ ho wh) : e_Met K l yX5_shareOf (Cond.code yX5_shareOf cX5_shareOf 3 (Option.some .int) :: e_TB) (2) (0) [.ref y, .int (eI (i : Int)), .int (eI h)] w n (fun r w' n' => r = some (.int (eI ((R i).A h))) ∧ w' = w ∧ n' = n) (e_px0) := by
  refine e_ofV rfl (Nat.le_of_ble_eq_true rfl) ?_
  intro P9 E9 S9 M9 A9 B9 T9 C9 F hnm
  obtain ⟨hY, hwh, ⟨G, hG, hGe⟩, ⟨SS, PP, hS, hP, hMD⟩, hRV⟩ := id hM
  have hp := pr_rg wh hwh
  have hho := ho_rg wh hwh
  have hdg := MD.dg (hMD i hi)
  have hGi := hGe i hi
  have hRi := hRV i hi
  refine e_aload_n F dX5_shareOf_0 rfl ?_
  refine e_iload_n F dX5_shareOf_1 rfl ?_
  refine e_callVV F u_X5_isEmpty (by rfl) (c_X5_isEmpty hM (i := i) hi) hY rfl rfl w_ml_RX5_113 dX5_shareOf_2 (by rfl) (Nat.le_of_ble_eq_true rfl) (by decide) (by omega) (fun _ _ _ h _ => False.elim h) (fun r_2 w_2 n_2 h_2 hn_2 => ?_)
  obtain ⟨rfl, ew_2, en_2⟩ := h_2
  rw [ew_2, en_2]
  refine e_if_eq F 12 dX5_shareOf_5 (by decide) (b01_r _) (fun c_5 => ?_) (fun c_5 => ?_)
  ·
    rw [b01_0] at c_5
    obtain ⟨a, f, hSa, hya, hwa, hfr, hfA⟩ := MD.row (hMD i hi)  c_5
    refine e_aload_n F dX5_shareOf_12 rfl ?_
    refine e_get (ci := 5) (fi := 4) (q := (RX5, TX5, 6)) F hY rfl (by decide) w_fl_RX5_18 (by rfl) dX5_shareOf_13 ?_
    refine e_iload_n F dX5_shareOf_16 rfl ?_
    refine e_aaldr F hS (by omega) (by omega) (by decide) (hSa) dX5_shareOf_17 ?_
    refine e_iload_n F dX5_shareOf_18 rfl ?_
    refine e_iald F hwa (by omega) (by omega) (by first | decide | omega) dX5_shareOf_19 ?_
    try rw [hfA _ (by omega) (by omega)]
    refine e_iret F rfl (by omega) ?_ dX5_shareOf_20
    first | exact ⟨rfl, rfl, rfl⟩ | exact ⟨by rw [hRi.2.2 c_5 h h1 (by omega)], rfl, rfl⟩
  ·
    rw [b01_0, Classical.not_not] at c_5
    refine e_iconst F dX5_shareOf_8 ?_
    refine e_goto F 20 dX5_shareOf_9 (by decide) ?_
    try rw [hfA _ (by omega) (by omega)]
    refine e_iret F rfl (by omega) ?_ dX5_shareOf_20
    first | exact ⟨rfl, rfl, rfl⟩ | exact ⟨by rw [hRi.2.2 c_5 h h1 (by omega)], rfl, rfl⟩
set_option maxHeartbeats 4000000 in
set_option maxRecDepth 100000 in
theorem c_X5_sealTold {K : e_K} {l : Launch} {w : e_W} {n : Nat} {y wh : Nat} {t kn : Int} {R : Nat → RD} (hM : MW w y wh kn t R) {i : Nat} (hi : i < 6) {k9 : Int} (hk0 : 0 ≤ k9) (hk1 : k9 ≤ 6) : e_Met K l yX5_sealTold (Cond.code yX5_sealTold cX5_sealTold 3 (Option.some .int) :: e_TB) (2) (0) [.ref y, .int (eI (i : Int)), .int (eI k9)] w n (fun r w' n' => r = some (.int (eI (stV wh (R i) k9))) ∧ w' = w ∧ n' = n) (e_px0) := by
  refine e_ofV rfl (Nat.le_of_ble_eq_true rfl) ?_
  intro P9 E9 S9 M9 A9 B9 T9 C9 F hnm
  obtain ⟨hY, hwh, ⟨G, hG, hGe⟩, ⟨SS, PP, hS, hP, hMD⟩, hRV⟩ := id hM
  have hp := pr_rg wh hwh
  have hho := ho_rg wh hwh
  have hdg := MD.dg (hMD i hi)
  have hGi := hGe i hi
  have hRi := hRV i hi
  rcases MD.pw (hMD i hi) with ⟨hp0, hPn⟩ | ⟨hp1, ⟨b, g, hPb, hyb, hwb, hgr, hgE⟩, hd0⟩
  ·
    refine e_aload_n F dX5_sealTold_0 rfl ?_
    refine e_get (ci := 5) (fi := 5) (q := (RX5, TX5, 6)) F hY rfl (by decide) w_fl_RX5_22 (by rfl) dX5_sealTold_1 ?_
    refine e_iload_n F dX5_sealTold_4 rfl ?_
    refine e_aaldn F hP (by omega) (by omega) (by decide) (hPn) dX5_sealTold_5 ?_
    refine e_ifnullN F 20 dX5_sealTold_6 (by decide) ?_
    refine e_iconst F dX5_sealTold_20 ?_
    refine e_goto F 36 dX5_sealTold_21 (by decide) ?_
    refine e_iret F rfl (by omega) ?_ dX5_sealTold_36
    exact ⟨by unfold stV; rw [if_neg (fun q => by have := q.1; omega)], rfl, rfl⟩
  ·
    refine e_aload_n F dX5_sealTold_0 rfl ?_
    refine e_get (ci := 5) (fi := 5) (q := (RX5, TX5, 6)) F hY rfl (by decide) w_fl_RX5_22 (by rfl) dX5_sealTold_1 ?_
    refine e_iload_n F dX5_sealTold_4 rfl ?_
    refine e_aaldr F hP (by omega) (by omega) (by decide) (hPb) dX5_sealTold_5 ?_
    refine e_ifnull F dX5_sealTold_6 ?_
    refine e_iload_n F dX5_sealTold_9 rfl ?_
    refine e_aload_n F dX5_sealTold_10 rfl ?_
    refine e_get (ci := 5) (fi := 5) (q := (RX5, TX5, 6)) F hY rfl (by decide) w_fl_RX5_22 (by rfl) dX5_sealTold_11 ?_
    refine e_iload_n F dX5_sealTold_14 rfl ?_
    refine e_aaldr F hP (by omega) (by omega) (by decide) (hPb) dX5_sealTold_15 ?_
    refine e_alenI F hwb dX5_sealTold_16 ?_
    refine e_icmp_lt F 24 dX5_sealTold_17 (by decide) (⟨by omega, by omega⟩) (⟨by omega, by omega⟩) (fun c_17 => ?_) (fun c_17 => ?_)
    · refine e_aload_n F dX5_sealTold_24 rfl ?_
      refine e_aload_n F dX5_sealTold_25 rfl ?_
      refine e_get (ci := 5) (fi := 5) (q := (RX5, TX5, 6)) F hY rfl (by decide) w_fl_RX5_22 (by rfl) dX5_sealTold_26 ?_
      refine e_iload_n F dX5_sealTold_29 rfl ?_
      refine e_aaldr F hP (by omega) (by omega) (by decide) (hPb) dX5_sealTold_30 ?_
      refine e_iload_n F dX5_sealTold_31 rfl ?_
      refine e_iald F hwb (by omega) (by omega) (by first | decide | omega) dX5_sealTold_32 ?_
      rw [hgE _ (by omega) (by omega)]
      have hEr := hRi.2.1 hp1 k9 (by omega) (by omega)
      refine e_callVV F u_X5_sealBy (by rfl) (c_X5_sealBy hY hwh hEr.1 hEr.2) hY rfl rfl w_ml_RX5_84 dX5_sealTold_33 (by rfl) (Nat.le_of_ble_eq_true rfl) (by decide) (by omega) (fun _ _ _ h _ => False.elim h) (fun r_33 w_33 n_33 h_33 hn_33 => ?_)
      obtain ⟨rfl, ew_33, en_33⟩ := h_33
      rw [ew_33, en_33]
      refine e_iret F rfl (by omega) ?_ dX5_sealTold_36
      first
      | exact ⟨by unfold stV; rw [if_pos ⟨hp1, by omega⟩], rfl, rfl⟩
      | exact ⟨by unfold stV; rw [if_neg (fun q => by have := q.2; omega)], rfl, rfl⟩
    · refine e_iconst F dX5_sealTold_20 ?_
      refine e_goto F 36 dX5_sealTold_21 (by decide) ?_
      refine e_iret F rfl (by omega) ?_ dX5_sealTold_36
      first
      | exact ⟨by unfold stV; rw [if_pos ⟨hp1, by omega⟩], rfl, rfl⟩
      | exact ⟨by unfold stV; rw [if_neg (fun q => by have := q.2; omega)], rfl, rfl⟩
set_option maxHeartbeats 4000000 in
set_option maxRecDepth 100000 in
theorem c_X5_isFit {K : e_K} {l : Launch} {w : e_W} {n : Nat} {y wh : Nat} {t kn : Int} {R : Nat → RD} (hM : MW w y wh kn t R) {i : Nat} (hi : i < 6) {h : Int} (h1 : 1 ≤ h) (h2 : h ≤ ho wh) (hp1 : (R i).hp = 1) : e_Met K l yX5_isFit (Cond.code yX5_isFit cX5_isFit 3 (Option.some .boolean) :: e_TB) (2) (0) [.ref y, .int (eI (i : Int)), .int (eI h)] w n (fun r w' n' => r = some (.int (eI (b01 (fiV wh (R i) h)))) ∧ w' = w ∧ n' = n) (e_px0) := by
  refine e_ofV rfl (Nat.le_of_ble_eq_true rfl) ?_
  intro P9 E9 S9 M9 A9 B9 T9 C9 F hnm
  obtain ⟨hY, hwh, ⟨G, hG, hGe⟩, ⟨SS, PP, hS, hP, hMD⟩, hRV⟩ := id hM
  have hp := pr_rg wh hwh
  have hho := ho_rg wh hwh
  have hdg := MD.dg (hMD i hi)
  have hGi := hGe i hi
  have hRi := hRV i hi
  obtain ⟨_, ⟨b, g, hPb, hyb, hwb, hgr, hgE⟩, hd0⟩ := (MD.pw (hMD i hi)).resolve_left (fun q => by have := q.1; omega)
  obtain ⟨a, f, hSa, hya, hwa, hfr, hfA⟩ := MD.row (hMD i hi)  (by omega)
  have hAr := hM.rgA hi (j := h) (by omega) (by omega)
  refine e_aload_n F dX5_isFit_0 rfl ?_
  refine e_get (ci := 5) (fi := 4) (q := (RX5, TX5, 6)) F hY rfl (by decide) w_fl_RX5_18 (by rfl) dX5_isFit_1 ?_
  refine e_iload_n F dX5_isFit_4 rfl ?_
  refine e_aaldr F hS (by omega) (by omega) (by decide) (hSa) dX5_isFit_5 ?_
  refine e_iload_n F dX5_isFit_6 rfl ?_
  refine e_iald F hwa (by omega) (by omega) (by first | decide | omega) dX5_isFit_7 ?_
  rw [hfA _ (by omega) (by omega)]
  refine e_aload_n F dX5_isFit_8 rfl ?_
  refine e_aload_n F dX5_isFit_9 rfl ?_
  refine e_get (ci := 5) (fi := 5) (q := (RX5, TX5, 6)) F hY rfl (by decide) w_fl_RX5_22 (by rfl) dX5_isFit_10 ?_
  refine e_iload_n F dX5_isFit_13 rfl ?_
  refine e_aaldr F hP (by omega) (by omega) (by decide) (hPb) dX5_isFit_14 ?_
  refine e_iload_n F dX5_isFit_15 rfl ?_
  refine e_callVV F u_X5_value (by rfl) (c_X5_value hY hwh (x := h) hwb (by omega) (fun j j0 j1 => by rw [hgE j j0 (by omega)]; exact hRi.2.1 hp1 j j0 (by omega)) (by omega) (by omega)) hY rfl rfl w_ml_RX5_91 dX5_isFit_16 (by rfl) (Nat.le_of_ble_eq_true rfl) (by decide) (by omega) (fun _ _ _ h _ => False.elim h) (fun r_16 w_16 n_16 h_16 hn_16 => ?_)
  obtain ⟨rfl, ew_16, en_16⟩ := h_16
  have e16 : hv (pr wh) h g (((R i).dg.toNat + 1 : Nat) : Int) ((R i).dg.toNat + 1) = hv (pr wh) h (R i).E (((R i).dg.toNat + 1 : Nat) : Int) ((R i).dg.toNat + 1) := hv_congr _ (by omega) (fun j j0 j1 => hgE j j0 j1)
  rw [ew_16, en_16, e16]
  have hv16 := hv_rg (x := h) (P := (R i).E) (N := (((R i).dg.toNat + 1 : Nat) : Int)) (show 0 < pr wh by omega) ((R i).dg.toNat + 1)
  refine e_icmp_ne F 26 dX5_isFit_19 (by decide) (⟨by omega, by omega⟩) (⟨by omega, by omega⟩) (fun c_19 => ?_) (fun c_19 => ?_)
  · refine e_iconst F dX5_isFit_26 ?_
    refine e_zret F rfl (by omega) (by omega) ?_ dX5_isFit_27
    refine ⟨?_, rfl, rfl⟩
    first | rw [b01_t (show fiV wh (R i) h from c_19)] | rw [b01_f (fun q => c_19 q)]
  · refine e_iconst F dX5_isFit_22 ?_
    refine e_goto F 27 dX5_isFit_23 (by decide) ?_
    refine e_zret F rfl (by omega) (by omega) ?_ dX5_isFit_27
    refine ⟨?_, rfl, rfl⟩
    first | rw [b01_t (show fiV wh (R i) h from c_19)] | rw [b01_f (fun q => c_19 q)]
set_option maxHeartbeats 4000000 in
set_option maxRecDepth 100000 in
theorem c_X5_put {K : e_K} {l : Launch} {w : e_W} {n : Nat} {y wh : Nat} {t kn : Int} {R : Nat → RD} (hM : MW w y wh kn t R) {i : Nat} (hi : i < 6) {h : Int} (h1 : 1 ≤ h) (h2 : h ≤ ho wh) {v : Int} (hv : v = -1 ∨ (0 ≤ v ∧ v < pr wh)) (hne : ¬ (R i).dg = -1) : e_Met K l yX5_put (Cond.code yX5_put cX5_put 5 none :: e_TB) (1) (1) [.ref y, .int (eI (i : Int)), .int (eI h), .int (eI v)] w n (fun r w' n' => r = none ∧ MW w' y wh kn t (updR R i (puR (R i) h v)) ∧ FM w w' y n) (e_px0) := by
  refine e_ofV rfl (Nat.le_of_ble_eq_true rfl) ?_
  intro P9 E9 S9 M9 A9 B9 T9 C9 F hnm
  obtain ⟨hY, hwh, ⟨G, hG, hGe⟩, ⟨SS, PP, hS, hP, hMD⟩, hRV⟩ := id hM
  have hp := pr_rg wh hwh
  have hho := ho_rg wh hwh
  have hdg := MD.dg (hMD i hi)
  have hGi := hGe i hi
  have hRi := hRV i hi
  obtain ⟨a, f, hSa, hya, hwa, hfr, hfA⟩ := MD.row (hMD i hi)  hne
  refine e_dom ?_
  intro hdom
  have hyn := hdom _ _ hY
  have hsn := hdom _ _ hS
  have hpn := hdom _ _ hP
  have han := hdom _ _ hwa
  refine e_aload_n F dX5_put_0 rfl ?_
  refine e_get (ci := 5) (fi := 4) (q := (RX5, TX5, 6)) F hY rfl (by decide) w_fl_RX5_18 (by rfl) dX5_put_1 ?_
  refine e_iload_n F dX5_put_4 rfl ?_
  refine e_aaldr F hS (by omega) (by omega) (by decide) (hSa) dX5_put_5 ?_
  refine e_cloneX F (i0 := 0) (ty := .int) (ai := 8) rfl hwa (by omega) (by omega) (e_nmI F) (fun _ _ => rfl) w_ml_RX5_144 w_sa__I_clone w_nat_clone_20 w_im_java_lang_Object_clone___Ljava_lang_Object_ w_sx__I__I_clone___Ljava_lang_Object_ w_ca__I_RJx8e188 dX5_put_6 (Nat.le_of_ble_eq_true rfl) (by decide) ?_
  refine e_castA F (ai := 8) e_up_s (e_nmI F) w_cl_RX5_17 dX5_put_9 ?_
  refine e_astore F dX5_put_12 (by decide) ?_
  refine e_aload F dX5_put_14 rfl ?_
  refine e_iload_n F dX5_put_16 rfl ?_
  refine e_iload_n F dX5_put_17 rfl ?_
  refine e_iast F e_up_s (by omega) (by omega) (by first | decide | omega) dX5_put_18 ?_
  refine e_aload_n F dX5_put_19 rfl ?_
  refine e_get (ci := 5) (fi := 4) (q := (RX5, TX5, 6)) F (show e_up (e_up w n _) n _ y = _ by rw [e_up_n (by omega), e_up_n (by omega)]; exact hY) rfl (by decide) w_fl_RX5_18 (by rfl) dX5_put_20 ?_
  refine e_iload_n F dX5_put_23 rfl ?_
  refine e_aload F dX5_put_24 rfl ?_
  refine e_aastR F (f := SS) (show e_up (e_up w n _) n _ (y + 2) = _ by rw [e_up_n (by omega), e_up_n (by omega)]; exact hS) e_up_s (by omega) (by omega) (by decide) dX5_put_26 ?_
  refine e_vret F rfl (by omega) ?_ dX5_put_27
  have hw9 : ∀ q, q < n → q ≠ y + 2 → e_up (e_up (e_up w n (e_ia ((ho wh).toNat + 1) f)) n (e_ia ((ho wh).toNat + 1) (e_fu f h v))) (y + 2) (e_ra 6 (e_fu SS (i : Int) (some n))) q = w q := fun q q1 q2 => by rw [e_up_n q2, e_up_n (by omega), e_up_n (by omega)]
  refine ⟨rfl, ?_, fun q q1 q2 => hw9 q q1 (by omega)⟩
  refine MW.up (w := w) (G := G) (G2 := G) (SS := SS) (PP := PP) (P2 := PP) (S2 := e_fu SS (i : Int) (some n)) hwh hGe hMD hRV (by rw [hw9 y (by omega) (by omega)]; exact hY) (by rw [hw9 _ (by have := hdom _ _ hG; omega) (by omega)]; exact hG) e_up_s (by rw [hw9 _ (by omega) (by omega)]; exact hP) (fun q e q1 q2 => by rw [hw9 q (hdom _ _ q2) (by omega)]; exact q2) (fun j hj => ?_) (fun j hj q => ?_) (fun _ _ _ => rfl) ?_ ?_
  · by_cases e : j = i
    · rw [if_pos e, e]; exact hGi
    · rw [if_neg e]
  · unfold e_fu
    rw [if_neg (by omega)]
  · have e1 : e_fu SS (i : Int) (some n) (i : Int) = some n := if_pos rfl
    rw [e1]
    have hto : ∀ q e, y + 3 < q → w q = some e → e_up (e_up (e_up w n (e_ia ((ho wh).toNat + 1) f)) n (e_ia ((ho wh).toNat + 1) (e_fu f h v))) (y + 2) (e_ra 6 (e_fu SS (i : Int) (some n))) q = some e := fun q e q1 q2 => by rw [hw9 q (hdom _ _ q2) (by omega)]; exact q2
    rcases (hMD i hi) with q | ⟨q1, q2, q3⟩
    · exact absurd q.1 hne
    · refine Or.inr ⟨q1, ⟨n, e_fu f h v, rfl, by omega, by rw [e_up_n (by omega)]; exact e_up_s, fun j j0 j1 => ?_, fun j j0 j1 => ?_⟩, q3.imp id (fun z => ⟨z.1, z.2.to hto⟩)⟩
      · unfold e_fu
        split
        · rcases hv with z | z <;> omega
        · exact hfr j j0 j1
      · show e_fu f h v j = e_fu (R i).A h v j
        unfold e_fu
        split
        · rfl
        · exact hfA j j0 j1
  · refine ⟨fun j j0 j1 => ?_, hRi.2.1, fun q => absurd q hne⟩
    show e_fu (R i).A h v j = -1 ∨ (0 ≤ e_fu (R i).A h v j ∧ e_fu (R i).A h v j < pr wh ∧ j ≤ ho wh)
    unfold e_fu
    split
    · rcases hv with z | z <;> omega
    · exact hRi.1 j j0 j1
end
-- 49.lay.lean.txt
section
/-! the reference: laying -/
def W3 (w : e_W) (y : Nat) (G : Int → Int) (SS PP : Int → Option Nat) (i : Nat) (g : Int) (o1 o2 : Option Nat) : e_W := e_up (e_up (e_up w (y + 1) (e_ia 6 (e_fu G (i : Int) g))) (y + 2) (e_ra 6 (e_fu SS (i : Int) o1))) (y + 3) (e_ra 6 (e_fu PP (i : Int) o2))
theorem W3.n {w : e_W} {y : Nat} {G : Int → Int} {SS PP : Int → Option Nat} {i : Nat} {g : Int} {o1 o2 : Option Nat} {q : Nat} (h1 : q ≠ y + 1) (h2 : q ≠ y + 2) (h3 : q ≠ y + 3) : W3 w y G SS PP i g o1 o2 q = w q := by
  unfold W3
  rw [e_up_n h3, e_up_n h2, e_up_n h1]
theorem MW.lay {w : e_W} {y wh i : Nat} {kn t : Int} {R : Nat → RD} {G : Int → Int} {SS PP : Int → Option Nat} {r : RD} {o1 o2 : Option Nat} (hi : i < 6) (hY : w y = some (MO y t wh kn)) (hwh : wh < 7) (hGe : ∀ j : Nat, j < 6 → G (j : Int) = (R j).dg) (hMD : ∀ j : Nat, j < 6 → MD w y wh (SS (j : Int)) (PP (j : Int)) (R j)) (hRV : ∀ j : Nat, j < 6 → RV wh (R j)) (hd : MD w y wh o1 o2 r) (hr : RV wh r) : MW (W3 w y G SS PP i r.dg o1 o2) y wh kn t (updR R i r) := by
  refine MW.up (w := w) (G := G) (SS := SS) (PP := PP) (G2 := e_fu G (i : Int) r.dg) (S2 := e_fu SS (i : Int) o1) (P2 := e_fu PP (i : Int) o2) hwh hGe hMD hRV (by rw [W3.n (by omega) (by omega) (by omega)]; exact hY) (by unfold W3; rw [e_up_n (by omega), e_up_n (by omega)]; exact e_up_s) (by unfold W3; rw [e_up_n (by omega)]; exact e_up_s) (by unfold W3; exact e_up_s) (fun q e q1 q2 => by rw [W3.n (by omega) (by omega) (by omega)]; exact q2) (fun j hj => ?_) (fun j hj q => ?_) (fun j hj q => ?_) ?_ hr
  · unfold e_fu
    by_cases e : j = i
    · rw [if_pos (by omega), if_pos e]
    · rw [if_neg (by omega), if_neg e]
  · unfold e_fu
    rw [if_neg (by omega)]
  · unfold e_fu
    rw [if_neg (by omega)]
  · have e1 : e_fu SS (i : Int) o1 (i : Int) = o1 := if_pos rfl
    have e2 : e_fu PP (i : Int) o2 (i : Int) = o2 := if_pos rfl
    rw [e1, e2]
    exact hd.to (fun q e q1 q2 => by rw [W3.n (by omega) (by omega) (by omega)]; exact q2)
theorem emR_MD {w : e_W} {y wh : Nat} (r : RD) : MD w y wh none none (emR r) := Or.inl ⟨rfl, rfl, rfl, rfl⟩
theorem emR_RV {wh : Nat} (r : RD) : RV wh (emR r) := ⟨fun _ _ _ => Or.inl rfl, fun h => absurd h (show ¬ ((0 : Int) = 1) by decide), fun _ _ _ _ => rfl⟩
theorem updR_s {R : Nat → RD} {i : Nat} {r : RD} : updR R i r i = r := if_pos rfl
def noT (wh : Nat) (i s9 : Int) : Int := if ¬ (0 ≤ i ∧ i < 6) then 1 else if ¬ (1 ≤ s9 ∧ s9 ≤ fl wh) then 2 else 0
def feB (wh : Nat) (r : RD) (set : Int) : Nat → Bool
  | 0 => true
  | k + 1 => feB wh r set k && (!decide (hs set ((k : Int) + 1)) || decide (fiV wh r ((k : Int) + 1)))
theorem feB_mono {wh : Nat} {r : RD} {set : Int} {j M : Nat} (h : j ≤ M) (hM : feB wh r set M = true) : feB wh r set j = true := by
  induction M with
  | zero => rw [show j = 0 by omega]; rfl
  | succ M ih =>
    by_cases e : j = M + 1
    · rw [e]; exact hM
    · have h2 : (feB wh r set M && (!decide (hs set ((M : Int) + 1)) || decide (fiV wh r ((M : Int) + 1)))) = true := hM
      exact ih (by omega) (by simp only [Bool.and_eq_true] at h2; exact h2.1)
abbrev fsV (wh : Nat) (r : RD) : Prop := foV wh r = 0 ∨ ¬ (feB wh r (foV wh r) (ho wh).toNat = true) ∨ sl wh (atV wh (foV wh r) r.A 0) = stV wh r 0
def fwK (wh : Nat) (R : Nat → RD) : Nat → Bool
  | 0 => true
  | k + 1 => if (R (5 - k)).hp = 1 then decide (fsV wh (R (5 - k))) else fwK wh R k
abbrev whV (wh : Nat) (R : Nat → RD) : Prop := atV wh (fl wh) (fun _ => 1) 0 = 1 ∧ fwK wh R 6 = true
def mdV (wh : Nat) (r : RD) (c : Int) : Int := if c = 0 then r.dg else if c = 1 then bc (st7 r.A) else if c = 2 then st7 r.A else if c = 3 then r.hp else if c = 4 then b01 (r.dg ≠ -1 ∧ agD wh r (st7 r.A)) else (if r.dg = -1 ∨ foV wh r = 0 then -1 else atV wh (foV wh r) r.A 0)
theorem atV_rg {wh : Nat} (hwh : wh < 7) (set : Int) (A : Int → Int) (x : Int) : 0 ≤ atV wh set A x ∧ atV wh set A x < pr wh := hv_rg (by have := pr_rg wh hwh; omega) 7
theorem stV_rg {wh : Nat} (hwh : wh < 7) (r : RD) (k : Int) : -1 ≤ stV wh r k ∧ stV wh r k < gr wh ∧ (r.hp = 1 → k ≤ r.dg → 1 ≤ stV wh r k) := by
  have hg := gr_rg wh hwh
  have h1 := sl_rg (v := r.E k) hwh
  have h2 := un_ne hwh (un_sl hwh (r.E k)) h1.1
  unfold stV
  split
  · exact ⟨by omega, by omega, fun _ _ => h2⟩
  · rename_i q
    exact ⟨by omega, by omega, fun a b => absurd ⟨a, b⟩ q⟩
set_option maxHeartbeats 4000000 in
set_option maxRecDepth 100000 in
theorem c_X5_layRR {K : e_K} {l : Launch} {w : e_W} {n : Nat} {y wh : Nat} {t kn : Int} {R : Nat → RD} (hM : MW w y wh kn t R) {i : Nat} (hi : i < 6) {a : Nat} {b : Nat} {r : RD} (hd : MD w y wh (some a) (some b) r) (hr : RV wh r) : e_Met K l yX5_lay (Cond.code yX5_lay cX5_lay 5 (Option.some .int) :: e_TB) (3) (0) [.ref y, .int (eI (i : Int)), .int (eI r.dg), .ref a, .ref b] w n (fun r' w' n' => r' = some (.int (eI (bc (st7 r.A)))) ∧ n' = n ∧ MW w' y wh kn t (updR R i r) ∧ FM w w' y n) (e_px0) := by
  refine e_ofV rfl (Nat.le_of_ble_eq_true rfl) ?_
  intro P9 E9 S9 M9 A9 B9 T9 C9 F hnm
  obtain ⟨hY, hwh, ⟨G, hG, hGe⟩, ⟨SS, PP, hS, hP, hMD⟩, hRV⟩ := id hM
  have hp := pr_rg wh hwh
  have hho := ho_rg wh hwh
  have hst := st7_rg r.A
  obtain ⟨a2, f, ha2, hya, hwa, hfr, hfA⟩ : RW w y (some a) ((ho wh).toNat + 1) (pr wh) 1 r.A := MD.row hd (fun q => by rcases hd with z | z; exact absurd z.2.1 (by simp); omega)
  cases ha2
  obtain ⟨_, ⟨b2, g, hb2, hyb, hwb, hgr, hgE⟩, hd0⟩ := (MD.pw hd).resolve_left (fun q => absurd q.2 (by simp))
  cases hb2
  refine e_aload_n F dX5_lay_0 rfl ?_
  refine e_get (ci := 5) (fi := 3) (q := (RX5, TX5, 6)) F hY rfl (by decide) w_fl_RX5_13 (by rfl) dX5_lay_1 ?_
  refine e_iload_n F dX5_lay_4 rfl ?_
  refine e_iload_n F dX5_lay_5 rfl ?_
  refine e_iast F hG (by omega) (by omega) (by first | decide | omega) dX5_lay_6 ?_
  refine e_aload_n F dX5_lay_7 rfl ?_
  refine e_get (ci := 5) (fi := 4) (q := (RX5, TX5, 6)) F (show e_up w (y + 1) _ y = _ by rw [e_up_n (by omega)]; exact hY) rfl (by decide) w_fl_RX5_18 (by rfl) dX5_lay_8 ?_
  refine e_iload_n F dX5_lay_11 rfl ?_
  refine e_aload_n F dX5_lay_12 rfl ?_
  refine e_aastR F (f := SS) (show e_up w (y + 1) _ (y + 2) = _ by rw [e_up_n (by omega)]; exact hS) (show e_up w (y + 1) _ a = _ by rw [e_up_n (by omega)]; exact hwa) (by omega) (by omega) (by decide) dX5_lay_13 ?_
  refine e_aload_n F dX5_lay_14 rfl ?_
  refine e_get (ci := 5) (fi := 5) (q := (RX5, TX5, 6)) F (show e_up (e_up w (y + 1) _) (y + 2) _ y = _ by rw [e_up_n (by omega), e_up_n (by omega)]; exact hY) rfl (by decide) w_fl_RX5_22 (by rfl) dX5_lay_15 ?_
  refine e_iload_n F dX5_lay_18 rfl ?_
  refine e_aload F dX5_lay_19 rfl ?_
  refine e_aastR F (f := PP) (show e_up (e_up w (y + 1) _) (y + 2) _ (y + 3) = _ by rw [e_up_n (by omega), e_up_n (by omega)]; exact hP) (show e_up (e_up w (y + 1) _) (y + 2) _ b = _ by rw [e_up_n (by omega), e_up_n (by omega)]; exact hwb) (by omega) (by omega) (by decide) dX5_lay_21 ?_
  have gM := MW.lay (i := i) hi hY hwh hGe hMD hRV hd hr
  change e_V _ _ _ _ _ _ _ _ _ _ _ _ _ _ _ _ _ _ (W3 w y G SS PP i r.dg (some a) (some b)) _ _
  refine e_aload_n F dX5_lay_22 rfl ?_
  refine e_iload_n F dX5_lay_23 rfl ?_
  refine e_callVV F u_X5_setOf (by rfl) (c_X5_setOf gM hi) gM.1 rfl rfl w_ml_RX5_116 dX5_lay_24 (by rfl) (Nat.le_of_ble_eq_true rfl) (by decide) (by omega) (fun _ _ _ h _ => False.elim h) (fun r_24 w_24 n_24 h_24 hn_24 => ?_)
  obtain ⟨rfl, ew_24, en_24⟩ := h_24
  rw [ew_24, en_24, updR_s]
  refine e_callSS F u_X5_many (by rfl) (c_X5_many hst.1 hst.2) w_ml_RX5_119 dX5_lay_27 (by rfl) (Nat.le_of_ble_eq_true rfl) (by decide) (by omega) (fun _ _ _ h _ => False.elim h) (fun r_27 w_27 n_27 h_27 hn_27 => ?_)
  obtain ⟨rfl, ew_27, en_27⟩ := h_27
  rw [ew_27, en_27]
  refine e_iret F rfl (by omega) ?_ dX5_lay_30
  exact ⟨rfl, rfl, gM, fun q q1 q2 => W3.n (by omega) (by omega) (by omega)⟩
set_option maxHeartbeats 4000000 in
set_option maxRecDepth 100000 in
theorem c_X5_layRN {K : e_K} {l : Launch} {w : e_W} {n : Nat} {y wh : Nat} {t kn : Int} {R : Nat → RD} (hM : MW w y wh kn t R) {i : Nat} (hi : i < 6) {a : Nat} {r : RD} (hd : MD w y wh (some a) (none) r) (hr : RV wh r) : e_Met K l yX5_lay (Cond.code yX5_lay cX5_lay 5 (Option.some .int) :: e_TB) (3) (0) [.ref y, .int (eI (i : Int)), .int (eI r.dg), .ref a, .null] w n (fun r' w' n' => r' = some (.int (eI (bc (st7 r.A)))) ∧ n' = n ∧ MW w' y wh kn t (updR R i r) ∧ FM w w' y n) (e_px0) := by
  refine e_ofV rfl (Nat.le_of_ble_eq_true rfl) ?_
  intro P9 E9 S9 M9 A9 B9 T9 C9 F hnm
  obtain ⟨hY, hwh, ⟨G, hG, hGe⟩, ⟨SS, PP, hS, hP, hMD⟩, hRV⟩ := id hM
  have hp := pr_rg wh hwh
  have hho := ho_rg wh hwh
  have hst := st7_rg r.A
  obtain ⟨a2, f, ha2, hya, hwa, hfr, hfA⟩ : RW w y (some a) ((ho wh).toNat + 1) (pr wh) 1 r.A := MD.row hd (fun q => by rcases hd with z | z; exact absurd z.2.1 (by simp); omega)
  cases ha2
  refine e_aload_n F dX5_lay_0 rfl ?_
  refine e_get (ci := 5) (fi := 3) (q := (RX5, TX5, 6)) F hY rfl (by decide) w_fl_RX5_13 (by rfl) dX5_lay_1 ?_
  refine e_iload_n F dX5_lay_4 rfl ?_
  refine e_iload_n F dX5_lay_5 rfl ?_
  refine e_iast F hG (by omega) (by omega) (by first | decide | omega) dX5_lay_6 ?_
  refine e_aload_n F dX5_lay_7 rfl ?_
  refine e_get (ci := 5) (fi := 4) (q := (RX5, TX5, 6)) F (show e_up w (y + 1) _ y = _ by rw [e_up_n (by omega)]; exact hY) rfl (by decide) w_fl_RX5_18 (by rfl) dX5_lay_8 ?_
  refine e_iload_n F dX5_lay_11 rfl ?_
  refine e_aload_n F dX5_lay_12 rfl ?_
  refine e_aastR F (f := SS) (show e_up w (y + 1) _ (y + 2) = _ by rw [e_up_n (by omega)]; exact hS) (show e_up w (y + 1) _ a = _ by rw [e_up_n (by omega)]; exact hwa) (by omega) (by omega) (by decide) dX5_lay_13 ?_
  refine e_aload_n F dX5_lay_14 rfl ?_
  refine e_get (ci := 5) (fi := 5) (q := (RX5, TX5, 6)) F (show e_up (e_up w (y + 1) _) (y + 2) _ y = _ by rw [e_up_n (by omega), e_up_n (by omega)]; exact hY) rfl (by decide) w_fl_RX5_22 (by rfl) dX5_lay_15 ?_
  refine e_iload_n F dX5_lay_18 rfl ?_
  refine e_aloadN F dX5_lay_19 rfl ?_
  refine e_aastRN F (f := PP) (show e_up (e_up w (y + 1) _) (y + 2) _ (y + 3) = _ by rw [e_up_n (by omega), e_up_n (by omega)]; exact hP) (by omega) (by omega) (by decide) dX5_lay_21 ?_
  have gM := MW.lay (i := i) hi hY hwh hGe hMD hRV hd hr
  change e_V _ _ _ _ _ _ _ _ _ _ _ _ _ _ _ _ _ _ (W3 w y G SS PP i r.dg (some a) (none)) _ _
  refine e_aload_n F dX5_lay_22 rfl ?_
  refine e_iload_n F dX5_lay_23 rfl ?_
  refine e_callVV F u_X5_setOf (by rfl) (c_X5_setOf gM hi) gM.1 rfl rfl w_ml_RX5_116 dX5_lay_24 (by rfl) (Nat.le_of_ble_eq_true rfl) (by decide) (by omega) (fun _ _ _ h _ => False.elim h) (fun r_24 w_24 n_24 h_24 hn_24 => ?_)
  obtain ⟨rfl, ew_24, en_24⟩ := h_24
  rw [ew_24, en_24, updR_s]
  refine e_callSS F u_X5_many (by rfl) (c_X5_many hst.1 hst.2) w_ml_RX5_119 dX5_lay_27 (by rfl) (Nat.le_of_ble_eq_true rfl) (by decide) (by omega) (fun _ _ _ h _ => False.elim h) (fun r_27 w_27 n_27 h_27 hn_27 => ?_)
  obtain ⟨rfl, ew_27, en_27⟩ := h_27
  rw [ew_27, en_27]
  refine e_iret F rfl (by omega) ?_ dX5_lay_30
  exact ⟨rfl, rfl, gM, fun q q1 q2 => W3.n (by omega) (by omega) (by omega)⟩
set_option maxHeartbeats 4000000 in
set_option maxRecDepth 100000 in
theorem c_X5_layNN {K : e_K} {l : Launch} {w : e_W} {n : Nat} {y wh : Nat} {t kn : Int} {R : Nat → RD} (hM : MW w y wh kn t R) {i : Nat} (hi : i < 6) {r : RD} (hd : MD w y wh (none) (none) r) (hr : RV wh r) : e_Met K l yX5_lay (Cond.code yX5_lay cX5_lay 5 (Option.some .int) :: e_TB) (3) (0) [.ref y, .int (eI (i : Int)), .int (eI r.dg), .null, .null] w n (fun r' w' n' => r' = some (.int (eI (bc (st7 r.A)))) ∧ n' = n ∧ MW w' y wh kn t (updR R i r) ∧ FM w w' y n) (e_px0) := by
  refine e_ofV rfl (Nat.le_of_ble_eq_true rfl) ?_
  intro P9 E9 S9 M9 A9 B9 T9 C9 F hnm
  obtain ⟨hY, hwh, ⟨G, hG, hGe⟩, ⟨SS, PP, hS, hP, hMD⟩, hRV⟩ := id hM
  have hp := pr_rg wh hwh
  have hho := ho_rg wh hwh
  have hst := st7_rg r.A
  refine e_aload_n F dX5_lay_0 rfl ?_
  refine e_get (ci := 5) (fi := 3) (q := (RX5, TX5, 6)) F hY rfl (by decide) w_fl_RX5_13 (by rfl) dX5_lay_1 ?_
  refine e_iload_n F dX5_lay_4 rfl ?_
  refine e_iload_n F dX5_lay_5 rfl ?_
  refine e_iast F hG (by omega) (by omega) (by first | decide | omega) dX5_lay_6 ?_
  refine e_aload_n F dX5_lay_7 rfl ?_
  refine e_get (ci := 5) (fi := 4) (q := (RX5, TX5, 6)) F (show e_up w (y + 1) _ y = _ by rw [e_up_n (by omega)]; exact hY) rfl (by decide) w_fl_RX5_18 (by rfl) dX5_lay_8 ?_
  refine e_iload_n F dX5_lay_11 rfl ?_
  refine e_aload_nN F dX5_lay_12 rfl ?_
  refine e_aastRN F (f := SS) (show e_up w (y + 1) _ (y + 2) = _ by rw [e_up_n (by omega)]; exact hS) (by omega) (by omega) (by decide) dX5_lay_13 ?_
  refine e_aload_n F dX5_lay_14 rfl ?_
  refine e_get (ci := 5) (fi := 5) (q := (RX5, TX5, 6)) F (show e_up (e_up w (y + 1) _) (y + 2) _ y = _ by rw [e_up_n (by omega), e_up_n (by omega)]; exact hY) rfl (by decide) w_fl_RX5_22 (by rfl) dX5_lay_15 ?_
  refine e_iload_n F dX5_lay_18 rfl ?_
  refine e_aloadN F dX5_lay_19 rfl ?_
  refine e_aastRN F (f := PP) (show e_up (e_up w (y + 1) _) (y + 2) _ (y + 3) = _ by rw [e_up_n (by omega), e_up_n (by omega)]; exact hP) (by omega) (by omega) (by decide) dX5_lay_21 ?_
  have gM := MW.lay (i := i) hi hY hwh hGe hMD hRV hd hr
  change e_V _ _ _ _ _ _ _ _ _ _ _ _ _ _ _ _ _ _ (W3 w y G SS PP i r.dg (none) (none)) _ _
  refine e_aload_n F dX5_lay_22 rfl ?_
  refine e_iload_n F dX5_lay_23 rfl ?_
  refine e_callVV F u_X5_setOf (by rfl) (c_X5_setOf gM hi) gM.1 rfl rfl w_ml_RX5_116 dX5_lay_24 (by rfl) (Nat.le_of_ble_eq_true rfl) (by decide) (by omega) (fun _ _ _ h _ => False.elim h) (fun r_24 w_24 n_24 h_24 hn_24 => ?_)
  obtain ⟨rfl, ew_24, en_24⟩ := h_24
  rw [ew_24, en_24, updR_s]
  refine e_callSS F u_X5_many (by rfl) (c_X5_many hst.1 hst.2) w_ml_RX5_119 dX5_lay_27 (by rfl) (Nat.le_of_ble_eq_true rfl) (by decide) (by omega) (fun _ _ _ h _ => False.elim h) (fun r_27 w_27 n_27 h_27 hn_27 => ?_)
  obtain ⟨rfl, ew_27, en_27⟩ := h_27
  rw [ew_27, en_27]
  refine e_iret F rfl (by omega) ?_ dX5_lay_30
  exact ⟨rfl, rfl, gM, fun q q1 q2 => W3.n (by omega) (by omega) (by omega)⟩
set_option maxHeartbeats 4000000 in
set_option maxRecDepth 100000 in
theorem c_X5_empty {K : e_K} {l : Launch} {w : e_W} {n : Nat} {y wh : Nat} {t kn : Int} {R : Nat → RD} (hM : MW w y wh kn t R) {i : Nat} (hi : i < 6) : e_Met K l yX5_empty (Cond.code yX5_empty cX5_empty 2 none :: e_TB) (0) (0) [.ref y, .int (eI (i : Int))] w n (fun r w' n' => r = none ∧ n' = n ∧ MW w' y wh kn t (updR R i (emR (R i))) ∧ FM w w' y n) (e_px0) := by
  refine e_ofV rfl (Nat.le_of_ble_eq_true rfl) ?_
  intro P9 E9 S9 M9 A9 B9 T9 C9 F hnm
  obtain ⟨hY, hwh, ⟨G, hG, hGe⟩, ⟨SS, PP, hS, hP, hMD⟩, hRV⟩ := id hM
  have hp := pr_rg wh hwh
  have hho := ho_rg wh hwh
  refine e_aload_n F dX5_empty_0 rfl ?_
  refine e_get (ci := 5) (fi := 3) (q := (RX5, TX5, 6)) F hY rfl (by decide) w_fl_RX5_13 (by rfl) dX5_empty_1 ?_
  refine e_iload_n F dX5_empty_4 rfl ?_
  refine e_iconst F dX5_empty_5 ?_
  refine e_iast F hG (by omega) (by omega) (by first | decide | omega) dX5_empty_6 ?_
  refine e_aload_n F dX5_empty_7 rfl ?_
  refine e_get (ci := 5) (fi := 4) (q := (RX5, TX5, 6)) F (show e_up w (y + 1) _ y = _ by rw [e_up_n (by omega)]; exact hY) rfl (by decide) w_fl_RX5_18 (by rfl) dX5_empty_8 ?_
  refine e_iload_n F dX5_empty_11 rfl ?_
  refine e_null F dX5_empty_12 ?_
  refine e_aastRN F (f := SS) (show e_up w (y + 1) _ (y + 2) = _ by rw [e_up_n (by omega)]; exact hS) (by omega) (by omega) (by decide) dX5_empty_13 ?_
  refine e_aload_n F dX5_empty_14 rfl ?_
  refine e_get (ci := 5) (fi := 5) (q := (RX5, TX5, 6)) F (show e_up (e_up w (y + 1) _) (y + 2) _ y = _ by rw [e_up_n (by omega), e_up_n (by omega)]; exact hY) rfl (by decide) w_fl_RX5_22 (by rfl) dX5_empty_15 ?_
  refine e_iload_n F dX5_empty_18 rfl ?_
  refine e_null F dX5_empty_19 ?_
  refine e_aastRN F (f := PP) (show e_up (e_up w (y + 1) _) (y + 2) _ (y + 3) = _ by rw [e_up_n (by omega), e_up_n (by omega)]; exact hP) (by omega) (by omega) (by decide) dX5_empty_20 ?_
  refine e_vret F rfl (by omega) ?_ dX5_empty_21
  exact ⟨rfl, rfl, MW.lay (i := i) hi hY hwh hGe hMD hRV (emR_MD (R i)) (emR_RV (R i)), fun q q1 q2 => W3.n (by omega) (by omega) (by omega)⟩
set_option maxHeartbeats 4000000 in
set_option maxRecDepth 100000 in
theorem c_X5_areNoDeals {K : e_K} {l : Launch} {w : e_W} {n : Nat} {y : Nat} {i : Int} (hi : e_r i) {j : Int} (hj : e_r j) {k9 : Int} (hk9 : e_r k9) : e_Met K l yX5_areNoDeals (Cond.code yX5_areNoDeals cX5_areNoDeals 4 (Option.some .boolean) :: e_TB) (2) (0) [.ref y, .int (eI i), .int (eI j), .int (eI k9)] w n (fun r w' n' => r = some (.int (eI (b01 (¬ ((0 ≤ i ∧ i < 6) ∧ (0 ≤ j ∧ j < 6) ∧ (0 ≤ k9 ∧ k9 < 6)))))) ∧ w' = w ∧ n' = n) (e_px0) := by
  refine e_ofV rfl (Nat.le_of_ble_eq_true rfl) ?_
  intro P9 E9 S9 M9 A9 B9 T9 C9 F hnm
  refine e_iload_n F dX5_areNoDeals_0 rfl ?_
  refine e_callSS F u_X5_isNoDeal (by rfl) (c_X5_isNoDeal hi) w_ml_RX5_129 dX5_areNoDeals_1 (by rfl) (Nat.le_of_ble_eq_true rfl) (by decide) (by omega) (fun _ _ _ h _ => False.elim h) (fun r_1 w_1 n_1 h_1 hn_1 => ?_)
  obtain ⟨rfl, ew_1, en_1⟩ := h_1
  rw [ew_1, en_1]
  refine e_if_ne F 21 dX5_areNoDeals_4 (by decide) (b01_r _) (fun c_4 => ?_) (fun c_4 => ?_)
  ·
    rw [ne_eq, b01_0, Classical.not_not] at c_4
    refine e_iconst F dX5_areNoDeals_21 ?_
    refine e_goto F 26 dX5_areNoDeals_22 (by decide) ?_
    refine e_zret F rfl (by omega) (by omega) ?_ dX5_areNoDeals_26
    refine ⟨?_, rfl, rfl⟩
    first | rw [b01_t (by omega)] | rw [b01_f (by omega)]
  ·
    rw [b01_0] at c_4
    refine e_iload_n F dX5_areNoDeals_7 rfl ?_
    refine e_callSS F u_X5_isNoDeal (by rfl) (c_X5_isNoDeal hj) w_ml_RX5_129 dX5_areNoDeals_8 (by rfl) (Nat.le_of_ble_eq_true rfl) (by decide) (by omega) (fun _ _ _ h _ => False.elim h) (fun r_8 w_8 n_8 h_8 hn_8 => ?_)
    obtain ⟨rfl, ew_8, en_8⟩ := h_8
    rw [ew_8, en_8]
    refine e_if_ne F 21 dX5_areNoDeals_11 (by decide) (b01_r _) (fun c_11 => ?_) (fun c_11 => ?_)
    ·
      rw [ne_eq, b01_0, Classical.not_not] at c_11
      refine e_iconst F dX5_areNoDeals_21 ?_
      refine e_goto F 26 dX5_areNoDeals_22 (by decide) ?_
      refine e_zret F rfl (by omega) (by omega) ?_ dX5_areNoDeals_26
      refine ⟨?_, rfl, rfl⟩
      first | rw [b01_t (by omega)] | rw [b01_f (by omega)]
    ·
      rw [b01_0] at c_11
      refine e_iload_n F dX5_areNoDeals_14 rfl ?_
      refine e_callSS F u_X5_isNoDeal (by rfl) (c_X5_isNoDeal hk9) w_ml_RX5_129 dX5_areNoDeals_15 (by rfl) (Nat.le_of_ble_eq_true rfl) (by decide) (by omega) (fun _ _ _ h _ => False.elim h) (fun r_15 w_15 n_15 h_15 hn_15 => ?_)
      obtain ⟨rfl, ew_15, en_15⟩ := h_15
      rw [ew_15, en_15]
      refine e_if_eq F 25 dX5_areNoDeals_18 (by decide) (b01_r _) (fun c_18 => ?_) (fun c_18 => ?_)
      ·
        rw [b01_0] at c_18
        refine e_iconst F dX5_areNoDeals_25 ?_
        refine e_zret F rfl (by omega) (by omega) ?_ dX5_areNoDeals_26
        refine ⟨?_, rfl, rfl⟩
        first | rw [b01_t (by omega)] | rw [b01_f (by omega)]
      ·
        rw [b01_0, Classical.not_not] at c_18
        refine e_iconst F dX5_areNoDeals_21 ?_
        refine e_goto F 26 dX5_areNoDeals_22 (by decide) ?_
        refine e_zret F rfl (by omega) (by omega) ?_ dX5_areNoDeals_26
        refine ⟨?_, rfl, rfl⟩
        first | rw [b01_t (by omega)] | rw [b01_f (by omega)]
theorem st1 (c : Prop) [Decidable c] : (if b01 (¬ c) = 1 then (1 : Int) else 0) = if c then 0 else 1 := by
  by_cases h : c
  · rw [b01_f (fun q => q h), if_pos h]; rfl
  · rw [b01_t h, if_neg h]; rfl
theorem rf2 (c : Prop) [Decidable c] : (if b01 (¬ c) = 1 ∧ (0 : Int) = 0 then (2 : Int) else 0) = if c then 0 else 2 := by
  by_cases h : c
  · rw [b01_f (fun q => q h), if_pos h]; rfl
  · rw [b01_t h, if_neg h]; rfl
theorem rf3 (c : Prop) [Decidable c] : b01 (0 < (if c then (0 : Int) else 2)) = b01 (¬ c) := by
  by_cases h : c
  · rw [if_pos h, b01_f (c := ¬ c) (fun q => q h)]; rfl
  · rw [if_neg h, b01_t (c := ¬ c) h]; rfl
set_option maxHeartbeats 4000000 in
set_option maxRecDepth 100000 in
theorem c_X5_isNo {K : e_K} {l : Launch} {w : e_W} {n : Nat} {y wh : Nat} {t kn : Int} (hY : w y = some (MO y t wh kn)) (hwh : wh < 7) {i : Int} (hi : e_r i) {s9 : Int} (hs9 : e_r s9) : e_Met K l yX5_isNo (Cond.code yX5_isNo cX5_isNo 3 (Option.some .boolean) :: e_TB) (3) (0) [.ref y, .int (eI i), .int (eI s9)] w n (fun r w' n' => r = some (.int (eI (b01 (¬ ((0 ≤ i ∧ i < 6) ∧ (1 ≤ s9 ∧ s9 ≤ fl wh)))))) ∧ n' = n ∧ w' = e_up w y (MO y (noT wh i s9) wh kn)) (e_px0) := by
  refine e_ofV rfl (Nat.le_of_ble_eq_true rfl) ?_
  intro P9 E9 S9 M9 A9 B9 T9 C9 F hnm
  refine e_aload_n F dX5_isNo_0 rfl ?_
  refine e_iload_n F dX5_isNo_1 rfl ?_
  refine e_callSS F u_X5_isNoDeal (by rfl) (c_X5_isNoDeal hi) w_ml_RX5_129 dX5_isNo_2 (by rfl) (Nat.le_of_ble_eq_true rfl) (by decide) (by omega) (fun _ _ _ h _ => False.elim h) (fun r_2 w_2 n_2 h_2 hn_2 => ?_)
  obtain ⟨rfl, ew_2, en_2⟩ := h_2
  rw [ew_2, en_2]
  refine e_iconst F dX5_isNo_5 ?_
  refine e_callVV F u_X5_start (by rfl) (c_X5_start hY (b01_or _) (by decide) (by decide)) hY rfl rfl w_ml_RX5_69 dX5_isNo_6 (by rfl) (Nat.le_of_ble_eq_true rfl) (by decide) (by omega) (fun _ _ _ h _ => False.elim h) (fun r_6 w_6 n_6 h_6 hn_6 => ?_)
  obtain ⟨rfl, en_6, ew_6⟩ := h_6
  rw [en_6, ew_6, st1]
  refine e_if_ne F 25 dX5_isNo_9 (by decide) (b01_r _) (fun c_9 => ?_) (fun c_9 => ?_)
  ·
    rw [ne_eq, b01_0, Classical.not_not] at c_9
    rw [if_neg c_9]
    refine e_iconst F dX5_isNo_25 ?_
    refine e_goto F 30 dX5_isNo_26 (by decide) ?_
    refine e_zret F rfl (by omega) (by omega) ?_ dX5_isNo_30
    refine ⟨?_, rfl, ?_⟩
    · first | rw [b01_f (by omega)] | rw [b01_t (by omega)]
    · unfold noT
      first | rw [if_pos c_9] | rw [if_neg (fun q => q c_9), if_pos c_22] | rw [if_neg (fun q => q c_9), if_neg (fun q => q c_22)]
  ·
    rw [b01_0, Classical.not_not] at c_9
    rw [if_pos c_9]
    have gY0 : e_up w y (MO y 0 wh kn) y = some (MO y 0 wh kn) := e_up_s
    refine e_aload_n F dX5_isNo_12 rfl ?_
    refine e_aload_n F dX5_isNo_13 rfl ?_
    refine e_iload_n F dX5_isNo_14 rfl ?_
    refine e_callVV F u_X5_isNoSet (by rfl) (c_X5_isNoSet gY0 hwh hs9) gY0 rfl rfl w_ml_RX5_103 dX5_isNo_15 (by rfl) (Nat.le_of_ble_eq_true rfl) (by decide) (by omega) (fun _ _ _ h _ => False.elim h) (fun r_15 w_15 n_15 h_15 hn_15 => ?_)
    obtain ⟨rfl, ew_15, en_15⟩ := h_15
    rw [ew_15, en_15]
    refine e_iconst F dX5_isNo_18 ?_
    refine e_callVV F u_X5_refuse (by rfl) (c_X5_refuse gY0 (by decide) (by decide) (b01_or _) (by decide) (by decide)) gY0 rfl rfl w_ml_RX5_28 dX5_isNo_19 (by rfl) (Nat.le_of_ble_eq_true rfl) (by decide) (by omega) (fun _ _ _ h _ => False.elim h) (fun r_19 w_19 n_19 h_19 hn_19 => ?_)
    obtain ⟨rfl, en_19, ew_19⟩ := h_19
    rw [en_19, ew_19, e_up_up, rf2, rf3]
    refine e_if_eq F 29 dX5_isNo_22 (by decide) (b01_r _) (fun c_22 => ?_) (fun c_22 => ?_)
    ·
      rw [b01_0, Classical.not_not] at c_22
      rw [if_pos c_22]
      refine e_iconst F dX5_isNo_29 ?_
      refine e_zret F rfl (by omega) (by omega) ?_ dX5_isNo_30
      refine ⟨?_, rfl, ?_⟩
      · first | rw [b01_f (by omega)] | rw [b01_t (by omega)]
      · unfold noT
        first | rw [if_pos c_9] | rw [if_neg (fun q => q c_9), if_pos c_22] | rw [if_neg (fun q => q c_9), if_neg (fun q => q c_22)]
    ·
      rw [b01_0, Classical.not_not] at c_22
      rw [if_neg c_22]
      refine e_iconst F dX5_isNo_25 ?_
      refine e_goto F 30 dX5_isNo_26 (by decide) ?_
      refine e_zret F rfl (by omega) (by omega) ?_ dX5_isNo_30
      refine ⟨?_, rfl, ?_⟩
      · first | rw [b01_f (by omega)] | rw [b01_t (by omega)]
      · unfold noT
        first | rw [if_pos c_9] | rw [if_neg (fun q => q c_9), if_pos c_22] | rw [if_neg (fun q => q c_9), if_neg (fun q => q c_22)]
set_option maxHeartbeats 4000000 in
set_option maxRecDepth 100000 in
theorem c_X5_houseTold {K : e_K} {l : Launch} {w : e_W} {n : Nat} {y wh : Nat} {t kn : Int} {R : Nat → RD} (hM : MW w y wh kn t R) {c9 : Int} (hc9 : e_r c9) : e_Met K l yX5_houseTold (Cond.code yX5_houseTold cX5_houseTold 4 (Option.some .int) :: e_TB) (2) (0) [.ref y, .int (eI c9)] w n (fun r w' n' => r = some (.int (eI (hoR wh kn R c9))) ∧ w' = w ∧ n' = n) (e_px0) := by
  refine e_ofV rfl (Nat.le_of_ble_eq_true rfl) ?_
  intro P9 E9 S9 M9 A9 B9 T9 C9 F hnm
  obtain ⟨hY, hwh, ⟨G, hG, hGe⟩, ⟨SS, PP, hS, hP, hMD⟩, hRV⟩ := id hM
  have hp := pr_rg wh hwh
  have hho := ho_rg wh hwh
  have lp : c9 = 5 → ∀ (N k : Nat), 8 - k < N → (k ≤ 6) → e_V K P9 l E9 (2) (0) S9 M9 A9 B9 T9 C9 4 (fun r w' n' => r = some (.int (eI (hoR wh kn R c9))) ∧ w' = w ∧ n' = n) (e_px0) 9 [(0, .ref y), (2, .int (eI (fdR R k))), (3, .int (eI (k : Int)))] [] w n (0) := by
    intro hc5 N
    induction N with
    | zero => intro k hN; exact absurd hN (Nat.not_lt_zero _)
    | succ N ih =>
      intro k hN hk
      refine e_iload_n F dX5_houseTold_9 rfl ?_
      refine e_bipush F dX5_houseTold_10 (by decide) ?_
      refine e_icmp_ge F 40 dX5_houseTold_12 (by decide) (⟨by omega, by omega⟩) (⟨by omega, by omega⟩) (fun c_12 => ?_) (fun c_12 => ?_)
      ·
        obtain rfl : k = 6 := by omega
        refine e_iload_n F dX5_houseTold_40 rfl ?_
        refine e_iret F rfl (by omega) ?_ dX5_houseTold_41
        exact ⟨by unfold hoR; rw [if_pos hc5], rfl, rfl⟩
      · refine e_iload_n F dX5_houseTold_15 rfl ?_
        refine e_aload_n F dX5_houseTold_16 rfl ?_
        refine e_iload_n F dX5_houseTold_17 rfl ?_
        refine e_callVV F u_X5_isEmpty (by rfl) (c_X5_isEmpty hM (i := k) (by omega)) hY rfl rfl w_ml_RX5_113 dX5_houseTold_18 (by rfl) (Nat.le_of_ble_eq_true rfl) (by decide) (by omega) (fun _ _ _ h _ => False.elim h) (fun r_18 w_18 n_18 h_18 hn_18 => ?_)
        obtain ⟨rfl, ew_18, en_18⟩ := h_18
        rw [ew_18, en_18]
        refine e_if_ne F 28 dX5_houseTold_21 (by decide) (b01_r _) (fun c_21 => ?_) (fun c_21 => ?_)
        ·
          rw [ne_eq, b01_0, Classical.not_not] at c_21
          refine e_iconst F dX5_houseTold_28 ?_
          refine e_callSS F u_X5_one (by rfl) (c_X5_one (b := _) (by first | exact Or.inl rfl | exact Or.inr rfl)) w_ml_RX5_80 dX5_houseTold_29 (by rfl) (Nat.le_of_ble_eq_true rfl) (by decide) (by omega) (fun _ _ _ h _ => False.elim h) (fun r_29 w_29 n_29 h_29 hn_29 => ?_)
          obtain ⟨rfl, ew_29, en_29⟩ := h_29
          rw [ew_29, en_29]
          refine e_iadd F dX5_houseTold_32 ?_
          refine e_istore_n F dX5_houseTold_33 (by decide) ?_
          refine e_iinc F dX5_houseTold_34 rfl (by decide) ?_
          refine e_goto F 9 dX5_houseTold_37 (by decide) ?_
          first
          | (have e9 : fdR R (k + 1) = fdR R k + 0 := by
               show fdR R k + (if _ then _ else _) = _
               rw [if_pos c_21]
             refine e_go (ih (k + 1) (by omega) (by omega)) ?_
             rw [e9]
             exact (And.intro rfl (And.intro rfl (And.intro rfl (trivial)))))
          | (have e9 : fdR R (k + 1) = fdR R k + 1 := by
               show fdR R k + (if _ then _ else _) = _
               rw [if_neg c_21]
             refine e_go (ih (k + 1) (by omega) (by omega)) ?_
             rw [e9]
             exact (And.intro rfl (And.intro rfl (And.intro rfl (trivial)))))
        ·
          rw [b01_0] at c_21
          refine e_iconst F dX5_houseTold_24 ?_
          refine e_goto F 29 dX5_houseTold_25 (by decide) ?_
          refine e_callSS F u_X5_one (by rfl) (c_X5_one (b := _) (by first | exact Or.inl rfl | exact Or.inr rfl)) w_ml_RX5_80 dX5_houseTold_29 (by rfl) (Nat.le_of_ble_eq_true rfl) (by decide) (by omega) (fun _ _ _ h _ => False.elim h) (fun r_29 w_29 n_29 h_29 hn_29 => ?_)
          obtain ⟨rfl, ew_29, en_29⟩ := h_29
          rw [ew_29, en_29]
          refine e_iadd F dX5_houseTold_32 ?_
          refine e_istore_n F dX5_houseTold_33 (by decide) ?_
          refine e_iinc F dX5_houseTold_34 rfl (by decide) ?_
          refine e_goto F 9 dX5_houseTold_37 (by decide) ?_
          first
          | (have e9 : fdR R (k + 1) = fdR R k + 0 := by
               show fdR R k + (if _ then _ else _) = _
               rw [if_pos c_21]
             refine e_go (ih (k + 1) (by omega) (by omega)) ?_
             rw [e9]
             exact (And.intro rfl (And.intro rfl (And.intro rfl (trivial)))))
          | (have e9 : fdR R (k + 1) = fdR R k + 1 := by
               show fdR R k + (if _ then _ else _) = _
               rw [if_neg c_21]
             refine e_go (ih (k + 1) (by omega) (by omega)) ?_
             rw [e9]
             exact (And.intro rfl (And.intro rfl (And.intro rfl (trivial)))))
  refine e_iload_n F dX5_houseTold_0 rfl ?_
  refine e_iconst F dX5_houseTold_1 ?_
  refine e_icmp_ne F 42 dX5_houseTold_2 (by decide) (⟨by omega, by omega⟩) (⟨by omega, by omega⟩) (fun c_2 => ?_) (fun c_2 => ?_)
  · refine e_iload_n F dX5_houseTold_42 rfl ?_
    refine e_if_ne F 53 dX5_houseTold_43 (by decide) (⟨by omega, by omega⟩) (fun c_43 => ?_) (fun c_43 => ?_)
    · refine e_iload_n F dX5_houseTold_53 rfl ?_
      refine e_iconst F dX5_houseTold_54 ?_
      refine e_icmp_ne F 65 dX5_houseTold_55 (by decide) (⟨by omega, by omega⟩) (⟨by omega, by omega⟩) (fun c_55 => ?_) (fun c_55 => ?_)
      · refine e_iload_n F dX5_houseTold_65 rfl ?_
        refine e_iconst F dX5_houseTold_66 ?_
        refine e_icmp_ne F 77 dX5_houseTold_67 (by decide) (⟨by omega, by omega⟩) (⟨by omega, by omega⟩) (fun c_67 => ?_) (fun c_67 => ?_)
        · refine e_iload_n F dX5_houseTold_77 rfl ?_
          refine e_iconst F dX5_houseTold_78 ?_
          refine e_icmp_ne F 93 dX5_houseTold_79 (by decide) (⟨by omega, by omega⟩) (⟨by omega, by omega⟩) (fun c_79 => ?_) (fun c_79 => ?_)
          · refine e_iload_n F dX5_houseTold_93 rfl ?_
            refine e_iconst F dX5_houseTold_94 ?_
            refine e_icmp_ne F 105 dX5_houseTold_95 (by decide) (⟨by omega, by omega⟩) (⟨by omega, by omega⟩) (fun c_95 => ?_) (fun c_95 => ?_)
            · refine e_aload_n F dX5_houseTold_105 rfl ?_
              refine e_get (ci := 5) (fi := 2) (q := (RX5, TX5, 6)) F hY rfl (by decide) w_fl_RX5_177 (by rfl) dX5_houseTold_106 ?_
              refine e_iret F rfl (by omega) ?_ dX5_houseTold_109
              refine ⟨?_, rfl, rfl⟩
              show some (Value.int _) = some (Value.int (eI (hoR wh kn R c9)))
              unfold hoR
              first | rfl | rw [if_neg (by omega), if_pos (by omega)] | rw [if_neg (by omega), if_neg (by omega), if_pos (by omega)] | rw [if_neg (by omega), if_neg (by omega), if_neg (by omega), if_pos (by omega)] | rw [if_neg (by omega), if_neg (by omega), if_neg (by omega), if_neg (by omega), if_pos (by omega)] | rw [if_neg (by omega), if_neg (by omega), if_neg (by omega), if_neg (by omega), if_neg (by omega), if_pos (by omega)] | rw [if_neg (by omega), if_neg (by omega), if_neg (by omega), if_neg (by omega), if_neg (by omega), if_neg (by omega)]
              try rfl
            · refine e_aload_n F dX5_houseTold_98 rfl ?_
              refine e_callVV F u_X5_holders (by rfl) (c_X5_holders hY hwh) hY rfl rfl w_ml_RX5_52 dX5_houseTold_99 (by rfl) (Nat.le_of_ble_eq_true rfl) (by decide) (by omega) (fun _ _ _ h _ => False.elim h) (fun r_99 w_99 n_99 h_99 hn_99 => ?_)
              obtain ⟨rfl, ew_99, en_99⟩ := h_99
              rw [ew_99, en_99]
              refine e_goto F 109 dX5_houseTold_102 (by decide) ?_
              refine e_iret F rfl (by omega) ?_ dX5_houseTold_109
              refine ⟨?_, rfl, rfl⟩
              show some (Value.int _) = some (Value.int (eI (hoR wh kn R c9)))
              unfold hoR
              first | rfl | rw [if_neg (by omega), if_pos (by omega)] | rw [if_neg (by omega), if_neg (by omega), if_pos (by omega)] | rw [if_neg (by omega), if_neg (by omega), if_neg (by omega), if_pos (by omega)] | rw [if_neg (by omega), if_neg (by omega), if_neg (by omega), if_neg (by omega), if_pos (by omega)] | rw [if_neg (by omega), if_neg (by omega), if_neg (by omega), if_neg (by omega), if_neg (by omega), if_pos (by omega)] | rw [if_neg (by omega), if_neg (by omega), if_neg (by omega), if_neg (by omega), if_neg (by omega), if_neg (by omega)]
              try rfl
          · refine e_gets F (i := 5) rfl w_fl_RX5_59 dX5_houseTold_82 ?_
            refine e_aload_n F dX5_houseTold_85 rfl ?_
            refine e_get (ci := 5) (fi := 1) (q := (RX5, TX5, 6)) F hY rfl (by decide) w_fl_RX5_7 (by rfl) dX5_houseTold_86 ?_
            refine e_ialdS F (i := 5) (by decide) (by omega) (by omega) dX5_houseTold_89 ?_
            refine e_goto F 109 dX5_houseTold_90 (by decide) ?_
            refine e_iret F rfl (by omega) ?_ dX5_houseTold_109
            refine ⟨?_, rfl, rfl⟩
            show some (Value.int _) = some (Value.int (eI (hoR wh kn R c9)))
            unfold hoR
            first | rfl | rw [if_neg (by omega), if_pos (by omega)] | rw [if_neg (by omega), if_neg (by omega), if_pos (by omega)] | rw [if_neg (by omega), if_neg (by omega), if_neg (by omega), if_pos (by omega)] | rw [if_neg (by omega), if_neg (by omega), if_neg (by omega), if_neg (by omega), if_pos (by omega)] | rw [if_neg (by omega), if_neg (by omega), if_neg (by omega), if_neg (by omega), if_neg (by omega), if_pos (by omega)] | rw [if_neg (by omega), if_neg (by omega), if_neg (by omega), if_neg (by omega), if_neg (by omega), if_neg (by omega)]
            try rfl
        · refine e_aload_n F dX5_houseTold_70 rfl ?_
          refine e_callVV F u_X5_q (by rfl) (c_X5_q hY hwh) hY rfl rfl w_ml_RX5_62 dX5_houseTold_71 (by rfl) (Nat.le_of_ble_eq_true rfl) (by decide) (by omega) (fun _ _ _ h _ => False.elim h) (fun r_71 w_71 n_71 h_71 hn_71 => ?_)
          obtain ⟨rfl, ew_71, en_71⟩ := h_71
          rw [ew_71, en_71]
          refine e_goto F 109 dX5_houseTold_74 (by decide) ?_
          refine e_iret F rfl (by omega) ?_ dX5_houseTold_109
          refine ⟨?_, rfl, rfl⟩
          show some (Value.int _) = some (Value.int (eI (hoR wh kn R c9)))
          unfold hoR
          first | rfl | rw [if_neg (by omega), if_pos (by omega)] | rw [if_neg (by omega), if_neg (by omega), if_pos (by omega)] | rw [if_neg (by omega), if_neg (by omega), if_neg (by omega), if_pos (by omega)] | rw [if_neg (by omega), if_neg (by omega), if_neg (by omega), if_neg (by omega), if_pos (by omega)] | rw [if_neg (by omega), if_neg (by omega), if_neg (by omega), if_neg (by omega), if_neg (by omega), if_pos (by omega)] | rw [if_neg (by omega), if_neg (by omega), if_neg (by omega), if_neg (by omega), if_neg (by omega), if_neg (by omega)]
          try rfl
      · refine e_aload_n F dX5_houseTold_58 rfl ?_
        refine e_callVV F u_X5_p (by rfl) (c_X5_p hY hwh) hY rfl rfl w_ml_RX5_38 dX5_houseTold_59 (by rfl) (Nat.le_of_ble_eq_true rfl) (by decide) (by omega) (fun _ _ _ h _ => False.elim h) (fun r_59 w_59 n_59 h_59 hn_59 => ?_)
        obtain ⟨rfl, ew_59, en_59⟩ := h_59
        rw [ew_59, en_59]
        refine e_goto F 109 dX5_houseTold_62 (by decide) ?_
        refine e_iret F rfl (by omega) ?_ dX5_houseTold_109
        refine ⟨?_, rfl, rfl⟩
        show some (Value.int _) = some (Value.int (eI (hoR wh kn R c9)))
        unfold hoR
        first | rfl | rw [if_neg (by omega), if_pos (by omega)] | rw [if_neg (by omega), if_neg (by omega), if_pos (by omega)] | rw [if_neg (by omega), if_neg (by omega), if_neg (by omega), if_pos (by omega)] | rw [if_neg (by omega), if_neg (by omega), if_neg (by omega), if_neg (by omega), if_pos (by omega)] | rw [if_neg (by omega), if_neg (by omega), if_neg (by omega), if_neg (by omega), if_neg (by omega), if_pos (by omega)] | rw [if_neg (by omega), if_neg (by omega), if_neg (by omega), if_neg (by omega), if_neg (by omega), if_neg (by omega)]
        try rfl
    · refine e_aload_n F dX5_houseTold_46 rfl ?_
      refine e_get (ci := 5) (fi := 1) (q := (RX5, TX5, 6)) F hY rfl (by decide) w_fl_RX5_7 (by rfl) dX5_houseTold_47 ?_
      refine e_goto F 109 dX5_houseTold_50 (by decide) ?_
      refine e_iret F rfl (by omega) ?_ dX5_houseTold_109
      refine ⟨?_, rfl, rfl⟩
      show some (Value.int _) = some (Value.int (eI (hoR wh kn R c9)))
      unfold hoR
      first | rfl | rw [if_neg (by omega), if_pos (by omega)] | rw [if_neg (by omega), if_neg (by omega), if_pos (by omega)] | rw [if_neg (by omega), if_neg (by omega), if_neg (by omega), if_pos (by omega)] | rw [if_neg (by omega), if_neg (by omega), if_neg (by omega), if_neg (by omega), if_pos (by omega)] | rw [if_neg (by omega), if_neg (by omega), if_neg (by omega), if_neg (by omega), if_neg (by omega), if_pos (by omega)] | rw [if_neg (by omega), if_neg (by omega), if_neg (by omega), if_neg (by omega), if_neg (by omega), if_neg (by omega)]
      try rfl
  · refine e_iconst F dX5_houseTold_5 ?_
    refine e_istore_n F dX5_houseTold_6 (by decide) ?_
    refine e_iconst F dX5_houseTold_7 ?_
    refine e_istore_n F dX5_houseTold_8 (by decide) ?_
    exact e_go (lp c_2 9 0 (by omega) (by omega)) (And.intro rfl (And.intro rfl (And.intro rfl (trivial))))
set_option maxHeartbeats 4000000 in
set_option maxRecDepth 100000 in
theorem c_X5_isFirstSealed {K : e_K} {l : Launch} {w : e_W} {n : Nat} {y wh : Nat} {t kn : Int} {R : Nat → RD} (hM : MW w y wh kn t R) {i : Nat} (hi : i < 6) (hp1 : (R i).hp = 1) : e_Met K l yX5_isFirstSealed (Cond.code yX5_isFirstSealed cX5_isFirstSealed 4 (Option.some .boolean) :: e_TB) (5) (2) [.ref y, .int (eI (i : Int))] w n (fun r w' n' => r = some (.int (eI (b01 (fsV wh (R i))))) ∧ KB w w' n) (e_px0) := by
  refine e_ofV rfl (Nat.le_of_ble_eq_true rfl) ?_
  intro P9 E9 S9 M9 A9 B9 T9 C9 F hnm
  obtain ⟨hY, hwh, ⟨G, hG, hGe⟩, ⟨SS, PP, hS, hP, hMD⟩, hRV⟩ := id hM
  have hp := pr_rg wh hwh
  have hho := ho_rg wh hwh
  have hdg := MD.dg (hMD i hi)
  have hGi := hGe i hi
  have hRi := hRV i hi
  refine e_dom ?_
  intro hdom
  have hyn := hdom _ _ hY
  have hfo := foV_rg hwh (R i)
  have hne : ¬ (R i).dg = -1 := fun q => by rcases hMD i hi with z | z; exact absurd (z.2.2.2.symm.trans hp1) (by decide); omega
  obtain ⟨a, f, hSa, hya, hwa, hfr, hfA⟩ := MD.row (hMD i hi)  hne
  have lp : ¬ (foV wh (R i)) = 0 → ∀ (N k : Nat), 8 - k < N → ((k : Int) ≤ ho wh ∧ feB wh (R i) (foV wh (R i)) k = true) → e_V K P9 l E9 (5) (2) S9 M9 A9 B9 T9 C9 4 (fun r w' n' => r = some (.int (eI (b01 (fsV wh (R i))))) ∧ KB w w' n) (e_px0) 14 [(0, .ref y), (1, .int (eI (i : Int))), (2, .int (eI (foV wh (R i)))), (3, .int (eI ((k : Int) + 1)))] [] w n (0) := by
    intro hf0 N
    induction N with
    | zero => intro k hN; exact absurd hN (Nat.not_lt_zero _)
    | succ N ih =>
      intro k hN ⟨hk, hb⟩
      refine e_iload_n F dX5_isFirstSealed_14 rfl ?_
      refine e_aload_n F dX5_isFirstSealed_15 rfl ?_
      refine e_callVV F u_X5_holders (by rfl) (c_X5_holders hY hwh) hY rfl rfl w_ml_RX5_52 dX5_isFirstSealed_16 (by rfl) (Nat.le_of_ble_eq_true rfl) (by decide) (by omega) (fun _ _ _ h _ => False.elim h) (fun r_16 w_16 n_16 h_16 hn_16 => ?_)
      obtain ⟨rfl, ew_16, en_16⟩ := h_16
      rw [ew_16, en_16]
      refine e_icmp_gt F 47 dX5_isFirstSealed_19 (by decide) (⟨by omega, by omega⟩) (⟨by omega, by omega⟩) (fun c_19 => ?_) (fun c_19 => ?_)
      ·
        obtain rfl : k = (ho wh).toNat := by omega
        refine e_aload_n F dX5_isFirstSealed_47 rfl ?_
        refine e_aload_n F dX5_isFirstSealed_48 rfl ?_
        refine e_aload_n F dX5_isFirstSealed_49 rfl ?_
        refine e_get (ci := 5) (fi := 4) (q := (RX5, TX5, 6)) F hY rfl (by decide) w_fl_RX5_18 (by rfl) dX5_isFirstSealed_50 ?_
        refine e_iload_n F dX5_isFirstSealed_53 rfl ?_
        refine e_aaldr F hS (by omega) (by omega) (by decide) (hSa) dX5_isFirstSealed_54 ?_
        refine e_iload_n F dX5_isFirstSealed_55 rfl ?_
        refine e_iconst F dX5_isFirstSealed_56 ?_
        refine e_callVV F u_X5_at (by rfl) (c_X5_at hY hwh hwa (by omega) hfr hfo.1 hfo.2 (x := 0) (by decide)) hY rfl rfl w_ml_RX5_106 dX5_isFirstSealed_57 (by rfl) (Nat.le_of_ble_eq_true rfl) (by decide) (by omega) (fun _ _ _ h _ => False.elim h) (fun r_57 w_57 n_57 h_57 hn_57 => ?_)
        obtain ⟨rfl, gK⟩ := h_57
        have eT : atV wh (foV wh (R i)) f 0 = atV wh (foV wh (R i)) (R i).A 0 := by
          unfold atV
          rw [trK_congr (A2 := (R i).A) (ho wh).toNat (fun j j0 j1 => hfA j j0 (by omega))]
        rw [eT]
        have gM := hM.kb hdom gK
        have har := atV_rg hwh (foV wh (R i)) (R i).A 0
        have hsr := sl_rg (v := atV wh (foV wh (R i)) (R i).A 0) hwh
        have hg9 := gr_rg wh hwh
        have hsv := stV_rg hwh (R i) 0
        refine e_callVV F u_X5_sealBy (by rfl) (c_X5_sealBy gM.1 hwh har.1 har.2) gM.1 rfl rfl w_ml_RX5_84 dX5_isFirstSealed_60 (by rfl) (Nat.le_of_ble_eq_true rfl) (by decide) (by omega) (fun _ _ _ h _ => False.elim h) (fun r_60 w_60 n_60 h_60 hn_60 => ?_)
        obtain ⟨rfl, ew_60, en_60⟩ := h_60
        rw [ew_60, en_60]
        refine e_aload_n F dX5_isFirstSealed_63 rfl ?_
        refine e_iload_n F dX5_isFirstSealed_64 rfl ?_
        refine e_iconst F dX5_isFirstSealed_65 ?_
        refine e_callVV F u_X5_sealTold (by rfl) (c_X5_sealTold gM hi (k9 := 0) (by decide) (by decide)) gM.1 rfl rfl w_ml_RX5_194 dX5_isFirstSealed_66 (by rfl) (Nat.le_of_ble_eq_true rfl) (by decide) (by omega) (fun _ _ _ h _ => False.elim h) (fun r_66 w_66 n_66 h_66 hn_66 => ?_)
        obtain ⟨rfl, ew_66, en_66⟩ := h_66
        rw [ew_66, en_66]
        refine e_icmp_ne F 76 dX5_isFirstSealed_69 (by decide) (⟨by omega, by omega⟩) (⟨by omega, by omega⟩) (fun c_69 => ?_) (fun c_69 => ?_)
        · refine e_iconst F dX5_isFirstSealed_76 ?_
          refine e_zret F rfl (by omega) (by omega) ?_ dX5_isFirstSealed_77
          refine ⟨?_, gK⟩
          first | rw [b01_t (show fsV wh (R i) from Or.inr (Or.inr c_69))] | (rw [b01_f (show ¬ fsV wh (R i) from fun q => by rcases q with q | q | q; exact hf0 q; exact q hb; exact c_69 q)])
        · refine e_iconst F dX5_isFirstSealed_72 ?_
          refine e_goto F 77 dX5_isFirstSealed_73 (by decide) ?_
          refine e_zret F rfl (by omega) (by omega) ?_ dX5_isFirstSealed_77
          refine ⟨?_, gK⟩
          first | rw [b01_t (show fsV wh (R i) from Or.inr (Or.inr c_69))] | (rw [b01_f (show ¬ fsV wh (R i) from fun q => by rcases q with q | q | q; exact hf0 q; exact q hb; exact c_69 q)])
      · refine e_iload_n F dX5_isFirstSealed_22 rfl ?_
        refine e_iload_n F dX5_isFirstSealed_23 rfl ?_
        refine e_callSS F u_X5_has (by rfl) (c_X5_has hfo.1 (by omega) (h := (k : Int) + 1) (by omega) (by omega)) w_ml_RX5_87 dX5_isFirstSealed_24 (by rfl) (Nat.le_of_ble_eq_true rfl) (by decide) (by omega) (fun _ _ _ h _ => False.elim h) (fun r_24 w_24 n_24 h_24 hn_24 => ?_)
        obtain ⟨rfl, ew_24, en_24⟩ := h_24
        rw [ew_24, en_24]
        refine e_if_eq F 41 dX5_isFirstSealed_27 (by decide) (b01_r _) (fun c_27 => ?_) (fun c_27 => ?_)
        ·
          rw [b01_0] at c_27
          refine e_iinc F dX5_isFirstSealed_41 rfl (by decide) ?_
          refine e_goto F 14 dX5_isFirstSealed_44 (by decide) ?_
          have e9 : feB wh (R i) (foV wh (R i)) (k + 1) = true := by
            show (feB wh (R i) (foV wh (R i)) k && (!decide (hs (foV wh (R i)) ((k : Int) + 1)) || decide (fiV wh (R i) ((k : Int) + 1)))) = true
            rw [hb]
            first | (rw [decide_eq_false c_27]; rfl) | (rw [decide_eq_true c_36, Bool.or_true]; rfl)
          exact e_go (ih (k + 1) (by omega) ⟨by omega, e9⟩) (And.intro rfl (And.intro rfl (And.intro rfl (And.intro rfl (trivial)))))
        ·
          rw [b01_0, Classical.not_not] at c_27
          refine e_aload_n F dX5_isFirstSealed_30 rfl ?_
          refine e_iload_n F dX5_isFirstSealed_31 rfl ?_
          refine e_iload_n F dX5_isFirstSealed_32 rfl ?_
          refine e_callVV F u_X5_isFit (by rfl) (c_X5_isFit hM hi (h := (k : Int) + 1) (by omega) (by omega) hp1) hY rfl rfl w_ml_RX5_197 dX5_isFirstSealed_33 (by rfl) (Nat.le_of_ble_eq_true rfl) (by decide) (by omega) (fun _ _ _ h _ => False.elim h) (fun r_33 w_33 n_33 h_33 hn_33 => ?_)
          obtain ⟨rfl, ew_33, en_33⟩ := h_33
          rw [ew_33, en_33]
          refine e_if_ne F 41 dX5_isFirstSealed_36 (by decide) (b01_r _) (fun c_36 => ?_) (fun c_36 => ?_)
          ·
            rw [ne_eq, b01_0, Classical.not_not] at c_36
            refine e_iinc F dX5_isFirstSealed_41 rfl (by decide) ?_
            refine e_goto F 14 dX5_isFirstSealed_44 (by decide) ?_
            have e9 : feB wh (R i) (foV wh (R i)) (k + 1) = true := by
              show (feB wh (R i) (foV wh (R i)) k && (!decide (hs (foV wh (R i)) ((k : Int) + 1)) || decide (fiV wh (R i) ((k : Int) + 1)))) = true
              rw [hb]
              first | (rw [decide_eq_false c_27]; rfl) | (rw [decide_eq_true c_36, Bool.or_true]; rfl)
            exact e_go (ih (k + 1) (by omega) ⟨by omega, e9⟩) (And.intro rfl (And.intro rfl (And.intro rfl (And.intro rfl (trivial)))))
          ·
            rw [b01_0] at c_36
            refine e_iconst F dX5_isFirstSealed_39 ?_
            refine e_zret F rfl (by omega) (Or.inr rfl) ?_ dX5_isFirstSealed_40
            refine ⟨?_, fun _ _ => rfl⟩
            rw [b01_t (show fsV wh (R i) from Or.inr (Or.inl (fun q => ?_)))]
            have q2 : (feB wh (R i) (foV wh (R i)) k && (!decide (hs (foV wh (R i)) ((k : Int) + 1)) || decide (fiV wh (R i) ((k : Int) + 1)))) = true := feB_mono (j := k + 1) (M := (ho wh).toNat) (by omega) q
            simp only [Bool.and_eq_true, Bool.or_eq_true, Bool.not_eq_true', decide_eq_true_eq, decide_eq_false_iff_not] at q2
            exact q2.2.elim (fun z => z c_27) (fun z => c_36 z)
  refine e_aload_n F dX5_isFirstSealed_0 rfl ?_
  refine e_iload_n F dX5_isFirstSealed_1 rfl ?_
  refine e_callVV F u_X5_firstOf (by rfl) (c_X5_firstOf hM hi) hY rfl rfl w_ml_RX5_183 dX5_isFirstSealed_2 (by rfl) (Nat.le_of_ble_eq_true rfl) (by decide) (by omega) (fun _ _ _ h _ => False.elim h) (fun r_2 w_2 n_2 h_2 hn_2 => ?_)
  obtain ⟨rfl, ew_2, en_2⟩ := h_2
  rw [ew_2, en_2]
  refine e_istore_n F dX5_isFirstSealed_5 (by decide) ?_
  refine e_iload_n F dX5_isFirstSealed_6 rfl ?_
  refine e_if_ne F 12 dX5_isFirstSealed_7 (by decide) (⟨by omega, by omega⟩) (fun c_7 => ?_) (fun c_7 => ?_)
  · refine e_iconst F dX5_isFirstSealed_12 ?_
    refine e_istore_n F dX5_isFirstSealed_13 (by decide) ?_
    exact e_go (lp c_7 9 0 (by omega) ⟨by omega, rfl⟩) (And.intro rfl (And.intro rfl (And.intro rfl (And.intro rfl (trivial)))))
  · refine e_iconst F dX5_isFirstSealed_10 ?_
    refine e_zret F rfl (by omega) (Or.inr rfl) ?_ dX5_isFirstSealed_11
    refine ⟨?_, fun _ _ => rfl⟩
    rw [b01_t (show fsV wh (R i) from Or.inl (by omega))]
set_option maxHeartbeats 4000000 in
set_option maxRecDepth 100000 in
theorem c_X5_dealTold {K : e_K} {l : Launch} {w : e_W} {n : Nat} {y wh : Nat} {t kn : Int} {R : Nat → RD} (hM : MW w y wh kn t R) {i : Nat} (hi : i < 6) {c9 : Int} (hc0 : 0 ≤ c9) (hc1 : c9 ≤ 5) : e_Met K l yX5_dealTold (Cond.code yX5_dealTold cX5_dealTold 3 (Option.some .int) :: e_TB) (5) (2) [.ref y, .int (eI (i : Int)), .int (eI c9)] w n (fun r w' n' => r = some (.int (eI (mdV wh (R i) c9))) ∧ KB w w' n) (e_px0) := by
  refine e_ofV rfl (Nat.le_of_ble_eq_true rfl) ?_
  intro P9 E9 S9 M9 A9 B9 T9 C9 F hnm
  obtain ⟨hY, hwh, ⟨G, hG, hGe⟩, ⟨SS, PP, hS, hP, hMD⟩, hRV⟩ := id hM
  have hp := pr_rg wh hwh
  have hho := ho_rg wh hwh
  have hdg := MD.dg (hMD i hi)
  have hGi := hGe i hi
  have hRi := hRV i hi
  refine e_dom ?_
  intro hdom
  have hyn := hdom _ _ hY
  have hfo := foV_rg hwh (R i)
  have hst := st7_rg (R i).A
  rcases MD.pw (hMD i hi) with ⟨hp0, hPn⟩ | ⟨hp1, ⟨b, g, hPb, hyb, hwb, hgr, hgE⟩, hd0⟩
  ·
    refine e_iload_n F dX5_dealTold_0 rfl ?_
    refine e_if_ne F 11 dX5_dealTold_1 (by decide) (⟨by omega, by omega⟩) (fun c_1 => ?_) (fun c_1 => ?_)
    · refine e_iload_n F dX5_dealTold_11 rfl ?_
      refine e_iconst F dX5_dealTold_12 ?_
      refine e_icmp_ne F 25 dX5_dealTold_13 (by decide) (⟨by omega, by omega⟩) (⟨by omega, by omega⟩) (fun c_13 => ?_) (fun c_13 => ?_)
      · refine e_iload_n F dX5_dealTold_25 rfl ?_
        refine e_iconst F dX5_dealTold_26 ?_
        refine e_icmp_ne F 36 dX5_dealTold_27 (by decide) (⟨by omega, by omega⟩) (⟨by omega, by omega⟩) (fun c_27 => ?_) (fun c_27 => ?_)
        · refine e_iload_n F dX5_dealTold_36 rfl ?_
          refine e_iconst F dX5_dealTold_37 ?_
          refine e_icmp_ne F 59 dX5_dealTold_38 (by decide) (⟨by omega, by omega⟩) (⟨by omega, by omega⟩) (fun c_38 => ?_) (fun c_38 => ?_)
          · refine e_iload_n F dX5_dealTold_59 rfl ?_
            refine e_iconst F dX5_dealTold_60 ?_
            refine e_icmp_ne F 94 dX5_dealTold_61 (by decide) (⟨by omega, by omega⟩) (⟨by omega, by omega⟩) (fun c_61 => ?_) (fun c_61 => ?_)
            · refine e_aload_n F dX5_dealTold_94 rfl ?_
              refine e_iload_n F dX5_dealTold_95 rfl ?_
              refine e_callVV F u_X5_isEmpty (by rfl) (c_X5_isEmpty hM (i := i) hi) hY rfl rfl w_ml_RX5_113 dX5_dealTold_96 (by rfl) (Nat.le_of_ble_eq_true rfl) (by decide) (by omega) (fun _ _ _ h _ => False.elim h) (fun r_96 w_96 n_96 h_96 hn_96 => ?_)
              obtain ⟨rfl, ew_96, en_96⟩ := h_96
              rw [ew_96, en_96]
              refine e_if_ne F 110 dX5_dealTold_99 (by decide) (b01_r _) (fun c_99 => ?_) (fun c_99 => ?_)
              ·
                rw [ne_eq, b01_0, Classical.not_not] at c_99
                refine e_iconst F dX5_dealTold_110 ?_
                refine e_goto F 130 dX5_dealTold_111 (by decide) ?_
                refine e_iret F rfl (by omega) ?_ dX5_dealTold_130
                first
                | (refine ⟨?_, gK⟩
                   unfold mdV
                   rw [if_neg (by omega), if_neg (by omega), if_neg (by omega), if_neg (by omega), if_neg (by omega)]
                   rw [if_neg (fun q => by rcases q with q | q; exact c_99 q; exact c_107 q)])
                | (refine ⟨?_, fun _ _ => rfl⟩
                   unfold mdV
                   rw [if_neg (by omega), if_neg (by omega), if_neg (by omega), if_neg (by omega), if_neg (by omega)]
                   rw [if_pos (by first | exact Or.inl c_99 | exact Or.inr (by omega))])
              ·
                rw [b01_0] at c_99
                obtain ⟨a, f, hSa, hya, hwa, hfr, hfA⟩ := MD.row (hMD i hi)  c_99
                refine e_aload_n F dX5_dealTold_102 rfl ?_
                refine e_iload_n F dX5_dealTold_103 rfl ?_
                refine e_callVV F u_X5_firstOf (by rfl) (c_X5_firstOf hM hi) hY rfl rfl w_ml_RX5_183 dX5_dealTold_104 (by rfl) (Nat.le_of_ble_eq_true rfl) (by decide) (by omega) (fun _ _ _ h _ => False.elim h) (fun r_104 w_104 n_104 h_104 hn_104 => ?_)
                obtain ⟨rfl, ew_104, en_104⟩ := h_104
                rw [ew_104, en_104]
                refine e_if_ne F 114 dX5_dealTold_107 (by decide) (⟨by omega, by omega⟩) (fun c_107 => ?_) (fun c_107 => ?_)
                · refine e_aload_n F dX5_dealTold_114 rfl ?_
                  refine e_aload_n F dX5_dealTold_115 rfl ?_
                  refine e_get (ci := 5) (fi := 4) (q := (RX5, TX5, 6)) F hY rfl (by decide) w_fl_RX5_18 (by rfl) dX5_dealTold_116 ?_
                  refine e_iload_n F dX5_dealTold_119 rfl ?_
                  refine e_aaldr F hS (by omega) (by omega) (by decide) (hSa) dX5_dealTold_120 ?_
                  refine e_aload_n F dX5_dealTold_121 rfl ?_
                  refine e_iload_n F dX5_dealTold_122 rfl ?_
                  refine e_callVV F u_X5_firstOf (by rfl) (c_X5_firstOf hM hi) hY rfl rfl w_ml_RX5_183 dX5_dealTold_123 (by rfl) (Nat.le_of_ble_eq_true rfl) (by decide) (by omega) (fun _ _ _ h _ => False.elim h) (fun r_123 w_123 n_123 h_123 hn_123 => ?_)
                  obtain ⟨rfl, ew_123, en_123⟩ := h_123
                  rw [ew_123, en_123]
                  refine e_iconst F dX5_dealTold_126 ?_
                  refine e_callVV F u_X5_at (by rfl) (c_X5_at hY hwh hwa (by omega) hfr hfo.1 hfo.2 (x := 0) (by decide)) hY rfl rfl w_ml_RX5_106 dX5_dealTold_127 (by rfl) (Nat.le_of_ble_eq_true rfl) (by decide) (by omega) (fun _ _ _ h _ => False.elim h) (fun r_127 w_127 n_127 h_127 hn_127 => ?_)
                  obtain ⟨rfl, gK⟩ := h_127
                  have eT : atV wh (foV wh (R i)) f 0 = atV wh (foV wh (R i)) (R i).A 0 := by
                    unfold atV
                    rw [trK_congr (A2 := (R i).A) (ho wh).toNat (fun j j0 j1 => hfA j j0 (by omega))]
                  rw [eT]
                  refine e_iret F rfl (by omega) ?_ dX5_dealTold_130
                  first
                  | (refine ⟨?_, gK⟩
                     unfold mdV
                     rw [if_neg (by omega), if_neg (by omega), if_neg (by omega), if_neg (by omega), if_neg (by omega)]
                     rw [if_neg (fun q => by rcases q with q | q; exact c_99 q; exact c_107 q)])
                  | (refine ⟨?_, fun _ _ => rfl⟩
                     unfold mdV
                     rw [if_neg (by omega), if_neg (by omega), if_neg (by omega), if_neg (by omega), if_neg (by omega)]
                     rw [if_pos (by first | exact Or.inl c_99 | exact Or.inr (by omega))])
                · refine e_iconst F dX5_dealTold_110 ?_
                  refine e_goto F 130 dX5_dealTold_111 (by decide) ?_
                  refine e_iret F rfl (by omega) ?_ dX5_dealTold_130
                  first
                  | (refine ⟨?_, gK⟩
                     unfold mdV
                     rw [if_neg (by omega), if_neg (by omega), if_neg (by omega), if_neg (by omega), if_neg (by omega)]
                     rw [if_neg (fun q => by rcases q with q | q; exact c_99 q; exact c_107 q)])
                  | (refine ⟨?_, fun _ _ => rfl⟩
                     unfold mdV
                     rw [if_neg (by omega), if_neg (by omega), if_neg (by omega), if_neg (by omega), if_neg (by omega)]
                     rw [if_pos (by first | exact Or.inl c_99 | exact Or.inr (by omega))])
            · refine e_aload_n F dX5_dealTold_64 rfl ?_
              refine e_iload_n F dX5_dealTold_65 rfl ?_
              refine e_callVV F u_X5_isEmpty (by rfl) (c_X5_isEmpty hM (i := i) hi) hY rfl rfl w_ml_RX5_113 dX5_dealTold_66 (by rfl) (Nat.le_of_ble_eq_true rfl) (by decide) (by omega) (fun _ _ _ h _ => False.elim h) (fun r_66 w_66 n_66 h_66 hn_66 => ?_)
              obtain ⟨rfl, ew_66, en_66⟩ := h_66
              rw [ew_66, en_66]
              refine e_if_ne F 89 dX5_dealTold_69 (by decide) (b01_r _) (fun c_69 => ?_) (fun c_69 => ?_)
              ·
                rw [ne_eq, b01_0, Classical.not_not] at c_69
                refine e_iconst F dX5_dealTold_89 ?_
                refine e_callSS F u_X5_one (by rfl) (c_X5_one (b := _) (by first | exact Or.inl rfl | exact Or.inr rfl)) w_ml_RX5_80 dX5_dealTold_90 (by rfl) (Nat.le_of_ble_eq_true rfl) (by decide) (by omega) (fun _ _ _ h _ => False.elim h) (fun r_90 w_90 n_90 h_90 hn_90 => ?_)
                obtain ⟨rfl, ew_90, en_90⟩ := h_90
                rw [ew_90, en_90]
                refine e_iret F rfl (by omega) ?_ dX5_dealTold_93
                first
                | (refine ⟨?_, gK⟩
                   unfold mdV
                   rw [if_neg (by omega), if_neg (by omega), if_neg (by omega), if_neg (by omega), if_pos (by omega)]
                   first | rw [b01_t (And.intro c_69 c_82)] | rw [b01_f (fun q => c_82 q.2)])
                | (refine ⟨?_, fun _ _ => rfl⟩
                   unfold mdV
                   rw [if_neg (by omega), if_neg (by omega), if_neg (by omega), if_neg (by omega), if_pos (by omega)]
                   rw [b01_f (fun q => q.1 c_69)])
              ·
                rw [b01_0] at c_69
                refine e_aload_n F dX5_dealTold_72 rfl ?_
                refine e_iload_n F dX5_dealTold_73 rfl ?_
                refine e_aload_n F dX5_dealTold_74 rfl ?_
                refine e_iload_n F dX5_dealTold_75 rfl ?_
                refine e_callVV F u_X5_setOf (by rfl) (c_X5_setOf hM (i := i) hi) hY rfl rfl w_ml_RX5_116 dX5_dealTold_76 (by rfl) (Nat.le_of_ble_eq_true rfl) (by decide) (by omega) (fun _ _ _ h _ => False.elim h) (fun r_76 w_76 n_76 h_76 hn_76 => ?_)
                obtain ⟨rfl, ew_76, en_76⟩ := h_76
                rw [ew_76, en_76]
                refine e_callVV F u_X5_isAgreed (by rfl) (c_X5_isAgreed hM hi (set := st7 (R i).A) hst.1 hst.2 c_69) hY rfl rfl w_ml_RX5_168 dX5_dealTold_79 (by rfl) (Nat.le_of_ble_eq_true rfl) (by decide) (by omega) (fun _ _ _ h _ => False.elim h) (fun r_79 w_79 n_79 h_79 hn_79 => ?_)
                obtain ⟨rfl, gK⟩ := h_79
                refine e_if_eq F 89 dX5_dealTold_82 (by decide) (b01_r _) (fun c_82 => ?_) (fun c_82 => ?_)
                ·
                  rw [b01_0] at c_82
                  refine e_iconst F dX5_dealTold_89 ?_
                  refine e_callSS F u_X5_one (by rfl) (c_X5_one (b := _) (by first | exact Or.inl rfl | exact Or.inr rfl)) w_ml_RX5_80 dX5_dealTold_90 (by rfl) (Nat.le_of_ble_eq_true rfl) (by decide) (by omega) (fun _ _ _ h _ => False.elim h) (fun r_90 w_90 n_90 h_90 hn_90 => ?_)
                  obtain ⟨rfl, ew_90, en_90⟩ := h_90
                  rw [ew_90, en_90]
                  refine e_iret F rfl (by omega) ?_ dX5_dealTold_93
                  first
                  | (refine ⟨?_, gK⟩
                     unfold mdV
                     rw [if_neg (by omega), if_neg (by omega), if_neg (by omega), if_neg (by omega), if_pos (by omega)]
                     first | rw [b01_t (And.intro c_69 c_82)] | rw [b01_f (fun q => c_82 q.2)])
                  | (refine ⟨?_, fun _ _ => rfl⟩
                     unfold mdV
                     rw [if_neg (by omega), if_neg (by omega), if_neg (by omega), if_neg (by omega), if_pos (by omega)]
                     rw [b01_f (fun q => q.1 c_69)])
                ·
                  rw [b01_0, Classical.not_not] at c_82
                  refine e_iconst F dX5_dealTold_85 ?_
                  refine e_goto F 90 dX5_dealTold_86 (by decide) ?_
                  refine e_callSS F u_X5_one (by rfl) (c_X5_one (b := _) (by first | exact Or.inl rfl | exact Or.inr rfl)) w_ml_RX5_80 dX5_dealTold_90 (by rfl) (Nat.le_of_ble_eq_true rfl) (by decide) (by omega) (fun _ _ _ h _ => False.elim h) (fun r_90 w_90 n_90 h_90 hn_90 => ?_)
                  obtain ⟨rfl, ew_90, en_90⟩ := h_90
                  rw [ew_90, en_90]
                  refine e_iret F rfl (by omega) ?_ dX5_dealTold_93
                  first
                  | (refine ⟨?_, gK⟩
                     unfold mdV
                     rw [if_neg (by omega), if_neg (by omega), if_neg (by omega), if_neg (by omega), if_pos (by omega)]
                     first | rw [b01_t (And.intro c_69 c_82)] | rw [b01_f (fun q => c_82 q.2)])
                  | (refine ⟨?_, fun _ _ => rfl⟩
                     unfold mdV
                     rw [if_neg (by omega), if_neg (by omega), if_neg (by omega), if_neg (by omega), if_pos (by omega)]
                     rw [b01_f (fun q => q.1 c_69)])
          · refine e_aload_n F dX5_dealTold_41 rfl ?_
            refine e_get (ci := 5) (fi := 5) (q := (RX5, TX5, 6)) F hY rfl (by decide) w_fl_RX5_22 (by rfl) dX5_dealTold_42 ?_
            refine e_iload_n F dX5_dealTold_45 rfl ?_
            refine e_aaldn F hP (by omega) (by omega) (by decide) (hPn) dX5_dealTold_46 ?_
            refine e_ifnullN F 54 dX5_dealTold_47 (by decide) ?_
            refine e_iconst F dX5_dealTold_54 ?_
            refine e_callSS F u_X5_one (by rfl) (c_X5_one (b := _) (by first | exact Or.inl rfl | exact Or.inr rfl)) w_ml_RX5_80 dX5_dealTold_55 (by rfl) (Nat.le_of_ble_eq_true rfl) (by decide) (by omega) (fun _ _ _ h _ => False.elim h) (fun r_55 w_55 n_55 h_55 hn_55 => ?_)
            obtain ⟨rfl, ew_55, en_55⟩ := h_55
            rw [ew_55, en_55]
            refine e_iret F rfl (by omega) ?_ dX5_dealTold_58
            refine ⟨?_, fun _ _ => rfl⟩
            unfold mdV
            rw [if_neg (by omega), if_neg (by omega), if_neg (by omega), if_pos (by omega)]
            rw [hp0]
        · refine e_aload_n F dX5_dealTold_30 rfl ?_
          refine e_iload_n F dX5_dealTold_31 rfl ?_
          refine e_callVV F u_X5_setOf (by rfl) (c_X5_setOf hM (i := i) hi) hY rfl rfl w_ml_RX5_116 dX5_dealTold_32 (by rfl) (Nat.le_of_ble_eq_true rfl) (by decide) (by omega) (fun _ _ _ h _ => False.elim h) (fun r_32 w_32 n_32 h_32 hn_32 => ?_)
          obtain ⟨rfl, ew_32, en_32⟩ := h_32
          rw [ew_32, en_32]
          refine e_iret F rfl (by omega) ?_ dX5_dealTold_35
          exact ⟨by unfold mdV; rw [if_neg (by omega), if_neg (by omega), if_pos (by omega)], fun _ _ => rfl⟩
      · refine e_aload_n F dX5_dealTold_16 rfl ?_
        refine e_iload_n F dX5_dealTold_17 rfl ?_
        refine e_callVV F u_X5_setOf (by rfl) (c_X5_setOf hM (i := i) hi) hY rfl rfl w_ml_RX5_116 dX5_dealTold_18 (by rfl) (Nat.le_of_ble_eq_true rfl) (by decide) (by omega) (fun _ _ _ h _ => False.elim h) (fun r_18 w_18 n_18 h_18 hn_18 => ?_)
        obtain ⟨rfl, ew_18, en_18⟩ := h_18
        rw [ew_18, en_18]
        refine e_callSS F u_X5_many (by rfl) (c_X5_many hst.1 hst.2) w_ml_RX5_119 dX5_dealTold_21 (by rfl) (Nat.le_of_ble_eq_true rfl) (by decide) (by omega) (fun _ _ _ h _ => False.elim h) (fun r_21 w_21 n_21 h_21 hn_21 => ?_)
        obtain ⟨rfl, ew_21, en_21⟩ := h_21
        rw [ew_21, en_21]
        refine e_iret F rfl (by omega) ?_ dX5_dealTold_24
        exact ⟨by unfold mdV; rw [if_neg (by omega), if_pos (by omega)], fun _ _ => rfl⟩
    · refine e_aload_n F dX5_dealTold_4 rfl ?_
      refine e_get (ci := 5) (fi := 3) (q := (RX5, TX5, 6)) F hY rfl (by decide) w_fl_RX5_13 (by rfl) dX5_dealTold_5 ?_
      refine e_iload_n F dX5_dealTold_8 rfl ?_
      refine e_iald F hG (by omega) (by omega) (by first | decide | omega) dX5_dealTold_9 ?_
      rw [hGi]
      refine e_iret F rfl (by omega) ?_ dX5_dealTold_10
      exact ⟨by unfold mdV; rw [if_pos (by omega)], fun _ _ => rfl⟩
  ·
    refine e_iload_n F dX5_dealTold_0 rfl ?_
    refine e_if_ne F 11 dX5_dealTold_1 (by decide) (⟨by omega, by omega⟩) (fun c_1 => ?_) (fun c_1 => ?_)
    · refine e_iload_n F dX5_dealTold_11 rfl ?_
      refine e_iconst F dX5_dealTold_12 ?_
      refine e_icmp_ne F 25 dX5_dealTold_13 (by decide) (⟨by omega, by omega⟩) (⟨by omega, by omega⟩) (fun c_13 => ?_) (fun c_13 => ?_)
      · refine e_iload_n F dX5_dealTold_25 rfl ?_
        refine e_iconst F dX5_dealTold_26 ?_
        refine e_icmp_ne F 36 dX5_dealTold_27 (by decide) (⟨by omega, by omega⟩) (⟨by omega, by omega⟩) (fun c_27 => ?_) (fun c_27 => ?_)
        · refine e_iload_n F dX5_dealTold_36 rfl ?_
          refine e_iconst F dX5_dealTold_37 ?_
          refine e_icmp_ne F 59 dX5_dealTold_38 (by decide) (⟨by omega, by omega⟩) (⟨by omega, by omega⟩) (fun c_38 => ?_) (fun c_38 => ?_)
          · refine e_iload_n F dX5_dealTold_59 rfl ?_
            refine e_iconst F dX5_dealTold_60 ?_
            refine e_icmp_ne F 94 dX5_dealTold_61 (by decide) (⟨by omega, by omega⟩) (⟨by omega, by omega⟩) (fun c_61 => ?_) (fun c_61 => ?_)
            · refine e_aload_n F dX5_dealTold_94 rfl ?_
              refine e_iload_n F dX5_dealTold_95 rfl ?_
              refine e_callVV F u_X5_isEmpty (by rfl) (c_X5_isEmpty hM (i := i) hi) hY rfl rfl w_ml_RX5_113 dX5_dealTold_96 (by rfl) (Nat.le_of_ble_eq_true rfl) (by decide) (by omega) (fun _ _ _ h _ => False.elim h) (fun r_96 w_96 n_96 h_96 hn_96 => ?_)
              obtain ⟨rfl, ew_96, en_96⟩ := h_96
              rw [ew_96, en_96]
              refine e_if_ne F 110 dX5_dealTold_99 (by decide) (b01_r _) (fun c_99 => ?_) (fun c_99 => ?_)
              ·
                rw [ne_eq, b01_0, Classical.not_not] at c_99
                refine e_iconst F dX5_dealTold_110 ?_
                refine e_goto F 130 dX5_dealTold_111 (by decide) ?_
                refine e_iret F rfl (by omega) ?_ dX5_dealTold_130
                first
                | (refine ⟨?_, gK⟩
                   unfold mdV
                   rw [if_neg (by omega), if_neg (by omega), if_neg (by omega), if_neg (by omega), if_neg (by omega)]
                   rw [if_neg (fun q => by rcases q with q | q; exact c_99 q; exact c_107 q)])
                | (refine ⟨?_, fun _ _ => rfl⟩
                   unfold mdV
                   rw [if_neg (by omega), if_neg (by omega), if_neg (by omega), if_neg (by omega), if_neg (by omega)]
                   rw [if_pos (by first | exact Or.inl c_99 | exact Or.inr (by omega))])
              ·
                rw [b01_0] at c_99
                obtain ⟨a, f, hSa, hya, hwa, hfr, hfA⟩ := MD.row (hMD i hi)  c_99
                refine e_aload_n F dX5_dealTold_102 rfl ?_
                refine e_iload_n F dX5_dealTold_103 rfl ?_
                refine e_callVV F u_X5_firstOf (by rfl) (c_X5_firstOf hM hi) hY rfl rfl w_ml_RX5_183 dX5_dealTold_104 (by rfl) (Nat.le_of_ble_eq_true rfl) (by decide) (by omega) (fun _ _ _ h _ => False.elim h) (fun r_104 w_104 n_104 h_104 hn_104 => ?_)
                obtain ⟨rfl, ew_104, en_104⟩ := h_104
                rw [ew_104, en_104]
                refine e_if_ne F 114 dX5_dealTold_107 (by decide) (⟨by omega, by omega⟩) (fun c_107 => ?_) (fun c_107 => ?_)
                · refine e_aload_n F dX5_dealTold_114 rfl ?_
                  refine e_aload_n F dX5_dealTold_115 rfl ?_
                  refine e_get (ci := 5) (fi := 4) (q := (RX5, TX5, 6)) F hY rfl (by decide) w_fl_RX5_18 (by rfl) dX5_dealTold_116 ?_
                  refine e_iload_n F dX5_dealTold_119 rfl ?_
                  refine e_aaldr F hS (by omega) (by omega) (by decide) (hSa) dX5_dealTold_120 ?_
                  refine e_aload_n F dX5_dealTold_121 rfl ?_
                  refine e_iload_n F dX5_dealTold_122 rfl ?_
                  refine e_callVV F u_X5_firstOf (by rfl) (c_X5_firstOf hM hi) hY rfl rfl w_ml_RX5_183 dX5_dealTold_123 (by rfl) (Nat.le_of_ble_eq_true rfl) (by decide) (by omega) (fun _ _ _ h _ => False.elim h) (fun r_123 w_123 n_123 h_123 hn_123 => ?_)
                  obtain ⟨rfl, ew_123, en_123⟩ := h_123
                  rw [ew_123, en_123]
                  refine e_iconst F dX5_dealTold_126 ?_
                  refine e_callVV F u_X5_at (by rfl) (c_X5_at hY hwh hwa (by omega) hfr hfo.1 hfo.2 (x := 0) (by decide)) hY rfl rfl w_ml_RX5_106 dX5_dealTold_127 (by rfl) (Nat.le_of_ble_eq_true rfl) (by decide) (by omega) (fun _ _ _ h _ => False.elim h) (fun r_127 w_127 n_127 h_127 hn_127 => ?_)
                  obtain ⟨rfl, gK⟩ := h_127
                  have eT : atV wh (foV wh (R i)) f 0 = atV wh (foV wh (R i)) (R i).A 0 := by
                    unfold atV
                    rw [trK_congr (A2 := (R i).A) (ho wh).toNat (fun j j0 j1 => hfA j j0 (by omega))]
                  rw [eT]
                  refine e_iret F rfl (by omega) ?_ dX5_dealTold_130
                  first
                  | (refine ⟨?_, gK⟩
                     unfold mdV
                     rw [if_neg (by omega), if_neg (by omega), if_neg (by omega), if_neg (by omega), if_neg (by omega)]
                     rw [if_neg (fun q => by rcases q with q | q; exact c_99 q; exact c_107 q)])
                  | (refine ⟨?_, fun _ _ => rfl⟩
                     unfold mdV
                     rw [if_neg (by omega), if_neg (by omega), if_neg (by omega), if_neg (by omega), if_neg (by omega)]
                     rw [if_pos (by first | exact Or.inl c_99 | exact Or.inr (by omega))])
                · refine e_iconst F dX5_dealTold_110 ?_
                  refine e_goto F 130 dX5_dealTold_111 (by decide) ?_
                  refine e_iret F rfl (by omega) ?_ dX5_dealTold_130
                  first
                  | (refine ⟨?_, gK⟩
                     unfold mdV
                     rw [if_neg (by omega), if_neg (by omega), if_neg (by omega), if_neg (by omega), if_neg (by omega)]
                     rw [if_neg (fun q => by rcases q with q | q; exact c_99 q; exact c_107 q)])
                  | (refine ⟨?_, fun _ _ => rfl⟩
                     unfold mdV
                     rw [if_neg (by omega), if_neg (by omega), if_neg (by omega), if_neg (by omega), if_neg (by omega)]
                     rw [if_pos (by first | exact Or.inl c_99 | exact Or.inr (by omega))])
            · refine e_aload_n F dX5_dealTold_64 rfl ?_
              refine e_iload_n F dX5_dealTold_65 rfl ?_
              refine e_callVV F u_X5_isEmpty (by rfl) (c_X5_isEmpty hM (i := i) hi) hY rfl rfl w_ml_RX5_113 dX5_dealTold_66 (by rfl) (Nat.le_of_ble_eq_true rfl) (by decide) (by omega) (fun _ _ _ h _ => False.elim h) (fun r_66 w_66 n_66 h_66 hn_66 => ?_)
              obtain ⟨rfl, ew_66, en_66⟩ := h_66
              rw [ew_66, en_66]
              refine e_if_ne F 89 dX5_dealTold_69 (by decide) (b01_r _) (fun c_69 => ?_) (fun c_69 => ?_)
              ·
                rw [ne_eq, b01_0, Classical.not_not] at c_69
                refine e_iconst F dX5_dealTold_89 ?_
                refine e_callSS F u_X5_one (by rfl) (c_X5_one (b := _) (by first | exact Or.inl rfl | exact Or.inr rfl)) w_ml_RX5_80 dX5_dealTold_90 (by rfl) (Nat.le_of_ble_eq_true rfl) (by decide) (by omega) (fun _ _ _ h _ => False.elim h) (fun r_90 w_90 n_90 h_90 hn_90 => ?_)
                obtain ⟨rfl, ew_90, en_90⟩ := h_90
                rw [ew_90, en_90]
                refine e_iret F rfl (by omega) ?_ dX5_dealTold_93
                first
                | (refine ⟨?_, gK⟩
                   unfold mdV
                   rw [if_neg (by omega), if_neg (by omega), if_neg (by omega), if_neg (by omega), if_pos (by omega)]
                   first | rw [b01_t (And.intro c_69 c_82)] | rw [b01_f (fun q => c_82 q.2)])
                | (refine ⟨?_, fun _ _ => rfl⟩
                   unfold mdV
                   rw [if_neg (by omega), if_neg (by omega), if_neg (by omega), if_neg (by omega), if_pos (by omega)]
                   rw [b01_f (fun q => q.1 c_69)])
              ·
                rw [b01_0] at c_69
                refine e_aload_n F dX5_dealTold_72 rfl ?_
                refine e_iload_n F dX5_dealTold_73 rfl ?_
                refine e_aload_n F dX5_dealTold_74 rfl ?_
                refine e_iload_n F dX5_dealTold_75 rfl ?_
                refine e_callVV F u_X5_setOf (by rfl) (c_X5_setOf hM (i := i) hi) hY rfl rfl w_ml_RX5_116 dX5_dealTold_76 (by rfl) (Nat.le_of_ble_eq_true rfl) (by decide) (by omega) (fun _ _ _ h _ => False.elim h) (fun r_76 w_76 n_76 h_76 hn_76 => ?_)
                obtain ⟨rfl, ew_76, en_76⟩ := h_76
                rw [ew_76, en_76]
                refine e_callVV F u_X5_isAgreed (by rfl) (c_X5_isAgreed hM hi (set := st7 (R i).A) hst.1 hst.2 c_69) hY rfl rfl w_ml_RX5_168 dX5_dealTold_79 (by rfl) (Nat.le_of_ble_eq_true rfl) (by decide) (by omega) (fun _ _ _ h _ => False.elim h) (fun r_79 w_79 n_79 h_79 hn_79 => ?_)
                obtain ⟨rfl, gK⟩ := h_79
                refine e_if_eq F 89 dX5_dealTold_82 (by decide) (b01_r _) (fun c_82 => ?_) (fun c_82 => ?_)
                ·
                  rw [b01_0] at c_82
                  refine e_iconst F dX5_dealTold_89 ?_
                  refine e_callSS F u_X5_one (by rfl) (c_X5_one (b := _) (by first | exact Or.inl rfl | exact Or.inr rfl)) w_ml_RX5_80 dX5_dealTold_90 (by rfl) (Nat.le_of_ble_eq_true rfl) (by decide) (by omega) (fun _ _ _ h _ => False.elim h) (fun r_90 w_90 n_90 h_90 hn_90 => ?_)
                  obtain ⟨rfl, ew_90, en_90⟩ := h_90
                  rw [ew_90, en_90]
                  refine e_iret F rfl (by omega) ?_ dX5_dealTold_93
                  first
                  | (refine ⟨?_, gK⟩
                     unfold mdV
                     rw [if_neg (by omega), if_neg (by omega), if_neg (by omega), if_neg (by omega), if_pos (by omega)]
                     first | rw [b01_t (And.intro c_69 c_82)] | rw [b01_f (fun q => c_82 q.2)])
                  | (refine ⟨?_, fun _ _ => rfl⟩
                     unfold mdV
                     rw [if_neg (by omega), if_neg (by omega), if_neg (by omega), if_neg (by omega), if_pos (by omega)]
                     rw [b01_f (fun q => q.1 c_69)])
                ·
                  rw [b01_0, Classical.not_not] at c_82
                  refine e_iconst F dX5_dealTold_85 ?_
                  refine e_goto F 90 dX5_dealTold_86 (by decide) ?_
                  refine e_callSS F u_X5_one (by rfl) (c_X5_one (b := _) (by first | exact Or.inl rfl | exact Or.inr rfl)) w_ml_RX5_80 dX5_dealTold_90 (by rfl) (Nat.le_of_ble_eq_true rfl) (by decide) (by omega) (fun _ _ _ h _ => False.elim h) (fun r_90 w_90 n_90 h_90 hn_90 => ?_)
                  obtain ⟨rfl, ew_90, en_90⟩ := h_90
                  rw [ew_90, en_90]
                  refine e_iret F rfl (by omega) ?_ dX5_dealTold_93
                  first
                  | (refine ⟨?_, gK⟩
                     unfold mdV
                     rw [if_neg (by omega), if_neg (by omega), if_neg (by omega), if_neg (by omega), if_pos (by omega)]
                     first | rw [b01_t (And.intro c_69 c_82)] | rw [b01_f (fun q => c_82 q.2)])
                  | (refine ⟨?_, fun _ _ => rfl⟩
                     unfold mdV
                     rw [if_neg (by omega), if_neg (by omega), if_neg (by omega), if_neg (by omega), if_pos (by omega)]
                     rw [b01_f (fun q => q.1 c_69)])
          · refine e_aload_n F dX5_dealTold_41 rfl ?_
            refine e_get (ci := 5) (fi := 5) (q := (RX5, TX5, 6)) F hY rfl (by decide) w_fl_RX5_22 (by rfl) dX5_dealTold_42 ?_
            refine e_iload_n F dX5_dealTold_45 rfl ?_
            refine e_aaldr F hP (by omega) (by omega) (by decide) (hPb) dX5_dealTold_46 ?_
            refine e_ifnull F dX5_dealTold_47 ?_
            refine e_iconst F dX5_dealTold_50 ?_
            refine e_goto F 55 dX5_dealTold_51 (by decide) ?_
            refine e_callSS F u_X5_one (by rfl) (c_X5_one (b := _) (by first | exact Or.inl rfl | exact Or.inr rfl)) w_ml_RX5_80 dX5_dealTold_55 (by rfl) (Nat.le_of_ble_eq_true rfl) (by decide) (by omega) (fun _ _ _ h _ => False.elim h) (fun r_55 w_55 n_55 h_55 hn_55 => ?_)
            obtain ⟨rfl, ew_55, en_55⟩ := h_55
            rw [ew_55, en_55]
            refine e_iret F rfl (by omega) ?_ dX5_dealTold_58
            refine ⟨?_, fun _ _ => rfl⟩
            unfold mdV
            rw [if_neg (by omega), if_neg (by omega), if_neg (by omega), if_pos (by omega)]
            rw [hp1]
        · refine e_aload_n F dX5_dealTold_30 rfl ?_
          refine e_iload_n F dX5_dealTold_31 rfl ?_
          refine e_callVV F u_X5_setOf (by rfl) (c_X5_setOf hM (i := i) hi) hY rfl rfl w_ml_RX5_116 dX5_dealTold_32 (by rfl) (Nat.le_of_ble_eq_true rfl) (by decide) (by omega) (fun _ _ _ h _ => False.elim h) (fun r_32 w_32 n_32 h_32 hn_32 => ?_)
          obtain ⟨rfl, ew_32, en_32⟩ := h_32
          rw [ew_32, en_32]
          refine e_iret F rfl (by omega) ?_ dX5_dealTold_35
          exact ⟨by unfold mdV; rw [if_neg (by omega), if_neg (by omega), if_pos (by omega)], fun _ _ => rfl⟩
      · refine e_aload_n F dX5_dealTold_16 rfl ?_
        refine e_iload_n F dX5_dealTold_17 rfl ?_
        refine e_callVV F u_X5_setOf (by rfl) (c_X5_setOf hM (i := i) hi) hY rfl rfl w_ml_RX5_116 dX5_dealTold_18 (by rfl) (Nat.le_of_ble_eq_true rfl) (by decide) (by omega) (fun _ _ _ h _ => False.elim h) (fun r_18 w_18 n_18 h_18 hn_18 => ?_)
        obtain ⟨rfl, ew_18, en_18⟩ := h_18
        rw [ew_18, en_18]
        refine e_callSS F u_X5_many (by rfl) (c_X5_many hst.1 hst.2) w_ml_RX5_119 dX5_dealTold_21 (by rfl) (Nat.le_of_ble_eq_true rfl) (by decide) (by omega) (fun _ _ _ h _ => False.elim h) (fun r_21 w_21 n_21 h_21 hn_21 => ?_)
        obtain ⟨rfl, ew_21, en_21⟩ := h_21
        rw [ew_21, en_21]
        refine e_iret F rfl (by omega) ?_ dX5_dealTold_24
        exact ⟨by unfold mdV; rw [if_neg (by omega), if_pos (by omega)], fun _ _ => rfl⟩
    · refine e_aload_n F dX5_dealTold_4 rfl ?_
      refine e_get (ci := 5) (fi := 3) (q := (RX5, TX5, 6)) F hY rfl (by decide) w_fl_RX5_13 (by rfl) dX5_dealTold_5 ?_
      refine e_iload_n F dX5_dealTold_8 rfl ?_
      refine e_iald F hG (by omega) (by omega) (by first | decide | omega) dX5_dealTold_9 ?_
      rw [hGi]
      refine e_iret F rfl (by omega) ?_ dX5_dealTold_10
      exact ⟨by unfold mdV; rw [if_pos (by omega)], fun _ _ => rfl⟩
end
