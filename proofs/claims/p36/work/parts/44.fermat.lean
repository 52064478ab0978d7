/-! primes, and what is raised to p - 1 -/
def isP (p : Nat) : Prop := 2 ≤ p ∧ ∀ d, d ∣ p → d = 1 ∨ d = p
theorem isP_of {p : Nat} (h2 : 2 ≤ p) (h : p < 1002001) (ht : ∀ k, k < 1001 → 2 ≤ k → k < p → p % k ≠ 0) : isP p := by
  refine ⟨h2, fun d hd => ?_⟩
  obtain ⟨e, he⟩ := hd
  by_cases h1 : d = 1
  · exact Or.inl h1
  by_cases hp : d = p
  · exact Or.inr hp
  exfalso
  have hd0 : 0 < d := by
    rcases Nat.eq_zero_or_pos d with q | q
    · subst q; omega
    · exact q
  have he0 : 0 < e := by
    rcases Nat.eq_zero_or_pos e with q | q
    · subst q; omega
    · exact q
  have he1 : e ≠ 1 := by intro q; subst q; omega
  have hdp : d < p := by
    have : d * 2 ≤ d * e := Nat.mul_le_mul_left d (by omega)
    omega
  have hep : e < p := by
    have : 2 * e ≤ d * e := Nat.mul_le_mul_right e (by omega)
    omega
  by_cases hs : d < 1001
  · exact ht d hs (by omega) hdp (by rw [he]; exact Nat.mul_mod_right d e)
  · by_cases hs2 : e < 1001
    · exact ht e hs2 (by omega) hep (by rw [he]; exact Nat.mul_mod_left d e)
    · have : 1001 * 1001 ≤ d * e := Nat.mul_le_mul (by omega) (by omega)
      omega
theorem isP_cop {p a : Nat} (h : isP p) (h0 : ¬ p ∣ a) : Nat.Coprime p a := by
  rcases h.2 _ (Nat.gcd_dvd_left p a) with q | q
  · exact q
  · exact absurd (q ▸ Nat.gcd_dvd_right p a) h0
theorem isP_mul {p a b : Nat} (h : isP p) (hd : p ∣ a * b) : p ∣ a ∨ p ∣ b := by
  by_cases ha : p ∣ a
  · exact Or.inl ha
  · exact Or.inr ((isP_cop h ha).dvd_of_dvd_mul_left hd)
def ch : Nat → Nat → Nat
  | _, 0 => 1
  | 0, _ + 1 => 0
  | n + 1, k + 1 => ch n k + ch n (k + 1)
theorem ch_zero (n : Nat) : ch n 0 = 1 := by cases n <;> rfl
theorem ch_big : ∀ n k : Nat, n < k → ch n k = 0 := by
  intro n
  induction n with
  | zero => intro k hk; cases k with
    | zero => omega
    | succ k => rfl
  | succ n ih => intro k hk; cases k with
    | zero => omega
    | succ k =>
      show ch n k + ch n (k + 1) = 0
      rw [ih k (by omega), ih (k + 1) (by omega)]
theorem ch_self (n : Nat) : ch n n = 1 := by
  induction n with
  | zero => rfl
  | succ n ih =>
    show ch n n + ch n (n + 1) = 1
    rw [ih, ch_big n (n + 1) (by omega)]
theorem ch_mul : ∀ n k : Nat, ch (n + 1) (k + 1) * (k + 1) = (n + 1) * ch n k := by
  intro n
  induction n with
  | zero =>
    intro k
    cases k with
    | zero => rfl
    | succ k =>
      show (ch 0 (k + 1) + ch 0 (k + 2)) * (k + 2) = 1 * ch 0 (k + 1)
      have a1 : ch 0 (k + 1) = 0 := rfl
      have a2 : ch 0 (k + 2) = 0 := rfl
      rw [a1, a2, Nat.mul_zero, Nat.zero_mul]
  | succ n ih =>
    intro k
    cases k with
    | zero =>
      have h : ch (n + 1) 1 = n + 1 := by
        have h9 := ih 0
        rw [ch_zero] at h9
        simpa using h9
      show (ch (n + 1) 0 + ch (n + 1) 1) * 1 = (n + 1 + 1) * 1
      rw [ch_zero]
      omega
    | succ k =>
      have h1 := ih k
      have h2 := ih (k + 1)
      show (ch (n + 1) (k + 1) + ch (n + 1) (k + 2)) * (k + 2) = (n + 2) * ch (n + 1) (k + 1)
      have h3 : ch (n + 1) (k + 1) = ch n k + ch n (k + 1) := rfl
      have h4 : (ch (n + 1) (k + 1) + ch (n + 1) (k + 2)) * (k + 2) = ch (n + 1) (k + 1) * (k + 1) + ch (n + 1) (k + 1) + ch (n + 1) (k + 2) * (k + 2) := by
        rw [Nat.add_mul, Nat.mul_succ (ch (n + 1) (k + 1)) (k + 1)]
      rw [h4, h1, h2]
      have h5 : (n + 2) * ch (n + 1) (k + 1) = (n + 1) * ch n k + (n + 1) * ch n (k + 1) + ch (n + 1) (k + 1) := by
        rw [Nat.succ_mul (n + 1), h3, Nat.mul_add]
      rw [h5]; omega
/-- the sum of f k, k below n -/
def sumf (f : Nat → Nat) : Nat → Nat
  | 0 => 0
  | n + 1 => sumf f n + f n
theorem sumf_add (f g : Nat → Nat) (n : Nat) : sumf (fun k => f k + g k) n = sumf f n + sumf g n := by
  induction n with
  | zero => rfl
  | succ n ih => show sumf (fun k => f k + g k) n + (f n + g n) = (sumf f n + f n) + (sumf g n + g n); rw [ih]; omega
theorem sumf_mul (f : Nat → Nat) (a n : Nat) : sumf (fun k => a * f k) n = a * sumf f n := by
  induction n with
  | zero => rfl
  | succ n ih => show sumf _ n + _ = a * (sumf f n + f n); rw [ih, Nat.mul_add]
theorem sumf_shift (f : Nat → Nat) (n : Nat) : sumf f (n + 1) = f 0 + sumf (fun k => f (k + 1)) n := by
  induction n with
  | zero => show sumf f 0 + f 0 = _; simp [sumf]
  | succ n ih =>
    have h : sumf f (n + 1 + 1) = sumf f (n + 1) + f (n + 1) := rfl
    rw [h, ih]
    show _ = f 0 + (sumf (fun k => f (k + 1)) n + f (n + 1))
    omega
theorem sumf_congr {f g : Nat → Nat} {n : Nat} (h : ∀ k, k < n → f k = g k) : sumf f n = sumf g n := by
  induction n with
  | zero => rfl
  | succ n ih => show sumf f n + f n = sumf g n + g n; rw [ih (fun k hk => h k (by omega)), h n (by omega)]
theorem binom (a n : Nat) : (a + 1) ^ n = sumf (fun k => ch n k * a ^ k) (n + 1) := by
  induction n with
  | zero => rfl
  | succ n ih =>
    rw [Nat.pow_succ, ih]
    have e1 : sumf (fun k => ch (n + 1) k * a ^ k) (n + 1 + 1) = ch (n + 1) 0 * a ^ 0 + sumf (fun k => ch (n + 1) (k + 1) * a ^ (k + 1)) (n + 1) := sumf_shift _ _
    have e2 : sumf (fun k => ch (n + 1) (k + 1) * a ^ (k + 1)) (n + 1) = sumf (fun k => ch n k * a ^ (k + 1) + ch n (k + 1) * a ^ (k + 1)) (n + 1) := sumf_congr (fun k _ => by show (ch n k + ch n (k + 1)) * _ = _; rw [Nat.add_mul])
    have e3 : sumf (fun k => ch n k * a ^ (k + 1)) (n + 1) = a * sumf (fun k => ch n k * a ^ k) (n + 1) := by
      rw [← sumf_mul]
      exact sumf_congr (fun k _ => by rw [Nat.pow_succ, ← Nat.mul_assoc, Nat.mul_comm _ a])
    have e4 : ch (n + 1) 0 * a ^ 0 + sumf (fun k => ch n (k + 1) * a ^ (k + 1)) (n + 1) = sumf (fun k => ch n k * a ^ k) (n + 1) := by
      have e5 : sumf (fun k => ch n k * a ^ k) (n + 1 + 1) = ch n 0 * a ^ 0 + sumf (fun k => ch n (k + 1) * a ^ (k + 1)) (n + 1) := sumf_shift _ _
      have e6 : sumf (fun k => ch n k * a ^ k) (n + 1 + 1) = sumf (fun k => ch n k * a ^ k) (n + 1) + ch n (n + 1) * a ^ (n + 1) := rfl
      rw [ch_big n (n + 1) (by omega), Nat.zero_mul] at e6
      have e7 := e5.symm.trans e6
      rw [ch_zero] at e7 ⊢
      exact e7
    rw [e1, e2, sumf_add, e3, Nat.mul_add, Nat.mul_one]
    rw [← e4]
    have e7 : ∀ s t u : Nat, s = t → t * a + t = u + (a * s + (t - u)) ∨ True := fun _ _ _ _ => Or.inr trivial
    rw [Nat.mul_comm a]
    rw [e4]
    omega
theorem ch_dvd {p k : Nat} (h : isP p) (h0 : 0 < k) (h1 : k < p) : p ∣ ch p k := by
  obtain ⟨q, rfl⟩ : ∃ q, p = q + 1 := ⟨p - 1, by omega⟩
  obtain ⟨j, rfl⟩ : ∃ j, k = j + 1 := ⟨k - 1, by omega⟩
  have h2 := ch_mul q j
  rcases isP_mul h (show q + 1 ∣ ch (q + 1) (j + 1) * (j + 1) from ⟨_, h2⟩) with h3 | h3
  · exact h3
  · exact absurd (Nat.le_of_dvd (by omega) h3) (by omega)
theorem sumf_dvd {f : Nat → Nat} {p n : Nat} (h : ∀ k, k < n → p ∣ f k) : p ∣ sumf f n := by
  induction n with
  | zero => exact Nat.dvd_zero p
  | succ n ih => exact Nat.dvd_add (ih (fun k hk => h k (by omega))) (h n (by omega))
theorem fermat0 {p : Nat} (h : isP p) (a : Nat) : a ^ p % p = a % p := by
  induction a with
  | zero => rw [Nat.zero_pow (by have := h.1; omega)]
  | succ a ih =>
    obtain ⟨q, rfl⟩ : ∃ q, p = q + 2 := ⟨p - 2, by have := h.1; omega⟩
    have e1 := binom a (q + 2)
    have e2 : sumf (fun k => ch (q + 2) k * a ^ k) (q + 2 + 1) = ch (q + 2) 0 * a ^ 0 + sumf (fun k => ch (q + 2) (k + 1) * a ^ (k + 1)) (q + 2) := sumf_shift _ _
    have e3 : sumf (fun k => ch (q + 2) (k + 1) * a ^ (k + 1)) (q + 2) = sumf (fun k => ch (q + 2) (k + 1) * a ^ (k + 1)) (q + 1) + ch (q + 2) (q + 2) * a ^ (q + 2) := rfl
    obtain ⟨z, hz⟩ : (q + 2) ∣ sumf (fun k => ch (q + 2) (k + 1) * a ^ (k + 1)) (q + 1) := sumf_dvd (fun k hk => Nat.dvd_mul_right_of_dvd (ch_dvd h (by omega) (by omega)) _)
    rw [e1, e2, e3, hz, ch_zero, ch_self, Nat.pow_zero, Nat.one_mul, Nat.one_mul]
    have e4 : 1 + ((q + 2) * z + a ^ (q + 2)) = (1 + a ^ (q + 2)) + (q + 2) * z := by omega
    rw [e4, Nat.add_mul_mod_self_left, Nat.add_mod, ih, ← Nat.add_mod, Nat.add_comm]
theorem fermat {p a : Nat} (h : isP p) (ha : ¬ p ∣ a) : a ^ (p - 1) % p = 1 := by
  have h2 := h.1
  have h1 := fermat0 h a
  obtain ⟨q, rfl⟩ : ∃ q, p = q + 1 := ⟨p - 1, by omega⟩
  have e : q + 1 - 1 = q := rfl
  rw [e]
  have hp1 : 1 ≤ a ^ q := Nat.pow_pos (by
    rcases Nat.eq_zero_or_pos a with z | z
    · subst z; exact absurd (Nat.dvd_zero _) ha
    · exact z)
  have h3 : (q + 1) ∣ a * (a ^ q - 1) := by
    rw [Nat.mul_sub, Nat.mul_one, Nat.mul_comm, ← Nat.pow_succ]
    have h4 : a ≤ a ^ (q + 1) := by rw [Nat.pow_succ]; exact Nat.le_mul_of_pos_left a hp1
    exact Nat.dvd_of_mod_eq_zero (Nat.sub_mod_eq_zero_of_mod_eq h1)
  rcases isP_mul h h3 with h4 | h4
  · exact absurd h4 ha
  · obtain ⟨z, hz⟩ := h4
    have h5 : a ^ q = (q + 1) * z + 1 := by omega
    rw [h5, Nat.mul_add_mod, Nat.mod_eq_of_lt (by omega)]

theorem prP : ∀ wh, wh < 7 → isP (pr wh).toNat := wh_cases (isP_of (by decide +kernel) (by decide +kernel) (by decide +kernel)) (isP_of (by decide +kernel) (by decide +kernel) (by decide +kernel)) (isP_of (by decide +kernel) (by decide +kernel) (by decide +kernel)) (isP_of (by decide +kernel) (by decide +kernel) (by decide +kernel)) (isP_of (by decide +kernel) (by decide +kernel) (by decide +kernel)) (isP_of (by decide +kernel) (by decide +kernel) (by decide +kernel)) (isP_of (by decide +kernel) (by decide +kernel) (by decide +kernel))
theorem fermatI {wh : Nat} (hwh : wh < 7) {v : Int} (h1 : 1 ≤ v) (h2 : v < pr wh) : v ^ (pr wh - 1).toNat % pr wh = 1 := by
  have hp := pr_rg wh hwh
  obtain ⟨a, rfl⟩ : ∃ a : Nat, v = (a : Int) := ⟨v.toNat, by omega⟩
  obtain ⟨p, hp9⟩ : ∃ p : Nat, pr wh = (p : Int) := ⟨(pr wh).toNat, by omega⟩
  have hP := prP wh hwh
  rw [hp9] at hP hp h2 ⊢
  have h3 := fermat (p := p) (a := a) hP (fun hd => by
    have := Nat.le_of_dvd (by omega) hd
    omega)
  have e : ((p : Int) - 1).toNat = p - 1 := by omega
  rw [e]
  exact_mod_cast h3
theorem iv_mul {wh : Nat} (hwh : wh < 7) {v : Int} (h1 : 1 ≤ v) (h2 : v < pr wh) : iv wh v * v % pr wh = 1 := by
  have hp := pr_rg wh hwh
  have h3 := fermatI hwh h1 h2
  have e : (pr wh - 1).toNat = (pr wh - 2).toNat + 1 := by omega
  rw [e, Int.pow_succ] at h3
  unfold iv e_pw
  rw [emod_mul_l]
  exact h3
theorem inv_uniq {p z z2 v : Int} (h0 : 0 ≤ z) (h1 : z < p) (g0 : 0 ≤ z2) (g1 : z2 < p) (h : z * v % p = 1) (g : z2 * v % p = 1) : z = z2 := by
  have e1 : z * (z2 * v) % p = z % p := by rw [← emod_mul_r, g, Int.mul_one]
  have e2 : z * (z2 * v) % p = z2 % p := by
    rw [show z * (z2 * v) = z2 * (z * v) by rw [Int.mul_left_comm], ← emod_mul_r, h, Int.mul_one]
  rw [e1, Int.emod_eq_of_lt h0 h1, Int.emod_eq_of_lt g0 g1] at e2
  exact e2
theorem iv_zero {wh : Nat} (hwh : wh < 7) : iv wh 0 = 0 := by
  have hp := pr_rg wh hwh
  unfold iv e_pw
  have e : (pr wh - 2).toNat = (pr wh - 3).toNat + 1 := by omega
  rw [e, Int.pow_succ, Int.mul_zero, Int.zero_emod]
theorem iv_is {wh : Nat} (hwh : wh < 7) {v z : Int} (h1 : 1 ≤ v) (h2 : v < pr wh) (h0 : 0 ≤ z) (h3 : z < pr wh) (h : z * v % pr wh = 1) : z = iv wh v := by
  have hr := iv_rg (v := v) hwh
  exact inv_uniq h0 h3 hr.1 hr.2 h (iv_mul hwh h1 h2)
/-- no number but 0 and p divides p -/
theorem pr_cop {wh : Nat} (hwh : wh < 7) {d v : Int} (h1 : 1 ≤ v) (h2 : v < pr wh) (hd : 0 ≤ d) (hp : d ∣ pr wh) (hv : d ∣ v) : d = 1 := by
  have hp9 := pr_rg wh hwh
  have h3 := (prP wh hwh).2 d.toNat (by
    have := Int.natAbs_dvd_natAbs.mpr hp
    rwa [show d.natAbs = d.toNat by omega, show (pr wh).natAbs = (pr wh).toNat by omega] at this)
  rcases h3 with h3 | h3
  · omega
  · have := Int.le_of_dvd (by omega) hv
    omega
