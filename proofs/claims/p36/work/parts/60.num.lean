-- 60.num.lean.txt
section
/-! ===== a polynomial mod a prime that is 0 at as many places as it has coefficients is 0 ===== -/
def q_ev : Nat → (Nat → Int) → Int → Int
  | 0, _, _ => 0
  | n + 1, f, x => f 0 + x * q_ev n (fun k => f (k + 1)) x
def q_dv (h : Int) : Nat → (Nat → Int) → Nat → Int
  | 0, _ => fun _ => 0
  | n + 1, f => fun k => match k with
    | 0 => q_ev (n + 1) (fun k => f (k + 1)) h
    | k + 1 => q_dv h n (fun k => f (k + 1)) k
theorem q_div (h x : Int) : ∀ (n : Nat) (f : Nat → Int), q_ev (n + 1) f x - q_ev (n + 1) f h = (x - h) * q_ev n (q_dv h n f) x := by
  intro n
  induction n with
  | zero => intro f; show f 0 + x * 0 - (f 0 + h * 0) = (x - h) * 0; rw [Int.mul_zero, Int.mul_zero, Int.mul_zero]; omega
  | succ n ih =>
    intro f
    have e := ih (fun k => f (k + 1))
    show f 0 + x * q_ev (n + 1) (fun k => f (k + 1)) x - (f 0 + h * q_ev (n + 1) (fun k => f (k + 1)) h) = (x - h) * (q_ev (n + 1) (fun k => f (k + 1)) h + x * q_ev n (q_dv h n (fun k => f (k + 1))) x)
    generalize q_ev (n + 1) (fun k => f (k + 1)) x = a at e ⊢
    generalize q_ev (n + 1) (fun k => f (k + 1)) h = b at e ⊢
    generalize q_ev n (q_dv h n (fun k => f (k + 1))) x = d at e ⊢
    have e2 : a = b + (x - h) * d := by omega
    rw [e2, Int.mul_add x b, Int.mul_add (x - h) b, Int.mul_left_comm x (x - h) d, Int.sub_mul x h b]
    omega
theorem q_back (p h : Int) : ∀ (n : Nat) (f : Nat → Int), p ∣ q_ev (n + 1) f h → (∀ k, k < n → p ∣ q_dv h n f k) → ∀ k, k < n + 1 → p ∣ f k := by
  intro n
  induction n with
  | zero =>
    intro f h0 _ k hk
    have e : q_ev 1 f h = f 0 := by show f 0 + h * 0 = f 0; rw [Int.mul_zero]; omega
    rw [e] at h0
    rw [show k = 0 by omega]
    exact h0
  | succ n ih =>
    intro f h0 hz
    have g0 : p ∣ q_ev (n + 1) (fun k => f (k + 1)) h := hz 0 (by omega)
    have g1 := ih (fun k => f (k + 1)) g0 (fun k hk => hz (k + 1) (by omega))
    intro k hk
    match k with
    | 0 =>
      have e : f 0 = q_ev (n + 2) f h - h * q_ev (n + 1) (fun k => f (k + 1)) h := by
        show f 0 = f 0 + h * q_ev (n + 1) (fun k => f (k + 1)) h - h * q_ev (n + 1) (fun k => f (k + 1)) h
        omega
      rw [e]
      exact Int.dvd_sub h0 (Int.dvd_trans g0 (Int.dvd_mul_left _ _))
    | k + 1 => exact g1 k (by omega)
/-- how many of the holders 1 to M are in the set -/
def q_cn (set : Int) : Nat → Nat
  | 0 => 0
  | k + 1 => if hs set ((k : Int) + 1) then q_cn set k + 1 else q_cn set k
theorem q_pm {wh : Nat} (hwh : wh < 7) {a b : Int} (h : pr wh ∣ a * b) : pr wh ∣ a ∨ pr wh ∣ b := by
  have hp := pr_rg wh hwh
  have hP := prP wh hwh
  have e : ((pr wh).toNat : Int) = pr wh := Int.toNat_of_nonneg (by omega)
  have h1 : (pr wh).toNat ∣ a.natAbs * b.natAbs := by
    rw [← Int.natAbs_mul]
    have h2 := Int.natAbs_dvd_natAbs.mpr h
    rw [show (pr wh).natAbs = (pr wh).toNat by omega] at h2
    exact h2
  rcases isP_mul hP h1 with h3 | h3
  · left
    have h4 : (pr wh).natAbs ∣ a.natAbs := by rw [show (pr wh).natAbs = (pr wh).toNat by omega]; exact h3
    exact Int.natAbs_dvd_natAbs.mp h4
  · right
    have h4 : (pr wh).natAbs ∣ b.natAbs := by rw [show (pr wh).natAbs = (pr wh).toNat by omega]; exact h3
    exact Int.natAbs_dvd_natAbs.mp h4
theorem q_uniq {wh : Nat} (hwh : wh < 7) (set : Int) : ∀ (M : Nat), (M : Int) < pr wh → ∀ f : Nat → Int, (∀ j, j < M → hs set ((j : Int) + 1) → pr wh ∣ q_ev (q_cn set M) f ((j : Int) + 1)) → ∀ k, k < q_cn set M → pr wh ∣ f k := by
  intro M
  induction M with
  | zero => intro _ f _ k hk; exact absurd hk (Nat.not_lt_zero _)
  | succ M ih =>
    intro hM f hz
    by_cases hc : hs set ((M : Int) + 1)
    · have e : q_cn set (M + 1) = q_cn set M + 1 := if_pos hc
      rw [e] at hz ⊢
      have h0 := hz M (by omega) hc
      refine q_back (pr wh) ((M : Int) + 1) _ f h0 (ih (by omega) _ (fun j hj hs1 => ?_))
      have h1 := hz j (by omega) hs1
      have h2 := Int.dvd_sub h1 h0
      rw [q_div] at h2
      rcases q_pm hwh h2 with h3 | h3
      · exfalso
        obtain ⟨c, hc3⟩ := h3
        have h4 : (j : Int) + 1 - ((M : Int) + 1) < 0 := by omega
        have h5 : -(pr wh) < (j : Int) + 1 - ((M : Int) + 1) := by omega
        have h6 : c < 0 := by
          rcases Int.lt_or_le c 0 with q | q
          · exact q
          · have := Int.mul_nonneg (show 0 ≤ pr wh by omega) q; omega
        have h7 : pr wh * c ≤ pr wh * (-1) := Int.mul_le_mul_of_nonneg_left (by omega) (by omega)
        omega
      · exact h3
    · have e : q_cn set (M + 1) = q_cn set M := if_neg hc
      rw [e] at hz ⊢
      exact ih (by omega) f (fun j hj h1 => hz j (by omega) h1)
/-! ===== Horner's steps, and the factors x - o, as values of polynomials ===== -/
theorem q_hv (p x : Int) (P : Int → Int) (N : Int) : ∀ j : Nat, hv p x P N j % p = q_ev j (fun k => P (N - (j : Int) + (k : Int))) x % p := by
  intro j
  induction j with
  | zero => rfl
  | succ j ih =>
    show (hv p x P N j * x + P (N - 1 - (j : Int))) % p % p = (P (N - ((j + 1 : Nat) : Int) + ((0 : Nat) : Int)) + x * q_ev j (fun k => P (N - ((j + 1 : Nat) : Int) + ((k + 1 : Nat) : Int))) x) % p
    have e : (fun k : Nat => P (N - ((j + 1 : Nat) : Int) + ((k + 1 : Nat) : Int))) = fun k : Nat => P (N - (j : Int) + (k : Int)) := by
      funext k
      congr 1
      omega
    have e0 : N - ((j + 1 : Nat) : Int) + ((0 : Nat) : Int) = N - 1 - (j : Int) := by omega
    have h : hv p x P N j * x % p = q_ev j (fun k => P (N - (j : Int) + (k : Int))) x * x % p := by rw [Int.mul_emod, ih, ← Int.mul_emod]
    rw [e, e0, Int.emod_emod_of_dvd _ (Int.dvd_refl p), Int.add_emod, h, ← Int.add_emod, Int.mul_comm _ x, Int.add_comm]
theorem q_congr {f g : Nat → Int} : ∀ {n : Nat}, (∀ k, k < n → f k = g k) → ∀ x, q_ev n f x = q_ev n g x := by
  intro n
  induction n generalizing f g with
  | zero => intro _ x; rfl
  | succ n ih =>
    intro h x
    show f 0 + x * q_ev n (fun k => f (k + 1)) x = g 0 + x * q_ev n (fun k => g (k + 1)) x
    rw [h 0 (by omega), ih (f := fun k => f (k + 1)) (g := fun k => g (k + 1)) (fun k hk => h (k + 1) (by omega)) x]
theorem q_cgm {p : Int} {f g : Nat → Int} : ∀ {n : Nat}, (∀ k, k < n → f k % p = g k % p) → ∀ x, q_ev n f x % p = q_ev n g x % p := by
  intro n
  induction n generalizing f g with
  | zero => intro _ x; rfl
  | succ n ih =>
    intro h x
    show (f 0 + x * q_ev n (fun k => f (k + 1)) x) % p = (g 0 + x * q_ev n (fun k => g (k + 1)) x) % p
    rw [Int.add_emod, h 0 (by omega), Int.mul_emod, ih (f := fun k => f (k + 1)) (g := fun k => g (k + 1)) (fun k hk => h (k + 1) (by omega)) x, ← Int.mul_emod, ← Int.add_emod]
theorem q_last (x : Int) : ∀ (n : Nat) (f : Nat → Int), q_ev (n + 1) f x = q_ev n f x + f n * x ^ n := by
  intro n
  induction n with
  | zero => intro f; show f 0 + x * 0 = 0 + f 0 * x ^ 0; rw [Int.pow_zero, Int.mul_zero]; omega
  | succ n ih =>
    intro f
    show f 0 + x * q_ev (n + 1) (fun k => f (k + 1)) x = f 0 + x * q_ev n (fun k => f (k + 1)) x + f (n + 1) * x ^ (n + 1)
    rw [ih (fun k => f (k + 1)), Int.mul_add, Int.pow_succ, Int.mul_left_comm x (f (n + 1)) (x ^ n), Int.mul_comm x (x ^ n)]
    omega
theorem q_more {p : Int} {f : Nat → Int} {n : Nat} (m : Nat) (h : ∀ k, n ≤ k → f k = 0) (x : Int) : q_ev (n + m) f x = q_ev n f x := by
  induction m with
  | zero => rfl
  | succ m ih => rw [← Nat.add_assoc, q_last, ih, h _ (by omega), Int.zero_mul, Int.add_zero]
theorem q_lin (o x : Int) : ∀ (n : Nat) (f g : Nat → Int), q_ev n (fun k => f k + o * g k) x = q_ev n f x + o * q_ev n g x := by
  intro n
  induction n with
  | zero => intro f g; show (0 : Int) = 0 + o * 0; rw [Int.mul_zero]; omega
  | succ n ih =>
    intro f g
    show f 0 + o * g 0 + x * q_ev n (fun k => f (k + 1) + o * g (k + 1)) x = f 0 + x * q_ev n (fun k => f (k + 1)) x + o * (g 0 + x * q_ev n (fun k => g (k + 1)) x)
    rw [ih (fun k => f (k + 1)) (fun k => g (k + 1)), Int.mul_add, Int.mul_add, Int.mul_left_comm x o]
    omega
theorem q_tms {p o x : Int} {t : Int → Int} {n : Nat} (h : t (n : Int) % p = 0) : q_ev (n + 1) (fun k => tmS p o t (k : Int)) x % p = (x - o) * q_ev n (fun k => t (k : Int)) x % p := by
  have h1 : q_ev (n + 1) (fun k => tmS p o t (k : Int)) x % p = q_ev (n + 1) (fun k => (if 0 < (k : Int) then t ((k : Int) - 1) else 0) + (-o) * t (k : Int)) x % p := by
    refine q_cgm (fun k _ => ?_) x
    show ((if 0 < (k : Int) then t ((k : Int) - 1) else 0) - o * t (k : Int)) % p % p = _
    rw [Int.emod_emod_of_dvd _ (Int.dvd_refl p), Int.neg_mul, Int.sub_eq_add_neg]
  have h2 : q_ev (n + 1) (fun k : Nat => if 0 < (k : Int) then t ((k : Int) - 1) else 0) x = x * q_ev n (fun k => t (k : Int)) x := by
    show (if 0 < ((0 : Nat) : Int) then t (((0 : Nat) : Int) - 1) else 0) + x * q_ev n (fun k : Nat => if 0 < ((k + 1 : Nat) : Int) then t (((k + 1 : Nat) : Int) - 1) else 0) x = _
    rw [if_neg (by omega), q_congr (g := fun k : Nat => t (k : Int)) (fun k _ => by rw [if_pos (by omega)]; congr 1; omega) x]
    omega
  rw [h1, q_lin, h2, q_last]
  have h3 : (x * q_ev n (fun k => t (k : Int)) x + -o * (q_ev n (fun k => t (k : Int)) x + t (n : Int) * x ^ n)) = (x - o) * q_ev n (fun k => t (k : Int)) x + t (n : Int) * (-o * x ^ n) := by
    rw [Int.mul_add, Int.sub_mul, Int.neg_mul, Int.mul_left_comm (-o)]
    omega
  rw [h3, Int.add_emod, Int.mul_emod (t (n : Int)), h, Int.zero_mul, Int.zero_emod, Int.add_zero, Int.emod_emod_of_dvd _ (Int.dvd_refl p)]
end
-- 60.o_lag.lean.txt
section
/-! ===== congruence ===== -/
def cg (p a b : Int) : Prop := a % p = b % p
theorem cg_r {p a : Int} : cg p a a := rfl
theorem cg_q {p a b : Int} (h : a = b) : cg p a b := by rw [h]; rfl
theorem cg_s {p a b : Int} (h : cg p a b) : cg p b a := Eq.symm h
theorem cg_t {p a b c : Int} (h : cg p a b) (k : cg p b c) : cg p a c := Eq.trans h k
theorem cg_a {p a b c d : Int} (h : cg p a b) (k : cg p c d) : cg p (a + c) (b + d) := by
  unfold cg at *
  rw [Int.add_emod, h, k, ← Int.add_emod]
theorem cg_m {p a b c d : Int} (h : cg p a b) (k : cg p c d) : cg p (a * c) (b * d) := by
  unfold cg at *
  rw [Int.mul_emod, h, k, ← Int.mul_emod]
theorem cg_b {p a b c d : Int} (h : cg p a b) (k : cg p c d) : cg p (a - c) (b - d) := by
  unfold cg at *
  rw [Int.sub_emod, h, k, ← Int.sub_emod]
theorem cg_e {p a : Int} : cg p (a % p) a := Int.emod_emod_of_dvd _ (Int.dvd_refl p)
theorem cg_d {p a b : Int} (h : cg p a b) : p ∣ a - b := Int.dvd_of_emod_eq_zero (Int.emod_eq_emod_iff_emod_sub_eq_zero.mp h)
theorem cg_i {p a b : Int} (h : p ∣ a - b) : cg p a b := Int.emod_eq_emod_iff_emod_sub_eq_zero.mpr (Int.emod_eq_zero_of_dvd h)
theorem cg_0 {p a : Int} (h : p ∣ a) : cg p a 0 := cg_i (by rw [Int.sub_zero]; exact h)
theorem cg_z {p a : Int} (h : cg p a 0) : p ∣ a := by
  have := cg_d h
  rw [Int.sub_zero] at this
  exact this
theorem cg_eq {p a b : Int} (h : cg p a b) (ha : 0 ≤ a ∧ a < p) (hb : 0 ≤ b ∧ b < p) : a = b := by
  have e : a % p = b % p := h
  rw [Int.emod_eq_of_lt ha.1 ha.2, Int.emod_eq_of_lt hb.1 hb.2] at e
  exact e
theorem cg_lt {p a b : Int} (h : cg p a b) (ha : 0 ≤ a ∧ a < p) : a = b % p := by
  have e : a % p = b % p := h
  rw [Int.emod_eq_of_lt ha.1 ha.2] at e
  exact e
theorem q_nd {p a : Int} (h1 : -p < a) (h2 : a < p) (h3 : a ≠ 0) : ¬ p ∣ a := fun h => h3 (Int.eq_zero_of_dvd_of_natAbs_lt_natAbs h (by omega))
/-! ===== rows of coefficients ===== -/
def zb (n : Nat) (t : Int → Int) : Prop := ∀ c : Int, (n : Int) ≤ c → t c = 0
def q_e8 (t : Int → Int) (x : Int) : Int := q_ev 8 (fun k : Nat => t (k : Int)) x
theorem q_zb {n m : Nat} {t : Int → Int} (h : zb n t) (hm : n ≤ m) (x : Int) : q_ev m (fun k : Nat => t (k : Int)) x = q_ev n (fun k : Nat => t (k : Int)) x := by
  have e := q_more (p := 0) (f := fun k : Nat => t (k : Int)) (n := n) (m - n) (fun k hk => h _ (by omega)) x
  rw [show n + (m - n) = m by omega] at e
  exact e
theorem q_xm {p x y : Int} (h : cg p x y) : ∀ (n : Nat) (f : Nat → Int), cg p (q_ev n f x) (q_ev n f y) := by
  intro n
  induction n with
  | zero => intro f; exact cg_r
  | succ n ih => intro f; exact cg_a cg_r (cg_m h (ih _))
theorem zb_tmS {p o : Int} {n : Nat} {t : Int → Int} (h : zb n t) : zb (n + 1) (tmS p o t) := by
  intro c hc
  show ((if 0 < c then t (c - 1) else 0) - o * t c) % p = 0
  rw [h c (by omega), if_pos (by omega), h (c - 1) (by omega), Int.mul_zero, Int.sub_zero, Int.zero_emod]
def q_ct (h set : Int) : Nat → Nat
  | 0 => 0
  | k + 1 => if ((k : Int) + 1 ≠ h ∧ hs set ((k : Int) + 1)) then q_ct h set k + 1 else q_ct h set k
theorem zb_tm (p h set : Int) : ∀ k : Nat, zb (q_ct h set k + 1) (tm p h set k) := by
  intro k
  induction k with
  | zero => intro c hc; exact if_neg (by have : ((0 + 1 : Nat) : Int) ≤ c := hc; omega)
  | succ k ih =>
    show zb ((if ((k : Int) + 1 ≠ h ∧ hs set ((k : Int) + 1)) then q_ct h set k + 1 else q_ct h set k) + 1) (if ((k : Int) + 1 ≠ h ∧ hs set ((k : Int) + 1)) then tmS p ((k : Int) + 1) (tm p h set k) else tm p h set k)
    by_cases C : (k : Int) + 1 ≠ h ∧ hs set ((k : Int) + 1)
    · rw [if_pos C, if_pos C]; exact zb_tmS ih
    · rw [if_neg C, if_neg C]; exact ih
theorem q_ct_le (h set : Int) : ∀ k : Nat, q_ct h set k ≤ k := by
  intro k
  induction k with
  | zero => exact Nat.le_refl _
  | succ k ih =>
    show (if ((k : Int) + 1 ≠ h ∧ hs set ((k : Int) + 1)) then q_ct h set k + 1 else q_ct h set k) ≤ k + 1
    split <;> omega
theorem q_cn_le (set : Int) : ∀ k : Nat, q_cn set k ≤ k := by
  intro k
  induction k with
  | zero => exact Nat.le_refl _
  | succ k ih =>
    show (if hs set ((k : Int) + 1) then q_cn set k + 1 else q_cn set k) ≤ k + 1
    split <;> omega
theorem q_ct_in {h set : Int} (h1 : hs set h) : ∀ k : Nat, (1 ≤ h → h ≤ (k : Int) → q_ct h set k + 1 = q_cn set k) ∧ ((k : Int) < h → q_ct h set k = q_cn set k) := by
  intro k
  induction k with
  | zero => exact ⟨fun a b => by omega, fun _ => rfl⟩
  | succ k ih =>
    have e1 : q_ct h set (k + 1) = if ((k : Int) + 1 ≠ h ∧ hs set ((k : Int) + 1)) then q_ct h set k + 1 else q_ct h set k := rfl
    have e2 : q_cn set (k + 1) = if hs set ((k : Int) + 1) then q_cn set k + 1 else q_cn set k := rfl
    rw [e1, e2]
    by_cases e : (k : Int) + 1 = h
    · rw [if_neg (fun q => q.1 e), if_pos (by rw [e]; exact h1)]
      exact ⟨fun _ _ => by rw [ih.2 (by omega)], fun q => by omega⟩
    · by_cases c : hs set ((k : Int) + 1)
      · rw [if_pos ⟨e, c⟩, if_pos c]
        exact ⟨fun a b => by rw [ih.1 a (by omega)], fun q => by rw [ih.2 (by omega)]⟩
      · rw [if_neg (fun q => c q.2), if_neg c]
        exact ⟨fun a b => ih.1 a (by omega), fun q => ih.2 (by omega)⟩
theorem q_ct_0 (set : Int) : ∀ k : Nat, q_ct 0 set k = q_cn set k := by
  intro k
  induction k with
  | zero => rfl
  | succ k ih =>
    have e1 : q_ct 0 set (k + 1) = if ((k : Int) + 1 ≠ 0 ∧ hs set ((k : Int) + 1)) then q_ct 0 set k + 1 else q_ct 0 set k := rfl
    have e2 : q_cn set (k + 1) = if hs set ((k : Int) + 1) then q_cn set k + 1 else q_cn set k := rfl
    rw [e1, e2, ih]
    by_cases c : hs set ((k : Int) + 1)
    · rw [if_pos ⟨by omega, c⟩, if_pos c]
    · rw [if_neg (fun q => c q.2), if_neg c]
theorem wpr_su (p x h set : Int) (k : Nat) : wpr p x h set (k + 1) = if ((k : Int) + 1 ≠ h ∧ hs set ((k : Int) + 1)) then (wpr p x h set k * (x - ((k : Int) + 1))) % p else wpr p x h set k := rfl
theorem tm_su (p h set : Int) (k : Nat) : tm p h set (k + 1) = if ((k : Int) + 1 ≠ h ∧ hs set ((k : Int) + 1)) then tmS p ((k : Int) + 1) (tm p h set k) else tm p h set k := rfl
theorem tm_ev (p x h set : Int) : ∀ k : Nat, k ≤ 7 → cg p (q_e8 (tm p h set k) x) (wpr p x h set k) := by
  intro k
  induction k with
  | zero =>
    intro _
    have z : zb 1 (tm p h set 0) := zb_tm p h set 0
    refine cg_q ?_
    unfold q_e8
    rw [q_zb z (by omega)]
    show (1 : Int) + x * 0 = 1
    rw [Int.mul_zero]; rfl
  | succ k ih =>
    intro hk
    have z := zb_tm p h set k
    have l := q_ct_le h set k
    rw [wpr_su, tm_su]
    by_cases C : (k : Int) + 1 ≠ h ∧ hs set ((k : Int) + 1)
    · rw [if_pos C, if_pos C]
      have h1 : cg p (q_e8 (tmS p ((k : Int) + 1) (tm p h set k)) x) ((x - ((k : Int) + 1)) * q_ev 7 (fun j : Nat => tm p h set k (j : Int)) x) := q_tms (n := 7) (by rw [z _ (by omega), Int.zero_emod])
      have h2 : q_ev 7 (fun j : Nat => tm p h set k (j : Int)) x = q_e8 (tm p h set k) x := by
        unfold q_e8
        rw [q_zb z (m := 8) (by omega), q_zb z (m := 7) (by omega)]
      rw [h2] at h1
      refine cg_t h1 (cg_t (cg_m cg_r (ih (by omega))) ?_)
      rw [Int.mul_comm]
      exact cg_s cg_e
    · rw [if_neg C, if_neg C]; exact ih (by omega)
theorem wpr_cg {p x y : Int} (hx : cg p x y) (h set : Int) : ∀ k : Nat, cg p (wpr p x h set k) (wpr p y h set k) := by
  intro k
  induction k with
  | zero => exact cg_r
  | succ k ih =>
    rw [wpr_su, wpr_su]
    by_cases C : (k : Int) + 1 ≠ h ∧ hs set ((k : Int) + 1)
    · rw [if_pos C, if_pos C]
      exact cg_t cg_e (cg_t (cg_m ih (cg_b hx cg_r)) (cg_s cg_e))
    · rw [if_neg C, if_neg C]; exact ih
theorem wpr_z {p x h set j : Int} (hj : 1 ≤ j) (hn : j ≠ h) (hin : hs set j) (hx : cg p x j) : ∀ k : Nat, j ≤ (k : Int) → cg p (wpr p x h set k) 0 := by
  intro k
  induction k with
  | zero => intro q; exact absurd q (by have : ((0 : Nat) : Int) = 0 := rfl; omega)
  | succ k ih =>
    intro hk
    rw [wpr_su]
    by_cases e : j = (k : Int) + 1
    · rw [if_pos ⟨by omega, by rw [← e]; exact hin⟩, ← e]
      refine cg_t cg_e (cg_t (cg_m cg_r (cg_b hx cg_r)) ?_)
      rw [Int.sub_self, Int.mul_zero]; exact cg_r
    · have i := ih (by omega)
      by_cases C : (k : Int) + 1 ≠ h ∧ hs set ((k : Int) + 1)
      · rw [if_pos C]
        refine cg_t cg_e (cg_t (cg_m i cg_r) ?_)
        rw [Int.zero_mul]; exact cg_r
      · rw [if_neg C]; exact i
theorem q_n1 {wh : Nat} (hwh : wh < 7) : ¬ pr wh ∣ 1 := by
  have hp := pr_rg wh hwh
  exact q_nd (by omega) (by omega) (by decide)
theorem wpr_nz {wh : Nat} (hwh : wh < 7) {x h set : Int} : ∀ k : Nat, (∀ j : Int, 1 ≤ j → j ≤ (k : Int) → j ≠ h → hs set j → ¬ pr wh ∣ x - j) → ¬ pr wh ∣ wpr (pr wh) x h set k := by
  intro k
  induction k with
  | zero => intro _; exact q_n1 hwh
  | succ k ih =>
    intro H
    have i := ih (fun j a b c d => H j a (by omega) c d)
    rw [wpr_su]
    by_cases C : (k : Int) + 1 ≠ h ∧ hs set ((k : Int) + 1)
    · rw [if_pos C]
      intro hd
      have h1 : pr wh ∣ wpr (pr wh) x h set k * (x - ((k : Int) + 1)) := cg_z (cg_t (cg_s cg_e) (cg_0 hd))
      rcases q_pm hwh h1 with h2 | h2
      · exact i h2
      · exact H _ (by omega) (by omega) C.1 C.2 h2
    · rw [if_neg C]; exact i
theorem pr_M {wh : Nat} (hwh : wh < 7) : (ho wh).toNat ≤ 7 ∧ (((ho wh).toNat : Nat) : Int) = ho wh ∧ (((ho wh).toNat : Nat) : Int) < pr wh := by
  have h := ho_rg wh hwh
  omega
theorem wpr_un {wh : Nat} (hwh : wh < 7) (set : Int) {h : Int} (h1 : 1 ≤ h) (h2 : h ≤ ho wh) : 1 ≤ wpr (pr wh) h h set (ho wh).toNat ∧ wpr (pr wh) h h set (ho wh).toNat < pr wh := by
  have hp := pr_rg wh hwh
  have hM := pr_M hwh
  have r := wpr_rg (p := pr wh) (x := h) (h := h) (set := set) (by omega) (ho wh).toNat
  have n := wpr_nz hwh (x := h) (h := h) (set := set) (ho wh).toNat (fun j a b c _ => q_nd (by omega) (by omega) (by omega))
  refine ⟨?_, r.2⟩
  rcases Int.lt_or_le (wpr (pr wh) h h set (ho wh).toNat) 1 with q | q
  · exact absurd (show pr wh ∣ wpr (pr wh) h h set (ho wh).toNat by rw [show wpr (pr wh) h h set (ho wh).toNat = 0 by omega]; exact Int.dvd_zero _) n
  · exact q
theorem wgt_cg {wh : Nat} (set h x : Int) : cg (pr wh) (wgt wh set h x) (wpr (pr wh) x h set (ho wh).toNat * iv wh (wpr (pr wh) h h set (ho wh).toNat)) := cg_t cg_e (cg_m (wpr_cg cg_e h set _) cg_r)
theorem wgt_self {wh : Nat} (hwh : wh < 7) (set : Int) {h : Int} (h1 : 1 ≤ h) (h2 : h ≤ ho wh) : cg (pr wh) (wgt wh set h h) 1 := by
  have hp := pr_rg wh hwh
  have u := wpr_un hwh set h1 h2
  refine cg_t (wgt_cg set h h) ?_
  rw [Int.mul_comm]
  show _ % _ = 1 % _
  rw [iv_mul hwh u.1 u.2]
  exact (Int.emod_eq_of_lt (by omega) (by omega)).symm
theorem wgt_oth {wh : Nat} (set : Int) {h j : Int} (h1 : 1 ≤ j) (h2 : j ≤ ho wh) (hwh : wh < 7) (hn : j ≠ h) (hin : hs set j) : cg (pr wh) (wgt wh set h j) 0 := by
  have hM := pr_M hwh
  refine cg_t (wgt_cg set h j) (cg_t (cg_m (wpr_z h1 hn hin cg_r _ (by omega)) cg_r) ?_)
  rw [Int.zero_mul]; exact cg_r
/-! ===== the class's sum of weights and its row of coefficients ===== -/
theorem gt_su (wh : Nat) (set : Int) (A : Int → Int) (k : Nat) : gt wh set A (k + 1) = if hs set ((k : Int) + 1) then fun c => (gt wh set A k c + fac wh set A ((k : Int) + 1) * tm (pr wh) ((k : Int) + 1) set (ho wh).toNat c) % pr wh else gt wh set A k := rfl
theorem tlK_su (wh : Nat) (set : Int) (A : Int → Int) (x : Int) (k : Nat) : tlK wh set A x (k + 1) = if hs set ((k : Int) + 1) then tlK wh set A x k + A ((k : Int) + 1) * wgt wh set ((k : Int) + 1) x else tlK wh set A x k := rfl
theorem gt_ev {wh : Nat} (hwh : wh < 7) (set : Int) (A : Int → Int) (x : Int) : ∀ k : Nat, cg (pr wh) (q_e8 (gt wh set A k) x) (tlK wh set A x k) := by
  have hM := pr_M hwh
  intro k
  induction k with
  | zero =>
    have z : zb 0 (gt wh set A 0) := fun _ _ => rfl
    refine cg_q ?_
    unfold q_e8
    rw [q_zb z (by omega)]
    rfl
  | succ k ih =>
    rw [gt_su, tlK_su]
    by_cases C : hs set ((k : Int) + 1)
    · rw [if_pos C, if_pos C]
      have h1 : cg (pr wh) (q_e8 (fun c => (gt wh set A k c + fac wh set A ((k : Int) + 1) * tm (pr wh) ((k : Int) + 1) set (ho wh).toNat c) % pr wh) x) (q_ev 8 (fun j : Nat => gt wh set A k (j : Int) + fac wh set A ((k : Int) + 1) * tm (pr wh) ((k : Int) + 1) set (ho wh).toNat (j : Int)) x) := q_cgm (fun j _ => cg_e) x
      rw [q_lin] at h1
      refine cg_t h1 (cg_a ih ?_)
      have h2 := tm_ev (pr wh) x ((k : Int) + 1) set (ho wh).toNat hM.1
      refine cg_t (cg_m (cg_e (a := A ((k : Int) + 1) * iv wh (wpr (pr wh) ((k : Int) + 1) ((k : Int) + 1) set (ho wh).toNat))) h2) (cg_t (cg_q ?_) (cg_m cg_r (cg_s (wgt_cg set ((k : Int) + 1) x))))
      rw [Int.mul_assoc, Int.mul_comm (iv _ _)]
    · rw [if_neg C, if_neg C]; exact ih
theorem zb_gt {wh : Nat} (set : Int) (A : Int → Int) : ∀ k : Nat, k ≤ (ho wh).toNat → zb (q_cn set (ho wh).toNat) (gt wh set A k) := by
  intro k
  induction k with
  | zero => intro _ c _; rfl
  | succ k ih =>
    intro hk
    rw [gt_su]
    by_cases C : hs set ((k : Int) + 1)
    · rw [if_pos C]
      intro c hc
      have e := (q_ct_in C (ho wh).toNat).1 (by omega) (by omega)
      show (gt wh set A k c + fac wh set A ((k : Int) + 1) * tm (pr wh) ((k : Int) + 1) set (ho wh).toNat c) % pr wh = 0
      rw [ih (by omega) c hc, zb_tm _ _ _ _ c (by rw [e]; exact hc), Int.mul_zero, Int.add_zero, Int.zero_emod]
    · rw [if_neg C]; exact ih (by omega)
theorem gt_rg2 {wh : Nat} (hwh : wh < 7) (set : Int) (A : Int → Int) (c : Int) : ∀ k : Nat, 0 ≤ gt wh set A k c ∧ gt wh set A k c < pr wh := by
  have hp := pr_rg wh hwh
  intro k
  induction k with
  | zero => exact ⟨Int.le_refl _, by show (0 : Int) < _; omega⟩
  | succ k ih =>
    rw [gt_su]
    by_cases C : hs set ((k : Int) + 1)
    · rw [if_pos C]; exact emod_rg _ hwh
    · rw [if_neg C]; exact ih
theorem lag_K {wh : Nat} (hwh : wh < 7) (set : Int) (A : Int → Int) {h : Int} (h1 : 1 ≤ h) (h2 : h ≤ ho wh) (hin : hs set h) : ∀ k : Nat, (k : Int) ≤ ho wh → cg (pr wh) (tlK wh set A h k) (if h ≤ (k : Int) then A h else 0) := by
  intro k
  induction k with
  | zero => intro _; rw [if_neg (by have : ((0 : Nat) : Int) = 0 := rfl; omega)]; exact cg_r
  | succ k ih =>
    intro hk
    have i := ih (by omega)
    rw [tlK_su]
    by_cases C : hs set ((k : Int) + 1)
    · rw [if_pos C]
      by_cases e : h = (k : Int) + 1
      · rw [if_neg (by omega)] at i
        rw [if_pos (by omega), ← e]
        refine cg_t (cg_a i (cg_m cg_r (wgt_self hwh set h1 h2))) ?_
        rw [Int.mul_one, Int.zero_add]; exact cg_r
      · refine cg_t (cg_a i (cg_m cg_r (wgt_oth set h1 h2 hwh e hin))) ?_
        rw [Int.mul_zero, Int.add_zero]
        by_cases q : h ≤ (k : Int)
        · rw [if_pos q, if_pos (by omega)]; exact cg_r
        · rw [if_neg q, if_neg (by omega)]; exact cg_r
    · rw [if_neg C]
      have e : h ≠ (k : Int) + 1 := fun q => C (by rw [← q]; exact hin)
      refine cg_t i ?_
      by_cases q : h ≤ (k : Int)
      · rw [if_pos q, if_pos (by omega)]; exact cg_r
      · rw [if_neg q, if_neg (by omega)]; exact cg_r
/-! ===== the reference's row of coefficients ===== -/
theorem trK_su (wh : Nat) (set : Int) (A : Int → Int) (k : Nat) : trK wh set A (k + 1) = if hs set ((k : Int) + 1) then (fun c => ((trK wh set A k).1 c + trT wh A (trK wh set A k).1 (trK wh set A k).2 ((k : Int) + 1) * (trK wh set A k).2 c) % pr wh, tmS (pr wh) ((k : Int) + 1) (trK wh set A k).2) else trK wh set A k := rfl
theorem trK_2 (wh : Nat) (set : Int) (A : Int → Int) : ∀ k : Nat, (trK wh set A k).2 = tm (pr wh) 0 set k := by
  intro k
  induction k with
  | zero => rfl
  | succ k ih =>
    rw [trK_su, tm_su]
    by_cases C : hs set ((k : Int) + 1)
    · rw [if_pos C, if_pos ⟨by omega, C⟩]
      show tmS (pr wh) ((k : Int) + 1) (trK wh set A k).2 = _
      rw [ih]
    · rw [if_neg C, if_neg (fun q => C q.2)]; exact ih
theorem zb_tr (wh : Nat) (set : Int) (A : Int → Int) : ∀ k : Nat, zb (q_cn set k) (trK wh set A k).1 := by
  intro k
  induction k with
  | zero => intro c _; rfl
  | succ k ih =>
    have e2 : q_cn set (k + 1) = if hs set ((k : Int) + 1) then q_cn set k + 1 else q_cn set k := rfl
    rw [trK_su, e2]
    by_cases C : hs set ((k : Int) + 1)
    · rw [if_pos C, if_pos C]
      intro c hc
      show ((trK wh set A k).1 c + trT wh A (trK wh set A k).1 (trK wh set A k).2 ((k : Int) + 1) * (trK wh set A k).2 c) % pr wh = 0
      rw [ih c (by omega), trK_2 wh set A k, zb_tm (pr wh) 0 set k c (by rw [q_ct_0]; exact hc), Int.mul_zero, Int.add_zero, Int.zero_emod]
    · rw [if_neg C, if_neg C]; exact ih
theorem tr_rg2 {wh : Nat} (hwh : wh < 7) (set : Int) (A : Int → Int) (c : Int) : ∀ k : Nat, 0 ≤ (trK wh set A k).1 c ∧ (trK wh set A k).1 c < pr wh := by
  have hp := pr_rg wh hwh
  intro k
  induction k with
  | zero => exact ⟨Int.le_refl _, by show (0 : Int) < _; omega⟩
  | succ k ih =>
    rw [trK_su]
    by_cases C : hs set ((k : Int) + 1)
    · rw [if_pos C]; exact emod_rg _ hwh
    · rw [if_neg C]; exact ih
theorem hv_ev (p x : Int) (P : Int → Int) {N : Int} (j : Nat) (hN : N = (j : Int)) : cg p (hv p x P N j) (q_ev j (fun k : Nat => P (k : Int)) x) := by
  have h := q_hv p x P N j
  have e : q_ev j (fun k : Nat => P (N - (j : Int) + (k : Int))) x = q_ev j (fun k : Nat => P (k : Int)) x := by
    refine q_congr (fun k _ => ?_) x
    show P (N - (j : Int) + (k : Int)) = P (k : Int)
    rw [hN, show (j : Int) - (j : Int) + (k : Int) = (k : Int) by omega]
  rw [e] at h
  exact h
theorem tr_at {wh : Nat} (hwh : wh < 7) (set : Int) (A : Int → Int) : ∀ k : Nat, (k : Int) ≤ ho wh → ∀ h : Int, 1 ≤ h → h ≤ (k : Int) → hs set h → cg (pr wh) (q_e8 (trK wh set A k).1 h) (A h) := by
  have hM := pr_M hwh
  have hp := pr_rg wh hwh
  intro k
  induction k with
  | zero => intro _ h h1 h2; exact absurd h2 (by have : ((0 : Nat) : Int) = 0 := rfl; omega)
  | succ k ih =>
    intro hk h h1 h2 hin
    have i := ih (by omega)
    rw [trK_su]
    by_cases C : hs set ((k : Int) + 1)
    · rw [if_pos C]
      have z1 := zb_tr wh set A k
      have l1 := q_cn_le set k
      have hN : ∀ x : Int, cg (pr wh) (q_e8 (trK wh set A k).2 x) (wpr (pr wh) x 0 set k) := fun x => by rw [trK_2]; exact tm_ev (pr wh) x 0 set k (by omega)
      have ev : cg (pr wh) (q_e8 (fun c => ((trK wh set A k).1 c + trT wh A (trK wh set A k).1 (trK wh set A k).2 ((k : Int) + 1) * (trK wh set A k).2 c) % pr wh) h) (q_ev 8 (fun j : Nat => (trK wh set A k).1 (j : Int) + trT wh A (trK wh set A k).1 (trK wh set A k).2 ((k : Int) + 1) * (trK wh set A k).2 (j : Int)) h) := q_cgm (fun j _ => cg_e) h
      rw [q_lin] at ev
      refine cg_t ev ?_
      by_cases e : h = (k : Int) + 1
      · rw [← e]
        have n0 : ¬ pr wh ∣ wpr (pr wh) h 0 set k := wpr_nz hwh k (fun j a b _ _ => q_nd (by omega) (by omega) (by omega))
        have v1 := hv_rg (p := pr wh) (x := h) (P := (trK wh set A k).2) (N := 8) (by omega) 8
        have v2 : cg (pr wh) (hv (pr wh) h (trK wh set A k).2 8 8) (wpr (pr wh) h 0 set k) := cg_t (hv_ev _ _ _ 8 rfl) (hN h)
        have v3 : 1 ≤ hv (pr wh) h (trK wh set A k).2 8 8 := by
          rcases Int.lt_or_le (hv (pr wh) h (trK wh set A k).2 8 8) 1 with q | q
          · exact absurd (cg_z (cg_t (cg_s v2) (cg_q (show hv (pr wh) h (trK wh set A k).2 8 8 = 0 by omega)))) n0
          · exact q
        have v4 := iv_mul hwh v3 v1.2
        have v5 : cg (pr wh) (hv (pr wh) h (trK wh set A k).1 7 7) (q_e8 (trK wh set A k).1 h) := by
          refine cg_t (hv_ev _ _ _ 7 rfl) (cg_q ?_)
          unfold q_e8
          rw [q_zb z1 (m := 8) (by omega), q_zb z1 (m := 7) (by omega)]
        have v6 : cg (pr wh) (trT wh A (trK wh set A k).1 (trK wh set A k).2 h) ((A h - q_e8 (trK wh set A k).1 h) * iv wh (hv (pr wh) h (trK wh set A k).2 8 8)) := cg_t cg_e (cg_m (cg_t cg_e (cg_b cg_r v5)) cg_r)
        have v7 : cg (pr wh) (q_ev 8 (fun j : Nat => (trK wh set A k).2 (j : Int)) h) (hv (pr wh) h (trK wh set A k).2 8 8) := cg_s (hv_ev _ _ _ 8 rfl)
        have v8 : cg (pr wh) (iv wh (hv (pr wh) h (trK wh set A k).2 8 8) * hv (pr wh) h (trK wh set A k).2 8 8) 1 := by
          show _ % _ = 1 % _
          rw [v4]
          exact (Int.emod_eq_of_lt (by omega) (by omega)).symm
        have v9 := cg_m (cg_r (p := pr wh) (a := A h - q_e8 (trK wh set A k).1 h)) v8
        rw [Int.mul_one, ← Int.mul_assoc] at v9
        refine cg_t (cg_a cg_r (cg_t (cg_m v6 v7) v9)) (cg_q ?_)
        show q_e8 (trK wh set A k).1 h + (A h - q_e8 (trK wh set A k).1 h) = A h
        omega
      · have n0 : cg (pr wh) (wpr (pr wh) h 0 set k) 0 := wpr_z h1 (by omega) hin cg_r k (by omega)
        refine cg_t (cg_a (i h h1 (by omega) hin) (cg_m cg_r (cg_t (hN h) n0))) ?_
        rw [Int.mul_zero, Int.add_zero]; exact cg_r
    · rw [if_neg C]
      have e : h ≠ (k : Int) + 1 := fun q => C (by rw [← q]; exact hin)
      exact i h h1 (by omega) hin
/-! ===== both rows are one; both sums are one ===== -/
theorem gt_tr {wh : Nat} (hwh : wh < 7) (set : Int) (A : Int → Int) {c : Int} (hc : 0 ≤ c) : gt wh set A (ho wh).toNat c = (trK wh set A (ho wh).toNat).1 c := by
  have hM := pr_M hwh
  have z1 := zb_gt (wh := wh) set A (ho wh).toNat (Nat.le_refl _)
  have z2 := zb_tr wh set A (ho wh).toNat
  have l1 := q_cn_le set (ho wh).toNat
  rcases Int.lt_or_le c (q_cn set (ho wh).toNat : Int) with q | q
  · have u := q_uniq hwh set (ho wh).toNat hM.2.2 (fun k : Nat => gt wh set A (ho wh).toNat (k : Int) + (-1) * (trK wh set A (ho wh).toNat).1 (k : Int)) (fun j hj hin => by
      rw [q_lin]
      have e1 : q_ev (q_cn set (ho wh).toNat) (fun k : Nat => gt wh set A (ho wh).toNat (k : Int)) ((j : Int) + 1) = q_e8 (gt wh set A (ho wh).toNat) ((j : Int) + 1) := (q_zb z1 (m := 8) (by omega) _).symm
      have e2 : q_ev (q_cn set (ho wh).toNat) (fun k : Nat => (trK wh set A (ho wh).toNat).1 (k : Int)) ((j : Int) + 1) = q_e8 (trK wh set A (ho wh).toNat).1 ((j : Int) + 1) := (q_zb z2 (m := 8) (by omega) _).symm
      rw [e1, e2]
      have h1 := cg_t (gt_ev hwh set A ((j : Int) + 1) (ho wh).toNat) (lag_K hwh set A (by omega) (by omega) hin (ho wh).toNat (by omega))
      rw [if_pos (by omega)] at h1
      have h2 := tr_at hwh set A (ho wh).toNat (by omega) ((j : Int) + 1) (by omega) (by omega) hin
      refine cg_z (cg_t (cg_a h1 (cg_m cg_r h2)) (cg_q ?_))
      rw [Int.neg_mul, Int.one_mul]
      omega) c.toNat (by omega)
    have e : ((c.toNat : Nat) : Int) = c := by omega
    rw [e] at u
    refine cg_eq (cg_i ?_) (gt_rg2 hwh set A c _) (tr_rg2 hwh set A c _)
    rw [Int.neg_mul, Int.one_mul] at u
    rw [Int.sub_eq_add_neg]
    exact u
  · rw [z1 c q, z2 c q]
theorem tl_at {wh : Nat} (hwh : wh < 7) (set : Int) (A : Int → Int) (x : Int) : tl wh set A x = atV wh set A x := by
  have hM := pr_M hwh
  have hp := pr_rg wh hwh
  have z2 := zb_tr wh set A (ho wh).toNat
  have l1 := q_cn_le set (ho wh).toNat
  refine cg_eq ?_ (emod_rg _ hwh) (hv_rg (by omega) 7)
  refine cg_t cg_e (cg_t (cg_s (gt_ev hwh set A x (ho wh).toNat)) (cg_s ?_))
  refine cg_t (hv_ev _ _ _ 7 rfl) (cg_t (q_xm cg_e _ _) (cg_q ?_))
  rw [q_zb z2 (m := 7) (by omega), ← q_zb z2 (m := 8) (by omega)]
  exact (q_congr (fun k _ => gt_tr hwh set A (by omega)) x).symm
theorem hiK_cg {P Q : Int → Int} : ∀ j : Nat, (∀ c : Int, 0 ≤ c → c < (j : Int) → P c = Q c) → hiK P j = hiK Q j := by
  intro j
  induction j with
  | zero => intro _; rfl
  | succ j ih =>
    intro h
    show (if P (j : Int) ≠ 0 then (j : Int) else hiK P j) = (if Q (j : Int) ≠ 0 then (j : Int) else hiK Q j)
    rw [h (j : Int) (by omega) (by omega), ih (fun c a b => h c a (by omega))]
theorem hi_tr {wh : Nat} (hwh : wh < 7) (set : Int) (A : Int → Int) : hiK (gt wh set A (ho wh).toNat) 7 = hiK (trK wh set A (ho wh).toNat).1 7 := hiK_cg 7 (fun c a _ => gt_tr hwh set A a)
/-- Horner over all seven places, and over those that a degree leaves -/
theorem hv_cut {p x : Int} {P Q : Int → Int} (hp : 0 < p) {g : Int} (h0 : 0 ≤ g) (h6 : g ≤ 6) (hz0 : ∀ c, g < c → c < 7 → P c = 0) (he : ∀ c, 0 ≤ c → c ≤ g → P c = Q c) : hz p x P 7 = hv p x Q ((g.toNat + 1 : Nat) : Int) (g.toNat + 1) := by
  refine cg_eq ?_ (hz_rg hp 7) (hv_rg hp _)
  rw [← hv_hz 7]
  refine cg_t (hv_ev _ _ _ 7 rfl) (cg_t (cg_q ?_) (cg_s (hv_ev _ _ _ (g.toNat + 1) rfl)))
  have z : ∀ d : Nat, d ≤ 6 - g.toNat → q_ev (g.toNat + 1 + d) (fun k : Nat => P (k : Int)) x = q_ev (g.toNat + 1) (fun k : Nat => P (k : Int)) x := by
    intro d
    induction d with
    | zero => intro _; rfl
    | succ d ih =>
      intro hd
      rw [← Nat.add_assoc, q_last, ih (by omega), hz0 ((g.toNat + 1 + d : Nat) : Int) (by omega) (by omega), Int.zero_mul, Int.add_zero]
  have z7 := z (6 - g.toNat) (Nat.le_refl _)
  rw [show g.toNat + 1 + (6 - g.toNat) = 7 by omega] at z7
  rw [z7]
  exact q_congr (fun k hk => he _ (by omega) (by omega)) x
end
-- 60.p_seal.lean.txt
section
/-! ===== seals: powers of the base mod the great prime ===== -/
theorem bs_ordN : ∀ wh, wh < 7 → (bs wh).toNat ^ (pr wh).toNat % (gr wh).toNat = 1 := wh_cases (by decide +kernel) (by decide +kernel) (by decide +kernel) (by decide +kernel) (by decide +kernel) (by decide +kernel) (by decide +kernel)
theorem bs_rg9 : ∀ wh, wh < 7 → 2 ≤ bs wh ∧ bs wh < gr wh := wh_cases (by decide) (by decide) (by decide) (by decide) (by decide) (by decide) (by decide)
theorem gr_fac : ∀ wh, wh < 7 → (gr wh - 1) % pr wh = 0 := wh_cases (by decide) (by decide) (by decide) (by decide) (by decide) (by decide) (by decide)
theorem bs_ord {wh : Nat} (hwh : wh < 7) : cg (gr wh) (bs wh ^ (pr wh).toNat) 1 := by
  have hb := bs_rg9 wh hwh
  have hg := gr_rg wh hwh
  have h := bs_ordN wh hwh
  obtain ⟨b, hb9⟩ : ∃ b : Nat, bs wh = (b : Int) := ⟨(bs wh).toNat, by omega⟩
  obtain ⟨q, hq9⟩ : ∃ q : Nat, gr wh = (q : Int) := ⟨(gr wh).toNat, by omega⟩
  rw [hb9, hq9, Int.toNat_natCast, Int.toNat_natCast] at h
  rw [hq9] at hg
  rw [hb9, hq9]
  show (b : Int) ^ (pr wh).toNat % (q : Int) = 1 % (q : Int)
  rw [Int.emod_eq_of_lt (by omega) (by omega : (1 : Int) < (q : Int))]
  exact_mod_cast h
theorem bs_per {wh : Nat} (hwh : wh < 7) (m k : Nat) : cg (gr wh) (bs wh ^ (m + (pr wh).toNat * k)) (bs wh ^ m) := by
  induction k with
  | zero => exact cg_r
  | succ k ih =>
    rw [show m + (pr wh).toNat * (k + 1) = (m + (pr wh).toNat * k) + (pr wh).toNat by rw [Nat.mul_succ, Nat.add_assoc], Int.pow_add]
    refine cg_t (cg_m ih (bs_ord hwh)) ?_
    rw [Int.mul_one]; exact cg_r
theorem sl_bs {wh : Nat} (v : Int) : cg (gr wh) (sl wh v) (bs wh ^ (v % pr wh).toNat) := cg_e
theorem sl_pw {wh : Nat} (hwh : wh < 7) {e : Int} (he : 0 ≤ e) : cg (gr wh) (bs wh ^ e.toNat) (sl wh e) := by
  have hp := pr_rg wh hwh
  have hq : 0 ≤ e / pr wh := Int.ediv_nonneg he (by omega)
  have hr : 0 ≤ e % pr wh := Int.emod_nonneg _ (by omega)
  have hx : e.toNat = (e % pr wh).toNat + (pr wh).toNat * (e / pr wh).toNat := by
    apply Int.ofNat.inj
    show (e.toNat : Int) = (((e % pr wh).toNat + (pr wh).toNat * (e / pr wh).toNat : Nat) : Int)
    rw [Int.natCast_add, Int.natCast_mul, Int.toNat_of_nonneg he, Int.toNat_of_nonneg hr, Int.toNat_of_nonneg hq, Int.toNat_of_nonneg (by omega)]
    exact (Int.emod_add_mul_ediv e (pr wh)).symm
  rw [hx]
  exact cg_t (bs_per hwh _ _) (cg_s (sl_bs e))
theorem sl_eq {wh : Nat} {a b : Int} (h : cg (pr wh) a b) : sl wh a = sl wh b := by
  have e : a % pr wh = b % pr wh := h
  unfold sl
  rw [e]
theorem sl_add {wh : Nat} (hwh : wh < 7) (a b : Int) : sl wh (a + b) = sl wh a * sl wh b % gr wh := by
  have h1 := emod_rg a hwh
  have h2 := emod_rg b hwh
  refine cg_lt ?_ (sl_rg hwh)
  rw [sl_eq (cg_a (cg_s (cg_e (p := pr wh) (a := a))) (cg_s (cg_e (p := pr wh) (a := b))))]
  refine cg_t (cg_s (sl_pw hwh (by omega))) ?_
  rw [show (a % pr wh + b % pr wh).toNat = (a % pr wh).toNat + (b % pr wh).toNat by omega, Int.pow_add]
  exact cg_m (cg_s (sl_bs a)) (cg_s (sl_bs b))
theorem sl_0 {wh : Nat} (hwh : wh < 7) : sl wh 0 = 1 := by
  have hg := gr_rg wh hwh
  unfold sl e_pw
  rw [Int.zero_emod, show (0 : Int).toNat = 0 from rfl, Int.pow_zero]
  exact Int.emod_eq_of_lt (by omega) (by omega)
theorem sl_1 {wh : Nat} (hwh : wh < 7) : sl wh 1 = bs wh := by
  have hp := pr_rg wh hwh
  have hb := bs_rg9 wh hwh
  unfold sl e_pw
  rw [show (1 : Int) % pr wh = 1 from Int.emod_eq_of_lt (by omega) (by omega), show (1 : Int).toNat = 0 + 1 from rfl, Int.pow_succ, Int.pow_zero, Int.one_mul]
  exact Int.emod_eq_of_lt (by omega) (by omega)
theorem sl_mp {wh : Nat} (hwh : wh < 7) (a : Int) (k : Nat) : e_pw (sl wh a) k (gr wh) = sl wh (a * (k : Int)) := by
  have hg := gr_rg wh hwh
  induction k with
  | zero =>
    show sl wh a ^ 0 % gr wh = sl wh (a * 0)
    rw [Int.pow_zero, Int.mul_zero, sl_0 hwh]
    exact Int.emod_eq_of_lt (by omega) (by omega)
  | succ k ih =>
    rw [show a * ((k + 1 : Nat) : Int) = a * (k : Int) + a by rw [Int.natCast_add, Int.mul_add]; show a * (k : Int) + a * 1 = _; rw [Int.mul_one], sl_add hwh, ← ih]
    show sl wh a ^ (k + 1) % gr wh = sl wh a ^ k % gr wh * sl wh a % gr wh
    rw [Int.pow_succ, emod_mul_l]
theorem ivq_sl {wh : Nat} (hwh : wh < 7) (v : Int) : ivq wh (sl wh v) = sl wh (-v) := by
  have hg := gr_rg wh hwh
  unfold ivq
  rw [sl_mp hwh, Int.toNat_of_nonneg (by omega)]
  refine sl_eq (cg_i ?_)
  have h1 : v * (gr wh - 2) - -v = v * (gr wh - 1) := by
    rw [Int.mul_sub, Int.mul_sub, Int.mul_one]
    omega
  rw [h1]
  exact Int.dvd_trans (Int.dvd_of_emod_eq_zero (gr_fac wh hwh)) (Int.dvd_mul_left _ _)
theorem sl_d1 {wh : Nat} (hwh : wh < 7) {d : Int} (h1 : 1 ≤ d) (h2 : d < pr wh) (h : sl wh d = 1) : False := by
  have hg := gr_rg wh hwh
  have hp := pr_rg wh hwh
  have hb := bs_rg9 wh hwh
  have i := iv_rg (v := d) hwh
  have e := sl_mp hwh d (iv wh d).toNat
  rw [h, Int.toNat_of_nonneg i.1] at e
  have e1 : e_pw 1 (iv wh d).toNat (gr wh) = 1 := by
    unfold e_pw
    rw [Int.one_pow]
    exact Int.emod_eq_of_lt (by omega) (by omega)
  have e2 : sl wh (d * iv wh d) = bs wh := by
    rw [← sl_1 hwh]
    refine sl_eq ?_
    show d * iv wh d % pr wh = 1 % pr wh
    rw [Int.mul_comm, iv_mul hwh h1 h2]
    exact (Int.emod_eq_of_lt (by omega) (by omega)).symm
  rw [e1, e2] at e
  omega
theorem sl_lt {wh : Nat} (hwh : wh < 7) {a b : Int} (ha : 0 ≤ a) (hb : b < pr wh) (hab : a < b) (h : sl wh a = sl wh b) : False := by
  refine sl_d1 hwh (d := b + -a) (by omega) (by omega) ?_
  rw [sl_add hwh, ← h, ← sl_add hwh, Int.add_right_neg, sl_0 hwh]
theorem sl_inj {wh : Nat} (hwh : wh < 7) {a b : Int} (ha : 0 ≤ a ∧ a < pr wh) (hb : 0 ≤ b ∧ b < pr wh) (h : sl wh a = sl wh b) : a = b := by
  rcases Int.lt_trichotomy a b with q | q | q
  · exact absurd h (fun h => sl_lt hwh ha.1 hb.2 q h)
  · exact q
  · exact absurd h.symm (fun h => sl_lt hwh hb.1 ha.2 q h)
theorem dfK_sl {wh : Nat} (hwh : wh < 7) {B E : Int → Int} {h : Int} (hh : 0 ≤ h) : ∀ k : Nat, (∀ j : Int, 0 ≤ j → j < (k : Int) → B j = sl wh (E j)) → dfK (gr wh) B h k = sl wh (q_ev k (fun j : Nat => E (j : Int)) h) := by
  intro k
  induction k with
  | zero => intro _; exact (sl_0 hwh).symm
  | succ k ih =>
    intro H
    have e : dfK (gr wh) B h (k + 1) = dfK (gr wh) B h k * e_pw (B (k : Int)) (h ^ k).toNat (gr wh) % gr wh := rfl
    rw [e, ih (fun j a b => H j a (by omega)), H (k : Int) (by omega) (by omega), sl_mp hwh, q_last, sl_add hwh, Int.toNat_of_nonneg (Int.pow_nonneg hh)]
end
-- 60.q_rel.lean.txt
section
/-! ===== the relation between a deal of the class and a deal of the reference ===== -/
def SR (wh : Nat) (s : SD) (r : RD) : Prop := ((s.fl = 0 ∧ r.dg = -1) ∨ (s.fl = 1 ∧ r.dg = s.dg)) ∧ s.A = r.A ∧ (∀ j, ¬ (1 ≤ j ∧ j ≤ ho wh) → r.A j = -1) ∧ ((r.hp = 0 ∧ s.sc = 0) ∨ (r.hp = 1 ∧ s.sc = r.dg + 1 ∧ ∀ k, 0 ≤ k → k ≤ r.dg → s.B k = sl wh (r.E k)))
def SS (wh : Nat) (D : Nat → SD) (R : Nat → RD) : Prop := ∀ j : Nat, j < 6 → SR wh (D j) (R j)
/-- what is known of both -/
def GD (wh : Nat) (s : SD) (r : RD) : Prop := SR wh s r ∧ (0 ≤ s.dg ∧ s.dg ≤ 6) ∧ (r.dg = -1 → r.hp = 0) ∧ (r.hp = 0 ∨ r.hp = 1) ∧ (∀ j, r.A j = -1 ∨ (0 ≤ r.A j ∧ r.A j < pr wh)) ∧ (s.fl = 0 → ∀ j, r.A j = -1)
theorem GD_of {w w2 : e_W} {x y wh : Nat} {kn kn2 t : Int} {D : Nat → SD} {R : Nat → RD} (hC : CW w x wh kn D) (hM : MW w2 y wh kn2 t R) (h : SS wh D R) {j : Nat} (hj : j < 6) : GD wh (D j) (R j) := by
  obtain ⟨hd, hs⟩ := hC.2.2.2.2.2.1 j hj
  obtain ⟨S, P, -, -, hMD⟩ := hM.2.2.2.1
  have hm := hMD j hj
  have hr := hM.2.2.2.2 j hj
  have hS := h j hj
  have hw := ho_rg wh hC.2.2.1
  refine ⟨hS, hd.2.2.2.2.1, fun q => ?_, hm.hp, fun i => ?_, fun q i => ?_⟩
  · rcases hm with g | g
    · exact g.2.2.2
    · have := g.1.1; omega
  · by_cases c : 1 ≤ i ∧ i ≤ ho wh
    · rcases hr.1 i c.1 (by omega) with g | g
      · exact Or.inl g
      · exact Or.inr ⟨g.1, g.2.1⟩
    · exact Or.inl (hS.2.2.1 i c)
  · by_cases c : 1 ≤ i ∧ i ≤ ho wh
    · rw [← hS.2.1]; exact (hs.2.2.2 q).2.2 i c.1 (by omega)
    · exact hS.2.2.1 i c
theorem SS.up {wh i : Nat} {D : Nat → SD} {R : Nat → RD} {s : SD} {r : RD} (h : SS wh D R) (hs : SR wh s r) : SS wh (upD D i s) (updR R i r) := by
  intro j hj
  unfold upD updR
  by_cases e : j = i
  · rw [if_pos e, if_pos e]; exact hs
  · rw [if_neg e, if_neg e]; exact h j hj
theorem SR.em {wh : Nat} (r : RD) : SR wh SD0 (emR r) := ⟨Or.inl ⟨rfl, rfl⟩, rfl, fun _ _ => rfl, Or.inl ⟨rfl, rfl⟩⟩
theorem SS.em {wh : Nat} (R : Nat → RD) : SS wh (fun _ => SD0) (fun j => emR (R j)) := fun j _ => SR.em (R j)
theorem GD.e {wh : Nat} {s : SD} {r : RD} (h : GD wh s r) : (s.fl = 0 ↔ r.dg = -1) ∧ (s.fl = 1 ↔ r.dg ≠ -1) ∧ (r.dg ≠ -1 → r.dg = s.dg) := by
  have h1 := h.1.1
  have h2 := h.2.1
  omega
theorem GD.sc {wh : Nat} {s : SD} {r : RD} (h : GD wh s r) : (0 < s.sc ↔ r.hp = 1) ∧ (r.hp = 1 → s.sc = s.dg + 1 ∧ r.dg ≠ -1) := by
  have h1 := h.1.2.2.2
  have h2 := h.2.1
  have h3 := h.2.2.1
  have h4 := h.e.2.2
  have h5 := h.1.1
  rcases h1 with h1 | h1
  · omega
  · have := h1.2.1
    constructor
    · omega
    · intro _; exact ⟨by omega, by omega⟩
/-! the writers -/
theorem SR.lay {wh : Nat} (hwh : wh < 7) {g : Int} {P Q : Int → Int} (h0 : 0 ≤ g) (h6 : g ≤ 6) (hz0 : ∀ c, g < c → c < 7 → P c = 0) (he : ∀ c, 0 ≤ c → c ≤ g → P c = Q c) : SR wh (lpS wh g P) (lpR wh g Q) := by
  have hp := pr_rg wh hwh
  refine ⟨Or.inr ⟨rfl, rfl⟩, ?_, fun j hj => if_neg hj, Or.inr ⟨rfl, rfl, fun k a b => congrArg (sl wh) (he k a b)⟩⟩
  funext h
  show (if 1 ≤ h ∧ h ≤ ho wh then hz (pr wh) h P 7 else -1) = (if 1 ≤ h ∧ h ≤ ho wh then hv (pr wh) h Q ((g.toNat + 1 : Nat) : Int) (g.toNat + 1) else -1)
  rw [hv_cut (by omega) h0 h6 hz0 he]
theorem bcm_z (p g a b c d : Int) : ∀ k, g < k → k < 7 → 0 ≤ g → bcm p g a b c d k = 0 := by
  intro k h1 h2 h3
  unfold bcm
  rw [if_neg (by omega)]
  split
  · rw [if_neg (by omega)]
  · split
    · rw [if_neg (by omega)]
    · split
      · rw [if_neg (by omega)]
      · rfl
theorem SR.pour {wh : Nat} (hwh : wh < 7) {s : SD} {r : RD} (h : GD wh s r) (hf : r.dg ≠ -1) {P : Int → Int} (hz0 : ∀ c, r.dg < c → c < 7 → P c = 0) : SR wh (poS wh s P) (poR wh r P) := by
  have hp := pr_rg wh hwh
  have hd := h.e.2.2 hf
  have h2 := h.2.1
  refine ⟨h.1.1, ?_, fun j hj => ?_, ?_⟩
  · funext k
    show (if s.A k = -1 then -1 else (s.A k + hz (pr wh) k P 7) % pr wh) = (if r.A k = -1 then -1 else (r.A k + hv (pr wh) k P ((r.dg.toNat + 1 : Nat) : Int) (r.dg.toNat + 1)) % pr wh)
    rw [h.1.2.1, hv_cut (by omega) (by omega) (by omega) hz0 (fun _ _ _ => rfl)]
  · show (if r.A j = -1 then -1 else _) = (-1 : Int)
    rw [if_pos (h.1.2.2.1 j hj)]
  · rcases h.1.2.2.2 with q | q
    · exact Or.inl q
    · refine Or.inr ⟨q.1, q.2.1, fun k a b => ?_⟩
      show s.B k * sl wh (P k) % gr wh = sl wh ((P k + r.E k) % pr wh)
      rw [sl_mod, sl_add hwh, q.2.2 k a b, Int.mul_comm]
theorem SR.join {wh : Nat} (hwh : wh < 7) {s1 s2 : SD} {r1 r2 : RD} (h1 : GD wh s1 r1) (h2 : GD wh s2 r2) (f1 : r1.dg ≠ -1) (f2 : r2.dg ≠ -1) {b s : Int} (hb : (b = 0 ∧ s = 1) ∨ (b = 1 ∧ s = -1)) : SR wh (auR wh b s1 s2) (joR wh s r1 r2) := by
  have hp := pr_rg wh hwh
  have hg := gr_rg wh hwh
  have d1 := h1.e.2.2 f1
  have d2 := h2.e.2.2 f2
  have c1 := h1.sc
  have c2 := h2.sc
  have k1 := h1.2.2.2.1
  have k2 := h2.2.2.2.1
  have eA : auA wh b s1.A s2.A = (joR wh s r1 r2).A := by
    funext k
    show (if (1 ≤ k ∧ k ≤ ho wh) ∧ s1.A k ≠ -1 ∧ s2.A k ≠ -1 then (s1.A k + (if b = 0 then s2.A k else -s2.A k)) % pr wh else -1) = (if r1.A k = -1 ∨ r2.A k = -1 then -1 else (r1.A k + s * r2.A k) % pr wh)
    rw [h1.1.2.1, h2.1.2.1]
    by_cases e1 : r1.A k = -1
    · rw [if_neg (fun q => q.2.1 e1), if_pos (Or.inl e1)]
    · by_cases e2 : r2.A k = -1
      · rw [if_neg (fun q => q.2.2 e2), if_pos (Or.inr e2)]
      · have hk : 1 ≤ k ∧ k ≤ ho wh := Classical.byContradiction (fun q => e1 (h1.1.2.2.1 k q))
        have e3 : ¬ (r1.A k = -1 ∨ r2.A k = -1) := fun q => q.elim e1 e2
        rw [if_pos ⟨hk, e1, e2⟩, if_neg e3]
        rcases hb with ⟨rfl, rfl⟩ | ⟨rfl, rfl⟩
        · rw [if_pos rfl, Int.one_mul]
        · rw [if_neg (show ¬ (1 : Int) = 0 by decide), Int.neg_mul, Int.one_mul]
  refine ⟨Or.inr ⟨rfl, ?_⟩, eA, fun j hj => ?_, ?_⟩
  · show (if r1.dg < r2.dg then r2.dg else r1.dg) = (if s1.dg < s2.dg then s2.dg else s1.dg)
    rw [d1, d2]
  · show (if r1.A j = -1 ∨ r2.A j = -1 then -1 else _) = (-1 : Int)
    rw [if_pos (Or.inl (h1.1.2.2.1 j hj))]
  · show ((if r1.hp = 1 ∧ r2.hp = 1 then (1 : Int) else 0) = 0 ∧ (if 0 < s1.sc ∧ 0 < s2.sc then (if s1.dg < s2.dg then s2.dg else s1.dg) + 1 else 0) = 0) ∨ ((if r1.hp = 1 ∧ r2.hp = 1 then (1 : Int) else 0) = 1 ∧ (if 0 < s1.sc ∧ 0 < s2.sc then (if s1.dg < s2.dg then s2.dg else s1.dg) + 1 else 0) = (if r1.dg < r2.dg then r2.dg else r1.dg) + 1 ∧ ∀ k, 0 ≤ k → k ≤ (if r1.dg < r2.dg then r2.dg else r1.dg) → auS wh b s1.sc s1.B s2.sc s2.B k = sl wh ((ofE r1 k + s * ofE r2 k) % pr wh))
    by_cases q : r1.hp = 1 ∧ r2.hp = 1
    · right
      have q2 : 0 < s1.sc ∧ 0 < s2.sc := ⟨c1.1.mpr q.1, c2.1.mpr q.2⟩
      rw [if_pos q, if_pos q2, d1, d2]
      refine ⟨rfl, rfl, fun k a _ => ?_⟩
      have g : ∀ (s0 : SD) (r0 : RD), GD wh s0 r0 → r0.hp = 1 → (if k < s0.sc then s0.B k else 1) = sl wh (ofE r0 k) := by
        intro s0 r0 h0 e0
        have z := h0.sc.2 e0
        have z2 := h0.e.2.2 z.2
        rcases h0.1.2.2.2 with w | w
        · omega
        · unfold ofE
          by_cases e : k ≤ r0.dg
          · rw [if_pos (by omega), if_pos e]; exact w.2.2 k a e
          · rw [if_neg (by omega), if_neg e, sl_0 hwh]
      unfold auS
      rw [g s1 r1 h1 q.1, g s2 r2 h2 q.2, sl_mod, sl_add hwh]
      rcases hb with ⟨rfl, rfl⟩ | ⟨rfl, rfl⟩
      · rw [if_pos rfl, Int.one_mul]
      · rw [if_neg (show ¬ (1 : Int) = 0 by decide), ivq_sl hwh, Int.neg_mul, Int.one_mul]
    · left
      rw [if_neg q, if_neg (fun z => q ⟨c1.1.mp z.1, c2.1.mp z.2⟩)]
      exact ⟨rfl, rfl⟩
theorem SR.times {wh : Nat} (hwh : wh < 7) {s1 s2 : SD} {r1 r2 : RD} (h1 : GD wh s1 r1) (h2 : GD wh s2 r2) (f1 : r1.dg ≠ -1) (f2 : r2.dg ≠ -1) : SR wh (tiS wh s1 s2) (tiR wh r1 r2) := by
  have d1 := h1.e.2.2 f1
  have d2 := h2.e.2.2 f2
  refine ⟨Or.inr ⟨rfl, ?_⟩, ?_, fun j hj => ?_, Or.inl ⟨rfl, rfl⟩⟩
  · show r1.dg + r2.dg = s1.dg + s2.dg
    rw [d1, d2]
  · funext k
    show (if (1 ≤ k ∧ k ≤ ho wh) ∧ s1.A k ≠ -1 ∧ s2.A k ≠ -1 then s1.A k * s2.A k % pr wh else -1) = (if r1.A k = -1 ∨ r2.A k = -1 then -1 else r1.A k * r2.A k % pr wh)
    rw [h1.1.2.1, h2.1.2.1]
    by_cases e1 : r1.A k = -1
    · rw [if_neg (fun q => q.2.1 e1), if_pos (Or.inl e1)]
    · by_cases e2 : r2.A k = -1
      · rw [if_neg (fun q => q.2.2 e2), if_pos (Or.inr e2)]
      · have hk : 1 ≤ k ∧ k ≤ ho wh := Classical.byContradiction (fun q => e1 (h1.1.2.2.1 k q))
        rw [if_pos ⟨hk, e1, e2⟩, if_neg (fun q => q.elim e1 e2)]
  · show (if r1.A j = -1 ∨ r2.A j = -1 then -1 else _) = (-1 : Int)
    rw [if_pos (Or.inl (h1.1.2.2.1 j hj))]
theorem SR.scale {wh : Nat} (hwh : wh < 7) {s : SD} {r : RD} (h : GD wh s r) (hf : r.dg ≠ -1) {f : Int} (h0 : 0 ≤ f) : SR wh (scS wh s f) (scR wh r f) := by
  have d := h.e.2.2 hf
  refine ⟨Or.inr ⟨rfl, d⟩, ?_, fun j hj => ?_, ?_⟩
  · funext k
    show (if s.A k = -1 then -1 else s.A k * f % pr wh) = (if r.A k = -1 then -1 else r.A k * f % pr wh)
    rw [h.1.2.1]
  · show (if r.A j = -1 then -1 else _) = (-1 : Int)
    rw [if_pos (h.1.2.2.1 j hj)]
  · rcases h.1.2.2.2 with q | q
    · exact Or.inl q
    · refine Or.inr ⟨q.1, q.2.1, fun k a b => ?_⟩
      show e_pw (s.B k) f.toNat (gr wh) = sl wh (r.E k * f % pr wh)
      rw [sl_mod, q.2.2 k a b, sl_mp hwh, Int.toNat_of_nonneg h0]
theorem SR.put {wh : Nat} {s : SD} {r : RD} (h : SR wh s r) {k v : Int} (hk : 1 ≤ k ∧ k ≤ ho wh) : SR wh (puS s k v) (puR r k v) := by
  refine ⟨h.1, ?_, fun j hj => ?_, h.2.2.2⟩
  · show e_fu s.A k v = e_fu r.A k v
    rw [h.2.1]
  · show (if j = k then v else r.A j) = -1
    rw [if_neg (fun e => hj (by rw [e]; exact hk))]
    exact h.2.2.1 j hj
theorem hoK_su (wh : Nat) (set : Int) (A : Int → Int) (a b c : Int) (k : Nat) : hoK wh set A a b c (k + 1) = if hs set ((k : Int) + 1) then (hoK wh set A a b c k + wgt wh set ((k : Int) + 1) 0 * (if c = 0 then A ((k : Int) + 1) else (a * ((k : Int) + 1) + b * c) % pr wh)) % pr wh else hoK wh set A a b c k := rfl
theorem hoK_rg2 {wh : Nat} (hwh : wh < 7) (set : Int) (A : Int → Int) (a b c : Int) : ∀ k : Nat, 0 ≤ hoK wh set A a b c k ∧ hoK wh set A a b c k < pr wh := by
  have hp := pr_rg wh hwh
  intro k
  induction k with
  | zero => exact ⟨Int.le_refl _, by show (0 : Int) < _; omega⟩
  | succ k ih =>
    rw [hoK_su]
    by_cases C : hs set ((k : Int) + 1)
    · rw [if_pos C]; exact emod_rg _ hwh
    · rw [if_neg C]; exact ih
theorem hoK_tl {wh : Nat} (set : Int) (A A2 : Int → Int) (a b c : Int) (hA : ∀ h, A2 h = if c = 0 then A h else (a * h + b * c) % pr wh) : ∀ k : Nat, cg (pr wh) (hoK wh set A a b c k) (tlK wh set A2 0 k) := by
  intro k
  induction k with
  | zero => exact cg_r
  | succ k ih =>
    rw [hoK_su, tlK_su]
    by_cases C : hs set ((k : Int) + 1)
    · rw [if_pos C, if_pos C, hA, Int.mul_comm (wgt _ _ _ _)]
      exact cg_t cg_e (cg_a ih cg_r)
    · rw [if_neg C, if_neg C]; exact ih
theorem hoP_eq {wh : Nat} (hwh : wh < 7) (set : Int) (A : Int → Int) (g a b : Int) : ∀ c, 0 ≤ c → c ≤ g → hoP wh set A g a b (ho wh).toNat c = hnP wh set A a b c := by
  intro c h0 h1
  show (if c ≤ g then hoK wh set A a b c (ho wh).toNat else 0) = (if c = 0 then atV wh set A 0 else atV wh set (fun h => (a * h + b * c) % pr wh) 0)
  rw [if_pos h1]
  by_cases e : c = 0
  · rw [if_pos e, ← tl_at hwh]
    exact cg_lt (hoK_tl set A A a b c (fun h => by rw [if_pos e]) _) (hoK_rg2 hwh set A a b c _)
  · rw [if_neg e, ← tl_at hwh]
    exact cg_lt (hoK_tl set A _ a b c (fun h => by rw [if_neg e]) _) (hoK_rg2 hwh set A a b c _)
theorem hoP_z (wh : Nat) (set : Int) (A : Int → Int) (g a b : Int) (k : Nat) : ∀ c, g < c → c < 7 → hoP wh set A g a b k c = 0 := fun c h _ => if_neg (by omega)
/-! sets -/
theorem hs_tb {s : Int} {k : Nat} (h0 : 0 ≤ s) : hs s ((k : Int) + 1) ↔ s.toNat.testBit k = true := by
  obtain ⟨n, rfl⟩ : ∃ n : Nat, s = (n : Int) := ⟨s.toNat, by omega⟩
  rw [Int.toNat_natCast, Nat.testBit_eq_decide_div_mod_eq, decide_eq_true_eq]
  show (n : Int) / 2 ^ ((k : Int) + 1 - 1).toNat % 2 = 1 ↔ _
  rw [show ((k : Int) + 1 - 1).toNat = k by omega]
  constructor
  · intro h; exact_mod_cast h
  · intro h; exact_mod_cast h
theorem fl_rg9 {wh : Nat} (hwh : wh < 7) : fl wh < 128 ∧ fl wh = (2 : Int) ^ (ho wh).toNat - 1 := by
  refine ⟨?_, rfl⟩
  revert wh
  exact fun {wh} h => wh_cases (P := fun wh => fl wh < 128) (by decide) (by decide) (by decide) (by decide) (by decide) (by decide) (by decide) wh h
theorem thB_all (set st : Int) : ∀ k : Nat, thB set st k = true ↔ ∀ j : Nat, j < k → hs set ((j : Int) + 1) → hs st ((j : Int) + 1) := by
  intro k
  induction k with
  | zero => exact ⟨fun _ j hj => absurd hj (Nat.not_lt_zero _), fun _ => rfl⟩
  | succ k ih =>
    have e : thB set st (k + 1) = (thB set st k && (!decide (hs set ((k : Int) + 1)) || decide (hs st ((k : Int) + 1)))) := rfl
    rw [e, Bool.and_eq_true, ih, Bool.or_eq_true, Bool.not_eq_true', decide_eq_false_iff_not, decide_eq_true_eq]
    constructor
    · rintro ⟨h1, h2⟩ j hj hs1
      by_cases q : j = k
      · rw [q] at hs1 ⊢
        rcases h2 with h2 | h2
        · exact absurd hs1 h2
        · exact h2
      · exact h1 j (by omega) hs1
    · intro h
      refine ⟨fun j hj => h j (by omega), ?_⟩
      by_cases q : hs set ((k : Int) + 1)
      · exact Or.inr (h k (by omega) q)
      · exact Or.inl q
theorem set_lt {wh : Nat} (hwh : wh < 7) {set : Int} (h1 : 1 ≤ set) (h2 : set ≤ fl wh) : set.toNat < 2 ^ (ho wh).toNat := by
  have h3 := (fl_rg9 hwh).2
  rw [h3] at h2
  have h4 : (set.toNat : Int) < (2 : Int) ^ (ho wh).toNat := by omega
  exact_mod_cast h4
theorem thr_B {wh : Nat} (hwh : wh < 7) {set : Int} (A : Int → Int) (h1 : 1 ≤ set) (h2 : set ≤ fl wh) : thr A set ↔ thB set (st7 A) (ho wh).toNat = true := by
  have h3 := set_lt hwh h1 h2
  have h4 := st7_rg A
  rw [thB_all]
  constructor
  · intro h j hj hs1
    rw [hs_tb (by omega)] at hs1 ⊢
    have e : (st7 A).toNat &&& set.toNat = set.toNat := by
      have h' : (((st7 A).toNat &&& set.toNat : Nat) : Int) = set := h
      omega
    rw [← e, Nat.testBit_and, Bool.and_eq_true] at hs1
    exact hs1.1
  · intro h
    show (((st7 A).toNat &&& set.toNat : Nat) : Int) = set
    have e : (st7 A).toNat &&& set.toNat = set.toNat := by
      apply Nat.eq_of_testBit_eq
      intro i
      rw [Nat.testBit_and]
      by_cases q : set.toNat.testBit i = true
      · have hi : i < (ho wh).toNat := by
          rcases Nat.lt_or_ge i (ho wh).toNat with z | z
          · exact z
          · have := Nat.testBit_lt_two_pow (Nat.lt_of_lt_of_le h3 (Nat.pow_le_pow_right (by omega) z))
            rw [this] at q
            exact absurd q (by decide)
        have := h i hi ((hs_tb (by omega)).mpr q)
        rw [hs_tb (by omega)] at this
        rw [this, q]; rfl
      · have q2 : set.toNat.testBit i = false := by
          rcases Bool.eq_false_or_eq_true (set.toNat.testBit i) with z | z
          · exact absurd z q
          · exact z
        rw [q2, Bool.and_false]
    rw [e]; omega
theorem GD.th {wh : Nat} (hwh : wh < 7) {s : SD} {r : RD} (h : GD wh s r) {set : Int} (h1 : 1 ≤ set) (h2 : set ≤ fl wh) : (s.fl = 1 ∧ thr s.A set) ↔ thQ wh r set := by
  have e := h.e.2.1
  rw [h.1.2.1, thr_B hwh r.A h1 h2]
  exact ⟨fun q => ⟨q.2, e.mp q.1⟩, fun q => ⟨e.mpr q.2, q.1⟩⟩
theorem GD.en {wh : Nat} (hwh : wh < 7) {s : SD} {r : RD} (h : GD wh s r) {set : Int} (h1 : 1 ≤ set) (h2 : set ≤ fl wh) : ((s.fl = 1 ∧ thr s.A set) ∧ s.dg < bc set) ↔ (thQ wh r set ∧ r.dg < bc set) := by
  rw [h.th hwh h1 h2]
  constructor
  · rintro ⟨a, b⟩; have := h.e.2.2 a.2; exact ⟨a, by omega⟩
  · rintro ⟨a, b⟩; have := h.e.2.2 a.2; exact ⟨a, by omega⟩
theorem GD.inl {wh : Nat} (hwh : wh < 7) {s : SD} {r : RD} (h : GD wh s r) (hf : r.dg ≠ -1) (set : Int) : il wh set s.A s.fl s.dg ↔ agD wh r set := by
  have e := h.e.2.1.mpr hf
  have d := h.e.2.2 hf
  show (s.fl = 1 ∧ hiK (gt wh set s.A (ho wh).toNat) 7 ≤ s.dg) ↔ hiK (trK wh set r.A (ho wh).toNat).1 7 ≤ r.dg
  rw [h.1.2.1, hi_tr hwh, d]
  exact ⟨fun q => q.2, fun q => ⟨e, q⟩⟩
theorem GD.ss {wh : Nat} (hwh : wh < 7) {s : SD} {r : RD} (h : GD wh s r) (hf : r.dg ≠ -1) : ∀ k : Nat, ssK wh s.A s.fl s.dg k = suK wh r k := by
  intro k
  induction k with
  | zero => rfl
  | succ k ih =>
    show (if hs (st7 s.A) ((k : Int) + 1) ∧ il wh (st7 s.A - 2 ^ k) s.A s.fl s.dg then ssK wh s.A s.fl s.dg k + 2 ^ k else ssK wh s.A s.fl s.dg k) = (if hs (st7 r.A) ((k : Int) + 1) ∧ agD wh r (st7 r.A - 2 ^ k) then suK wh r k + 2 ^ k else suK wh r k)
    have i := h.inl hwh hf (st7 s.A - 2 ^ k)
    have eA : st7 s.A = st7 r.A := by rw [h.1.2.1]
    rw [ih, eA]
    rw [eA] at i
    by_cases c : hs (st7 r.A) ((k : Int) + 1) ∧ agD wh r (st7 r.A - 2 ^ k)
    · rw [if_pos c, if_pos ⟨c.1, i.mpr c.2⟩]
    · rw [if_neg c, if_neg (fun q => c ⟨q.1, i.mp q.2⟩)]
theorem GD.wr {wh : Nat} (hwh : wh < 7) {s : SD} {r : RD} (h : GD wh s r) : wrf wh s.A s.fl s.dg = wrV wh r := by
  unfold wrf wrV
  by_cases hf : r.dg = -1
  · rw [if_pos (h.e.1.mpr hf), if_pos hf]
  · have d := h.e.2.2 hf
    have eA : st7 s.A = st7 r.A := by rw [h.1.2.1]
    have i := h.inl hwh hf (st7 s.A)
    rw [if_neg (fun q => hf (h.e.1.mp q)), if_neg hf, h.ss hwh hf]
    rw [eA] at i ⊢
    by_cases c : agD wh r (st7 r.A)
    · rw [if_pos c, if_pos (i.mpr c)]
    · rw [if_neg c, if_neg (fun q => c (i.mp q)), d]
theorem wrV_rg2 {wh : Nat} (hwh : wh < 7) {r : RD} (h : 0 < wrV wh r) : 1 ≤ wrV wh r ∧ wrV wh r ≤ ho wh := by
  have hM := pr_M hwh
  unfold wrV at h ⊢
  by_cases c1 : r.dg = -1
  · rw [if_pos c1] at h; exact absurd h (by decide)
  · rw [if_neg c1] at h ⊢
    by_cases c2 : agD wh r (st7 r.A)
    · rw [if_pos c2] at h; exact absurd h (by decide)
    · rw [if_neg c2] at h ⊢
      by_cases c3 : bc (st7 r.A) < r.dg + 3
      · rw [if_pos c3] at h; exact absurd h (by decide)
      · rw [if_neg c3] at h ⊢
        exact (ffd_rg (ho wh).toNat (by omega) h).2
end
-- 60.r_cases.lean.txt
section
/-! ===== case by case: both answers are one, and the relation is kept ===== -/
def GG (wh : Nat) (D : Nat → SD) (R : Nat → RD) : Prop := wh < 7 ∧ SS wh D R ∧ ∀ j : Nat, j < 6 → GD wh (D j) (R j)
theorem GG_of {w w2 : e_W} {x y wh : Nat} {kn kn2 t : Int} {D : Nat → SD} {R : Nat → RD} (hC : CW w x wh kn D) (hM : MW w2 y wh kn2 t R) (h : SS wh D R) : GG wh D R := ⟨hC.2.2.1, h, fun _ hj => GD_of hC hM h hj⟩
theorem b_st {wh : Nat} {s : SD} {r : RD} (h : SR wh s r) : bc (st7 s.A) = bc (st7 r.A) := by rw [h.2.1]
theorem lpS_A (wh : Nat) (g : Int) (P : Int → Int) : lpA wh P = (lpS wh g P).A := by unfold lpS; rfl
theorem auR_A (wh : Nat) (b : Int) (s1 s2 : SD) : auA wh b s1.A s2.A = (auR wh b s1 s2).A := by unfold auR; rfl
theorem tiS_A (wh : Nat) (s1 s2 : SD) : tiA wh s1.A s2.A = (tiS wh s1 s2).A := by unfold tiS; rfl
theorem y_hide {wh : Nat} {D : Nat → SD} {R : Nat → RD} (G : GG wh D R) {i g a b c d : Int} (hc : (0 ≤ i ∧ i < 6) ∧ (0 ≤ g ∧ g ≤ 3)) : bc (st7 (lpA wh (bcm (pr wh) g a b c d))) = (bc (st7 (lpR wh g (bcm (pr wh) g a b c d)).A), updR R i.toNat (lpR wh g (bcm (pr wh) g a b c d))).1 ∧ SS wh (upD D i.toNat (lpS wh g (bcm (pr wh) g a b c d))) (bc (st7 (lpR wh g (bcm (pr wh) g a b c d)).A), updR R i.toNat (lpR wh g (bcm (pr wh) g a b c d))).2 := by
  have h : SR wh (lpS wh g (bcm (pr wh) g a b c d)) (lpR wh g (bcm (pr wh) g a b c d)) := SR.lay G.1 hc.2.1 (by omega) (fun k h1 h2 => bcm_z _ _ _ _ _ _ k h1 h2 hc.2.1) (fun _ _ _ => rfl)
  rw [lpS_A wh g]
  exact ⟨b_st h, G.2.1.up h⟩
theorem y_pour {wh : Nat} {D : Nat → SD} {R : Nat → RD} (G : GG wh D R) {i a b c d : Int} (hc : 0 ≤ i ∧ i < 6) : (poQ wh D i.toNat a b c d).1 = (if (R i.toNat).dg = -1 then (-9, R) else (bc (st7 (poR wh (R i.toNat) (bcm (pr wh) (R i.toNat).dg a b c d)).A), updR R i.toNat (poR wh (R i.toNat) (bcm (pr wh) (R i.toNat).dg a b c d)))).1 ∧ SS wh (poQ wh D i.toNat a b c d).2 (if (R i.toNat).dg = -1 then (-9, R) else (bc (st7 (poR wh (R i.toNat) (bcm (pr wh) (R i.toNat).dg a b c d)).A), updR R i.toNat (poR wh (R i.toNat) (bcm (pr wh) (R i.toNat).dg a b c d)))).2 := by
  have h := G.2.2 i.toNat (by omega)
  unfold poQ
  by_cases f : (R i.toNat).dg = -1
  · rw [if_pos f, if_pos (h.e.1.mpr f)]; exact ⟨rfl, G.2.1⟩
  · rw [if_neg f, if_neg (fun q => f (h.e.1.mp q)), ← h.e.2.2 f]
    have hd := h.e.2.2 f
    have h2 := h.2.1
    have q : SR wh (poS wh (D i.toNat) (bcm (pr wh) (R i.toNat).dg a b c d)) (poR wh (R i.toNat) (bcm (pr wh) (R i.toNat).dg a b c d)) := SR.pour G.1 h f (fun k h1 h2 => bcm_z _ _ _ _ _ _ k h1 h2 (by omega))
    exact ⟨b_st q, G.2.1.up q⟩
theorem y_join {wh : Nat} {D : Nat → SD} {R : Nat → RD} (G : GG wh D R) {i j t : Int} {b s : Int} (hb : (b = 0 ∧ s = 1) ∨ (b = 1 ∧ s = -1)) (hc : (0 ≤ i ∧ i < 6) ∧ (0 ≤ j ∧ j < 6) ∧ (0 ≤ t ∧ t < 6)) : (auQ wh b D i.toNat j.toNat t.toNat).1 = (if (R i.toNat).dg = -1 ∨ (R j.toNat).dg = -1 then (-9, R) else (bc (st7 (joR wh s (R i.toNat) (R j.toNat)).A), updR R t.toNat (joR wh s (R i.toNat) (R j.toNat)))).1 ∧ SS wh (auQ wh b D i.toNat j.toNat t.toNat).2 (if (R i.toNat).dg = -1 ∨ (R j.toNat).dg = -1 then (-9, R) else (bc (st7 (joR wh s (R i.toNat) (R j.toNat)).A), updR R t.toNat (joR wh s (R i.toNat) (R j.toNat)))).2 := by
  have h1 := G.2.2 i.toNat (by omega)
  have h2 := G.2.2 j.toNat (by omega)
  unfold auQ
  by_cases f : (R i.toNat).dg = -1 ∨ (R j.toNat).dg = -1
  · rw [if_pos f, if_pos (f.imp h1.e.1.mpr h2.e.1.mpr)]; exact ⟨rfl, G.2.1⟩
  · rw [if_neg f, if_neg (fun q => f (q.imp h1.e.1.mp h2.e.1.mp))]
    have q : SR wh (auR wh b (D i.toNat) (D j.toNat)) (joR wh s (R i.toNat) (R j.toNat)) := SR.join G.1 h1 h2 (fun z => f (Or.inl z)) (fun z => f (Or.inr z)) hb
    rw [auR_A]
    exact ⟨b_st q, G.2.1.up q⟩
theorem y_plus {wh : Nat} {D : Nat → SD} {R : Nat → RD} (G : GG wh D R) {i j t : Int} (hc : (0 ≤ i ∧ i < 6) ∧ (0 ≤ j ∧ j < 6) ∧ (0 ≤ t ∧ t < 6)) : (auQ wh 0 D i.toNat j.toNat t.toNat).1 = (if (R i.toNat).dg = -1 ∨ (R j.toNat).dg = -1 then (-9, R) else (bc (st7 (joR wh 1 (R i.toNat) (R j.toNat)).A), updR R t.toNat (joR wh 1 (R i.toNat) (R j.toNat)))).1 ∧ SS wh (auQ wh 0 D i.toNat j.toNat t.toNat).2 (if (R i.toNat).dg = -1 ∨ (R j.toNat).dg = -1 then (-9, R) else (bc (st7 (joR wh 1 (R i.toNat) (R j.toNat)).A), updR R t.toNat (joR wh 1 (R i.toNat) (R j.toNat)))).2 := y_join G (Or.inl ⟨rfl, rfl⟩) hc
theorem y_less {wh : Nat} {D : Nat → SD} {R : Nat → RD} (G : GG wh D R) {i j t : Int} (hc : (0 ≤ i ∧ i < 6) ∧ (0 ≤ j ∧ j < 6) ∧ (0 ≤ t ∧ t < 6)) : (auQ wh 1 D i.toNat j.toNat t.toNat).1 = (if (R i.toNat).dg = -1 ∨ (R j.toNat).dg = -1 then (-9, R) else (bc (st7 (joR wh (-1) (R i.toNat) (R j.toNat)).A), updR R t.toNat (joR wh (-1) (R i.toNat) (R j.toNat)))).1 ∧ SS wh (auQ wh 1 D i.toNat j.toNat t.toNat).2 (if (R i.toNat).dg = -1 ∨ (R j.toNat).dg = -1 then (-9, R) else (bc (st7 (joR wh (-1) (R i.toNat) (R j.toNat)).A), updR R t.toNat (joR wh (-1) (R i.toNat) (R j.toNat)))).2 := y_join G (Or.inr ⟨rfl, rfl⟩) hc
theorem y_times {wh : Nat} {D : Nat → SD} {R : Nat → RD} (G : GG wh D R) {i j t : Int} (hc : (0 ≤ i ∧ i < 6) ∧ (0 ≤ j ∧ j < 6) ∧ (0 ≤ t ∧ t < 6)) : (tiQ wh D i.toNat j.toNat t.toNat).1 = (if (R i.toNat).dg = -1 ∨ (R j.toNat).dg = -1 ∨ 6 < (R i.toNat).dg + (R j.toNat).dg then (-9, R) else (bc (st7 (tiR wh (R i.toNat) (R j.toNat)).A), updR R t.toNat (tiR wh (R i.toNat) (R j.toNat)))).1 ∧ SS wh (tiQ wh D i.toNat j.toNat t.toNat).2 (if (R i.toNat).dg = -1 ∨ (R j.toNat).dg = -1 ∨ 6 < (R i.toNat).dg + (R j.toNat).dg then (-9, R) else (bc (st7 (tiR wh (R i.toNat) (R j.toNat)).A), updR R t.toNat (tiR wh (R i.toNat) (R j.toNat)))).2 := by
  have h1 := G.2.2 i.toNat (by omega)
  have h2 := G.2.2 j.toNat (by omega)
  have e1 := h1.e
  have e2 := h2.e
  unfold tiQ
  by_cases f : (R i.toNat).dg = -1 ∨ (R j.toNat).dg = -1 ∨ 6 < (R i.toNat).dg + (R j.toNat).dg
  · rw [if_pos f, if_pos (by omega)]; exact ⟨rfl, G.2.1⟩
  · rw [if_neg f, if_neg (by omega)]
    have q : SR wh (tiS wh (D i.toNat) (D j.toNat)) (tiR wh (R i.toNat) (R j.toNat)) := SR.times G.1 h1 h2 (fun z => f (Or.inl z)) (fun z => f (Or.inr (Or.inl z)))
    rw [tiS_A]
    exact ⟨b_st q, G.2.1.up q⟩
theorem y_scale {wh : Nat} {D : Nat → SD} {R : Nat → RD} (G : GG wh D R) {i b t : Int} (hc : (0 ≤ i ∧ i < 6) ∧ (0 ≤ t ∧ t < 6)) : (scQ wh D i.toNat b t.toNat).1 = (if (R i.toNat).dg = -1 then (-9, R) else (bc (st7 (scR wh (R i.toNat) (b % pr wh)).A), updR R t.toNat (scR wh (R i.toNat) (b % pr wh)))).1 ∧ SS wh (scQ wh D i.toNat b t.toNat).2 (if (R i.toNat).dg = -1 then (-9, R) else (bc (st7 (scR wh (R i.toNat) (b % pr wh)).A), updR R t.toNat (scR wh (R i.toNat) (b % pr wh)))).2 := by
  have h := G.2.2 i.toNat (by omega)
  unfold scQ
  by_cases f : (R i.toNat).dg = -1
  · rw [if_pos f, if_pos (h.e.1.mpr f)]; exact ⟨rfl, G.2.1⟩
  · rw [if_neg f, if_neg (fun q => f (h.e.1.mp q))]
    have q : SR wh (scS wh (D i.toNat) (b % pr wh)) (scR wh (R i.toNat) (b % pr wh)) := SR.scale G.1 h f (emod_rg b G.1).1
    exact ⟨b_st q, G.2.1.up q⟩
theorem y_handOn {wh : Nat} {D : Nat → SD} {R : Nat → RD} (G : GG wh D R) {i u t g a b : Int} (hc : ((0 ≤ i ∧ i < 6) ∧ (0 ≤ t ∧ t < 6)) ∧ (1 ≤ u ∧ u ≤ fl wh) ∧ (0 ≤ g ∧ g ≤ 3)) : (haQ wh D i.toNat u t.toNat g a b).1 = (if (thQ wh (R i.toNat) u ∧ (R i.toNat).dg < bc u) then (bc (st7 (lpR wh g (hnP wh u (R i.toNat).A a b)).A), updR R t.toNat (lpR wh g (hnP wh u (R i.toNat).A a b))) else (-9, R)).1 ∧ SS wh (haQ wh D i.toNat u t.toNat g a b).2 (if (thQ wh (R i.toNat) u ∧ (R i.toNat).dg < bc u) then (bc (st7 (lpR wh g (hnP wh u (R i.toNat).A a b)).A), updR R t.toNat (lpR wh g (hnP wh u (R i.toNat).A a b))) else (-9, R)).2 := by
  have h := G.2.2 i.toNat (by omega)
  have en := h.en G.1 hc.2.1.1 hc.2.1.2
  unfold haQ
  by_cases f : thQ wh (R i.toNat) u ∧ (R i.toNat).dg < bc u
  · rw [if_pos f, if_pos (en.mpr f), h.1.2.1]
    have q : SR wh (lpS wh g (hoP wh u (R i.toNat).A g a b (ho wh).toNat)) (lpR wh g (hnP wh u (R i.toNat).A a b)) := SR.lay G.1 hc.2.2.1 (by omega) (hoP_z wh u _ g a b _) (hoP_eq G.1 u _ g a b)
    rw [lpS_A wh g]
    exact ⟨b_st q, G.2.1.up q⟩
  · rw [if_neg f, if_neg (fun q => f (en.mp q))]; exact ⟨rfl, G.2.1⟩
theorem y_lose {wh : Nat} {D : Nat → SD} {R : Nat → RD} (G : GG wh D R) {i h : Int} (hc : (0 ≤ i ∧ i < 6) ∧ (1 ≤ h ∧ h ≤ ho wh)) : (lsQ D i.toNat h).1 = (if hs (st7 (R i.toNat).A) h then ((R i.toNat).A h, updR R i.toNat (puR (R i.toNat) h (-1))) else (-9, R)).1 ∧ SS wh (lsQ D i.toNat h).2 (if hs (st7 (R i.toNat).A) h then ((R i.toNat).A h, updR R i.toNat (puR (R i.toNat) h (-1))) else (-9, R)).2 := by
  have g := G.2.2 i.toNat (by omega)
  have hM := pr_M G.1
  have e := st7_hs (R i.toNat).A (j := (h - 1).toNat) (by omega)
  rw [show (((h - 1).toNat : Nat) : Int) + 1 = h by omega] at e
  unfold lsQ
  rw [g.1.2.1]
  by_cases f : (R i.toNat).A h = -1
  · rw [if_pos f, if_neg (fun q => e.mp q f)]; exact ⟨rfl, G.2.1⟩
  · rw [if_neg f, if_pos (e.mpr f)]; exact ⟨rfl, G.2.1.up (g.1.put hc.2)⟩
theorem y_give {wh : Nat} {D : Nat → SD} {R : Nat → RD} (G : GG wh D R) {i h v : Int} (hc : (0 ≤ i ∧ i < 6) ∧ (1 ≤ h ∧ h ≤ ho wh)) : (giQ wh D i.toNat h v).1 = (if (R i.toNat).dg = -1 then (-9, R) else ((R i.toNat).A h, updR R i.toNat (puR (R i.toNat) h (v % pr wh)))).1 ∧ SS wh (giQ wh D i.toNat h v).2 (if (R i.toNat).dg = -1 then (-9, R) else ((R i.toNat).A h, updR R i.toNat (puR (R i.toNat) h (v % pr wh)))).2 := by
  have g := G.2.2 i.toNat (by omega)
  unfold giQ
  rw [g.1.2.1]
  by_cases f : (R i.toNat).dg = -1
  · rw [if_pos f, if_pos (g.e.1.mpr f)]; exact ⟨rfl, G.2.1⟩
  · rw [if_neg f, if_neg (fun q => f (g.e.1.mp q))]; exact ⟨rfl, G.2.1.up (g.1.put hc.2)⟩
theorem y_regain {wh : Nat} {D : Nat → SD} {R : Nat → RD} (G : GG wh D R) {i h a : Int} (hc : (0 ≤ i ∧ i < 6) ∧ (1 ≤ h ∧ h ≤ ho wh) ∧ (1 ≤ a ∧ a ≤ fl wh)) : (rgQ wh D i.toNat h a).1 = (if (thQ wh (R i.toNat) a ∧ (R i.toNat).dg < bc a) then (atV wh a (R i.toNat).A h, updR R i.toNat (puR (R i.toNat) h (atV wh a (R i.toNat).A h))) else (-9, R)).1 ∧ SS wh (rgQ wh D i.toNat h a).2 (if (thQ wh (R i.toNat) a ∧ (R i.toNat).dg < bc a) then (atV wh a (R i.toNat).A h, updR R i.toNat (puR (R i.toNat) h (atV wh a (R i.toNat).A h))) else (-9, R)).2 := by
  have g := G.2.2 i.toNat (by omega)
  have en := g.en G.1 hc.2.2.1 hc.2.2.2
  unfold rgQ
  by_cases f : thQ wh (R i.toNat) a ∧ (R i.toNat).dg < bc a
  · rw [if_pos f, if_pos (en.mpr f), g.1.2.1, tl_at G.1]; exact ⟨rfl, G.2.1.up (g.1.put hc.2.1)⟩
  · rw [if_neg f, if_neg (fun q => f (en.mp q))]; exact ⟨rfl, G.2.1⟩
theorem y_mend {wh : Nat} {D : Nat → SD} {R : Nat → RD} (G : GG wh D R) {i : Int} (hc : 0 ≤ i ∧ i < 6) : (meQ wh D i.toNat).1 = ((wrV wh (R i.toNat), if 0 < wrV wh (R i.toNat) then updR R i.toNat (puR (R i.toNat) (wrV wh (R i.toNat)) (atV wh (st7 (R i.toNat).A - 2 ^ (wrV wh (R i.toNat) - 1).toNat) (R i.toNat).A (wrV wh (R i.toNat)))) else R)).1 ∧ SS wh (meQ wh D i.toNat).2 ((wrV wh (R i.toNat), if 0 < wrV wh (R i.toNat) then updR R i.toNat (puR (R i.toNat) (wrV wh (R i.toNat)) (atV wh (st7 (R i.toNat).A - 2 ^ (wrV wh (R i.toNat) - 1).toNat) (R i.toNat).A (wrV wh (R i.toNat)))) else R)).2 := by
  have g := G.2.2 i.toNat (by omega)
  unfold meQ
  rw [g.wr G.1]
  by_cases f : 0 < wrV wh (R i.toNat)
  · rw [if_pos f, if_pos f, g.1.2.1, tl_at G.1]; exact ⟨rfl, G.2.1.up (g.1.put (wrV_rg2 G.1 f))⟩
  · rw [if_neg f, if_neg f]; exact ⟨rfl, G.2.1⟩
theorem y_copy {wh : Nat} {D : Nat → SD} {R : Nat → RD} (G : GG wh D R) {i j : Int} (hc : (0 ≤ i ∧ i < 6) ∧ (0 ≤ j ∧ j < 6)) : bc (st7 (D i.toNat).A) = ((bc (st7 (R i.toNat).A), updR R j.toNat (R i.toNat))).1 ∧ SS wh (upD D j.toNat (D i.toNat)) ((bc (st7 (R i.toNat).A), updR R j.toNat (R i.toNat))).2 := by
  have g := G.2.2 i.toNat (by omega)
  exact ⟨b_st g.1, G.2.1.up g.1⟩
theorem y_drop {wh : Nat} {D : Nat → SD} {R : Nat → RD} (G : GG wh D R) {i : Int} (hc : 0 ≤ i ∧ i < 6) : bc (st7 (D i.toNat).A) = ((bc (st7 (R i.toNat).A), updR R i.toNat (emR (R i.toNat)))).1 ∧ SS wh (upD D i.toNat SD0) ((bc (st7 (R i.toNat).A), updR R i.toNat (emR (R i.toNat)))).2 := by
  have g := G.2.2 i.toNat (by omega)
  exact ⟨b_st g.1, G.2.1.up (SR.em _)⟩
theorem b01_cg {c d : Prop} [Decidable c] [Decidable d] (h : c ↔ d) : b01 c = b01 d := by
  by_cases q : d
  · rw [b01_t q, b01_t (h.mpr q)]
  · rw [b01_f q, b01_f (fun z => q (h.mp z))]
theorem GD.st {wh : Nat} {s : SD} {r : RD} (g : GD wh s r) {c : Int} (hc : 0 ≤ c) : (if 0 ≤ c ∧ c < s.sc then s.B c else -1) = stV wh r c := by
  have z := g.sc
  unfold stV
  by_cases e : r.hp = 1
  · have z2 := z.2 e
    have z3 := g.e.2.2 z2.2
    by_cases f : c ≤ r.dg
    · have c1 : 0 ≤ c ∧ c < s.sc := ⟨hc, by omega⟩
      rw [if_pos c1, if_pos ⟨e, f⟩]
      rcases g.1.2.2.2 with q | q
      · omega
      · exact q.2.2 c hc f
    · have c1 : ¬ (0 ≤ c ∧ c < s.sc) := by omega
      rw [if_neg c1, if_neg (fun q => f q.2)]
  · have z3 : ¬ 0 < s.sc := fun q => e (z.1.mp q)
    have c1 : ¬ (0 ≤ c ∧ c < s.sc) := by omega
    rw [if_neg c1, if_neg (fun q => e q.1)]
theorem GD.ft {wh : Nat} (hwh : wh < 7) {s : SD} {r : RD} (g : GD wh s r) (hp1 : r.hp = 1) {h : Int} (hh : 0 ≤ h) (hA : r.A h ≠ -1) : fit wh s.sc s.A s.B h ↔ fiV wh r h := by
  have hp := pr_rg wh hwh
  have z := g.sc.2 hp1
  have z2 := g.e.2.2 z.2
  have z3 := g.2.1
  have hA2 := (g.2.2.2.2.1 h).resolve_left hA
  have hB : ∀ j : Int, 0 ≤ j → j < ((r.dg.toNat + 1 : Nat) : Int) → s.B j = sl wh (r.E j) := by
    intro j a b
    rcases g.1.2.2.2 with q | q
    · omega
    · exact q.2.2 j a (by omega)
  show sl wh (s.A h) = dfK (gr wh) s.B h s.sc.toNat ↔ r.A h = hv (pr wh) h r.E ((r.dg.toNat + 1 : Nat) : Int) (r.dg.toNat + 1)
  rw [show s.sc.toNat = r.dg.toNat + 1 by omega, dfK_sl hwh hh _ hB, g.1.2.1]
  have e : sl wh (q_ev (r.dg.toNat + 1) (fun j : Nat => r.E (j : Int)) h) = sl wh (hv (pr wh) h r.E ((r.dg.toNat + 1 : Nat) : Int) (r.dg.toNat + 1)) := sl_eq (cg_s (hv_ev _ _ _ _ rfl))
  rw [e]
  constructor
  · exact fun q => sl_inj hwh hA2 (hv_rg (by omega) _) q
  · exact fun q => by rw [q]
theorem y_fits {wh : Nat} {D : Nat → SD} {R : Nat → RD} (G : GG wh D R) {i h : Int} (hc : (0 ≤ i ∧ i < 6) ∧ (1 ≤ h ∧ h ≤ ho wh)) : (if 0 < (D i.toNat).sc ∧ (D i.toNat).A h ≠ -1 then b01 (fit wh (D i.toNat).sc (D i.toNat).A (D i.toNat).B h) else -9) = (if (R i.toNat).hp = 0 ∨ (R i.toNat).A h = -1 then -9 else b01 (fiV wh (R i.toNat) h)) := by
  have g := G.2.2 i.toNat (by omega)
  have z := g.sc.1
  have z2 := g.2.2.2.1
  have eA : (D i.toNat).A h = (R i.toNat).A h := by rw [g.1.2.1]
  by_cases f : (R i.toNat).hp = 0 ∨ (R i.toNat).A h = -1
  · rw [if_pos f, if_neg (by rw [eA]; rintro ⟨q1, q2⟩; have := z.mp q1; omega)]
  · have f1 : (R i.toNat).hp = 1 := by omega
    have f2 : (R i.toNat).A h ≠ -1 := fun q => f (Or.inr q)
    rw [if_neg f, if_pos ⟨z.mpr f1, by rw [eA]; exact f2⟩]
    exact b01_cg (g.ft G.1 f1 (by omega) f2)
end
-- 60.s_asks.lean.txt
section
/-! ===== the first holders ===== -/
theorem bc_pl : ∀ s : Nat, s < 128 → ∀ k : Nat, k < 7 → s < 2 ^ k → bc ((s : Int) + 2 ^ k) = bc (s : Int) + 1 := by decide +kernel
theorem hs_pl : ∀ s : Nat, s < 128 → ∀ k : Nat, k < 7 → ∀ j : Nat, j < 7 → ¬ s < 2 ^ k ∨ ¬ hs ((s : Int) + 2 ^ k) ((j : Int) + 1) ∨ j = k ∨ hs (s : Int) ((j : Int) + 1) := by decide +kernel
theorem p2_7 {k : Nat} (hk : k ≤ 7) : (2 : Int) ^ k ≤ 128 := by
  have h : (2 : Nat) ^ k ≤ 2 ^ 7 := Nat.pow_le_pow_right (by omega) hk
  have h2 : ((2 ^ k : Nat) : Int) ≤ ((2 ^ 7 : Nat) : Int) := by omega
  rw [Int.natCast_pow] at h2
  exact h2
theorem bc_add {s : Int} {k : Nat} (h0 : 0 ≤ s) (hk : k < 7) (h : s < 2 ^ k) : bc (s + 2 ^ k) = bc s + 1 := by
  have h7 := p2_7 (k := k) (by omega)
  obtain ⟨n, rfl⟩ : ∃ n : Nat, s = (n : Int) := ⟨s.toNat, by omega⟩
  exact bc_pl n (by omega) k hk (by exact_mod_cast h)
theorem hs_add {s : Int} {k j : Nat} (h0 : 0 ≤ s) (hk : k < 7) (h : s < 2 ^ k) (hj : j < 7) (g : hs (s + 2 ^ k) ((j : Int) + 1)) : j = k ∨ hs s ((j : Int) + 1) := by
  have h7 := p2_7 (k := k) (by omega)
  obtain ⟨n, rfl⟩ : ∃ n : Nat, s = (n : Int) := ⟨s.toNat, by omega⟩
  rcases hs_pl n (by omega) k hk j hj with q | q | q
  · exact absurd (by exact_mod_cast h) q
  · exact absurd g q
  · exact q
theorem foK_su (dg st : Int) (k : Nat) : foK dg st (k + 1) = if hs st ((k : Int) + 1) ∧ bc (foK dg st k) ≤ dg then foK dg st k + 2 ^ k else foK dg st k := rfl
theorem foK_rg9 (dg st : Int) : ∀ k : Nat, 0 ≤ foK dg st k ∧ foK dg st k < 2 ^ k := by
  intro k
  induction k with
  | zero => exact ⟨Int.le_refl _, by show (0 : Int) < 1; decide⟩
  | succ k ih =>
    rw [foK_su, Int.pow_succ]
    split <;> omega
theorem foK_bc {dg : Int} (h0 : -1 ≤ dg) (st : Int) : ∀ k : Nat, k ≤ 7 → bc (foK dg st k) ≤ dg + 1 := by
  intro k
  induction k with
  | zero => intro _; show (0 : Int) ≤ dg + 1; omega
  | succ k ih =>
    intro hk
    have r := foK_rg9 dg st k
    rw [foK_su]
    split
    · rename_i c
      rw [bc_add r.1 (by omega) r.2]
      have := c.2
      omega
    · exact ih (by omega)
theorem foK_in (dg st : Int) {j : Nat} (hj : j < 7) : ∀ k : Nat, k ≤ 7 → hs (foK dg st k) ((j : Int) + 1) → hs st ((j : Int) + 1) := by
  intro k
  induction k with
  | zero => intro _ h; exact absurd h (hs_zero _)
  | succ k ih =>
    intro hk h
    have r := foK_rg9 dg st k
    rw [foK_su] at h
    by_cases c : hs st ((k : Int) + 1) ∧ bc (foK dg st k) ≤ dg
    · rw [if_pos c] at h
      rcases hs_add r.1 (by omega) r.2 hj h with q | q
      · rw [q]; exact c.1
      · exact ih (by omega) q
    · rw [if_neg c] at h; exact ih (by omega) h
theorem fsK_fo (A : Int → Int) (dg : Int) : ∀ k : Nat, k ≤ 7 → fsK A dg k = (foK dg (st7 A) k, dg + 1 - bc (foK dg (st7 A) k)) := by
  intro k
  induction k with
  | zero => intro _; show ((0 : Int), dg + 1) = ((0 : Int), dg + 1 - bc 0); rw [show bc 0 = 0 by rfl, Int.sub_zero]
  | succ k ih =>
    intro hk
    have r := foK_rg9 dg (st7 A) k
    have e : fsK A dg (k + 1) = if 0 < (fsK A dg k).2 ∧ A ((k : Int) + 1) ≠ -1 then ((fsK A dg k).1 + 2 ^ k, (fsK A dg k).2 - 1) else fsK A dg k := rfl
    have i := st7_hs A (j := k) (by omega)
    rw [e, ih (by omega), foK_su]
    by_cases c : hs (st7 A) ((k : Int) + 1) ∧ bc (foK dg (st7 A) k) ≤ dg
    · rw [if_pos c, if_pos ⟨by show 0 < dg + 1 - bc (foK dg (st7 A) k); have := c.2; omega, i.mp c.1⟩, bc_add r.1 (by omega) r.2]
      show (foK dg (st7 A) k + 2 ^ k, dg + 1 - bc (foK dg (st7 A) k) - 1) = _
      congr 1
      omega
    · rw [if_neg c, if_neg (fun q => c ⟨i.mpr q.2, by have := q.1; have q2 : 0 < dg + 1 - bc (foK dg (st7 A) k) := this; omega⟩)]
theorem foK_top {dg st : Int} {M : Nat} (h : ∀ j : Nat, M ≤ j → j < 7 → ¬ hs st ((j : Int) + 1)) : ∀ k : Nat, M ≤ k → k ≤ 7 → foK dg st k = foK dg st M := by
  intro k
  induction k with
  | zero => intro h1 _; rw [show M = 0 by omega]
  | succ k ih =>
    intro h1 h2
    by_cases e : M = k + 1
    · rw [e]
    · rw [foK_su, if_neg (fun q => h k (by omega) (by omega) q.1)]
      exact ih (by omega) (by omega)
theorem GD.fo {wh : Nat} (hwh : wh < 7) {s : SD} {r : RD} (g : GD wh s r) (hf : r.dg ≠ -1) : fs7 s.A s.dg = foV wh r := by
  have hM := pr_M hwh
  have d := g.e.2.2 hf
  have d2 := g.2.1
  have t := foK_top (dg := r.dg) (st := st7 r.A) (M := (ho wh).toNat) (fun j h1 h2 q => (st7_hs r.A h2).mp q (g.1.2.2.1 _ (by omega))) 7 hM.1 (by omega)
  have b := foK_bc (dg := r.dg) (by omega) (st7 r.A) 7 (by omega)
  unfold fs7 foV
  rw [fsK_fo _ _ 7 (by omega), g.1.2.1, ← d, ← t]
  show (if r.dg + 1 - bc (foK r.dg (st7 r.A) 7) = 0 then foK r.dg (st7 r.A) 7 else 0) = _
  by_cases c : r.dg < bc (foK r.dg (st7 r.A) 7)
  · rw [if_pos c, if_pos (by omega)]
  · rw [if_neg c, if_neg (by omega)]
theorem daB_all (wh : Nat) (sc : Int) (A B : Int → Int) (set M : Int) : ∀ r : Nat, daB wh sc A B set M r = true ↔ ∀ j : Nat, j < r → hs set (M - (j : Int)) → fit wh sc A B (M - (j : Int)) := by
  intro r
  induction r with
  | zero => exact ⟨fun _ j hj => absurd hj (Nat.not_lt_zero _), fun _ => rfl⟩
  | succ k ih =>
    have e : daB wh sc A B set M (k + 1) = ((!decide (hs set (M - (k : Int))) || decide (fit wh sc A B (M - (k : Int)))) && daB wh sc A B set M k) := rfl
    rw [e, Bool.and_eq_true, ih, Bool.or_eq_true, Bool.not_eq_true', decide_eq_false_iff_not, decide_eq_true_eq]
    constructor
    · rintro ⟨h2, h1⟩ j hj hs1
      by_cases q : j = k
      · rw [q] at hs1 ⊢
        rcases h2 with h2 | h2
        · exact absurd hs1 h2
        · exact h2
      · exact h1 j (by omega) hs1
    · intro h
      refine ⟨?_, fun j hj => h j (by omega)⟩
      by_cases q : hs set (M - (k : Int))
      · exact Or.inr (h k (by omega) q)
      · exact Or.inl q
theorem feB_all (wh : Nat) (r : RD) (set : Int) : ∀ k : Nat, feB wh r set k = true ↔ ∀ j : Nat, j < k → hs set ((j : Int) + 1) → fiV wh r ((j : Int) + 1) := by
  intro k
  induction k with
  | zero => exact ⟨fun _ j hj => absurd hj (Nat.not_lt_zero _), fun _ => rfl⟩
  | succ k ih =>
    have e : feB wh r set (k + 1) = (feB wh r set k && (!decide (hs set ((k : Int) + 1)) || decide (fiV wh r ((k : Int) + 1)))) := rfl
    rw [e, Bool.and_eq_true, ih, Bool.or_eq_true, Bool.not_eq_true', decide_eq_false_iff_not, decide_eq_true_eq]
    constructor
    · rintro ⟨h1, h2⟩ j hj hs1
      by_cases q : j = k
      · rw [q] at hs1 ⊢
        rcases h2 with h2 | h2
        · exact absurd hs1 h2
        · exact h2
      · exact h1 j (by omega) hs1
    · intro h
      refine ⟨fun j hj => h j (by omega), ?_⟩
      by_cases q : hs set ((k : Int) + 1)
      · exact Or.inr (h k (by omega) q)
      · exact Or.inl q
theorem GD.dk {wh : Nat} (hwh : wh < 7) {s : SD} {r : RD} (g : GD wh s r) (hp1 : r.hp = 1) : dok wh s ↔ fsV wh r := by
  have hM := pr_M hwh
  have z := g.sc.2 hp1
  have f := z.2
  have fo := g.fo hwh f
  have st := g.st (c := 0) (Int.le_refl _)
  rw [if_pos ⟨Int.le_refl _, by have := g.2.1; omega⟩] at st
  have key : (daB wh s.sc s.A s.B (foV wh r) (ho wh) (ho wh).toNat = true) ↔ (feB wh r (foV wh r) (ho wh).toNat = true) := by
    have sub : ∀ j : Nat, j < (ho wh).toNat → hs (foV wh r) ((j : Int) + 1) → r.A ((j : Int) + 1) ≠ -1 := by
      intro j hj q
      unfold foV at q
      by_cases c : r.dg < bc (foK r.dg (st7 r.A) (ho wh).toNat)
      · rw [if_pos c] at q
        exact (st7_hs r.A (by omega)).mp (foK_in r.dg (st7 r.A) (by omega) _ hM.1 q)
      · rw [if_neg c] at q; exact absurd q (hs_zero _)
    rw [daB_all, feB_all]
    constructor
    · intro h j hj q
      have q2 := h ((ho wh).toNat - 1 - j) (by omega)
      rw [show ho wh - (((ho wh).toNat - 1 - j : Nat) : Int) = (j : Int) + 1 by omega] at q2
      exact (g.ft hwh hp1 (by omega) (sub j hj q)).mp (q2 q)
    · intro h j hj q
      have e : ho wh - (j : Int) = (((ho wh).toNat - 1 - j : Nat) : Int) + 1 := by omega
      rw [e] at q ⊢
      exact (g.ft hwh hp1 (by omega) (sub _ (by omega) q)).mpr (h _ (by omega) q)
  show (fs7 s.A s.dg = 0 ∨ ¬ (daB wh s.sc s.A s.B (fs7 s.A s.dg) (ho wh) (ho wh).toNat = true) ∨ sl wh (tl wh (fs7 s.A s.dg) s.A 0) = s.B 0) ↔ (foV wh r = 0 ∨ ¬ (feB wh r (foV wh r) (ho wh).toNat = true) ∨ sl wh (atV wh (foV wh r) r.A 0) = stV wh r 0)
  rw [fo, key, tl_at hwh, g.1.2.1, st]
end
