/-! ===== numbers: the class's answer is the reference's ===== -/
theorem qv_rcp {wh : Nat} (hwh : wh < 7) (a : Int) : qv wh 1 (a % pr wh) = rcp wh a := by
  unfold qv rcp
  by_cases h : a % pr wh = 0
  · rw [if_pos h, if_pos h]
  · rw [if_neg h, if_neg h, Int.one_mul]
    have h1 := iv_rg (v := a % pr wh) hwh
    exact Int.emod_eq_of_lt h1.1 h1.2
theorem n_pow_mod (a p : Int) (k : Nat) : (a % p) ^ k % p = a ^ k % p := by
  induction k with
  | zero => rw [Int.pow_zero, Int.pow_zero]
  | succ k ih => rw [Int.pow_succ, Int.pow_succ, Int.mul_emod, ih, Int.emod_emod_of_dvd _ (Int.dvd_refl p), ← Int.mul_emod]
theorem n_per {wh : Nat} (hwh : wh < 7) {v : Int} (h1 : 1 ≤ v) (h2 : v < pr wh) (m k : Nat) : v ^ (m + (pr wh - 1).toNat * k) % pr wh = v ^ m % pr wh := by
  induction k with
  | zero => rfl
  | succ k ih =>
    have e : m + (pr wh - 1).toNat * (k + 1) = (m + (pr wh - 1).toNat * k) + (pr wh - 1).toNat := by rw [Nat.mul_succ, Nat.add_assoc]
    rw [e, Int.pow_add, Int.mul_emod, fermatI hwh h1 h2, Int.mul_one, Int.emod_emod_of_dvd _ (Int.dvd_refl _), ih]
theorem n_exp {wh : Nat} (hwh : wh < 7) {v e : Int} (h1 : 1 ≤ v) (h2 : v < pr wh) (he : 0 ≤ e) : v ^ e.toNat % pr wh = v ^ (e % (pr wh - 1)).toNat % pr wh := by
  have hp := pr_rg wh hwh
  have hq : 0 ≤ e / (pr wh - 1) := Int.ediv_nonneg he (by omega)
  have hr : 0 ≤ e % (pr wh - 1) := Int.emod_nonneg _ (by omega)
  have hx : e.toNat = (e % (pr wh - 1)).toNat + (pr wh - 1).toNat * (e / (pr wh - 1)).toNat := by
    apply Int.ofNat.inj
    show (e.toNat : Int) = (((e % (pr wh - 1)).toNat + (pr wh - 1).toNat * (e / (pr wh - 1)).toNat : Nat) : Int)
    rw [Int.natCast_add, Int.natCast_mul, Int.toNat_of_nonneg he, Int.toNat_of_nonneg hr, Int.toNat_of_nonneg hq, Int.toNat_of_nonneg (by omega)]
    exact (Int.emod_add_mul_ediv e (pr wh - 1)).symm
  rw [hx]
  exact n_per hwh h1 h2 _ _
theorem pw_eq {wh : Nat} (hwh : wh < 7) (a e : Int) : pwV wh a e = pwR wh a e := by
  have hp := pr_rg wh hwh
  have hv0 : 0 ≤ a % pr wh := Int.emod_nonneg _ (by omega)
  have hv1 : a % pr wh < pr wh := Int.emod_lt_of_pos _ (by omega)
  unfold pwV pwR
  generalize a % pr wh = v at hv0 hv1
  by_cases h0 : v = 0
  · subst h0
    by_cases he : 0 ≤ e
    · rw [if_pos he, if_pos rfl, if_neg (by omega)]
      by_cases h1 : e = 0
      · subst h1
        rw [b01_t rfl]
        show (1 : Int) % pr wh = 1
        exact Int.emod_eq_of_lt (by omega) (by omega)
      · rw [b01_f h1]
        obtain ⟨k, hk⟩ : ∃ k, e.toNat = k + 1 := ⟨e.toNat - 1, by omega⟩
        unfold e_pw
        rw [hk, Int.pow_succ, Int.mul_zero, Int.zero_emod]
    · rw [if_neg he, if_pos rfl, if_pos rfl, if_pos (by omega)]
  · have h1 : 1 ≤ v := by omega
    by_cases he : 0 ≤ e
    · rw [if_pos he, if_neg h0]
      exact n_exp hwh h1 hv1 he
    · rw [if_neg he, if_neg h0, if_neg h0]
      have hq : qv wh 1 v = iv wh v := by
        unfold qv
        rw [if_neg h0, Int.one_mul]
        have h3 := iv_rg (v := v) hwh
        exact Int.emod_eq_of_lt h3.1 h3.2
      rw [hq]
      unfold iv e_pw
      rw [n_pow_mod, ← Int.pow_mul]
      have hE : 0 ≤ (pr wh - 2) * (-e) := Int.mul_nonneg (by omega) (by omega)
      have hx : (pr wh - 2).toNat * (-e).toNat = ((pr wh - 2) * (-e)).toNat := by
        apply Int.ofNat.inj
        show (((pr wh - 2).toNat * (-e).toNat : Nat) : Int) = (((pr wh - 2) * (-e)).toNat : Int)
        rw [Int.natCast_mul, Int.toNat_of_nonneg hE, Int.toNat_of_nonneg (by omega), Int.toNat_of_nonneg (by omega)]
      rw [hx, n_exp hwh h1 hv1 hE]
      have hm : (pr wh - 2) * (-e) % (pr wh - 1) = e % (pr wh - 1) := by
        have e9 : (pr wh - 2) * (-e) = e + (pr wh - 1) * (-e) := by
          have e8 : pr wh - 2 = (pr wh - 1) - 1 := by omega
          rw [e8, Int.sub_mul, Int.one_mul]; omega
        rw [e9, Int.add_mul_emod_self_left]
      rw [hm]
/-! ===== a polynomial mod a prime that is 0 at as many places as it has coefficients is 0 ===== -/
def q_ev : Nat → (Nat → Int) → Int → Int
  | 0, _, _ => 0
  | n + 1, f, x => f 0 + x * q_ev n (fun k => f (k + 1)) x
def q_dv (h : Int) : Nat → (Nat → Int) → Nat → Int
  | 0, _ => fun _ => 0
  | n + 1, f => fun k => match k with
    | 0 => q_ev (n + 1) (fun k => f (k + 1)) h
    | k + 1 => q_dv h n (fun k => f (k + 1)) k
theorem q_div (h x : Int) : ∀ (n : Nat) (f : Nat → Int), q_ev (n + 1) f x - q_ev (n + 1) f h = (x - h) * q_ev n (q_dv h n f) x := by
  intro n
  induction n with
  | zero => intro f; show f 0 + x * 0 - (f 0 + h * 0) = (x - h) * 0; rw [Int.mul_zero, Int.mul_zero, Int.mul_zero]; omega
  | succ n ih =>
    intro f
    have e := ih (fun k => f (k + 1))
    show f 0 + x * q_ev (n + 1) (fun k => f (k + 1)) x - (f 0 + h * q_ev (n + 1) (fun k => f (k + 1)) h) = (x - h) * (q_ev (n + 1) (fun k => f (k + 1)) h + x * q_ev n (q_dv h n (fun k => f (k + 1))) x)
    generalize q_ev (n + 1) (fun k => f (k + 1)) x = a at e ⊢
    generalize q_ev (n + 1) (fun k => f (k + 1)) h = b at e ⊢
    generalize q_ev n (q_dv h n (fun k => f (k + 1))) x = d at e ⊢
    have e2 : a = b + (x - h) * d := by omega
    rw [e2, Int.mul_add x b, Int.mul_add (x - h) b, Int.mul_left_comm x (x - h) d, Int.sub_mul x h b]
    omega
theorem q_back (p h : Int) : ∀ (n : Nat) (f : Nat → Int), p ∣ q_ev (n + 1) f h → (∀ k, k < n → p ∣ q_dv h n f k) → ∀ k, k < n + 1 → p ∣ f k := by
  intro n
  induction n with
  | zero =>
    intro f h0 _ k hk
    have e : q_ev 1 f h = f 0 := by show f 0 + h * 0 = f 0; rw [Int.mul_zero]; omega
    rw [e] at h0
    rw [show k = 0 by omega]
    exact h0
  | succ n ih =>
    intro f h0 hz
    have g0 : p ∣ q_ev (n + 1) (fun k => f (k + 1)) h := hz 0 (by omega)
    have g1 := ih (fun k => f (k + 1)) g0 (fun k hk => hz (k + 1) (by omega))
    intro k hk
    match k with
    | 0 =>
      have e : f 0 = q_ev (n + 2) f h - h * q_ev (n + 1) (fun k => f (k + 1)) h := by
        show f 0 = f 0 + h * q_ev (n + 1) (fun k => f (k + 1)) h - h * q_ev (n + 1) (fun k => f (k + 1)) h
        omega
      rw [e]
      exact Int.dvd_sub h0 (Int.dvd_trans g0 (Int.dvd_mul_left _ _))
    | k + 1 => exact g1 k (by omega)
/-- how many of the holders 1 to M are in the set -/
def q_cn (set : Int) : Nat → Nat
  | 0 => 0
  | k + 1 => if hs set ((k : Int) + 1) then q_cn set k + 1 else q_cn set k
theorem q_pm {wh : Nat} (hwh : wh < 7) {a b : Int} (h : pr wh ∣ a * b) : pr wh ∣ a ∨ pr wh ∣ b := by
  have hp := pr_rg wh hwh
  have hP := prP wh hwh
  have e : ((pr wh).toNat : Int) = pr wh := Int.toNat_of_nonneg (by omega)
  have h1 : (pr wh).toNat ∣ a.natAbs * b.natAbs := by
    rw [← Int.natAbs_mul]
    have h2 := Int.natAbs_dvd_natAbs.mpr h
    rw [show (pr wh).natAbs = (pr wh).toNat by omega] at h2
    exact h2
  rcases isP_mul hP h1 with h3 | h3
  · left
    have h4 : (pr wh).natAbs ∣ a.natAbs := by rw [show (pr wh).natAbs = (pr wh).toNat by omega]; exact h3
    exact Int.natAbs_dvd_natAbs.mp h4
  · right
    have h4 : (pr wh).natAbs ∣ b.natAbs := by rw [show (pr wh).natAbs = (pr wh).toNat by omega]; exact h3
    exact Int.natAbs_dvd_natAbs.mp h4
theorem q_uniq {wh : Nat} (hwh : wh < 7) (set : Int) : ∀ (M : Nat), (M : Int) < pr wh → ∀ f : Nat → Int, (∀ j, j < M → hs set ((j : Int) + 1) → pr wh ∣ q_ev (q_cn set M) f ((j : Int) + 1)) → ∀ k, k < q_cn set M → pr wh ∣ f k := by
  intro M
  induction M with
  | zero => intro _ f _ k hk; exact absurd hk (Nat.not_lt_zero _)
  | succ M ih =>
    intro hM f hz
    by_cases hc : hs set ((M : Int) + 1)
    · have e : q_cn set (M + 1) = q_cn set M + 1 := if_pos hc
      rw [e] at hz ⊢
      have h0 := hz M (by omega) hc
      refine q_back (pr wh) ((M : Int) + 1) _ f h0 (ih (by omega) _ (fun j hj hs1 => ?_))
      have h1 := hz j (by omega) hs1
      have h2 := Int.dvd_sub h1 h0
      rw [q_div] at h2
      rcases q_pm hwh h2 with h3 | h3
      · exfalso
        obtain ⟨c, hc3⟩ := h3
        have h4 : (j : Int) + 1 - ((M : Int) + 1) < 0 := by omega
        have h5 : -(pr wh) < (j : Int) + 1 - ((M : Int) + 1) := by omega
        have h6 : c < 0 := by
          rcases Int.lt_or_le c 0 with q | q
          · exact q
          · have := Int.mul_nonneg (show 0 ≤ pr wh by omega) q; omega
        have h7 : pr wh * c ≤ pr wh * (-1) := Int.mul_le_mul_of_nonneg_left (by omega) (by omega)
        omega
      · exact h3
    · have e : q_cn set (M + 1) = q_cn set M := if_neg hc
      rw [e] at hz ⊢
      exact ih (by omega) f (fun j hj h1 => hz j (by omega) h1)
/-! ===== Horner's steps, and the factors x - o, as values of polynomials ===== -/
theorem q_hv (p x : Int) (P : Int → Int) (N : Int) : ∀ j : Nat, hv p x P N j % p = q_ev j (fun k => P (N - (j : Int) + (k : Int))) x % p := by
  intro j
  induction j with
  | zero => rfl
  | succ j ih =>
    show (hv p x P N j * x + P (N - 1 - (j : Int))) % p % p = (P (N - ((j + 1 : Nat) : Int) + ((0 : Nat) : Int)) + x * q_ev j (fun k => P (N - ((j + 1 : Nat) : Int) + ((k + 1 : Nat) : Int))) x) % p
    have e : (fun k : Nat => P (N - ((j + 1 : Nat) : Int) + ((k + 1 : Nat) : Int))) = fun k : Nat => P (N - (j : Int) + (k : Int)) := by
      funext k
      congr 1
      omega
    have e0 : N - ((j + 1 : Nat) : Int) + ((0 : Nat) : Int) = N - 1 - (j : Int) := by omega
    have h : hv p x P N j * x % p = q_ev j (fun k => P (N - (j : Int) + (k : Int))) x * x % p := by rw [Int.mul_emod, ih, ← Int.mul_emod]
    rw [e, e0, Int.emod_emod_of_dvd _ (Int.dvd_refl p), Int.add_emod, h, ← Int.add_emod, Int.mul_comm _ x, Int.add_comm]
theorem q_congr {f g : Nat → Int} : ∀ {n : Nat}, (∀ k, k < n → f k = g k) → ∀ x, q_ev n f x = q_ev n g x := by
  intro n
  induction n generalizing f g with
  | zero => intro _ x; rfl
  | succ n ih =>
    intro h x
    show f 0 + x * q_ev n (fun k => f (k + 1)) x = g 0 + x * q_ev n (fun k => g (k + 1)) x
    rw [h 0 (by omega), ih (f := fun k => f (k + 1)) (g := fun k => g (k + 1)) (fun k hk => h (k + 1) (by omega)) x]
theorem q_cgm {p : Int} {f g : Nat → Int} : ∀ {n : Nat}, (∀ k, k < n → f k % p = g k % p) → ∀ x, q_ev n f x % p = q_ev n g x % p := by
  intro n
  induction n generalizing f g with
  | zero => intro _ x; rfl
  | succ n ih =>
    intro h x
    show (f 0 + x * q_ev n (fun k => f (k + 1)) x) % p = (g 0 + x * q_ev n (fun k => g (k + 1)) x) % p
    rw [Int.add_emod, h 0 (by omega), Int.mul_emod, ih (f := fun k => f (k + 1)) (g := fun k => g (k + 1)) (fun k hk => h (k + 1) (by omega)) x, ← Int.mul_emod, ← Int.add_emod]
theorem q_last (x : Int) : ∀ (n : Nat) (f : Nat → Int), q_ev (n + 1) f x = q_ev n f x + f n * x ^ n := by
  intro n
  induction n with
  | zero => intro f; show f 0 + x * 0 = 0 + f 0 * x ^ 0; rw [Int.pow_zero, Int.mul_zero]; omega
  | succ n ih =>
    intro f
    show f 0 + x * q_ev (n + 1) (fun k => f (k + 1)) x = f 0 + x * q_ev n (fun k => f (k + 1)) x + f (n + 1) * x ^ (n + 1)
    rw [ih (fun k => f (k + 1)), Int.mul_add, Int.pow_succ, Int.mul_left_comm x (f (n + 1)) (x ^ n), Int.mul_comm x (x ^ n)]
    omega
theorem q_more {p : Int} {f : Nat → Int} {n : Nat} (m : Nat) (h : ∀ k, n ≤ k → f k = 0) (x : Int) : q_ev (n + m) f x = q_ev n f x := by
  induction m with
  | zero => rfl
  | succ m ih => rw [← Nat.add_assoc, q_last, ih, h _ (by omega), Int.zero_mul, Int.add_zero]
theorem q_lin (o x : Int) : ∀ (n : Nat) (f g : Nat → Int), q_ev n (fun k => f k + o * g k) x = q_ev n f x + o * q_ev n g x := by
  intro n
  induction n with
  | zero => intro f g; show (0 : Int) = 0 + o * 0; rw [Int.mul_zero]; omega
  | succ n ih =>
    intro f g
    show f 0 + o * g 0 + x * q_ev n (fun k => f (k + 1) + o * g (k + 1)) x = f 0 + x * q_ev n (fun k => f (k + 1)) x + o * (g 0 + x * q_ev n (fun k => g (k + 1)) x)
    rw [ih (fun k => f (k + 1)) (fun k => g (k + 1)), Int.mul_add, Int.mul_add, Int.mul_left_comm x o]
    omega
theorem q_tms {p o x : Int} {t : Int → Int} {n : Nat} (h : t (n : Int) % p = 0) : q_ev (n + 1) (fun k => tmS p o t (k : Int)) x % p = (x - o) * q_ev n (fun k => t (k : Int)) x % p := by
  have h1 : q_ev (n + 1) (fun k => tmS p o t (k : Int)) x % p = q_ev (n + 1) (fun k => (if 0 < (k : Int) then t ((k : Int) - 1) else 0) + (-o) * t (k : Int)) x % p := by
    refine q_cgm (fun k _ => ?_) x
    show ((if 0 < (k : Int) then t ((k : Int) - 1) else 0) - o * t (k : Int)) % p % p = _
    rw [Int.emod_emod_of_dvd _ (Int.dvd_refl p), Int.neg_mul, Int.sub_eq_add_neg]
  have h2 : q_ev (n + 1) (fun k : Nat => if 0 < (k : Int) then t ((k : Int) - 1) else 0) x = x * q_ev n (fun k => t (k : Int)) x := by
    show (if 0 < ((0 : Nat) : Int) then t (((0 : Nat) : Int) - 1) else 0) + x * q_ev n (fun k : Nat => if 0 < ((k + 1 : Nat) : Int) then t (((k + 1 : Nat) : Int) - 1) else 0) x = _
    rw [if_neg (by omega), q_congr (g := fun k : Nat => t (k : Int)) (fun k _ => by rw [if_pos (by omega)]; congr 1; omega) x]
    omega
  rw [h1, q_lin, h2, q_last]
  have h3 : (x * q_ev n (fun k => t (k : Int)) x + -o * (q_ev n (fun k => t (k : Int)) x + t (n : Int) * x ^ n)) = (x - o) * q_ev n (fun k => t (k : Int)) x + t (n : Int) * (-o * x ^ n) := by
    rw [Int.mul_add, Int.sub_mul, Int.neg_mul, Int.mul_left_comm (-o)]
    omega
  rw [h3, Int.add_emod, Int.mul_emod (t (n : Int)), h, Int.zero_mul, Int.zero_emod, Int.add_zero, Int.emod_emod_of_dvd _ (Int.dvd_refl p)]
