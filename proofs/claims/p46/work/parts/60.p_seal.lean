/-! ===== seals: powers of the base mod the great prime ===== -/
theorem bs_ordN : ∀ wh, wh < 7 → (bs wh).toNat ^ (pr wh).toNat % (gr wh).toNat = 1 := wh_cases (by decide +kernel) (by decide +kernel) (by decide +kernel) (by decide +kernel) (by decide +kernel) (by decide +kernel) (by decide +kernel)
theorem bs_rg9 : ∀ wh, wh < 7 → 2 ≤ bs wh ∧ bs wh < gr wh := wh_cases (by decide) (by decide) (by decide) (by decide) (by decide) (by decide) (by decide)
theorem gr_fac : ∀ wh, wh < 7 → (gr wh - 1) % pr wh = 0 := wh_cases (by decide) (by decide) (by decide) (by decide) (by decide) (by decide) (by decide)
theorem bs_ord {wh : Nat} (hwh : wh < 7) : cg (gr wh) (bs wh ^ (pr wh).toNat) 1 := by
  have hb := bs_rg9 wh hwh
  have hg := gr_rg wh hwh
  have h := bs_ordN wh hwh
  obtain ⟨b, hb9⟩ : ∃ b : Nat, bs wh = (b : Int) := ⟨(bs wh).toNat, by omega⟩
  obtain ⟨q, hq9⟩ : ∃ q : Nat, gr wh = (q : Int) := ⟨(gr wh).toNat, by omega⟩
  rw [hb9, hq9, Int.toNat_natCast, Int.toNat_natCast] at h
  rw [hq9] at hg
  rw [hb9, hq9]
  show (b : Int) ^ (pr wh).toNat % (q : Int) = 1 % (q : Int)
  rw [Int.emod_eq_of_lt (by omega) (by omega : (1 : Int) < (q : Int))]
  exact_mod_cast h
theorem bs_per {wh : Nat} (hwh : wh < 7) (m k : Nat) : cg (gr wh) (bs wh ^ (m + (pr wh).toNat * k)) (bs wh ^ m) := by
  induction k with
  | zero => exact cg_r
  | succ k ih =>
    rw [show m + (pr wh).toNat * (k + 1) = (m + (pr wh).toNat * k) + (pr wh).toNat by rw [Nat.mul_succ, Nat.add_assoc], Int.pow_add]
    refine cg_t (cg_m ih (bs_ord hwh)) ?_
    rw [Int.mul_one]; exact cg_r
theorem sl_bs {wh : Nat} (v : Int) : cg (gr wh) (sl wh v) (bs wh ^ (v % pr wh).toNat) := cg_e
theorem sl_pw {wh : Nat} (hwh : wh < 7) {e : Int} (he : 0 ≤ e) : cg (gr wh) (bs wh ^ e.toNat) (sl wh e) := by
  have hp := pr_rg wh hwh
  have hq : 0 ≤ e / pr wh := Int.ediv_nonneg he (by omega)
  have hr : 0 ≤ e % pr wh := Int.emod_nonneg _ (by omega)
  have hx : e.toNat = (e % pr wh).toNat + (pr wh).toNat * (e / pr wh).toNat := by
    apply Int.ofNat.inj
    show (e.toNat : Int) = (((e % pr wh).toNat + (pr wh).toNat * (e / pr wh).toNat : Nat) : Int)
    rw [Int.natCast_add, Int.natCast_mul, Int.toNat_of_nonneg he, Int.toNat_of_nonneg hr, Int.toNat_of_nonneg hq, Int.toNat_of_nonneg (by omega)]
    exact (Int.emod_add_mul_ediv e (pr wh)).symm
  rw [hx]
  exact cg_t (bs_per hwh _ _) (cg_s (sl_bs e))
theorem sl_eq {wh : Nat} {a b : Int} (h : cg (pr wh) a b) : sl wh a = sl wh b := by
  have e : a % pr wh = b % pr wh := h
  unfold sl
  rw [e]
theorem sl_add {wh : Nat} (hwh : wh < 7) (a b : Int) : sl wh (a + b) = sl wh a * sl wh b % gr wh := by
  have h1 := emod_rg a hwh
  have h2 := emod_rg b hwh
  refine cg_lt ?_ (sl_rg hwh)
  rw [sl_eq (cg_a (cg_s (cg_e (p := pr wh) (a := a))) (cg_s (cg_e (p := pr wh) (a := b))))]
  refine cg_t (cg_s (sl_pw hwh (by omega))) ?_
  rw [show (a % pr wh + b % pr wh).toNat = (a % pr wh).toNat + (b % pr wh).toNat by omega, Int.pow_add]
  exact cg_m (cg_s (sl_bs a)) (cg_s (sl_bs b))
theorem sl_0 {wh : Nat} (hwh : wh < 7) : sl wh 0 = 1 := by
  have hg := gr_rg wh hwh
  unfold sl e_pw
  rw [Int.zero_emod, show (0 : Int).toNat = 0 from rfl, Int.pow_zero]
  exact Int.emod_eq_of_lt (by omega) (by omega)
theorem sl_1 {wh : Nat} (hwh : wh < 7) : sl wh 1 = bs wh := by
  have hp := pr_rg wh hwh
  have hb := bs_rg9 wh hwh
  unfold sl e_pw
  rw [show (1 : Int) % pr wh = 1 from Int.emod_eq_of_lt (by omega) (by omega), show (1 : Int).toNat = 0 + 1 from rfl, Int.pow_succ, Int.pow_zero, Int.one_mul]
  exact Int.emod_eq_of_lt (by omega) (by omega)
theorem sl_mp {wh : Nat} (hwh : wh < 7) (a : Int) (k : Nat) : e_pw (sl wh a) k (gr wh) = sl wh (a * (k : Int)) := by
  have hg := gr_rg wh hwh
  induction k with
  | zero =>
    show sl wh a ^ 0 % gr wh = sl wh (a * 0)
    rw [Int.pow_zero, Int.mul_zero, sl_0 hwh]
    exact Int.emod_eq_of_lt (by omega) (by omega)
  | succ k ih =>
    rw [show a * ((k + 1 : Nat) : Int) = a * (k : Int) + a by rw [Int.natCast_add, Int.mul_add]; show a * (k : Int) + a * 1 = _; rw [Int.mul_one], sl_add hwh, ← ih]
    show sl wh a ^ (k + 1) % gr wh = sl wh a ^ k % gr wh * sl wh a % gr wh
    rw [Int.pow_succ, emod_mul_l]
theorem ivq_sl {wh : Nat} (hwh : wh < 7) (v : Int) : ivq wh (sl wh v) = sl wh (-v) := by
  have hg := gr_rg wh hwh
  unfold ivq
  rw [sl_mp hwh, Int.toNat_of_nonneg (by omega)]
  refine sl_eq (cg_i ?_)
  have h1 : v * (gr wh - 2) - -v = v * (gr wh - 1) := by
    rw [Int.mul_sub, Int.mul_sub, Int.mul_one]
    omega
  rw [h1]
  exact Int.dvd_trans (Int.dvd_of_emod_eq_zero (gr_fac wh hwh)) (Int.dvd_mul_left _ _)
theorem sl_d1 {wh : Nat} (hwh : wh < 7) {d : Int} (h1 : 1 ≤ d) (h2 : d < pr wh) (h : sl wh d = 1) : False := by
  have hg := gr_rg wh hwh
  have hp := pr_rg wh hwh
  have hb := bs_rg9 wh hwh
  have i := iv_rg (v := d) hwh
  have e := sl_mp hwh d (iv wh d).toNat
  rw [h, Int.toNat_of_nonneg i.1] at e
  have e1 : e_pw 1 (iv wh d).toNat (gr wh) = 1 := by
    unfold e_pw
    rw [Int.one_pow]
    exact Int.emod_eq_of_lt (by omega) (by omega)
  have e2 : sl wh (d * iv wh d) = bs wh := by
    rw [← sl_1 hwh]
    refine sl_eq ?_
    show d * iv wh d % pr wh = 1 % pr wh
    rw [Int.mul_comm, iv_mul hwh h1 h2]
    exact (Int.emod_eq_of_lt (by omega) (by omega)).symm
  rw [e1, e2] at e
  omega
theorem sl_lt {wh : Nat} (hwh : wh < 7) {a b : Int} (ha : 0 ≤ a) (hb : b < pr wh) (hab : a < b) (h : sl wh a = sl wh b) : False := by
  refine sl_d1 hwh (d := b + -a) (by omega) (by omega) ?_
  rw [sl_add hwh, ← h, ← sl_add hwh, Int.add_right_neg, sl_0 hwh]
theorem sl_inj {wh : Nat} (hwh : wh < 7) {a b : Int} (ha : 0 ≤ a ∧ a < pr wh) (hb : 0 ≤ b ∧ b < pr wh) (h : sl wh a = sl wh b) : a = b := by
  rcases Int.lt_trichotomy a b with q | q | q
  · exact absurd h (fun h => sl_lt hwh ha.1 hb.2 q h)
  · exact q
  · exact absurd h.symm (fun h => sl_lt hwh hb.1 ha.2 q h)
theorem dfK_sl {wh : Nat} (hwh : wh < 7) {B E : Int → Int} {h : Int} (hh : 0 ≤ h) : ∀ k : Nat, (∀ j : Int, 0 ≤ j → j < (k : Int) → B j = sl wh (E j)) → dfK (gr wh) B h k = sl wh (q_ev k (fun j : Nat => E (j : Int)) h) := by
  intro k
  induction k with
  | zero => intro _; exact (sl_0 hwh).symm
  | succ k ih =>
    intro H
    have e : dfK (gr wh) B h (k + 1) = dfK (gr wh) B h k * e_pw (B (k : Int)) (h ^ k).toNat (gr wh) % gr wh := rfl
    rw [e, ih (fun j a b => H j a (by omega)), H (k : Int) (by omega) (by omega), sl_mp hwh, q_last, sl_add hwh, Int.toNat_of_nonneg (Int.pow_nonneg hh)]
