/-! ===== ways: how many polynomials pass ===== -/
theorem pbK_su (p : Int) (k : Nat) : pbK p (k + 1) = if pbK p k ≤ 125 then pbK p k * p else pbK p k := rfl
theorem pbK_1 {p : Int} (hp : 1 ≤ p) : ∀ k : Nat, 1 ≤ pbK p k := by
  intro k
  induction k with
  | zero => exact Int.le_refl _
  | succ k ih =>
    rw [pbK_su]
    split
    · have := Int.mul_le_mul_of_nonneg_left hp (show 0 ≤ pbK p k by omega)
      omega
    · exact ih
theorem pbK_le {p : Int} (hp : 1 ≤ p) (j : Nat) : ∀ k : Nat, pbK p j ≤ pbK p (j + k) := by
  intro k
  induction k with
  | zero => exact Int.le_refl _
  | succ k ih =>
    have h1 := pbK_1 hp (j + k)
    rw [← Nat.add_assoc, pbK_su]
    split
    · have := Int.mul_le_mul_of_nonneg_left hp (show 0 ≤ pbK p (j + k) by omega)
      omega
    · exact ih
theorem pbK_pow {p : Int} (hp : 1 ≤ p) {d : Nat} (h : pbK p d ≤ 125) : ∀ k : Nat, k ≤ d → pbK p k = p ^ k := by
  intro k
  induction k with
  | zero => intro _; rw [Int.pow_zero]; rfl
  | succ k ih =>
    intro hk
    have h1 := pbK_le hp k (d - k)
    rw [show k + (d - k) = d by omega] at h1
    rw [pbK_su, if_pos (by omega), ih (by omega), Int.pow_succ]
theorem lfD_sh (p m : Int) : ∀ k : Nat, lfD p m (k + 1) = lfD p (m / p) k := by
  intro k
  induction k with
  | zero => rfl
  | succ k ih =>
    show lfD p m (k + 1) / p = lfD p (m / p) k / p
    rw [ih]
theorem lfD_dig {p : Int} (hp : 0 < p) : ∀ (n : Nat) (q : Nat → Int) (hi : Int) (k : Nat), (∀ j, j < n → 0 ≤ q j ∧ q j < p) → lfD p (q_ev n q p + p ^ n * hi) k % p = if k < n then q k else lfD p hi (k - n) % p := by
  intro n
  induction n with
  | zero =>
    intro q hi k _
    rw [if_neg (Nat.not_lt_zero _), Nat.sub_zero]
    show lfD p (0 + p ^ 0 * hi) k % p = _
    rw [Int.pow_zero, Int.one_mul, Int.zero_add]
  | succ n ih =>
    intro q hi k hq
    have e : q_ev (n + 1) q p + p ^ (n + 1) * hi = q 0 + p * (q_ev n (fun k => q (k + 1)) p + p ^ n * hi) := by
      show q 0 + p * q_ev n (fun k => q (k + 1)) p + p ^ (n + 1) * hi = _
      rw [Int.mul_add, Int.pow_succ, Int.mul_comm (p ^ n) p, Int.mul_assoc]
      omega
    have h0 := hq 0 (by omega)
    rw [e]
    match k with
    | 0 =>
      rw [if_pos (by omega)]
      show (q 0 + p * (q_ev n (fun k => q (k + 1)) p + p ^ n * hi)) % p = q 0
      rw [Int.add_mul_emod_self_left]
      exact Int.emod_eq_of_lt h0.1 h0.2
    | k + 1 =>
      rw [lfD_sh, Int.add_mul_ediv_left _ _ (by omega), Int.ediv_eq_zero_of_lt h0.1 h0.2, Int.zero_add, ih _ hi k (fun j hj => hq (j + 1) (by omega))]
      by_cases c : k < n
      · rw [if_pos c, if_pos (by omega)]
      · rw [if_neg c, if_neg (by omega), show k + 1 - (n + 1) = k - n by omega]
theorem lfD_back {p : Int} (hp : 0 < p) : ∀ (d : Nat) (m : Int), 0 ≤ m → m < p ^ d → q_ev d (fun k => lfD p m k % p) p = m := by
  intro d
  induction d with
  | zero => intro m h0 h1; rw [Int.pow_zero] at h1; show (0 : Int) = m; omega
  | succ d ih =>
    intro m h0 h1
    show m % p + p * q_ev d (fun k => lfD p m (k + 1) % p) p = m
    have e : (fun k => lfD p m (k + 1) % p) = fun k => lfD p (m / p) k % p := by funext k; rw [lfD_sh]
    rw [e, ih (m / p) (Int.ediv_nonneg h0 (by omega)) (Int.ediv_lt_of_lt_mul hp (by rw [Int.pow_succ] at h1; exact h1))]
    exact Int.emod_add_mul_ediv m p
theorem q_ev_lt {p : Int} (hp : 0 < p) : ∀ (n : Nat) (q : Nat → Int), (∀ j, j < n → 0 ≤ q j ∧ q j < p) → 0 ≤ q_ev n q p ∧ q_ev n q p < p ^ n := by
  intro n
  induction n with
  | zero => intro q _; exact ⟨Int.le_refl _, by rw [Int.pow_zero]; show (0 : Int) < 1; decide⟩
  | succ n ih =>
    intro q hq
    have h0 := hq 0 (by omega)
    have i := ih (fun k => q (k + 1)) (fun j hj => hq (j + 1) (by omega))
    have h1 := Int.mul_le_mul_of_nonneg_left (show q_ev n (fun k => q (k + 1)) p ≤ p ^ n - 1 by omega) (show 0 ≤ p by omega)
    have h2 := Int.mul_nonneg (show 0 ≤ p by omega) i.1
    rw [Int.mul_sub, Int.mul_one, Int.mul_comm p (p ^ n)] at h1
    have h3 : p ^ (n + 1) = p ^ n * p := by rw [Int.pow_succ]
    show 0 ≤ q 0 + p * q_ev n (fun k => q (k + 1)) p ∧ q 0 + p * q_ev n (fun k => q (k + 1)) p < p ^ (n + 1)
    omega
/-! counting -/
def q_nu (f : Nat → Bool) : Nat → Int
  | 0 => 0
  | m + 1 => q_nu f m + b01 (f m = true)
theorem nu_0 {f : Nat → Bool} {b : Nat} : ∀ L : Nat, (∀ j, j < L → f (b + j) = false) → q_nu f (b + L) = q_nu f b := by
  intro L
  induction L with
  | zero => intro _; rfl
  | succ L ih =>
    intro h
    show q_nu f (b + L) + b01 (f (b + L) = true) = _
    rw [ih (fun j hj => h j (by omega)), b01_f (by rw [h L (by omega)]; decide), Int.add_zero]
theorem nu_1 {f : Nat → Bool} {b L j0 : Nat} (hj : j0 < L) (h1 : f (b + j0) = true) (h2 : ∀ j, j < L → f (b + j) = true → j = j0) : q_nu f (b + L) = q_nu f b + 1 := by
  have ff : ∀ j, j < L → j ≠ j0 → f (b + j) = false := by
    intro j a c
    rcases Bool.eq_false_or_eq_true (f (b + j)) with z | z
    · exact absurd (h2 j a z) c
    · exact z
  have e1 := nu_0 (f := f) (b := b) j0 (fun j a => ff j (by omega) (by omega))
  have e2 : q_nu f (b + j0 + 1) = q_nu f (b + j0) + 1 := by
    show q_nu f (b + j0) + b01 (f (b + j0) = true) = _
    rw [b01_t h1]
  have e3 := nu_0 (f := f) (b := b + j0 + 1) (L - j0 - 1) (fun j a => by
    have := ff (j0 + 1 + j) (by omega) (by omega)
    rw [show b + j0 + 1 + j = b + (j0 + 1 + j) by omega]
    exact this)
  rw [show b + j0 + 1 + (L - j0 - 1) = b + L by omega] at e3
  rw [e3, e2, e1]
theorem wcK_nu (wh : Nat) (r : RD) (num set : Int) : ∀ m : Nat, wcK wh r num set m = q_nu (fun m : Nat => okW wh r (itD (pr wh) num (m : Int)) set (ho wh).toNat) m := by
  intro m
  induction m with
  | zero => rfl
  | succ m ih =>
    show wcK wh r num set m + _ = q_nu _ m + _
    rw [ih]
theorem cn_bc0 : ∀ s : Nat, s < 128 → ((q_cn (s : Int) 7 : Nat) : Int) = bc (s : Int) := by decide +kernel
theorem cn_M0 : ∀ wh, wh < 7 → ∀ s : Nat, s < 128 → (s : Int) ≤ fl wh → q_cn (s : Int) (ho wh).toNat = q_cn (s : Int) 7 := wh_cases (by decide +kernel) (by decide +kernel) (by decide +kernel) (by decide +kernel) (by decide +kernel) (by decide +kernel) (by decide +kernel)
theorem cn_bc {wh : Nat} (hwh : wh < 7) {set : Int} (h1 : 1 ≤ set) (h2 : set ≤ fl wh) : ((q_cn set (ho wh).toNat : Nat) : Int) = bc set := by
  have h3 := (fl_rg9 hwh).1
  obtain ⟨n, rfl⟩ : ∃ n : Nat, set = (n : Int) := ⟨set.toNat, by omega⟩
  rw [cn_M0 wh hwh n (by omega) h2, cn_bc0 n (by omega)]
/-! which numbers m tell a polynomial that passes -/
def okM (wh : Nat) (A : Int → Int) (num set : Int) (d : Nat) (m : Int) : Prop := ∀ j : Nat, j < (ho wh).toNat → hs set ((j : Int) + 1) → cg (pr wh) (num + ((j : Int) + 1) * q_ev d (fun k => lfD (pr wh) m k % pr wh) ((j : Int) + 1)) (A ((j : Int) + 1))
theorem itD_ev {wh : Nat} {num m x : Int} (d : Nat) : cg (pr wh) (hv (pr wh) x (itD (pr wh) num m) ((d + 1 : Nat) : Int) (d + 1)) (num + x * q_ev d (fun k => lfD (pr wh) m k % pr wh) x) := by
  refine cg_t (hv_ev _ _ _ (d + 1) rfl) ?_
  show cg (pr wh) (itD (pr wh) num m ((0 : Nat) : Int) + x * q_ev d (fun k : Nat => itD (pr wh) num m ((k + 1 : Nat) : Int)) x) _
  refine cg_a ?_ (cg_q ?_)
  · show cg (pr wh) (if ((0 : Nat) : Int) = 0 then num % pr wh else _) num
    rw [if_pos (show ((0 : Nat) : Int) = 0 from rfl)]; exact cg_e
  · congr 1
    refine q_congr (fun k _ => ?_) x
    show (if ((k + 1 : Nat) : Int) = 0 then _ else lfD (pr wh) m (((k + 1 : Nat) : Int) - 1).toNat % pr wh) = _
    rw [if_neg (by omega), show (((k + 1 : Nat) : Int) - 1).toNat = k by omega]
theorem okW_all (wh : Nat) (r : RD) (E : Int → Int) (set : Int) : ∀ k : Nat, okW wh r E set k = true ↔ ∀ j : Nat, j < k → hs set ((j : Int) + 1) → hv (pr wh) ((j : Int) + 1) E ((r.dg.toNat + 1 : Nat) : Int) (r.dg.toNat + 1) = r.A ((j : Int) + 1) := by
  intro k
  induction k with
  | zero => exact ⟨fun _ j hj => absurd hj (Nat.not_lt_zero _), fun _ => rfl⟩
  | succ k ih =>
    have e : okW wh r E set (k + 1) = (okW wh r E set k && (!decide (hs set ((k : Int) + 1)) || decide (hv (pr wh) ((k : Int) + 1) E ((r.dg.toNat + 1 : Nat) : Int) (r.dg.toNat + 1) = r.A ((k : Int) + 1)))) := rfl
    rw [e, Bool.and_eq_true, ih, Bool.or_eq_true, Bool.not_eq_true', decide_eq_false_iff_not, decide_eq_true_eq]
    constructor
    · rintro ⟨h1, h2⟩ j hj hs1
      by_cases q : j = k
      · rw [q] at hs1 ⊢
        rcases h2 with h2 | h2
        · exact absurd hs1 h2
        · exact h2
      · exact h1 j (by omega) hs1
    · intro h
      refine ⟨fun j hj => h j (by omega), ?_⟩
      by_cases q : hs set ((k : Int) + 1)
      · exact Or.inr (h k (by omega) q)
      · exact Or.inl q
theorem okW_M {wh : Nat} (hwh : wh < 7) {r : RD} {num set m : Int} (hA : ∀ j : Nat, j < (ho wh).toNat → hs set ((j : Int) + 1) → 0 ≤ r.A ((j : Int) + 1) ∧ r.A ((j : Int) + 1) < pr wh) : okW wh r (itD (pr wh) num m) set (ho wh).toNat = true ↔ okM wh r.A num set r.dg.toNat m := by
  have hp := pr_rg wh hwh
  rw [okW_all]
  constructor
  · intro h j hj q
    exact cg_t (cg_s (itD_ev r.dg.toNat)) (cg_q (h j hj q))
  · intro h j hj q
    exact cg_eq (cg_t (itD_ev r.dg.toNat) (h j hj q)) (hv_rg (by omega) _) (hA j hj q)
theorem q_sub (x : Int) (n : Nat) (f g : Nat → Int) : q_ev n (fun k => f k + (-1) * g k) x = q_ev n f x - q_ev n g x := by
  rw [q_lin, Int.neg_mul, Int.one_mul]; omega
theorem ok_un {wh : Nat} (hwh : wh < 7) {A : Int → Int} {num set hi l1 l2 : Int} {d n9 : Nat} (hn : n9 ≤ q_cn set (ho wh).toNat) (hd : n9 ≤ d) (a1 : 0 ≤ l1 ∧ l1 < pr wh ^ n9) (a2 : 0 ≤ l2 ∧ l2 < pr wh ^ n9) (h1 : okM wh A num set d (l1 + pr wh ^ n9 * hi)) (h2 : okM wh A num set d (l2 + pr wh ^ n9 * hi)) : l1 = l2 := by
  have hp := pr_rg wh hwh
  have hM := pr_M hwh
  have b1 := lfD_back (p := pr wh) (by omega) n9 l1 a1.1 a1.2
  have b2 := lfD_back (p := pr wh) (by omega) n9 l2 a2.1 a2.2
  have D1 : ∀ k : Nat, lfD (pr wh) (l1 + pr wh ^ n9 * hi) k % pr wh = if k < n9 then lfD (pr wh) l1 k % pr wh else lfD (pr wh) hi (k - n9) % pr wh := by
    intro k
    have := lfD_dig (p := pr wh) (by omega) n9 (fun k => lfD (pr wh) l1 k % pr wh) hi k (fun j _ => emod_rg _ hwh)
    rw [b1] at this
    exact this
  have D2 : ∀ k : Nat, lfD (pr wh) (l2 + pr wh ^ n9 * hi) k % pr wh = if k < n9 then lfD (pr wh) l2 k % pr wh else lfD (pr wh) hi (k - n9) % pr wh := by
    intro k
    have := lfD_dig (p := pr wh) (by omega) n9 (fun k => lfD (pr wh) l2 k % pr wh) hi k (fun j _ => emod_rg _ hwh)
    rw [b2] at this
    exact this
  have u := q_uniq hwh set (ho wh).toNat hM.2.2 (fun k => if k < n9 then lfD (pr wh) l1 k % pr wh + (-1) * (lfD (pr wh) l2 k % pr wh) else 0) (fun j hj q => by
    have z : ∀ m : Nat, n9 ≤ m → q_ev m (fun k => if k < n9 then lfD (pr wh) l1 k % pr wh + (-1) * (lfD (pr wh) l2 k % pr wh) else 0) ((j : Int) + 1) = q_ev n9 (fun k => if k < n9 then lfD (pr wh) l1 k % pr wh + (-1) * (lfD (pr wh) l2 k % pr wh) else 0) ((j : Int) + 1) := by
      intro m hm
      have e := q_more (p := 0) (f := fun k => if k < n9 then lfD (pr wh) l1 k % pr wh + (-1) * (lfD (pr wh) l2 k % pr wh) else 0) (n := n9) (m - n9) (fun k hk => if_neg (by omega)) ((j : Int) + 1)
      rw [show n9 + (m - n9) = m by omega] at e
      exact e
    rw [z _ hn, ← z d hd]
    have e1 : q_ev d (fun k => if k < n9 then lfD (pr wh) l1 k % pr wh + (-1) * (lfD (pr wh) l2 k % pr wh) else 0) ((j : Int) + 1) = q_ev d (fun k => lfD (pr wh) (l1 + pr wh ^ n9 * hi) k % pr wh) ((j : Int) + 1) - q_ev d (fun k => lfD (pr wh) (l2 + pr wh ^ n9 * hi) k % pr wh) ((j : Int) + 1) := by
      rw [← q_sub]
      refine q_congr (fun k _ => ?_) _
      show (if k < n9 then lfD (pr wh) l1 k % pr wh + (-1) * (lfD (pr wh) l2 k % pr wh) else 0) = lfD (pr wh) (l1 + pr wh ^ n9 * hi) k % pr wh + (-1) * (lfD (pr wh) (l2 + pr wh ^ n9 * hi) k % pr wh)
      rw [D1, D2]
      by_cases c : k < n9
      · rw [if_pos c, if_pos c, if_pos c]
      · rw [if_neg c, if_neg c, if_neg c, Int.neg_mul, Int.one_mul, Int.add_right_neg]
    rw [e1]
    have c1 := cg_t (h1 j hj q) (cg_s (h2 j hj q))
    have c2 := cg_d c1
    have c3 : (num + ((j : Int) + 1) * q_ev d (fun k => lfD (pr wh) (l1 + pr wh ^ n9 * hi) k % pr wh) ((j : Int) + 1)) - (num + ((j : Int) + 1) * q_ev d (fun k => lfD (pr wh) (l2 + pr wh ^ n9 * hi) k % pr wh) ((j : Int) + 1)) = ((j : Int) + 1) * (q_ev d (fun k => lfD (pr wh) (l1 + pr wh ^ n9 * hi) k % pr wh) ((j : Int) + 1) - q_ev d (fun k => lfD (pr wh) (l2 + pr wh ^ n9 * hi) k % pr wh) ((j : Int) + 1)) := by
      rw [Int.mul_sub]
      omega
    rw [c3] at c2
    rcases q_pm hwh c2 with c4 | c4
    · exact absurd c4 (q_nd (by omega) (by omega) (by omega))
    · exact c4)
  rw [← b1, ← b2]
  refine q_congr (fun k hk => ?_) _
  have v := u k (by omega)
  rw [if_pos hk] at v
  refine cg_eq (cg_i ?_) (emod_rg _ hwh) (emod_rg _ hwh)
  rw [Int.sub_eq_add_neg, ← Int.one_mul (lfD (pr wh) l2 k % pr wh), ← Int.neg_mul]
  exact v
theorem ok_ex {wh : Nat} (hwh : wh < 7) {A : Int → Int} {num set hi : Int} {d : Nat} (hd : q_cn set (ho wh).toNat ≤ d) : ∃ l, (0 ≤ l ∧ l < pr wh ^ q_cn set (ho wh).toNat) ∧ okM wh A num set d (l + pr wh ^ q_cn set (ho wh).toNat * hi) := by
  have hp := pr_rg wh hwh
  have hM := pr_M hwh
  have l1 := q_cn_le set (ho wh).toNat
  obtain ⟨n, hn⟩ : ∃ n, n = q_cn set (ho wh).toNat := ⟨_, rfl⟩
  rw [← hn] at hd l1 ⊢
  obtain ⟨A2, hA2⟩ : ∃ A2 : Int → Int, ∀ h, A2 h = (A h - (num + h * q_ev d (fun k => if k < n then 0 else lfD (pr wh) hi (k - n) % pr wh) h)) * iv wh h := ⟨_, fun _ => rfl⟩
  have z1 := zb_gt (wh := wh) set A2 (ho wh).toNat (Nat.le_refl _)
  rw [← hn] at z1
  have rg : ∀ j : Nat, j < n → 0 ≤ gt wh set A2 (ho wh).toNat (j : Int) ∧ gt wh set A2 (ho wh).toNat (j : Int) < pr wh := fun j _ => gt_rg2 hwh set A2 _ _
  refine ⟨q_ev n (fun k : Nat => gt wh set A2 (ho wh).toNat (k : Int)) (pr wh), q_ev_lt (by omega) n _ rg, fun j hj q => ?_⟩
  have e : q_ev d (fun k => lfD (pr wh) (q_ev n (fun k : Nat => gt wh set A2 (ho wh).toNat (k : Int)) (pr wh) + pr wh ^ n * hi) k % pr wh) ((j : Int) + 1) = q_ev d (fun k => if k < n then 0 else lfD (pr wh) hi (k - n) % pr wh) ((j : Int) + 1) + 1 * q_ev d (fun k : Nat => gt wh set A2 (ho wh).toNat (k : Int)) ((j : Int) + 1) := by
    rw [← q_lin]
    refine q_congr (fun k _ => ?_) _
    show lfD (pr wh) (q_ev n (fun k : Nat => gt wh set A2 (ho wh).toNat (k : Int)) (pr wh) + pr wh ^ n * hi) k % pr wh = (if k < n then 0 else lfD (pr wh) hi (k - n) % pr wh) + 1 * gt wh set A2 (ho wh).toNat (k : Int)
    rw [lfD_dig (by omega) n _ hi k rg, Int.one_mul]
    by_cases c : k < n
    · rw [if_pos c, if_pos c, Int.zero_add]
    · rw [if_neg c, if_neg c, z1 (k : Int) (by omega), Int.add_zero]
  have e8 : q_ev d (fun k : Nat => gt wh set A2 (ho wh).toNat (k : Int)) ((j : Int) + 1) = q_e8 (gt wh set A2 (ho wh).toNat) ((j : Int) + 1) := by
    unfold q_e8
    rw [q_zb z1 (m := d) hd, q_zb z1 (m := 8) (by omega)]
  have h1 := cg_t (gt_ev hwh set A2 ((j : Int) + 1) (ho wh).toNat) (lag_K hwh set A2 (by omega) (by omega) q (ho wh).toNat (by omega))
  rw [if_pos (by omega), hA2] at h1
  rw [e, e8, Int.one_mul]
  generalize q_ev d (fun k => if k < n then 0 else lfD (pr wh) hi (k - n) % pr wh) ((j : Int) + 1) = X at h1 ⊢
  have i1 : cg (pr wh) (iv wh ((j : Int) + 1) * ((j : Int) + 1)) 1 := by
    show _ % _ = 1 % _
    rw [iv_mul hwh (by omega) (by omega)]
    exact (Int.emod_eq_of_lt (by omega) (by omega)).symm
  have h2 := cg_m (cg_r (p := pr wh) (a := (j : Int) + 1)) h1
  have h3 : cg (pr wh) (((j : Int) + 1) * ((A ((j : Int) + 1) - (num + ((j : Int) + 1) * X)) * iv wh ((j : Int) + 1))) (A ((j : Int) + 1) - (num + ((j : Int) + 1) * X)) := by
    rw [Int.mul_comm, Int.mul_assoc]
    refine cg_t (cg_m cg_r i1) ?_
    rw [Int.mul_one]; exact cg_r
  rw [Int.mul_add, ← Int.add_assoc]
  refine cg_t (cg_a cg_r (cg_t h2 h3)) (cg_q ?_)
  omega
theorem hiK_le (P : Int → Int) {d : Int} (hd : -1 ≤ d) : ∀ j : Nat, hiK P j ≤ d ↔ ∀ c : Int, d < c → c < (j : Int) → P c = 0 := by
  intro j
  induction j with
  | zero => exact ⟨fun _ c h1 h2 => by have : ((0 : Nat) : Int) = 0 := rfl; omega, fun _ => hd⟩
  | succ j ih =>
    show (if P (j : Int) ≠ 0 then (j : Int) else hiK P j) ≤ d ↔ _
    by_cases c : P (j : Int) = 0
    · rw [if_neg (fun q => q c), ih]
      constructor
      · intro h k h1 h2
        by_cases e : k = (j : Int)
        · rw [e]; exact c
        · exact h k h1 (by omega)
      · exact fun h k h1 h2 => h k h1 (by omega)
    · rw [if_pos c]
      constructor
      · exact fun h k h1 h2 => by omega
      · intro h
        rcases Int.lt_or_le d (j : Int) with q | q
        · exact absurd (h (j : Int) q (by omega)) c
        · exact q
theorem tl_0 {wh : Nat} (hwh : wh < 7) (set : Int) (A : Int → Int) : tl wh set A 0 = gt wh set A (ho wh).toNat 0 := by
  have h := gt_ev hwh set A 0 (ho wh).toNat
  refine (cg_lt (cg_t (cg_q ?_) h) (gt_rg2 hwh set A 0 _)).symm
  show gt wh set A (ho wh).toNat 0 = gt wh set A (ho wh).toNat ((0 : Nat) : Int) + 0 * q_ev 7 (fun k : Nat => gt wh set A (ho wh).toNat ((k + 1 : Nat) : Int)) 0
  rw [Int.zero_mul, Int.add_zero]; rfl
/-- with more holders than the degree and one, a polynomial passes only if it is that through the set -/
theorem ok_hi {wh : Nat} (hwh : wh < 7) {A : Int → Int} {num set : Int} {d : Nat} (hd : d < q_cn set (ho wh).toNat) : (∃ m, (0 ≤ m ∧ m < pr wh ^ d) ∧ okM wh A num set d m) ↔ (hiK (gt wh set A (ho wh).toNat) 7 ≤ (d : Int) ∧ tl wh set A 0 = num % pr wh) := by
  have hp := pr_rg wh hwh
  have hM := pr_M hwh
  have l1 := q_cn_le set (ho wh).toNat
  have z1 := zb_gt (wh := wh) set A (ho wh).toNat (Nat.le_refl _)
  rw [hiK_le _ (by omega) 7, tl_0 hwh]
  have at1 : ∀ j : Nat, j < (ho wh).toNat → hs set ((j : Int) + 1) → cg (pr wh) (q_e8 (gt wh set A (ho wh).toNat) ((j : Int) + 1)) (A ((j : Int) + 1)) := by
    intro j hj q
    have h1 := cg_t (gt_ev hwh set A ((j : Int) + 1) (ho wh).toNat) (lag_K hwh set A (by omega) (by omega) q (ho wh).toNat (by omega))
    rw [if_pos (by omega)] at h1
    exact h1
  constructor
  · rintro ⟨m, -, h⟩
    obtain ⟨C, hC⟩ : ∃ C : Nat → Int, ∀ k, C k = if k = 0 then num % pr wh else if k ≤ d then lfD (pr wh) m (k - 1) % pr wh else 0 := ⟨_, fun _ => rfl⟩
    have zC : ∀ k, d + 1 ≤ k → C k = 0 := fun k hk => by rw [hC, if_neg (by omega), if_neg (by omega)]
    have u := q_uniq hwh set (ho wh).toNat hM.2.2 (fun k : Nat => gt wh set A (ho wh).toNat (k : Int) + (-1) * C k) (fun j hj q => by
      rw [q_sub]
      have e1 : q_ev (q_cn set (ho wh).toNat) (fun k : Nat => gt wh set A (ho wh).toNat (k : Int)) ((j : Int) + 1) = q_e8 (gt wh set A (ho wh).toNat) ((j : Int) + 1) := (q_zb z1 (m := 8) (by omega) _).symm
      have e2 := q_more (p := 0) (f := C) (n := d + 1) (q_cn set (ho wh).toNat - (d + 1)) zC ((j : Int) + 1)
      rw [show d + 1 + (q_cn set (ho wh).toNat - (d + 1)) = q_cn set (ho wh).toNat by omega] at e2
      have e3 : cg (pr wh) (q_ev (d + 1) C ((j : Int) + 1)) (num + ((j : Int) + 1) * q_ev d (fun k => lfD (pr wh) m k % pr wh) ((j : Int) + 1)) := by
        show cg (pr wh) (C 0 + ((j : Int) + 1) * q_ev d (fun k => C (k + 1)) ((j : Int) + 1)) _
        refine cg_a (by rw [hC, if_pos rfl]; exact cg_e) (cg_q ?_)
        congr 1
        refine q_congr (fun k hk => ?_) _
        show C (k + 1) = _
        rw [hC, if_neg (by omega), if_pos (by omega), Nat.add_sub_cancel]
      have e4 := cg_t e3 (h j hj q)
      have e4' : q_ev (q_cn set (ho wh).toNat) (fun k => C k) ((j : Int) + 1) = q_ev (d + 1) C ((j : Int) + 1) := e2
      rw [e1, e4']
      exact cg_d (cg_t (at1 j hj q) (cg_s e4)))
    have eq : ∀ k : Nat, k < q_cn set (ho wh).toNat → gt wh set A (ho wh).toNat (k : Int) = C k := by
      intro k hk
      have v := u k hk
      have w : gt wh set A (ho wh).toNat (k : Int) - C k = gt wh set A (ho wh).toNat (k : Int) + (-1) * C k := by rw [Int.neg_mul, Int.one_mul]; omega
      refine cg_eq (cg_i (by rw [w]; exact v)) (gt_rg2 hwh set A _ _) ?_
      rw [hC]
      split
      · exact emod_rg _ hwh
      · split
        · exact emod_rg _ hwh
        · exact ⟨Int.le_refl _, by omega⟩
    refine ⟨fun c h1 h2 => ?_, ?_⟩
    · rcases Int.lt_or_le c (q_cn set (ho wh).toNat : Int) with q | q
      · have v := eq c.toNat (by omega)
        rw [show ((c.toNat : Nat) : Int) = c by omega] at v
        rw [v, zC _ (by omega)]
      · exact z1 c q
    · have v := eq 0 (by omega)
      rw [hC, if_pos rfl] at v
      exact v
  · rintro ⟨h1, h2⟩
    have rg : ∀ j : Nat, j < d → 0 ≤ gt wh set A (ho wh).toNat ((j + 1 : Nat) : Int) ∧ gt wh set A (ho wh).toNat ((j + 1 : Nat) : Int) < pr wh := fun j _ => gt_rg2 hwh set A _ _
    refine ⟨q_ev d (fun k : Nat => gt wh set A (ho wh).toNat ((k + 1 : Nat) : Int)) (pr wh), q_ev_lt (by omega) d _ rg, fun j hj q => ?_⟩
    have e : q_ev d (fun k => lfD (pr wh) (q_ev d (fun k : Nat => gt wh set A (ho wh).toNat ((k + 1 : Nat) : Int)) (pr wh)) k % pr wh) ((j : Int) + 1) = q_ev d (fun k : Nat => gt wh set A (ho wh).toNat ((k + 1 : Nat) : Int)) ((j : Int) + 1) := by
      refine q_congr (fun k hk => ?_) _
      have v := lfD_dig (p := pr wh) (by omega) d (fun k : Nat => gt wh set A (ho wh).toNat ((k + 1 : Nat) : Int)) 0 k rg
      rw [Int.mul_zero, Int.add_zero, if_pos hk] at v
      exact v
    rw [e]
    have zd : zb (d + 1) (gt wh set A (ho wh).toNat) := by
      intro c hc
      rcases Int.lt_or_le c 7 with q | q
      · exact h1 c (by omega) q
      · exact z1 c (by omega)
    refine cg_t ?_ (at1 j hj q)
    have e2 : q_e8 (gt wh set A (ho wh).toNat) ((j : Int) + 1) = gt wh set A (ho wh).toNat ((0 : Nat) : Int) + ((j : Int) + 1) * q_ev d (fun k : Nat => gt wh set A (ho wh).toNat ((k + 1 : Nat) : Int)) ((j : Int) + 1) := by
      unfold q_e8
      rw [q_zb zd (m := 8) (by omega)]
      rfl
    rw [e2]
    refine cg_a ?_ cg_r
    show cg (pr wh) num (gt wh set A (ho wh).toNat 0)
    rw [h2]; exact cg_s cg_e
theorem y_ways {wh : Nat} {D : Nat → SD} {R : Nat → RD} (G : GG wh D R) {i a c : Int} (hc : (0 ≤ i ∧ i < 6) ∧ (1 ≤ a ∧ a ≤ fl wh)) : wyV wh (D i.toNat) a c = (if (thQ wh (R i.toNat) a) then waV wh (R i.toNat) c a else -9) := by
  have hwh := G.1
  have g := G.2.2 i.toNat (by omega)
  generalize D i.toNat = s at g
  generalize R i.toNat = r at g
  have hp := pr_rg wh hwh
  have hM := pr_M hwh
  have th := g.th hwh hc.2.1 hc.2.2
  have cnb := cn_bc hwh hc.2.1 hc.2.2
  unfold wyV waV
  by_cases f : thQ wh r a
  · have f1 := th.mpr f
    have dd := g.e.2.2 f.2
    have d2 := g.2.1
    rw [if_pos f]
    by_cases c1 : 125 < pbK (pr wh) r.dg.toNat
    · rw [if_pos c1, if_neg (fun q => by have := q.2; rw [← dd] at this; omega)]
    · rw [if_neg c1, if_pos ⟨f1, by rw [← dd]; omega⟩]
      have pk := pbK_pow (p := pr wh) (by omega) (d := r.dg.toNat) (by omega)
      have hA : ∀ j : Nat, j < (ho wh).toNat → hs a ((j : Int) + 1) → 0 ≤ r.A ((j : Int) + 1) ∧ r.A ((j : Int) + 1) < pr wh := by
        intro j hj q
        have q2 := (thB_all a (st7 r.A) (ho wh).toNat).mp f.1 j hj q
        exact (g.2.2.2.2.1 _).resolve_left ((st7_hs r.A (by omega)).mp q2)
      have ok : ∀ m : Nat, okW wh r (itD (pr wh) c (m : Int)) a (ho wh).toNat = true ↔ okM wh r.A c a r.dg.toNat (m : Int) := fun m => okW_M hwh hA
      obtain ⟨P, hP⟩ : ∃ P : Nat, (P : Int) = pr wh := ⟨(pr wh).toNat, by omega⟩
      have pw : ∀ k : Nat, pr wh ^ k = ((P ^ k : Nat) : Int) := fun k => by rw [← hP, Int.natCast_pow]
      rw [wcK_nu, pk r.dg.toNat (Nat.le_refl _), pw, Int.toNat_natCast]
      by_cases c2 : 0 ≤ s.dg - bc a
      · rw [if_pos c2]
        obtain ⟨n, hn⟩ : ∃ n, n = q_cn a (ho wh).toNat := ⟨_, rfl⟩
        rw [← hn] at cnb
        have hnd : n ≤ r.dg.toNat := by omega
        rw [show (s.dg - bc a).toNat = r.dg.toNat - n by omega, pk _ (by omega), pw]
        have blk : ∀ H : Nat, q_nu (fun m : Nat => okW wh r (itD (pr wh) c (m : Int)) a (ho wh).toNat) (P ^ n * H) = (H : Int) := by
          intro H
          induction H with
          | zero => rfl
          | succ H ih =>
            have cast : ∀ l : Nat, ((P ^ n * H + l : Nat) : Int) = (l : Int) + pr wh ^ n * (H : Int) := by
              intro l
              rw [Int.natCast_add, Int.natCast_mul, ← pw, Int.add_comm]
            obtain ⟨l, hl, hl2⟩ := ok_ex hwh (A := r.A) (num := c) (set := a) (hi := (H : Int)) (d := r.dg.toNat) (by rw [← hn]; exact hnd)
            rw [← hn] at hl hl2
            have hl3 : ((l.toNat : Nat) : Int) = l := by omega
            rw [Nat.mul_succ, nu_1 (j0 := l.toNat) (by have := hl.2; rw [pw] at this; omega) ((ok _).mpr (by rw [cast, hl3]; exact hl2)) (fun j hj q => by
              have q2 := (ok _).mp q
              rw [cast] at q2
              have := ok_un hwh (n9 := n) (by rw [← hn]; exact Nat.le_refl _) hnd ⟨by omega, by rw [pw]; omega⟩ hl q2 hl2
              omega), ih]
            rfl
        have := blk (P ^ (r.dg.toNat - n))
        rw [← Nat.pow_add, show n + (r.dg.toNat - n) = r.dg.toNat by omega] at this
        exact this.symm
      · rw [if_neg c2]
        have hnd : r.dg.toNat < q_cn a (ho wh).toNat := by omega
        have hdd : (r.dg.toNat : Int) = s.dg := by omega
        have hil : il wh a s.A s.fl s.dg ↔ hiK (gt wh a r.A (ho wh).toNat) 7 ≤ (r.dg.toNat : Int) := by
          show (s.fl = 1 ∧ hiK (gt wh a s.A (ho wh).toNat) 7 ≤ s.dg) ↔ _
          rw [g.1.2.1, hdd]
          exact ⟨fun q => q.2, fun q => ⟨f1.1, q⟩⟩
        have hi := ok_hi hwh (A := r.A) (num := c) (set := a) (d := r.dg.toNat) hnd
        by_cases e : ∃ m, (0 ≤ m ∧ m < pr wh ^ r.dg.toNat) ∧ okM wh r.A c a r.dg.toNat m
        · have e2 := hi.mp e
          rw [b01_t ⟨hil.mpr e2.1, by rw [g.1.2.1]; exact e2.2⟩]
          clear hi
          obtain ⟨m, hm, hm2⟩ := e
          have hm3 : ((m.toNat : Nat) : Int) = m := by omega
          have o := nu_1 (f := fun m : Nat => okW wh r (itD (pr wh) c (m : Int)) a (ho wh).toNat) (b := 0) (L := P ^ r.dg.toNat) (j0 := m.toNat) (by have := hm.2; rw [pw] at this; omega) ((ok _).mpr (by rw [Nat.zero_add, hm3]; exact hm2)) (fun j hj q => by
            have q2 := (ok _).mp q
            rw [Nat.zero_add] at q2
            have := ok_un hwh (A := r.A) (num := c) (set := a) (d := r.dg.toNat) (n9 := r.dg.toNat) (hi := 0) (l1 := (j : Int)) (l2 := m) (Nat.le_of_lt hnd) (Nat.le_refl _) ⟨by omega, by rw [pw]; omega⟩ hm (by rw [Int.mul_zero, Int.add_zero]; exact q2) (by rw [Int.mul_zero, Int.add_zero]; exact hm2)
            omega)
          rw [Nat.zero_add] at o
          rw [o]; rfl
        · rw [b01_f (fun q => e (hi.mpr ⟨hil.mp q.1, by rw [← g.1.2.1]; exact q.2⟩))]
          clear hi
          have o := nu_0 (f := fun m : Nat => okW wh r (itD (pr wh) c (m : Int)) a (ho wh).toNat) (b := 0) (P ^ r.dg.toNat) (fun j hj => by
            rcases Bool.eq_false_or_eq_true (okW wh r (itD (pr wh) c ((0 + j : Nat) : Int)) a (ho wh).toNat) with z | z
            · have z2 := (ok _).mp z
              rw [Nat.zero_add] at z2
              exact absurd ⟨(j : Int), ⟨by omega, by rw [pw]; omega⟩, z2⟩ e
            · exact z)
          rw [Nat.zero_add] at o
          rw [o]; rfl
  · rw [if_neg f, if_neg (fun q => f (th.mp q.1))]
