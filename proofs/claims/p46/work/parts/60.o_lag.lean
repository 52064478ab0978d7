/-! ===== congruence ===== -/
def cg (p a b : Int) : Prop := a % p = b % p
theorem cg_r {p a : Int} : cg p a a := rfl
theorem cg_q {p a b : Int} (h : a = b) : cg p a b := by rw [h]; rfl
theorem cg_s {p a b : Int} (h : cg p a b) : cg p b a := Eq.symm h
theorem cg_t {p a b c : Int} (h : cg p a b) (k : cg p b c) : cg p a c := Eq.trans h k
theorem cg_a {p a b c d : Int} (h : cg p a b) (k : cg p c d) : cg p (a + c) (b + d) := by
  unfold cg at *
  rw [Int.add_emod, h, k, ← Int.add_emod]
theorem cg_m {p a b c d : Int} (h : cg p a b) (k : cg p c d) : cg p (a * c) (b * d) := by
  unfold cg at *
  rw [Int.mul_emod, h, k, ← Int.mul_emod]
theorem cg_b {p a b c d : Int} (h : cg p a b) (k : cg p c d) : cg p (a - c) (b - d) := by
  unfold cg at *
  rw [Int.sub_emod, h, k, ← Int.sub_emod]
theorem cg_e {p a : Int} : cg p (a % p) a := Int.emod_emod_of_dvd _ (Int.dvd_refl p)
theorem cg_d {p a b : Int} (h : cg p a b) : p ∣ a - b := Int.dvd_of_emod_eq_zero (Int.emod_eq_emod_iff_emod_sub_eq_zero.mp h)
theorem cg_i {p a b : Int} (h : p ∣ a - b) : cg p a b := Int.emod_eq_emod_iff_emod_sub_eq_zero.mpr (Int.emod_eq_zero_of_dvd h)
theorem cg_0 {p a : Int} (h : p ∣ a) : cg p a 0 := cg_i (by rw [Int.sub_zero]; exact h)
theorem cg_z {p a : Int} (h : cg p a 0) : p ∣ a := by
  have := cg_d h
  rw [Int.sub_zero] at this
  exact this
theorem cg_eq {p a b : Int} (h : cg p a b) (ha : 0 ≤ a ∧ a < p) (hb : 0 ≤ b ∧ b < p) : a = b := by
  have e : a % p = b % p := h
  rw [Int.emod_eq_of_lt ha.1 ha.2, Int.emod_eq_of_lt hb.1 hb.2] at e
  exact e
theorem cg_lt {p a b : Int} (h : cg p a b) (ha : 0 ≤ a ∧ a < p) : a = b % p := by
  have e : a % p = b % p := h
  rw [Int.emod_eq_of_lt ha.1 ha.2] at e
  exact e
theorem q_nd {p a : Int} (h1 : -p < a) (h2 : a < p) (h3 : a ≠ 0) : ¬ p ∣ a := fun h => h3 (Int.eq_zero_of_dvd_of_natAbs_lt_natAbs h (by omega))
/-! ===== rows of coefficients ===== -/
def zb (n : Nat) (t : Int → Int) : Prop := ∀ c : Int, (n : Int) ≤ c → t c = 0
def q_e8 (t : Int → Int) (x : Int) : Int := q_ev 8 (fun k : Nat => t (k : Int)) x
theorem q_zb {n m : Nat} {t : Int → Int} (h : zb n t) (hm : n ≤ m) (x : Int) : q_ev m (fun k : Nat => t (k : Int)) x = q_ev n (fun k : Nat => t (k : Int)) x := by
  have e := q_more (p := 0) (f := fun k : Nat => t (k : Int)) (n := n) (m - n) (fun k hk => h _ (by omega)) x
  rw [show n + (m - n) = m by omega] at e
  exact e
theorem q_xm {p x y : Int} (h : cg p x y) : ∀ (n : Nat) (f : Nat → Int), cg p (q_ev n f x) (q_ev n f y) := by
  intro n
  induction n with
  | zero => intro f; exact cg_r
  | succ n ih => intro f; exact cg_a cg_r (cg_m h (ih _))
theorem zb_tmS {p o : Int} {n : Nat} {t : Int → Int} (h : zb n t) : zb (n + 1) (tmS p o t) := by
  intro c hc
  show ((if 0 < c then t (c - 1) else 0) - o * t c) % p = 0
  rw [h c (by omega), if_pos (by omega), h (c - 1) (by omega), Int.mul_zero, Int.sub_zero, Int.zero_emod]
def q_ct (h set : Int) : Nat → Nat
  | 0 => 0
  | k + 1 => if ((k : Int) + 1 ≠ h ∧ hs set ((k : Int) + 1)) then q_ct h set k + 1 else q_ct h set k
theorem zb_tm (p h set : Int) : ∀ k : Nat, zb (q_ct h set k + 1) (tm p h set k) := by
  intro k
  induction k with
  | zero => intro c hc; exact if_neg (by have : ((0 + 1 : Nat) : Int) ≤ c := hc; omega)
  | succ k ih =>
    show zb ((if ((k : Int) + 1 ≠ h ∧ hs set ((k : Int) + 1)) then q_ct h set k + 1 else q_ct h set k) + 1) (if ((k : Int) + 1 ≠ h ∧ hs set ((k : Int) + 1)) then tmS p ((k : Int) + 1) (tm p h set k) else tm p h set k)
    by_cases C : (k : Int) + 1 ≠ h ∧ hs set ((k : Int) + 1)
    · rw [if_pos C, if_pos C]; exact zb_tmS ih
    · rw [if_neg C, if_neg C]; exact ih
theorem q_ct_le (h set : Int) : ∀ k : Nat, q_ct h set k ≤ k := by
  intro k
  induction k with
  | zero => exact Nat.le_refl _
  | succ k ih =>
    show (if ((k : Int) + 1 ≠ h ∧ hs set ((k : Int) + 1)) then q_ct h set k + 1 else q_ct h set k) ≤ k + 1
    split <;> omega
theorem q_cn_le (set : Int) : ∀ k : Nat, q_cn set k ≤ k := by
  intro k
  induction k with
  | zero => exact Nat.le_refl _
  | succ k ih =>
    show (if hs set ((k : Int) + 1) then q_cn set k + 1 else q_cn set k) ≤ k + 1
    split <;> omega
theorem q_ct_in {h set : Int} (h1 : hs set h) : ∀ k : Nat, (1 ≤ h → h ≤ (k : Int) → q_ct h set k + 1 = q_cn set k) ∧ ((k : Int) < h → q_ct h set k = q_cn set k) := by
  intro k
  induction k with
  | zero => exact ⟨fun a b => by omega, fun _ => rfl⟩
  | succ k ih =>
    have e1 : q_ct h set (k + 1) = if ((k : Int) + 1 ≠ h ∧ hs set ((k : Int) + 1)) then q_ct h set k + 1 else q_ct h set k := rfl
    have e2 : q_cn set (k + 1) = if hs set ((k : Int) + 1) then q_cn set k + 1 else q_cn set k := rfl
    rw [e1, e2]
    by_cases e : (k : Int) + 1 = h
    · rw [if_neg (fun q => q.1 e), if_pos (by rw [e]; exact h1)]
      exact ⟨fun _ _ => by rw [ih.2 (by omega)], fun q => by omega⟩
    · by_cases c : hs set ((k : Int) + 1)
      · rw [if_pos ⟨e, c⟩, if_pos c]
        exact ⟨fun a b => by rw [ih.1 a (by omega)], fun q => by rw [ih.2 (by omega)]⟩
      · rw [if_neg (fun q => c q.2), if_neg c]
        exact ⟨fun a b => ih.1 a (by omega), fun q => ih.2 (by omega)⟩
theorem q_ct_0 (set : Int) : ∀ k : Nat, q_ct 0 set k = q_cn set k := by
  intro k
  induction k with
  | zero => rfl
  | succ k ih =>
    have e1 : q_ct 0 set (k + 1) = if ((k : Int) + 1 ≠ 0 ∧ hs set ((k : Int) + 1)) then q_ct 0 set k + 1 else q_ct 0 set k := rfl
    have e2 : q_cn set (k + 1) = if hs set ((k : Int) + 1) then q_cn set k + 1 else q_cn set k := rfl
    rw [e1, e2, ih]
    by_cases c : hs set ((k : Int) + 1)
    · rw [if_pos ⟨by omega, c⟩, if_pos c]
    · rw [if_neg (fun q => c q.2), if_neg c]
theorem wpr_su (p x h set : Int) (k : Nat) : wpr p x h set (k + 1) = if ((k : Int) + 1 ≠ h ∧ hs set ((k : Int) + 1)) then (wpr p x h set k * (x - ((k : Int) + 1))) % p else wpr p x h set k := rfl
theorem tm_su (p h set : Int) (k : Nat) : tm p h set (k + 1) = if ((k : Int) + 1 ≠ h ∧ hs set ((k : Int) + 1)) then tmS p ((k : Int) + 1) (tm p h set k) else tm p h set k := rfl
theorem tm_ev (p x h set : Int) : ∀ k : Nat, k ≤ 7 → cg p (q_e8 (tm p h set k) x) (wpr p x h set k) := by
  intro k
  induction k with
  | zero =>
    intro _
    have z : zb 1 (tm p h set 0) := zb_tm p h set 0
    refine cg_q ?_
    unfold q_e8
    rw [q_zb z (by omega)]
    show (1 : Int) + x * 0 = 1
    rw [Int.mul_zero]; rfl
  | succ k ih =>
    intro hk
    have z := zb_tm p h set k
    have l := q_ct_le h set k
    rw [wpr_su, tm_su]
    by_cases C : (k : Int) + 1 ≠ h ∧ hs set ((k : Int) + 1)
    · rw [if_pos C, if_pos C]
      have h1 : cg p (q_e8 (tmS p ((k : Int) + 1) (tm p h set k)) x) ((x - ((k : Int) + 1)) * q_ev 7 (fun j : Nat => tm p h set k (j : Int)) x) := q_tms (n := 7) (by rw [z _ (by omega), Int.zero_emod])
      have h2 : q_ev 7 (fun j : Nat => tm p h set k (j : Int)) x = q_e8 (tm p h set k) x := by
        unfold q_e8
        rw [q_zb z (m := 8) (by omega), q_zb z (m := 7) (by omega)]
      rw [h2] at h1
      refine cg_t h1 (cg_t (cg_m cg_r (ih (by omega))) ?_)
      rw [Int.mul_comm]
      exact cg_s cg_e
    · rw [if_neg C, if_neg C]; exact ih (by omega)
theorem wpr_cg {p x y : Int} (hx : cg p x y) (h set : Int) : ∀ k : Nat, cg p (wpr p x h set k) (wpr p y h set k) := by
  intro k
  induction k with
  | zero => exact cg_r
  | succ k ih =>
    rw [wpr_su, wpr_su]
    by_cases C : (k : Int) + 1 ≠ h ∧ hs set ((k : Int) + 1)
    · rw [if_pos C, if_pos C]
      exact cg_t cg_e (cg_t (cg_m ih (cg_b hx cg_r)) (cg_s cg_e))
    · rw [if_neg C, if_neg C]; exact ih
theorem wpr_z {p x h set j : Int} (hj : 1 ≤ j) (hn : j ≠ h) (hin : hs set j) (hx : cg p x j) : ∀ k : Nat, j ≤ (k : Int) → cg p (wpr p x h set k) 0 := by
  intro k
  induction k with
  | zero => intro q; exact absurd q (by have : ((0 : Nat) : Int) = 0 := rfl; omega)
  | succ k ih =>
    intro hk
    rw [wpr_su]
    by_cases e : j = (k : Int) + 1
    · rw [if_pos ⟨by omega, by rw [← e]; exact hin⟩, ← e]
      refine cg_t cg_e (cg_t (cg_m cg_r (cg_b hx cg_r)) ?_)
      rw [Int.sub_self, Int.mul_zero]; exact cg_r
    · have i := ih (by omega)
      by_cases C : (k : Int) + 1 ≠ h ∧ hs set ((k : Int) + 1)
      · rw [if_pos C]
        refine cg_t cg_e (cg_t (cg_m i cg_r) ?_)
        rw [Int.zero_mul]; exact cg_r
      · rw [if_neg C]; exact i
theorem q_n1 {wh : Nat} (hwh : wh < 7) : ¬ pr wh ∣ 1 := by
  have hp := pr_rg wh hwh
  exact q_nd (by omega) (by omega) (by decide)
theorem wpr_nz {wh : Nat} (hwh : wh < 7) {x h set : Int} : ∀ k : Nat, (∀ j : Int, 1 ≤ j → j ≤ (k : Int) → j ≠ h → hs set j → ¬ pr wh ∣ x - j) → ¬ pr wh ∣ wpr (pr wh) x h set k := by
  intro k
  induction k with
  | zero => intro _; exact q_n1 hwh
  | succ k ih =>
    intro H
    have i := ih (fun j a b c d => H j a (by omega) c d)
    rw [wpr_su]
    by_cases C : (k : Int) + 1 ≠ h ∧ hs set ((k : Int) + 1)
    · rw [if_pos C]
      intro hd
      have h1 : pr wh ∣ wpr (pr wh) x h set k * (x - ((k : Int) + 1)) := cg_z (cg_t (cg_s cg_e) (cg_0 hd))
      rcases q_pm hwh h1 with h2 | h2
      · exact i h2
      · exact H _ (by omega) (by omega) C.1 C.2 h2
    · rw [if_neg C]; exact i
theorem pr_M {wh : Nat} (hwh : wh < 7) : (ho wh).toNat ≤ 7 ∧ (((ho wh).toNat : Nat) : Int) = ho wh ∧ (((ho wh).toNat : Nat) : Int) < pr wh := by
  have h := ho_rg wh hwh
  omega
theorem wpr_un {wh : Nat} (hwh : wh < 7) (set : Int) {h : Int} (h1 : 1 ≤ h) (h2 : h ≤ ho wh) : 1 ≤ wpr (pr wh) h h set (ho wh).toNat ∧ wpr (pr wh) h h set (ho wh).toNat < pr wh := by
  have hp := pr_rg wh hwh
  have hM := pr_M hwh
  have r := wpr_rg (p := pr wh) (x := h) (h := h) (set := set) (by omega) (ho wh).toNat
  have n := wpr_nz hwh (x := h) (h := h) (set := set) (ho wh).toNat (fun j a b c _ => q_nd (by omega) (by omega) (by omega))
  refine ⟨?_, r.2⟩
  rcases Int.lt_or_le (wpr (pr wh) h h set (ho wh).toNat) 1 with q | q
  · exact absurd (show pr wh ∣ wpr (pr wh) h h set (ho wh).toNat by rw [show wpr (pr wh) h h set (ho wh).toNat = 0 by omega]; exact Int.dvd_zero _) n
  · exact q
theorem wgt_cg {wh : Nat} (set h x : Int) : cg (pr wh) (wgt wh set h x) (wpr (pr wh) x h set (ho wh).toNat * iv wh (wpr (pr wh) h h set (ho wh).toNat)) := cg_t cg_e (cg_m (wpr_cg cg_e h set _) cg_r)
theorem wgt_self {wh : Nat} (hwh : wh < 7) (set : Int) {h : Int} (h1 : 1 ≤ h) (h2 : h ≤ ho wh) : cg (pr wh) (wgt wh set h h) 1 := by
  have hp := pr_rg wh hwh
  have u := wpr_un hwh set h1 h2
  refine cg_t (wgt_cg set h h) ?_
  rw [Int.mul_comm]
  show _ % _ = 1 % _
  rw [iv_mul hwh u.1 u.2]
  exact (Int.emod_eq_of_lt (by omega) (by omega)).symm
theorem wgt_oth {wh : Nat} (set : Int) {h j : Int} (h1 : 1 ≤ j) (h2 : j ≤ ho wh) (hwh : wh < 7) (hn : j ≠ h) (hin : hs set j) : cg (pr wh) (wgt wh set h j) 0 := by
  have hM := pr_M hwh
  refine cg_t (wgt_cg set h j) (cg_t (cg_m (wpr_z h1 hn hin cg_r _ (by omega)) cg_r) ?_)
  rw [Int.zero_mul]; exact cg_r
/-! ===== the class's sum of weights and its row of coefficients ===== -/
theorem gt_su (wh : Nat) (set : Int) (A : Int → Int) (k : Nat) : gt wh set A (k + 1) = if hs set ((k : Int) + 1) then fun c => (gt wh set A k c + fac wh set A ((k : Int) + 1) * tm (pr wh) ((k : Int) + 1) set (ho wh).toNat c) % pr wh else gt wh set A k := rfl
theorem tlK_su (wh : Nat) (set : Int) (A : Int → Int) (x : Int) (k : Nat) : tlK wh set A x (k + 1) = if hs set ((k : Int) + 1) then tlK wh set A x k + A ((k : Int) + 1) * wgt wh set ((k : Int) + 1) x else tlK wh set A x k := rfl
theorem gt_ev {wh : Nat} (hwh : wh < 7) (set : Int) (A : Int → Int) (x : Int) : ∀ k : Nat, cg (pr wh) (q_e8 (gt wh set A k) x) (tlK wh set A x k) := by
  have hM := pr_M hwh
  intro k
  induction k with
  | zero =>
    have z : zb 0 (gt wh set A 0) := fun _ _ => rfl
    refine cg_q ?_
    unfold q_e8
    rw [q_zb z (by omega)]
    rfl
  | succ k ih =>
    rw [gt_su, tlK_su]
    by_cases C : hs set ((k : Int) + 1)
    · rw [if_pos C, if_pos C]
      have h1 : cg (pr wh) (q_e8 (fun c => (gt wh set A k c + fac wh set A ((k : Int) + 1) * tm (pr wh) ((k : Int) + 1) set (ho wh).toNat c) % pr wh) x) (q_ev 8 (fun j : Nat => gt wh set A k (j : Int) + fac wh set A ((k : Int) + 1) * tm (pr wh) ((k : Int) + 1) set (ho wh).toNat (j : Int)) x) := q_cgm (fun j _ => cg_e) x
      rw [q_lin] at h1
      refine cg_t h1 (cg_a ih ?_)
      have h2 := tm_ev (pr wh) x ((k : Int) + 1) set (ho wh).toNat hM.1
      refine cg_t (cg_m (cg_e (a := A ((k : Int) + 1) * iv wh (wpr (pr wh) ((k : Int) + 1) ((k : Int) + 1) set (ho wh).toNat))) h2) (cg_t (cg_q ?_) (cg_m cg_r (cg_s (wgt_cg set ((k : Int) + 1) x))))
      rw [Int.mul_assoc, Int.mul_comm (iv _ _)]
    · rw [if_neg C, if_neg C]; exact ih
theorem zb_gt {wh : Nat} (set : Int) (A : Int → Int) : ∀ k : Nat, k ≤ (ho wh).toNat → zb (q_cn set (ho wh).toNat) (gt wh set A k) := by
  intro k
  induction k with
  | zero => intro _ c _; rfl
  | succ k ih =>
    intro hk
    rw [gt_su]
    by_cases C : hs set ((k : Int) + 1)
    · rw [if_pos C]
      intro c hc
      have e := (q_ct_in C (ho wh).toNat).1 (by omega) (by omega)
      show (gt wh set A k c + fac wh set A ((k : Int) + 1) * tm (pr wh) ((k : Int) + 1) set (ho wh).toNat c) % pr wh = 0
      rw [ih (by omega) c hc, zb_tm _ _ _ _ c (by rw [e]; exact hc), Int.mul_zero, Int.add_zero, Int.zero_emod]
    · rw [if_neg C]; exact ih (by omega)
theorem gt_rg2 {wh : Nat} (hwh : wh < 7) (set : Int) (A : Int → Int) (c : Int) : ∀ k : Nat, 0 ≤ gt wh set A k c ∧ gt wh set A k c < pr wh := by
  have hp := pr_rg wh hwh
  intro k
  induction k with
  | zero => exact ⟨Int.le_refl _, by show (0 : Int) < _; omega⟩
  | succ k ih =>
    rw [gt_su]
    by_cases C : hs set ((k : Int) + 1)
    · rw [if_pos C]; exact emod_rg _ hwh
    · rw [if_neg C]; exact ih
theorem lag_K {wh : Nat} (hwh : wh < 7) (set : Int) (A : Int → Int) {h : Int} (h1 : 1 ≤ h) (h2 : h ≤ ho wh) (hin : hs set h) : ∀ k : Nat, (k : Int) ≤ ho wh → cg (pr wh) (tlK wh set A h k) (if h ≤ (k : Int) then A h else 0) := by
  intro k
  induction k with
  | zero => intro _; rw [if_neg (by have : ((0 : Nat) : Int) = 0 := rfl; omega)]; exact cg_r
  | succ k ih =>
    intro hk
    have i := ih (by omega)
    rw [tlK_su]
    by_cases C : hs set ((k : Int) + 1)
    · rw [if_pos C]
      by_cases e : h = (k : Int) + 1
      · rw [if_neg (by omega)] at i
        rw [if_pos (by omega), ← e]
        refine cg_t (cg_a i (cg_m cg_r (wgt_self hwh set h1 h2))) ?_
        rw [Int.mul_one, Int.zero_add]; exact cg_r
      · refine cg_t (cg_a i (cg_m cg_r (wgt_oth set h1 h2 hwh e hin))) ?_
        rw [Int.mul_zero, Int.add_zero]
        by_cases q : h ≤ (k : Int)
        · rw [if_pos q, if_pos (by omega)]; exact cg_r
        · rw [if_neg q, if_neg (by omega)]; exact cg_r
    · rw [if_neg C]
      have e : h ≠ (k : Int) + 1 := fun q => C (by rw [← q]; exact hin)
      refine cg_t i ?_
      by_cases q : h ≤ (k : Int)
      · rw [if_pos q, if_pos (by omega)]; exact cg_r
      · rw [if_neg q, if_neg (by omega)]; exact cg_r
/-! ===== the reference's row of coefficients ===== -/
theorem trK_su (wh : Nat) (set : Int) (A : Int → Int) (k : Nat) : trK wh set A (k + 1) = if hs set ((k : Int) + 1) then (fun c => ((trK wh set A k).1 c + trT wh A (trK wh set A k).1 (trK wh set A k).2 ((k : Int) + 1) * (trK wh set A k).2 c) % pr wh, tmS (pr wh) ((k : Int) + 1) (trK wh set A k).2) else trK wh set A k := rfl
theorem trK_2 (wh : Nat) (set : Int) (A : Int → Int) : ∀ k : Nat, (trK wh set A k).2 = tm (pr wh) 0 set k := by
  intro k
  induction k with
  | zero => rfl
  | succ k ih =>
    rw [trK_su, tm_su]
    by_cases C : hs set ((k : Int) + 1)
    · rw [if_pos C, if_pos ⟨by omega, C⟩]
      show tmS (pr wh) ((k : Int) + 1) (trK wh set A k).2 = _
      rw [ih]
    · rw [if_neg C, if_neg (fun q => C q.2)]; exact ih
theorem zb_tr (wh : Nat) (set : Int) (A : Int → Int) : ∀ k : Nat, zb (q_cn set k) (trK wh set A k).1 := by
  intro k
  induction k with
  | zero => intro c _; rfl
  | succ k ih =>
    have e2 : q_cn set (k + 1) = if hs set ((k : Int) + 1) then q_cn set k + 1 else q_cn set k := rfl
    rw [trK_su, e2]
    by_cases C : hs set ((k : Int) + 1)
    · rw [if_pos C, if_pos C]
      intro c hc
      show ((trK wh set A k).1 c + trT wh A (trK wh set A k).1 (trK wh set A k).2 ((k : Int) + 1) * (trK wh set A k).2 c) % pr wh = 0
      rw [ih c (by omega), trK_2 wh set A k, zb_tm (pr wh) 0 set k c (by rw [q_ct_0]; exact hc), Int.mul_zero, Int.add_zero, Int.zero_emod]
    · rw [if_neg C, if_neg C]; exact ih
theorem tr_rg2 {wh : Nat} (hwh : wh < 7) (set : Int) (A : Int → Int) (c : Int) : ∀ k : Nat, 0 ≤ (trK wh set A k).1 c ∧ (trK wh set A k).1 c < pr wh := by
  have hp := pr_rg wh hwh
  intro k
  induction k with
  | zero => exact ⟨Int.le_refl _, by show (0 : Int) < _; omega⟩
  | succ k ih =>
    rw [trK_su]
    by_cases C : hs set ((k : Int) + 1)
    · rw [if_pos C]; exact emod_rg _ hwh
    · rw [if_neg C]; exact ih
theorem hv_ev (p x : Int) (P : Int → Int) {N : Int} (j : Nat) (hN : N = (j : Int)) : cg p (hv p x P N j) (q_ev j (fun k : Nat => P (k : Int)) x) := by
  have h := q_hv p x P N j
  have e : q_ev j (fun k : Nat => P (N - (j : Int) + (k : Int))) x = q_ev j (fun k : Nat => P (k : Int)) x := by
    refine q_congr (fun k _ => ?_) x
    show P (N - (j : Int) + (k : Int)) = P (k : Int)
    rw [hN, show (j : Int) - (j : Int) + (k : Int) = (k : Int) by omega]
  rw [e] at h
  exact h
theorem tr_at {wh : Nat} (hwh : wh < 7) (set : Int) (A : Int → Int) : ∀ k : Nat, (k : Int) ≤ ho wh → ∀ h : Int, 1 ≤ h → h ≤ (k : Int) → hs set h → cg (pr wh) (q_e8 (trK wh set A k).1 h) (A h) := by
  have hM := pr_M hwh
  have hp := pr_rg wh hwh
  intro k
  induction k with
  | zero => intro _ h h1 h2; exact absurd h2 (by have : ((0 : Nat) : Int) = 0 := rfl; omega)
  | succ k ih =>
    intro hk h h1 h2 hin
    have i := ih (by omega)
    rw [trK_su]
    by_cases C : hs set ((k : Int) + 1)
    · rw [if_pos C]
      have z1 := zb_tr wh set A k
      have l1 := q_cn_le set k
      have hN : ∀ x : Int, cg (pr wh) (q_e8 (trK wh set A k).2 x) (wpr (pr wh) x 0 set k) := fun x => by rw [trK_2]; exact tm_ev (pr wh) x 0 set k (by omega)
      have ev : cg (pr wh) (q_e8 (fun c => ((trK wh set A k).1 c + trT wh A (trK wh set A k).1 (trK wh set A k).2 ((k : Int) + 1) * (trK wh set A k).2 c) % pr wh) h) (q_ev 8 (fun j : Nat => (trK wh set A k).1 (j : Int) + trT wh A (trK wh set A k).1 (trK wh set A k).2 ((k : Int) + 1) * (trK wh set A k).2 (j : Int)) h) := q_cgm (fun j _ => cg_e) h
      rw [q_lin] at ev
      refine cg_t ev ?_
      by_cases e : h = (k : Int) + 1
      · rw [← e]
        have n0 : ¬ pr wh ∣ wpr (pr wh) h 0 set k := wpr_nz hwh k (fun j a b _ _ => q_nd (by omega) (by omega) (by omega))
        have v1 := hv_rg (p := pr wh) (x := h) (P := (trK wh set A k).2) (N := 8) (by omega) 8
        have v2 : cg (pr wh) (hv (pr wh) h (trK wh set A k).2 8 8) (wpr (pr wh) h 0 set k) := cg_t (hv_ev _ _ _ 8 rfl) (hN h)
        have v3 : 1 ≤ hv (pr wh) h (trK wh set A k).2 8 8 := by
          rcases Int.lt_or_le (hv (pr wh) h (trK wh set A k).2 8 8) 1 with q | q
          · exact absurd (cg_z (cg_t (cg_s v2) (cg_q (show hv (pr wh) h (trK wh set A k).2 8 8 = 0 by omega)))) n0
          · exact q
        have v4 := iv_mul hwh v3 v1.2
        have v5 : cg (pr wh) (hv (pr wh) h (trK wh set A k).1 7 7) (q_e8 (trK wh set A k).1 h) := by
          refine cg_t (hv_ev _ _ _ 7 rfl) (cg_q ?_)
          unfold q_e8
          rw [q_zb z1 (m := 8) (by omega), q_zb z1 (m := 7) (by omega)]
        have v6 : cg (pr wh) (trT wh A (trK wh set A k).1 (trK wh set A k).2 h) ((A h - q_e8 (trK wh set A k).1 h) * iv wh (hv (pr wh) h (trK wh set A k).2 8 8)) := cg_t cg_e (cg_m (cg_t cg_e (cg_b cg_r v5)) cg_r)
        have v7 : cg (pr wh) (q_ev 8 (fun j : Nat => (trK wh set A k).2 (j : Int)) h) (hv (pr wh) h (trK wh set A k).2 8 8) := cg_s (hv_ev _ _ _ 8 rfl)
        have v8 : cg (pr wh) (iv wh (hv (pr wh) h (trK wh set A k).2 8 8) * hv (pr wh) h (trK wh set A k).2 8 8) 1 := by
          show _ % _ = 1 % _
          rw [v4]
          exact (Int.emod_eq_of_lt (by omega) (by omega)).symm
        have v9 := cg_m (cg_r (p := pr wh) (a := A h - q_e8 (trK wh set A k).1 h)) v8
        rw [Int.mul_one, ← Int.mul_assoc] at v9
        refine cg_t (cg_a cg_r (cg_t (cg_m v6 v7) v9)) (cg_q ?_)
        show q_e8 (trK wh set A k).1 h + (A h - q_e8 (trK wh set A k).1 h) = A h
        omega
      · have n0 : cg (pr wh) (wpr (pr wh) h 0 set k) 0 := wpr_z h1 (by omega) hin cg_r k (by omega)
        refine cg_t (cg_a (i h h1 (by omega) hin) (cg_m cg_r (cg_t (hN h) n0))) ?_
        rw [Int.mul_zero, Int.add_zero]; exact cg_r
    · rw [if_neg C]
      have e : h ≠ (k : Int) + 1 := fun q => C (by rw [← q]; exact hin)
      exact i h h1 (by omega) hin
/-! ===== both rows are one; both sums are one ===== -/
theorem gt_tr {wh : Nat} (hwh : wh < 7) (set : Int) (A : Int → Int) {c : Int} (hc : 0 ≤ c) : gt wh set A (ho wh).toNat c = (trK wh set A (ho wh).toNat).1 c := by
  have hM := pr_M hwh
  have z1 := zb_gt (wh := wh) set A (ho wh).toNat (Nat.le_refl _)
  have z2 := zb_tr wh set A (ho wh).toNat
  have l1 := q_cn_le set (ho wh).toNat
  rcases Int.lt_or_le c (q_cn set (ho wh).toNat : Int) with q | q
  · have u := q_uniq hwh set (ho wh).toNat hM.2.2 (fun k : Nat => gt wh set A (ho wh).toNat (k : Int) + (-1) * (trK wh set A (ho wh).toNat).1 (k : Int)) (fun j hj hin => by
      rw [q_lin]
      have e1 : q_ev (q_cn set (ho wh).toNat) (fun k : Nat => gt wh set A (ho wh).toNat (k : Int)) ((j : Int) + 1) = q_e8 (gt wh set A (ho wh).toNat) ((j : Int) + 1) := (q_zb z1 (m := 8) (by omega) _).symm
      have e2 : q_ev (q_cn set (ho wh).toNat) (fun k : Nat => (trK wh set A (ho wh).toNat).1 (k : Int)) ((j : Int) + 1) = q_e8 (trK wh set A (ho wh).toNat).1 ((j : Int) + 1) := (q_zb z2 (m := 8) (by omega) _).symm
      rw [e1, e2]
      have h1 := cg_t (gt_ev hwh set A ((j : Int) + 1) (ho wh).toNat) (lag_K hwh set A (by omega) (by omega) hin (ho wh).toNat (by omega))
      rw [if_pos (by omega)] at h1
      have h2 := tr_at hwh set A (ho wh).toNat (by omega) ((j : Int) + 1) (by omega) (by omega) hin
      refine cg_z (cg_t (cg_a h1 (cg_m cg_r h2)) (cg_q ?_))
      rw [Int.neg_mul, Int.one_mul]
      omega) c.toNat (by omega)
    have e : ((c.toNat : Nat) : Int) = c := by omega
    rw [e] at u
    refine cg_eq (cg_i ?_) (gt_rg2 hwh set A c _) (tr_rg2 hwh set A c _)
    rw [Int.neg_mul, Int.one_mul] at u
    rw [Int.sub_eq_add_neg]
    exact u
  · rw [z1 c q, z2 c q]
theorem tl_at {wh : Nat} (hwh : wh < 7) (set : Int) (A : Int → Int) (x : Int) : tl wh set A x = atV wh set A x := by
  have hM := pr_M hwh
  have hp := pr_rg wh hwh
  have z2 := zb_tr wh set A (ho wh).toNat
  have l1 := q_cn_le set (ho wh).toNat
  refine cg_eq ?_ (emod_rg _ hwh) (hv_rg (by omega) 7)
  refine cg_t cg_e (cg_t (cg_s (gt_ev hwh set A x (ho wh).toNat)) (cg_s ?_))
  refine cg_t (hv_ev _ _ _ 7 rfl) (cg_t (q_xm cg_e _ _) (cg_q ?_))
  rw [q_zb z2 (m := 7) (by omega), ← q_zb z2 (m := 8) (by omega)]
  exact (q_congr (fun k _ => gt_tr hwh set A (by omega)) x).symm
theorem hiK_cg {P Q : Int → Int} : ∀ j : Nat, (∀ c : Int, 0 ≤ c → c < (j : Int) → P c = Q c) → hiK P j = hiK Q j := by
  intro j
  induction j with
  | zero => intro _; rfl
  | succ j ih =>
    intro h
    show (if P (j : Int) ≠ 0 then (j : Int) else hiK P j) = (if Q (j : Int) ≠ 0 then (j : Int) else hiK Q j)
    rw [h (j : Int) (by omega) (by omega), ih (fun c a b => h c a (by omega))]
theorem hi_tr {wh : Nat} (hwh : wh < 7) (set : Int) (A : Int → Int) : hiK (gt wh set A (ho wh).toNat) 7 = hiK (trK wh set A (ho wh).toNat).1 7 := hiK_cg 7 (fun c a _ => gt_tr hwh set A a)
theorem tlK_one {wh : Nat} (set h x : Int) (h1 : 1 ≤ h) (hin : hs set h) : ∀ k : Nat, tlK wh set (fun j => if j = h then 1 else 0) x k = if h ≤ (k : Int) then wgt wh set h x else 0 := by
  intro k
  induction k with
  | zero => rw [if_neg (by have : ((0 : Nat) : Int) = 0 := rfl; omega)]; rfl
  | succ k ih =>
    rw [tlK_su, ih]
    show (if hs set ((k : Int) + 1) then (if h ≤ (k : Int) then wgt wh set h x else 0) + (if (k : Int) + 1 = h then 1 else 0) * wgt wh set ((k : Int) + 1) x else (if h ≤ (k : Int) then wgt wh set h x else 0)) = (if h ≤ (k : Int) + 1 then wgt wh set h x else 0)
    by_cases e : (k : Int) + 1 = h
    · have c1 : ¬ h ≤ (k : Int) := by omega
      have c2 : h ≤ (k : Int) + 1 := by omega
      have c3 : hs set ((k : Int) + 1) := by rw [e]; exact hin
      rw [if_pos c3, if_neg c1, if_pos e, if_pos c2, e, Int.one_mul, Int.zero_add]
    · rw [if_neg e, Int.zero_mul, Int.add_zero, ite_self]
      by_cases q : h ≤ (k : Int)
      · have c2 : h ≤ (k : Int) + 1 := by omega
        rw [if_pos q, if_pos c2]
      · have c2 : ¬ h ≤ (k : Int) + 1 := by omega
        rw [if_neg q, if_neg c2]
theorem wgt_at {wh : Nat} (hwh : wh < 7) {set h : Int} (h1 : 1 ≤ h) (h2 : h ≤ ho wh) (hin : hs set h) (x : Int) : wgt wh set h x = atV wh set (fun j => if j = h then 1 else 0) x := by
  have hM := pr_M hwh
  rw [← tl_at hwh]
  unfold tl
  rw [tlK_one set h x h1 hin, if_pos (by omega)]
  unfold wgt
  exact (Int.emod_emod_of_dvd _ (Int.dvd_refl _)).symm
/-- Horner over all seven places, and over those that a degree leaves -/
theorem hv_cut {p x : Int} {P Q : Int → Int} (hp : 0 < p) {g : Int} (h0 : 0 ≤ g) (h6 : g ≤ 6) (hz0 : ∀ c, g < c → c < 7 → P c = 0) (he : ∀ c, 0 ≤ c → c ≤ g → P c = Q c) : hz p x P 7 = hv p x Q ((g.toNat + 1 : Nat) : Int) (g.toNat + 1) := by
  refine cg_eq ?_ (hz_rg hp 7) (hv_rg hp _)
  rw [← hv_hz 7]
  refine cg_t (hv_ev _ _ _ 7 rfl) (cg_t (cg_q ?_) (cg_s (hv_ev _ _ _ (g.toNat + 1) rfl)))
  have z : ∀ d : Nat, d ≤ 6 - g.toNat → q_ev (g.toNat + 1 + d) (fun k : Nat => P (k : Int)) x = q_ev (g.toNat + 1) (fun k : Nat => P (k : Int)) x := by
    intro d
    induction d with
    | zero => intro _; rfl
    | succ d ih =>
      intro hd
      rw [← Nat.add_assoc, q_last, ih (by omega), hz0 ((g.toNat + 1 + d : Nat) : Int) (by omega) (by omega), Int.zero_mul, Int.add_zero]
  have z7 := z (6 - g.toNat) (Nat.le_refl _)
  rw [show g.toNat + 1 + (6 - g.toNat) = 7 by omega] at z7
  rw [z7]
  exact q_congr (fun k hk => he _ (by omega) (by omega)) x
