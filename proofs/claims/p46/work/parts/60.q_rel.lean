/-! ===== the relation between a deal of the class and a deal of the reference ===== -/
def SR (wh : Nat) (s : SD) (r : RD) : Prop := ((s.fl = 0 ∧ r.dg = -1) ∨ (s.fl = 1 ∧ r.dg = s.dg)) ∧ s.A = r.A ∧ (∀ j, ¬ (1 ≤ j ∧ j ≤ ho wh) → r.A j = -1) ∧ ((r.hp = 0 ∧ s.sc = 0) ∨ (r.hp = 1 ∧ s.sc = r.dg + 1 ∧ ∀ k, 0 ≤ k → k ≤ r.dg → s.B k = sl wh (r.E k)))
def SS (wh : Nat) (D : Nat → SD) (R : Nat → RD) : Prop := ∀ j : Nat, j < 6 → SR wh (D j) (R j)
/-- what is known of both -/
def GD (wh : Nat) (s : SD) (r : RD) : Prop := SR wh s r ∧ (0 ≤ s.dg ∧ s.dg ≤ 6) ∧ (r.dg = -1 → r.hp = 0) ∧ (r.hp = 0 ∨ r.hp = 1) ∧ (∀ j, r.A j = -1 ∨ (0 ≤ r.A j ∧ r.A j < pr wh)) ∧ (s.fl = 0 → ∀ j, r.A j = -1)
theorem SS.up {wh i : Nat} {D : Nat → SD} {R : Nat → RD} {s : SD} {r : RD} (h : SS wh D R) (hs : SR wh s r) : SS wh (upD D i s) (updR R i r) := by
  intro j hj
  unfold upD updR
  by_cases e : j = i
  · rw [if_pos e, if_pos e]; exact hs
  · rw [if_neg e, if_neg e]; exact h j hj
theorem SR.em {wh : Nat} (r : RD) : SR wh SD0 (emR r) := ⟨Or.inl ⟨rfl, rfl⟩, rfl, fun _ _ => rfl, Or.inl ⟨rfl, rfl⟩⟩
theorem SS.em {wh : Nat} (R : Nat → RD) : SS wh (fun _ => SD0) (fun j => emR (R j)) := fun j _ => SR.em (R j)
theorem GD.e {wh : Nat} {s : SD} {r : RD} (h : GD wh s r) : (s.fl = 0 ↔ r.dg = -1) ∧ (s.fl = 1 ↔ r.dg ≠ -1) ∧ (r.dg ≠ -1 → r.dg = s.dg) := by
  have h1 := h.1.1
  have h2 := h.2.1
  omega
theorem GD.sc {wh : Nat} {s : SD} {r : RD} (h : GD wh s r) : (0 < s.sc ↔ r.hp = 1) ∧ (r.hp = 1 → s.sc = s.dg + 1 ∧ r.dg ≠ -1) := by
  have h1 := h.1.2.2.2
  have h2 := h.2.1
  have h3 := h.2.2.1
  have h4 := h.e.2.2
  have h5 := h.1.1
  rcases h1 with h1 | h1
  · omega
  · have := h1.2.1
    constructor
    · omega
    · intro _; exact ⟨by omega, by omega⟩
/-! the writers -/
theorem SR.lay {wh : Nat} (hwh : wh < 7) {g : Int} {P Q : Int → Int} (h0 : 0 ≤ g) (h6 : g ≤ 6) (hz0 : ∀ c, g < c → c < 7 → P c = 0) (he : ∀ c, 0 ≤ c → c ≤ g → P c = Q c) : SR wh (lpS wh g P) (lpR wh g Q) := by
  have hp := pr_rg wh hwh
  refine ⟨Or.inr ⟨rfl, rfl⟩, ?_, fun j hj => if_neg hj, Or.inr ⟨rfl, rfl, fun k a b => congrArg (sl wh) (he k a b)⟩⟩
  funext h
  show (if 1 ≤ h ∧ h ≤ ho wh then hz (pr wh) h P 7 else -1) = (if 1 ≤ h ∧ h ≤ ho wh then hv (pr wh) h Q ((g.toNat + 1 : Nat) : Int) (g.toNat + 1) else -1)
  rw [hv_cut (by omega) h0 h6 hz0 he]
theorem bcm_z (p g a b c d : Int) : ∀ k, g < k → k < 7 → 0 ≤ g → bcm p g a b c d k = 0 := by
  intro k h1 h2 h3
  unfold bcm
  rw [if_neg (by omega)]
  split
  · rw [if_neg (by omega)]
  · split
    · rw [if_neg (by omega)]
    · split
      · rw [if_neg (by omega)]
      · rfl
theorem SR.pour {wh : Nat} (hwh : wh < 7) {s : SD} {r : RD} (h : GD wh s r) (hf : r.dg ≠ -1) {P : Int → Int} (hz0 : ∀ c, r.dg < c → c < 7 → P c = 0) : SR wh (poS wh s P) (poR wh r P) := by
  have hp := pr_rg wh hwh
  have hd := h.e.2.2 hf
  have h2 := h.2.1
  refine ⟨h.1.1, ?_, fun j hj => ?_, ?_⟩
  · funext k
    show (if s.A k = -1 then -1 else (s.A k + hz (pr wh) k P 7) % pr wh) = (if r.A k = -1 then -1 else (r.A k + hv (pr wh) k P ((r.dg.toNat + 1 : Nat) : Int) (r.dg.toNat + 1)) % pr wh)
    rw [h.1.2.1, hv_cut (by omega) (by omega) (by omega) hz0 (fun _ _ _ => rfl)]
  · show (if r.A j = -1 then -1 else _) = (-1 : Int)
    rw [if_pos (h.1.2.2.1 j hj)]
  · rcases h.1.2.2.2 with q | q
    · exact Or.inl q
    · refine Or.inr ⟨q.1, q.2.1, fun k a b => ?_⟩
      show s.B k * sl wh (P k) % gr wh = sl wh ((P k + r.E k) % pr wh)
      rw [sl_mod, sl_add hwh, q.2.2 k a b, Int.mul_comm]
theorem SR.join {wh : Nat} (hwh : wh < 7) {s1 s2 : SD} {r1 r2 : RD} (h1 : GD wh s1 r1) (h2 : GD wh s2 r2) (f1 : r1.dg ≠ -1) (f2 : r2.dg ≠ -1) {b s : Int} (hb : (b = 0 ∧ s = 1) ∨ (b = 1 ∧ s = -1)) : SR wh (auR wh b s1 s2) (joR wh s r1 r2) := by
  have hp := pr_rg wh hwh
  have hg := gr_rg wh hwh
  have d1 := h1.e.2.2 f1
  have d2 := h2.e.2.2 f2
  have c1 := h1.sc
  have c2 := h2.sc
  have k1 := h1.2.2.2.1
  have k2 := h2.2.2.2.1
  have eA : auA wh b s1.A s2.A = (joR wh s r1 r2).A := by
    funext k
    show (if (1 ≤ k ∧ k ≤ ho wh) ∧ s1.A k ≠ -1 ∧ s2.A k ≠ -1 then (s1.A k + (if b = 0 then s2.A k else -s2.A k)) % pr wh else -1) = (if r1.A k = -1 ∨ r2.A k = -1 then -1 else (r1.A k + s * r2.A k) % pr wh)
    rw [h1.1.2.1, h2.1.2.1]
    by_cases e1 : r1.A k = -1
    · rw [if_neg (fun q => q.2.1 e1), if_pos (Or.inl e1)]
    · by_cases e2 : r2.A k = -1
      · rw [if_neg (fun q => q.2.2 e2), if_pos (Or.inr e2)]
      · have hk : 1 ≤ k ∧ k ≤ ho wh := Classical.byContradiction (fun q => e1 (h1.1.2.2.1 k q))
        have e3 : ¬ (r1.A k = -1 ∨ r2.A k = -1) := fun q => q.elim e1 e2
        rw [if_pos ⟨hk, e1, e2⟩, if_neg e3]
        rcases hb with ⟨rfl, rfl⟩ | ⟨rfl, rfl⟩
        · rw [if_pos rfl, Int.one_mul]
        · rw [if_neg (show ¬ (1 : Int) = 0 by decide), Int.neg_mul, Int.one_mul]
  refine ⟨Or.inr ⟨rfl, ?_⟩, eA, fun j hj => ?_, ?_⟩
  · show (if r1.dg < r2.dg then r2.dg else r1.dg) = (if s1.dg < s2.dg then s2.dg else s1.dg)
    rw [d1, d2]
  · show (if r1.A j = -1 ∨ r2.A j = -1 then -1 else _) = (-1 : Int)
    rw [if_pos (Or.inl (h1.1.2.2.1 j hj))]
  · show ((if r1.hp = 1 ∧ r2.hp = 1 then (1 : Int) else 0) = 0 ∧ (if 0 < s1.sc ∧ 0 < s2.sc then (if s1.dg < s2.dg then s2.dg else s1.dg) + 1 else 0) = 0) ∨ ((if r1.hp = 1 ∧ r2.hp = 1 then (1 : Int) else 0) = 1 ∧ (if 0 < s1.sc ∧ 0 < s2.sc then (if s1.dg < s2.dg then s2.dg else s1.dg) + 1 else 0) = (if r1.dg < r2.dg then r2.dg else r1.dg) + 1 ∧ ∀ k, 0 ≤ k → k ≤ (if r1.dg < r2.dg then r2.dg else r1.dg) → auS wh b s1.sc s1.B s2.sc s2.B k = sl wh ((ofE r1 k + s * ofE r2 k) % pr wh))
    by_cases q : r1.hp = 1 ∧ r2.hp = 1
    · right
      have q2 : 0 < s1.sc ∧ 0 < s2.sc := ⟨c1.1.mpr q.1, c2.1.mpr q.2⟩
      rw [if_pos q, if_pos q2, d1, d2]
      refine ⟨rfl, rfl, fun k a _ => ?_⟩
      have g : ∀ (s0 : SD) (r0 : RD), GD wh s0 r0 → r0.hp = 1 → (if k < s0.sc then s0.B k else 1) = sl wh (ofE r0 k) := by
        intro s0 r0 h0 e0
        have z := h0.sc.2 e0
        have z2 := h0.e.2.2 z.2
        rcases h0.1.2.2.2 with w | w
        · omega
        · unfold ofE
          by_cases e : k ≤ r0.dg
          · rw [if_pos (by omega), if_pos e]; exact w.2.2 k a e
          · rw [if_neg (by omega), if_neg e, sl_0 hwh]
      unfold auS
      rw [g s1 r1 h1 q.1, g s2 r2 h2 q.2, sl_mod, sl_add hwh]
      rcases hb with ⟨rfl, rfl⟩ | ⟨rfl, rfl⟩
      · rw [if_pos rfl, Int.one_mul]
      · rw [if_neg (show ¬ (1 : Int) = 0 by decide), ivq_sl hwh, Int.neg_mul, Int.one_mul]
    · left
      rw [if_neg q, if_neg (fun z => q ⟨c1.1.mp z.1, c2.1.mp z.2⟩)]
      exact ⟨rfl, rfl⟩
theorem SR.times {wh : Nat} (hwh : wh < 7) {s1 s2 : SD} {r1 r2 : RD} (h1 : GD wh s1 r1) (h2 : GD wh s2 r2) (f1 : r1.dg ≠ -1) (f2 : r2.dg ≠ -1) : SR wh (tiS wh s1 s2) (tiR wh r1 r2) := by
  have d1 := h1.e.2.2 f1
  have d2 := h2.e.2.2 f2
  refine ⟨Or.inr ⟨rfl, ?_⟩, ?_, fun j hj => ?_, Or.inl ⟨rfl, rfl⟩⟩
  · show r1.dg + r2.dg = s1.dg + s2.dg
    rw [d1, d2]
  · funext k
    show (if (1 ≤ k ∧ k ≤ ho wh) ∧ s1.A k ≠ -1 ∧ s2.A k ≠ -1 then s1.A k * s2.A k % pr wh else -1) = (if r1.A k = -1 ∨ r2.A k = -1 then -1 else r1.A k * r2.A k % pr wh)
    rw [h1.1.2.1, h2.1.2.1]
    by_cases e1 : r1.A k = -1
    · rw [if_neg (fun q => q.2.1 e1), if_pos (Or.inl e1)]
    · by_cases e2 : r2.A k = -1
      · rw [if_neg (fun q => q.2.2 e2), if_pos (Or.inr e2)]
      · have hk : 1 ≤ k ∧ k ≤ ho wh := Classical.byContradiction (fun q => e1 (h1.1.2.2.1 k q))
        rw [if_pos ⟨hk, e1, e2⟩, if_neg (fun q => q.elim e1 e2)]
  · show (if r1.A j = -1 ∨ r2.A j = -1 then -1 else _) = (-1 : Int)
    rw [if_pos (Or.inl (h1.1.2.2.1 j hj))]
theorem SR.scale {wh : Nat} (hwh : wh < 7) {s : SD} {r : RD} (h : GD wh s r) (hf : r.dg ≠ -1) {f : Int} (h0 : 0 ≤ f) : SR wh (scS wh s f) (scR wh r f) := by
  have d := h.e.2.2 hf
  refine ⟨Or.inr ⟨rfl, d⟩, ?_, fun j hj => ?_, ?_⟩
  · funext k
    show (if s.A k = -1 then -1 else s.A k * f % pr wh) = (if r.A k = -1 then -1 else r.A k * f % pr wh)
    rw [h.1.2.1]
  · show (if r.A j = -1 then -1 else _) = (-1 : Int)
    rw [if_pos (h.1.2.2.1 j hj)]
  · rcases h.1.2.2.2 with q | q
    · exact Or.inl q
    · refine Or.inr ⟨q.1, q.2.1, fun k a b => ?_⟩
      show e_pw (s.B k) f.toNat (gr wh) = sl wh (r.E k * f % pr wh)
      rw [sl_mod, q.2.2 k a b, sl_mp hwh, Int.toNat_of_nonneg h0]
theorem SR.put {wh : Nat} {s : SD} {r : RD} (h : SR wh s r) {k v : Int} (hk : 1 ≤ k ∧ k ≤ ho wh) : SR wh (puS s k v) (puR r k v) := by
  refine ⟨h.1, ?_, fun j hj => ?_, h.2.2.2⟩
  · show e_fu s.A k v = e_fu r.A k v
    rw [h.2.1]
  · show (if j = k then v else r.A j) = -1
    rw [if_neg (fun e => hj (by rw [e]; exact hk))]
    exact h.2.2.1 j hj
theorem hoK_su (wh : Nat) (set : Int) (A : Int → Int) (a b c : Int) (k : Nat) : hoK wh set A a b c (k + 1) = if hs set ((k : Int) + 1) then (hoK wh set A a b c k + wgt wh set ((k : Int) + 1) 0 * (if c = 0 then A ((k : Int) + 1) else (a * ((k : Int) + 1) + b * c) % pr wh)) % pr wh else hoK wh set A a b c k := rfl
theorem hoK_rg2 {wh : Nat} (hwh : wh < 7) (set : Int) (A : Int → Int) (a b c : Int) : ∀ k : Nat, 0 ≤ hoK wh set A a b c k ∧ hoK wh set A a b c k < pr wh := by
  have hp := pr_rg wh hwh
  intro k
  induction k with
  | zero => exact ⟨Int.le_refl _, by show (0 : Int) < _; omega⟩
  | succ k ih =>
    rw [hoK_su]
    by_cases C : hs set ((k : Int) + 1)
    · rw [if_pos C]; exact emod_rg _ hwh
    · rw [if_neg C]; exact ih
theorem hoK_tl {wh : Nat} (set : Int) (A A2 : Int → Int) (a b c : Int) (hA : ∀ h, A2 h = if c = 0 then A h else (a * h + b * c) % pr wh) : ∀ k : Nat, cg (pr wh) (hoK wh set A a b c k) (tlK wh set A2 0 k) := by
  intro k
  induction k with
  | zero => exact cg_r
  | succ k ih =>
    rw [hoK_su, tlK_su]
    by_cases C : hs set ((k : Int) + 1)
    · rw [if_pos C, if_pos C, hA, Int.mul_comm (wgt _ _ _ _)]
      exact cg_t cg_e (cg_a ih cg_r)
    · rw [if_neg C, if_neg C]; exact ih
theorem hoP_eq {wh : Nat} (hwh : wh < 7) (set : Int) (A : Int → Int) (g a b : Int) : ∀ c, 0 ≤ c → c ≤ g → hoP wh set A g a b (ho wh).toNat c = hnP wh set A a b c := by
  intro c h0 h1
  show (if c ≤ g then hoK wh set A a b c (ho wh).toNat else 0) = (if c = 0 then atV wh set A 0 else atV wh set (fun h => (a * h + b * c) % pr wh) 0)
  rw [if_pos h1]
  by_cases e : c = 0
  · rw [if_pos e, ← tl_at hwh]
    exact cg_lt (hoK_tl set A A a b c (fun h => by rw [if_pos e]) _) (hoK_rg2 hwh set A a b c _)
  · rw [if_neg e, ← tl_at hwh]
    exact cg_lt (hoK_tl set A _ a b c (fun h => by rw [if_neg e]) _) (hoK_rg2 hwh set A a b c _)
theorem hoP_z (wh : Nat) (set : Int) (A : Int → Int) (g a b : Int) (k : Nat) : ∀ c, g < c → c < 7 → hoP wh set A g a b k c = 0 := fun c h _ => if_neg (by omega)
/-! sets -/
theorem hs_tb {s : Int} {k : Nat} (h0 : 0 ≤ s) : hs s ((k : Int) + 1) ↔ s.toNat.testBit k = true := by
  obtain ⟨n, rfl⟩ : ∃ n : Nat, s = (n : Int) := ⟨s.toNat, by omega⟩
  rw [Int.toNat_natCast, Nat.testBit_eq_decide_div_mod_eq, decide_eq_true_eq]
  show (n : Int) / 2 ^ ((k : Int) + 1 - 1).toNat % 2 = 1 ↔ _
  rw [show ((k : Int) + 1 - 1).toNat = k by omega]
  constructor
  · intro h; exact_mod_cast h
  · intro h; exact_mod_cast h
theorem fl_rg9 {wh : Nat} (hwh : wh < 7) : fl wh < 128 ∧ fl wh = (2 : Int) ^ (ho wh).toNat - 1 := by
  refine ⟨?_, rfl⟩
  revert wh
  exact fun {wh} h => wh_cases (P := fun wh => fl wh < 128) (by decide) (by decide) (by decide) (by decide) (by decide) (by decide) (by decide) wh h
theorem thB_all (set st : Int) : ∀ k : Nat, thB set st k = true ↔ ∀ j : Nat, j < k → hs set ((j : Int) + 1) → hs st ((j : Int) + 1) := by
  intro k
  induction k with
  | zero => exact ⟨fun _ j hj => absurd hj (Nat.not_lt_zero _), fun _ => rfl⟩
  | succ k ih =>
    have e : thB set st (k + 1) = (thB set st k && (!decide (hs set ((k : Int) + 1)) || decide (hs st ((k : Int) + 1)))) := rfl
    rw [e, Bool.and_eq_true, ih, Bool.or_eq_true, Bool.not_eq_true', decide_eq_false_iff_not, decide_eq_true_eq]
    constructor
    · rintro ⟨h1, h2⟩ j hj hs1
      by_cases q : j = k
      · rw [q] at hs1 ⊢
        rcases h2 with h2 | h2
        · exact absurd hs1 h2
        · exact h2
      · exact h1 j (by omega) hs1
    · intro h
      refine ⟨fun j hj => h j (by omega), ?_⟩
      by_cases q : hs set ((k : Int) + 1)
      · exact Or.inr (h k (by omega) q)
      · exact Or.inl q
theorem set_lt {wh : Nat} (hwh : wh < 7) {set : Int} (h1 : 1 ≤ set) (h2 : set ≤ fl wh) : set.toNat < 2 ^ (ho wh).toNat := by
  have h3 := (fl_rg9 hwh).2
  rw [h3] at h2
  have h4 : (set.toNat : Int) < (2 : Int) ^ (ho wh).toNat := by omega
  exact_mod_cast h4
theorem thr_B {wh : Nat} (hwh : wh < 7) {set : Int} (A : Int → Int) (h1 : 1 ≤ set) (h2 : set ≤ fl wh) : thr A set ↔ thB set (st7 A) (ho wh).toNat = true := by
  have h3 := set_lt hwh h1 h2
  have h4 := st7_rg A
  rw [thB_all]
  constructor
  · intro h j hj hs1
    rw [hs_tb (by omega)] at hs1 ⊢
    have e : (st7 A).toNat &&& set.toNat = set.toNat := by
      have h' : (((st7 A).toNat &&& set.toNat : Nat) : Int) = set := h
      omega
    rw [← e, Nat.testBit_and, Bool.and_eq_true] at hs1
    exact hs1.1
  · intro h
    show (((st7 A).toNat &&& set.toNat : Nat) : Int) = set
    have e : (st7 A).toNat &&& set.toNat = set.toNat := by
      apply Nat.eq_of_testBit_eq
      intro i
      rw [Nat.testBit_and]
      by_cases q : set.toNat.testBit i = true
      · have hi : i < (ho wh).toNat := by
          rcases Nat.lt_or_ge i (ho wh).toNat with z | z
          · exact z
          · have := Nat.testBit_lt_two_pow (Nat.lt_of_lt_of_le h3 (Nat.pow_le_pow_right (by omega) z))
            rw [this] at q
            exact absurd q (by decide)
        have := h i hi ((hs_tb (by omega)).mpr q)
        rw [hs_tb (by omega)] at this
        rw [this, q]; rfl
      · have q2 : set.toNat.testBit i = false := by
          rcases Bool.eq_false_or_eq_true (set.toNat.testBit i) with z | z
          · exact absurd z q
          · exact z
        rw [q2, Bool.and_false]
    rw [e]; omega
theorem GD.th {wh : Nat} (hwh : wh < 7) {s : SD} {r : RD} (h : GD wh s r) {set : Int} (h1 : 1 ≤ set) (h2 : set ≤ fl wh) : (s.fl = 1 ∧ thr s.A set) ↔ thQ wh r set := by
  have e := h.e.2.1
  rw [h.1.2.1, thr_B hwh r.A h1 h2]
  exact ⟨fun q => ⟨q.2, e.mp q.1⟩, fun q => ⟨e.mpr q.2, q.1⟩⟩
theorem GD.en {wh : Nat} (hwh : wh < 7) {s : SD} {r : RD} (h : GD wh s r) {set : Int} (h1 : 1 ≤ set) (h2 : set ≤ fl wh) : ((s.fl = 1 ∧ thr s.A set) ∧ s.dg < bc set) ↔ (thQ wh r set ∧ r.dg < bc set) := by
  rw [h.th hwh h1 h2]
  constructor
  · rintro ⟨a, b⟩; have := h.e.2.2 a.2; exact ⟨a, by omega⟩
  · rintro ⟨a, b⟩; have := h.e.2.2 a.2; exact ⟨a, by omega⟩
theorem GD.inl {wh : Nat} (hwh : wh < 7) {s : SD} {r : RD} (h : GD wh s r) (hf : r.dg ≠ -1) (set : Int) : il wh set s.A s.fl s.dg ↔ agD wh r set := by
  have e := h.e.2.1.mpr hf
  have d := h.e.2.2 hf
  show (s.fl = 1 ∧ hiK (gt wh set s.A (ho wh).toNat) 7 ≤ s.dg) ↔ hiK (trK wh set r.A (ho wh).toNat).1 7 ≤ r.dg
  rw [h.1.2.1, hi_tr hwh, d]
  exact ⟨fun q => q.2, fun q => ⟨e, q⟩⟩
theorem GD.ss {wh : Nat} (hwh : wh < 7) {s : SD} {r : RD} (h : GD wh s r) (hf : r.dg ≠ -1) : ∀ k : Nat, ssK wh s.A s.fl s.dg k = suK wh r k := by
  intro k
  induction k with
  | zero => rfl
  | succ k ih =>
    show (if hs (st7 s.A) ((k : Int) + 1) ∧ il wh (st7 s.A - 2 ^ k) s.A s.fl s.dg then ssK wh s.A s.fl s.dg k + 2 ^ k else ssK wh s.A s.fl s.dg k) = (if hs (st7 r.A) ((k : Int) + 1) ∧ agD wh r (st7 r.A - 2 ^ k) then suK wh r k + 2 ^ k else suK wh r k)
    have i := h.inl hwh hf (st7 s.A - 2 ^ k)
    have eA : st7 s.A = st7 r.A := by rw [h.1.2.1]
    rw [ih, eA]
    rw [eA] at i
    by_cases c : hs (st7 r.A) ((k : Int) + 1) ∧ agD wh r (st7 r.A - 2 ^ k)
    · rw [if_pos c, if_pos ⟨c.1, i.mpr c.2⟩]
    · rw [if_neg c, if_neg (fun q => c ⟨q.1, i.mp q.2⟩)]
theorem GD.wr {wh : Nat} (hwh : wh < 7) {s : SD} {r : RD} (h : GD wh s r) : wrf wh s.A s.fl s.dg = wrV wh r := by
  unfold wrf wrV
  by_cases hf : r.dg = -1
  · rw [if_pos (h.e.1.mpr hf), if_pos hf]
  · have d := h.e.2.2 hf
    have eA : st7 s.A = st7 r.A := by rw [h.1.2.1]
    have i := h.inl hwh hf (st7 s.A)
    rw [if_neg (fun q => hf (h.e.1.mp q)), if_neg hf, h.ss hwh hf]
    rw [eA] at i ⊢
    by_cases c : agD wh r (st7 r.A)
    · rw [if_pos c, if_pos (i.mpr c)]
    · rw [if_neg c, if_neg (fun q => c (i.mp q)), d]
theorem wrV_rg2 {wh : Nat} (hwh : wh < 7) {r : RD} (h : 0 < wrV wh r) : 1 ≤ wrV wh r ∧ wrV wh r ≤ ho wh := by
  have hM := pr_M hwh
  unfold wrV at h ⊢
  by_cases c1 : r.dg = -1
  · rw [if_pos c1] at h; exact absurd h (by decide)
  · rw [if_neg c1] at h ⊢
    by_cases c2 : agD wh r (st7 r.A)
    · rw [if_pos c2] at h; exact absurd h (by decide)
    · rw [if_neg c2] at h ⊢
      by_cases c3 : bc (st7 r.A) < r.dg + 3
      · rw [if_pos c3] at h; exact absurd h (by decide)
      · rw [if_neg c3] at h ⊢
        exact (ffd_rg (ho wh).toNat (by omega) h).2
