/-! ===== the property of its own: a ghost of the reference beside each deal ===== -/
def RN (r : RD) : RD := (r.dg, if r.dg = -1 then 0 else r.hp, r.A, r.E)
theorem SR.rn {wh : Nat} {s : SD} {r : RD} (h : SR wh s r) : SR wh s (RN r) := by
  refine ⟨h.1, h.2.1, h.2.2.1, ?_⟩
  show ((if r.dg = -1 then (0 : Int) else r.hp) = 0 ∧ s.sc = 0) ∨ ((if r.dg = -1 then (0 : Int) else r.hp) = 1 ∧ s.sc = r.dg + 1 ∧ ∀ k, 0 ≤ k → k ≤ r.dg → s.B k = sl wh (r.E k))
  by_cases c : r.dg = -1
  · rw [if_pos c]
    refine Or.inl ⟨rfl, ?_⟩
    rcases h.2.2.2 with q | q
    · exact q.2
    · have := q.2.1; omega
  · rw [if_neg c]; exact h.2.2.2
theorem GN {w : e_W} {x wh : Nat} {kn : Int} {D : Nat → SD} {R : Nat → RD} (hC : CW w x wh kn D) (h : SS wh D R) : GG wh D (fun j => RN (R j)) := by
  have hw := ho_rg wh hC.2.2.1
  refine ⟨hC.2.2.1, fun j hj => (h j hj).rn, fun j hj => ?_⟩
  obtain ⟨hd, hs⟩ := hC.2.2.2.2.2.1 j hj
  have hS := (h j hj).rn
  refine ⟨hS, hd.2.2.2.2.1, fun q => if_pos q, ?_, fun i => ?_, fun q i => ?_⟩
  · rcases hS.2.2.2 with g | g
    · exact Or.inl g.1
    · exact Or.inr g.1
  · by_cases c : 1 ≤ i ∧ i ≤ ho wh
    · rw [← hS.2.1]
      rcases hs.1 i c.1 (by omega) with g | g
      · exact Or.inl g
      · exact Or.inr ⟨g.1, g.2.1⟩
    · exact Or.inl (hS.2.2.1 i c)
  · by_cases c : 1 ≤ i ∧ i ≤ ho wh
    · rw [← hS.2.1]; exact (hs.2.2.2 q).2.2 i c.1 (by omega)
    · exact hS.2.2.1 i c
/-! polynomials through shares -/
theorem p_un {wh : Nat} (hwh : wh < 7) {set : Int} {A : Int → Int} {E : Nat → Int} {n : Nat} (hn : n ≤ q_cn set (ho wh).toNat) (H : ∀ j : Nat, j < (ho wh).toNat → hs set ((j : Int) + 1) → cg (pr wh) (A ((j : Int) + 1)) (q_ev n E ((j : Int) + 1))) : ∀ k : Nat, cg (pr wh) (gt wh set A (ho wh).toNat (k : Int)) (if k < n then E k else 0) := by
  have hM := pr_M hwh
  have l1 := q_cn_le set (ho wh).toNat
  have z1 := zb_gt (wh := wh) set A (ho wh).toNat (Nat.le_refl _)
  have u := q_uniq hwh set (ho wh).toNat hM.2.2 (fun k : Nat => gt wh set A (ho wh).toNat (k : Int) + (-1) * (if k < n then E k else 0)) (fun j hj q => by
    rw [q_sub]
    have e1 : q_ev (q_cn set (ho wh).toNat) (fun k : Nat => gt wh set A (ho wh).toNat (k : Int)) ((j : Int) + 1) = q_e8 (gt wh set A (ho wh).toNat) ((j : Int) + 1) := (q_zb z1 (m := 8) (by omega) _).symm
    have e2 := q_more (p := 0) (f := fun k : Nat => if k < n then E k else 0) (n := n) (q_cn set (ho wh).toNat - n) (fun k hk => if_neg (by omega)) ((j : Int) + 1)
    rw [show n + (q_cn set (ho wh).toNat - n) = q_cn set (ho wh).toNat by omega] at e2
    have e3 : q_ev n (fun k : Nat => if k < n then E k else 0) ((j : Int) + 1) = q_ev n E ((j : Int) + 1) := q_congr (fun k hk => if_pos hk) _
    have h1 := cg_t (gt_ev hwh set A ((j : Int) + 1) (ho wh).toNat) (lag_K hwh set A (by omega) (by omega) q (ho wh).toNat (by omega))
    rw [if_pos (by omega)] at h1
    rw [e1, e2, e3]
    exact cg_d (cg_t h1 (H j hj q)))
  intro k
  by_cases c : k < q_cn set (ho wh).toNat
  · have v := u k c
    refine cg_i ?_
    have w : gt wh set A (ho wh).toNat (k : Int) - (if k < n then E k else 0) = gt wh set A (ho wh).toNat (k : Int) + (-1) * (if k < n then E k else 0) := by rw [Int.neg_mul, Int.one_mul]; omega
    rw [w]; exact v
  · rw [z1 (k : Int) (by omega), if_neg (by omega)]; exact cg_r
theorem p_tl {wh : Nat} (hwh : wh < 7) {set : Int} {A : Int → Int} {E : Nat → Int} {n : Nat} (hn : n ≤ q_cn set (ho wh).toNat) (H : ∀ j : Nat, j < (ho wh).toNat → hs set ((j : Int) + 1) → cg (pr wh) (A ((j : Int) + 1)) (q_ev n E ((j : Int) + 1))) (x : Int) : tl wh set A x = q_ev n E x % pr wh := by
  have hM := pr_M hwh
  have l1 := q_cn_le set (ho wh).toNat
  have u := p_un hwh hn H
  refine cg_lt ?_ (emod_rg _ hwh)
  refine cg_t cg_e (cg_t (cg_s (gt_ev hwh set A x (ho wh).toNat)) ?_)
  have e2 := q_more (p := 0) (f := fun k : Nat => if k < n then E k else 0) (n := n) (8 - n) (fun k hk => if_neg (by omega)) x
  rw [show n + (8 - n) = 8 by omega] at e2
  have e3 : q_ev n (fun k : Nat => if k < n then E k else 0) x = q_ev n E x := q_congr (fun k hk => if_pos hk) _
  refine cg_t (q_cgm (fun k _ => u k) x) (cg_q ?_)
  rw [e2, e3]
theorem p_hi {wh : Nat} (hwh : wh < 7) {set : Int} {A : Int → Int} {d : Nat} (hd : d ≤ 6) : hiK (gt wh set A (ho wh).toNat) 7 ≤ (d : Int) ↔ ∃ E : Nat → Int, ∀ j : Nat, j < (ho wh).toNat → hs set ((j : Int) + 1) → cg (pr wh) (A ((j : Int) + 1)) (q_ev (d + 1) E ((j : Int) + 1)) := by
  have hM := pr_M hwh
  have l1 := q_cn_le set (ho wh).toNat
  have z1 := zb_gt (wh := wh) set A (ho wh).toNat (Nat.le_refl _)
  rw [hiK_le _ (by omega) 7]
  constructor
  · intro h
    refine ⟨fun k : Nat => gt wh set A (ho wh).toNat (k : Int), fun j hj q => ?_⟩
    have h1 := cg_t (gt_ev hwh set A ((j : Int) + 1) (ho wh).toNat) (lag_K hwh set A (by omega) (by omega) q (ho wh).toNat (by omega))
    rw [if_pos (by omega)] at h1
    have zd : zb (d + 1) (gt wh set A (ho wh).toNat) := by
      intro c hc
      rcases Int.lt_or_le c 7 with q | q
      · exact h c (by omega) q
      · exact z1 c (by omega)
    refine cg_t (cg_s h1) (cg_q ?_)
    unfold q_e8
    rw [q_zb zd (m := 8) (by omega)]
  · rintro ⟨E, H⟩ c h1 h2
    by_cases q : d + 1 ≤ q_cn set (ho wh).toNat
    · have u := p_un hwh q H c.toNat
      rw [show ((c.toNat : Nat) : Int) = c by omega, if_neg (by omega)] at u
      have hp := pr_rg wh hwh
      exact cg_eq u (gt_rg2 hwh set A c _) ⟨Int.le_refl _, by omega⟩
    · exact z1 c (by omega)
/-! which holders are the first -/
theorem cn_bc9 {wh : Nat} (hwh : wh < 7) {set : Int} (h1 : 0 ≤ set) (h2 : set ≤ fl wh) : ((q_cn set (ho wh).toNat : Nat) : Int) = bc set := by
  have h3 := (fl_rg9 hwh).1
  obtain ⟨n, rfl⟩ : ∃ n : Nat, set = (n : Int) := ⟨set.toNat, by omega⟩
  rw [cn_M0 wh hwh n (by omega) h2, cn_bc0 n (by omega)]
theorem stK_fl {wh : Nat} (hwh : wh < 7) {A : Int → Int} (h : ∀ j, ¬ (1 ≤ j ∧ j ≤ ho wh) → A j = -1) : 0 ≤ st7 A ∧ st7 A ≤ fl wh := by
  have hM := pr_M hwh
  have e : st7 A = stK A (ho wh).toNat := stK_top (M := (ho wh).toNat) (fun j h1 h2 => h j (by omega)) 7 hM.1 (by omega)
  have r := stK_rg A (ho wh).toNat
  have f := (fl_rg9 hwh).2
  rw [e, f]; omega
theorem foK_st {A : Int → Int} {dg : Int} : ∀ k : Nat, k ≤ 7 → (bc (foK dg (st7 A) k) ≤ bc (stK A k)) ∧ (bc (foK dg (st7 A) k) ≤ dg → foK dg (st7 A) k = stK A k) := by
  intro k
  induction k with
  | zero => intro _; exact ⟨Int.le_refl _, fun _ => rfl⟩
  | succ k ih =>
    intro hk
    have i := ih (by omega)
    have r := foK_rg9 dg (st7 A) k
    have r2 := stK_rg A k
    have e : stK A (k + 1) = stK A k + (if A ((k : Int) + 1) ≠ -1 then 2 ^ k else 0) := rfl
    have t := st7_hs A (j := k) (by omega)
    rw [foK_su, e]
    by_cases c : A ((k : Int) + 1) ≠ -1
    · rw [if_pos c]
      have b2 := bc_add r2.1 (by omega) r2.2
      have b1 := bc_add r.1 (by omega) r.2
      by_cases d : bc (foK dg (st7 A) k) ≤ dg
      · rw [if_pos ⟨t.mpr c, d⟩, b1, b2]
        exact ⟨by omega, fun q => by rw [i.2 d]⟩
      · rw [if_neg (fun q => d q.2), b2]
        exact ⟨by omega, fun q => absurd q d⟩
    · rw [if_neg c, Int.add_zero, if_neg (fun q => c (t.mp q.1))]
      exact i
theorem p_fs {wh : Nat} {s : SD} {r : RD} (hwh : wh < 7) (g : GD wh s r) (hf : r.dg ≠ -1) : (s.dg < bc (st7 s.A) → fs7 s.A s.dg ≠ 0 ∧ ((q_cn (fs7 s.A s.dg) (ho wh).toNat : Nat) : Int) = s.dg + 1 ∧ ∀ j : Nat, j < (ho wh).toNat → hs (fs7 s.A s.dg) ((j : Int) + 1) → s.A ((j : Int) + 1) ≠ -1) ∧ (bc (st7 s.A) ≤ s.dg → fs7 s.A s.dg = 0) := by
  have hM := pr_M hwh
  have d := g.e.2.2 hf
  have d2 := g.2.1
  have fs := fsK_fo s.A s.dg 7 (by omega)
  have st := foK_st (A := s.A) (dg := s.dg) 7 (by omega)
  have rg := foK_rg9 s.dg (st7 s.A) 7
  have bb := foK_bc (dg := s.dg) (by omega) (st7 s.A) 7 (by omega)
  have e7 : st7 s.A = stK s.A 7 := rfl
  have ef : fs7 s.A s.dg = if s.dg + 1 - bc (foK s.dg (st7 s.A) 7) = 0 then foK s.dg (st7 s.A) 7 else 0 := by
    unfold fs7
    rw [fs]
  constructor
  · intro h
    have c : s.dg + 1 - bc (foK s.dg (st7 s.A) 7) = 0 := by
      rcases Int.lt_or_le s.dg (bc (foK s.dg (st7 s.A) 7)) with q | q
      · omega
      · have e := st.2 q
        rw [e, ← e7] at q
        omega
    rw [ef, if_pos c]
    have top := foK_top (dg := s.dg) (st := st7 s.A) (M := (ho wh).toNat) (fun j h1 h2 q => (st7_hs s.A h2).mp q (by rw [g.1.2.1]; exact g.1.2.2.1 _ (by omega))) 7 hM.1 (by omega)
    have rM := foK_rg9 s.dg (st7 s.A) (ho wh).toNat
    have f := (fl_rg9 hwh).2
    have hb := cn_bc9 hwh (set := foK s.dg (st7 s.A) 7) rg.1 (by rw [f, top]; omega)
    refine ⟨fun z => ?_, by rw [hb]; omega, fun j hj q => (st7_hs s.A (by omega)).mp (foK_in s.dg (st7 s.A) (by omega) 7 (by omega) q)⟩
    rw [z] at c
    have : bc 0 = 0 := rfl
    omega
  · intro h
    rw [ef, if_neg ?_]
    have := st.1
    rw [← e7] at this
    omega
/-- the shares lie on the polynomial E -/
def onE (wh : Nat) (A : Int → Int) (n : Nat) (E : Nat → Int) : Prop := ∀ j : Nat, j < (ho wh).toNat → A ((j : Int) + 1) ≠ -1 → cg (pr wh) (A ((j : Int) + 1)) (q_ev n E ((j : Int) + 1))
theorem onE_tl {wh : Nat} (hwh : wh < 7) {set : Int} {A : Int → Int} {E : Nat → Int} {n : Nat} (h : onE wh A n E) (hn : n ≤ q_cn set (ho wh).toNat) (sub : ∀ j : Nat, j < (ho wh).toNat → hs set ((j : Int) + 1) → A ((j : Int) + 1) ≠ -1) (x : Int) : tl wh set A x = q_ev n E x % pr wh := p_tl hwh hn (fun j hj q => h j hj (sub j hj q)) x
theorem p_agr {wh : Nat} {s : SD} {r : RD} (hwh : wh < 7) (g : GD wh s r) (hf : r.dg ≠ -1) : il wh (st7 s.A) s.A s.fl s.dg ↔ ∃ E, onE wh s.A (s.dg.toNat + 1) E := by
  have hM := pr_M hwh
  have d2 := g.2.1
  have f1 := g.e.2.1.mpr hf
  have h := p_hi hwh (set := st7 s.A) (A := s.A) (d := s.dg.toNat) (by omega)
  rw [show ((s.dg.toNat : Nat) : Int) = s.dg by omega] at h
  show (s.fl = 1 ∧ hiK (gt wh (st7 s.A) s.A (ho wh).toNat) 7 ≤ s.dg) ↔ _
  rw [h]
  constructor
  · rintro ⟨-, E, H⟩
    exact ⟨E, fun j hj q => H j hj ((st7_hs s.A (by omega)).mpr q)⟩
  · rintro ⟨E, H⟩
    exact ⟨f1, E, fun j hj q => H j hj ((st7_hs s.A (by omega)).mp q)⟩
theorem p_num {wh : Nat} {s : SD} {r : RD} (hwh : wh < 7) (g : GD wh s r) (hf : r.dg ≠ -1) {E : Nat → Int} (h : onE wh s.A (s.dg.toNat + 1) E) : odV wh s 5 = if s.dg < bc (st7 s.A) then E 0 % pr wh else -1 := by
  have f := p_fs hwh g hf
  have d2 := g.2.1
  show (if fs7 s.A s.dg = 0 then -1 else tl wh (fs7 s.A s.dg) s.A 0) = _
  by_cases c : s.dg < bc (st7 s.A)
  · have f1 := f.1 c
    rw [if_pos c, if_neg f1.1, onE_tl hwh h (by omega) f1.2.2]
    show (E 0 + 0 * _) % _ = _
    rw [Int.zero_mul, Int.add_zero]
  · rw [if_neg c, if_pos (f.2 (by omega))]
theorem p_sub {wh : Nat} (hwh : wh < 7) {A : Int → Int} {set : Int} (h1 : 1 ≤ set) (h2 : set ≤ fl wh) (t : thr A set) : ∀ j : Nat, j < (ho wh).toNat → hs set ((j : Int) + 1) → A ((j : Int) + 1) ≠ -1 := by
  have hM := pr_M hwh
  intro j hj q
  exact (st7_hs A (by omega)).mp ((thB_all set (st7 A) (ho wh).toNat).mp ((thr_B hwh A h1 h2).mp t) j hj q)
theorem bc_one : ∀ s : Nat, s < 128 → s = 0 ∨ 1 ≤ bc (s : Int) := by decide +kernel
/-- weights add to 1 -/
theorem p_one {wh : Nat} (hwh : wh < 7) {set : Int} (h1 : 1 ≤ set) (h2 : set ≤ fl wh) (x : Int) : tl wh set (fun _ => 1) x = 1 := by
  have hp := pr_rg wh hwh
  have hb := cn_bc9 hwh (set := set) (by omega) h2
  have h3 := (fl_rg9 hwh).1
  have b1 : 1 ≤ bc set := by
    obtain ⟨n, rfl⟩ : ∃ n : Nat, set = (n : Int) := ⟨set.toNat, by omega⟩
    exact (bc_one n (by omega)).resolve_left (by omega)
  rw [p_tl hwh (n := 1) (E := fun _ => 1) (by omega) (fun j _ _ => cg_q (by show (1 : Int) = 1 + _ * 0; rw [Int.mul_zero]; rfl))]
  show (1 + x * 0) % pr wh = 1
  rw [Int.mul_zero, Int.add_zero]
  exact Int.emod_eq_of_lt (by omega) (by omega)
/-- the seals' polynomial -/
theorem p_fit {wh : Nat} {s : SD} {r : RD} (hwh : wh < 7) (g : GD wh s r) (hp1 : r.hp = 1) {h : Int} (hh : 0 ≤ h) (hA : s.A h ≠ -1) : fit wh s.sc s.A s.B h ↔ cg (pr wh) (s.A h) (q_ev (s.dg.toNat + 1) (fun k : Nat => r.E (k : Int)) h) := by
  have hp := pr_rg wh hwh
  have z := g.sc.2 hp1
  have d := g.e.2.2 z.2
  rw [g.1.2.1] at hA
  rw [g.ft hwh hp1 hh hA]
  have rg := (g.2.2.2.2.1 h).resolve_left hA
  show r.A h = hv (pr wh) h r.E ((r.dg.toNat + 1 : Nat) : Int) (r.dg.toNat + 1) ↔ _
  rw [g.1.2.1, d]
  have e := hv_ev (pr wh) h r.E (s.dg.toNat + 1) rfl
  constructor
  · intro q; exact cg_t (cg_q q) e
  · intro q; exact cg_eq (cg_t q (cg_s e)) rg (hv_rg (by omega) _)
theorem p_snd {wh : Nat} {D : Nat → SD} {R : Nat → RD} (G : GG wh D R) : snV wh D = 1 := by
  have hwh := G.1
  have hM := pr_M hwh
  have fss1 : ∀ k : Nat, k ≤ 6 → fss wh D k = true := by
    intro k
    induction k with
    | zero => intro _; rfl
    | succ k ih =>
      intro hk
      have g := G.2.2 (5 - k) (by omega)
      show (if 0 < (D (5 - k)).sc then decide (dok wh (D (5 - k))) else fss wh D k) = true
      by_cases c : 0 < (D (5 - k)).sc
      · rw [if_pos c]
        refine decide_eq_true ?_
        generalize D (5 - k) = s at g c
        generalize R (5 - k) = r at g
        have hp1 := g.sc.1.mp c
        have z := g.sc.2 hp1
        have f := p_fs hwh g z.2
        have d2 := g.2.1
        show fs7 s.A s.dg = 0 ∨ ¬ (daB wh s.sc s.A s.B (fs7 s.A s.dg) (ho wh) (ho wh).toNat = true) ∨ sl wh (tl wh (fs7 s.A s.dg) s.A 0) = s.B 0
        by_cases e : s.dg < bc (st7 s.A)
        · have f1 := f.1 e
          by_cases q : daB wh s.sc s.A s.B (fs7 s.A s.dg) (ho wh) (ho wh).toNat = true
          · right; right
            rw [daB_all] at q
            have t := p_tl hwh (set := fs7 s.A s.dg) (A := s.A) (n := s.dg.toNat + 1) (E := fun k : Nat => r.E (k : Int)) (by omega) (fun j hj w => by
              have w2 := q ((ho wh).toNat - 1 - j) (by omega)
              rw [show ho wh - (((ho wh).toNat - 1 - j : Nat) : Int) = (j : Int) + 1 by omega] at w2
              exact (p_fit hwh g hp1 (by omega) (f1.2.2 j hj w)).mp (w2 w)) 0
            have d := g.e.2.2 z.2
            rcases g.1.2.2.2 with w | w
            · omega
            · rw [t, w.2.2 0 (Int.le_refl _) (by omega)]
              refine sl_eq (cg_t cg_e (cg_q ?_))
              show r.E ((0 : Nat) : Int) + 0 * _ = r.E 0
              rw [Int.zero_mul, Int.add_zero]; rfl
          · right; left; exact q
        · left; exact f.2 (by omega)
      · rw [if_neg c]; exact ih (by omega)
  have h4 := ho_rg wh hwh
  have fl1 : 1 ≤ fl wh := by
    have : ∀ wh, wh < 7 → 1 ≤ fl wh := wh_cases (by decide) (by decide) (by decide) (by decide) (by decide) (by decide) (by decide)
    exact this wh hwh
  exact b01_t ⟨p_one hwh fl1 (Int.le_refl _) 0, fss1 6 (by omega)⟩
/-! ===== the property's checks: the field ===== -/
theorem f_1 {wh : Nat} (hwh : wh < 7) (a : Int) : qv wh 1 (a % pr wh) = -9 ↔ a % pr wh = 0 := by
  unfold qv
  by_cases c : a % pr wh = 0
  · rw [if_pos c]; exact ⟨fun _ => c, fun _ => rfl⟩
  · rw [if_neg c]
    have := emod_rg (1 * iv wh (a % pr wh)) hwh
    exact ⟨fun q => by omega, fun q => absurd q c⟩
theorem f_2 {wh : Nat} (hwh : wh < 7) {a : Int} (h : qv wh 1 (a % pr wh) ≠ -9) : rcV wh a (qv wh 1 (a % pr wh)) 2 = 1 := by
  have hp := pr_rg wh hwh
  have c : ¬ a % pr wh = 0 := fun q => h ((f_1 hwh a).mpr q)
  have rg := emod_rg a hwh
  show a * qv wh 1 (a % pr wh) % pr wh = 1
  unfold qv
  rw [if_neg c, Int.one_mul, emod_mul_r]
  have i := iv_mul hwh (v := a % pr wh) (by omega) rg.2
  rw [Int.mul_comm, emod_mul_l] at i
  exact i
theorem f_3 {wh : Nat} (hwh : wh < 7) (a : Int) : pwV wh a (pr wh) = a % pr wh := by
  have hp := pr_rg wh hwh
  have rg := emod_rg a hwh
  unfold pwV e_pw
  rw [if_pos (by omega)]
  obtain ⟨k, hk⟩ : ∃ k, (pr wh).toNat = k + 1 := ⟨(pr wh).toNat - 1, by omega⟩
  by_cases c : a % pr wh = 0
  · rw [c, hk, Int.pow_succ, Int.mul_zero, Int.zero_emod]
  · have f := fermatI hwh (v := a % pr wh) (by omega) rg.2
    rw [show (pr wh - 1).toNat = k by omega] at f
    rw [hk, Int.pow_succ, ← emod_mul_l, f, Int.one_mul]
    exact Int.emod_eq_of_lt rg.1 rg.2
theorem f_5 {wh : Nat} (hwh : wh < 7) (a b : Int) : sl wh (rcV wh a b 0) = sl wh a * sl wh b % gr wh := by
  show sl wh ((a + b) % pr wh) = _
  rw [sl_mod, sl_add hwh]
/-! what sets tell -/
theorem t_thr (A : Int → Int) : thr A (st7 A) := by
  have r := st7_rg A
  show (((st7 A).toNat &&& (st7 A).toNat : Nat) : Int) = st7 A
  rw [Nat.and_self]; omega
theorem GD.fl1 {wh : Nat} {s : SD} {r : RD} (g : GD wh s r) (h : s.fl = 1) : r.dg ≠ -1 := g.e.2.1.mp h
theorem t_fl {wh : Nat} {s : SD} {r : RD} (hwh : wh < 7) (g : GD wh s r) : 0 ≤ st7 s.A ∧ st7 s.A ≤ fl wh := by
  rw [g.1.2.1]; exact stK_fl hwh g.1.2.2.1
theorem t_pos {A : Int → Int} (h : 0 < bc (st7 A)) : 1 ≤ st7 A := by
  have r := st7_rg A
  rcases Int.lt_or_le (st7 A) 1 with q | q
  · rw [show st7 A = 0 by omega] at h
    exact absurd h (by decide)
  · exact q
theorem il_fl {wh : Nat} {set : Int} {A : Int → Int} {fl9 dg : Int} (h : il wh set A fl9 dg) : fl9 = 1 := h.1
/-- known: the deal agrees, and has more shares than its degree -/
theorem t_kno9 {wh : Nat} {s : SD} {r : RD} (hwh : wh < 7) (g : GD wh s r) (hil : il wh (st7 s.A) s.A s.fl s.dg) (hb : s.dg < bc (st7 s.A)) : ∃ E : Nat → Int, onE wh s.A (s.dg.toNat + 1) E ∧ odV wh s 5 = E 0 % pr wh ∧ (∀ set x, 1 ≤ set → set ≤ fl wh → thr s.A set → s.dg < bc set → tl wh set s.A x = q_ev (s.dg.toNat + 1) E x % pr wh) ∧ (1 ≤ st7 s.A ∧ st7 s.A ≤ fl wh) := by
  have hf := g.fl1 hil.1
  have d2 := g.2.1
  obtain ⟨E, hE⟩ := (p_agr hwh g hf).mp hil
  have n := p_num hwh g hf hE
  rw [if_pos hb] at n
  have f := t_fl hwh g
  refine ⟨E, hE, n, fun set x h1 h2 t h3 => ?_, t_pos (by omega), f.2⟩
  have c := cn_bc9 hwh (set := set) (by omega) h2
  exact onE_tl hwh hE (by omega) (p_sub hwh h1 h2 t) x
theorem q_ev0 (n : Nat) (E : Nat → Int) : q_ev (n + 1) E 0 = E 0 := by
  show E 0 + 0 * _ = E 0
  rw [Int.zero_mul, Int.add_zero]
theorem t_open {wh : Nat} {s : SD} {r : RD} (hwh : wh < 7) (g : GD wh s r) (hil : il wh (st7 s.A) s.A s.fl s.dg) (hb : s.dg < bc (st7 s.A)) {set : Int} (h1 : 1 ≤ set) (h2 : set ≤ fl wh) (x : Int) (t : thr s.A set) (h3 : s.dg < bc set) : tl wh set s.A 0 = odV wh s 5 ∧ tl wh set s.A x = tl wh (st7 s.A) s.A x := by
  obtain ⟨E, hE, n, u, f⟩ := t_kno9 hwh g hil hb
  refine ⟨by rw [u set 0 h1 h2 t h3, n, q_ev0], by rw [u set x h1 h2 t h3, u (st7 s.A) x f.1 f.2 (t_thr _) hb]⟩
theorem t_ways {wh : Nat} {s : SD} {r : RD} (hwh : wh < 7) (g : GD wh s r) {set a : Int} (h1 : 0 ≤ wyV wh s set a) (h2 : bc set ≤ s.dg) : wyV wh s set a = pr wh ^ (s.dg - bc set).toNat ∧ pr wh ^ s.dg.toNat ≤ 125 := by
  have hp := pr_rg wh hwh
  have d2 := g.2.1
  unfold wyV at h1 ⊢
  by_cases c : (s.fl = 1 ∧ thr s.A set) ∧ pbK (pr wh) s.dg.toNat ≤ 125
  · have b0 : 0 ≤ bc set := by unfold bc; omega
    rw [if_pos c] at h1 ⊢
    rw [if_pos (by omega), pbK_pow (by omega) c.2 _ (by omega)]
    have e := pbK_pow (p := pr wh) (by omega) c.2 s.dg.toNat (Nat.le_refl _)
    exact ⟨rfl, by rw [← e]; exact c.2⟩
  · rw [if_neg c] at h1
    exact absurd h1 (by decide)
/-- all shares that are there fit -/
theorem t_fit {wh : Nat} {s : SD} {r : RD} (hwh : wh < 7) (g : GD wh s r) (hs0 : 0 < s.sc) (H : ∀ j : Nat, j < (ho wh).toNat → s.A ((j : Int) + 1) ≠ -1 → fit wh s.sc s.A s.B ((j : Int) + 1)) : il wh (st7 s.A) s.A s.fl s.dg ∧ (s.dg < bc (st7 s.A) → sl wh (odV wh s 5) = s.B 0) := by
  have hp1 := g.sc.1.mp hs0
  have z := g.sc.2 hp1
  have d := g.e.2.2 z.2
  have hE : onE wh s.A (s.dg.toNat + 1) (fun k : Nat => r.E (k : Int)) := fun j hj q => (p_fit hwh g hp1 (by omega) q).mp (H j hj q)
  refine ⟨(p_agr hwh g z.2).mpr ⟨_, hE⟩, fun hb => ?_⟩
  have n := p_num hwh g z.2 hE
  rw [if_pos hb] at n
  rcases g.1.2.2.2 with w | w
  · omega
  · rw [n, w.2.2 0 (Int.le_refl _) (by have := g.2.1; omega)]
    exact sl_eq cg_e
/-! what is hidden, poured in, multiplied, handed on -/
theorem lay_on {wh : Nat} (hwh : wh < 7) {g : Int} {P : Int → Int} (h0 : 0 ≤ g) (h6 : g ≤ 6) (hz0 : ∀ c, g < c → c < 7 → P c = 0) : onE wh (lpA wh P) (g.toNat + 1) (fun k : Nat => P (k : Int)) := by
  have hp := pr_rg wh hwh
  have hM := pr_M hwh
  intro j hj _
  have e : lpA wh P ((j : Int) + 1) = hz (pr wh) ((j : Int) + 1) P 7 := if_pos (by omega)
  rw [e, hv_cut (by omega) h0 h6 hz0 (fun _ _ _ => rfl)]
  exact hv_ev _ _ _ _ rfl
theorem bc_fl : ∀ wh, wh < 7 → bc (fl wh) = ho wh := wh_cases (by decide) (by decide) (by decide) (by decide) (by decide) (by decide) (by decide)
theorem stK_all {A : Int → Int} : ∀ k : Nat, (∀ j : Nat, j < k → A ((j : Int) + 1) ≠ -1) → stK A k = 2 ^ k - 1 := by
  intro k
  induction k with
  | zero => intro _; rfl
  | succ k ih =>
    intro h
    show stK A k + (if A ((k : Int) + 1) ≠ -1 then 2 ^ k else 0) = _
    rw [ih (fun j hj => h j (by omega)), if_pos (h k (by omega)), Int.pow_succ]
    omega
theorem lay_bc {wh : Nat} (hwh : wh < 7) (P : Int → Int) : bc (st7 (lpA wh P)) = ho wh := by
  have hp := pr_rg wh hwh
  have hM := pr_M hwh
  have h1 : st7 (lpA wh P) = stK (lpA wh P) (ho wh).toNat := stK_top (M := (ho wh).toNat) (fun j h1 h2 => if_neg (by omega)) 7 hM.1 (by omega)
  rw [h1, stK_all _ (fun j hj => ?_)]
  · exact bc_fl wh hwh
  · have e : lpA wh P ((j : Int) + 1) = hz (pr wh) ((j : Int) + 1) P 7 := if_pos (by omega)
    have r := hz_rg (p := pr wh) (x := (j : Int) + 1) (P := P) (by omega) 7
    rw [e]; omega
theorem k_lay {wh : Nat} (hwh : wh < 7) {g : Int} {P : Int → Int} (h0 : 0 ≤ g) (h3 : g ≤ 3) (hz0 : ∀ c, g < c → c < 7 → P c = 0) {r : RD} (gd : GD wh (lpS wh g P) r) : odV wh (lpS wh g P) 4 = 1 ∧ odV wh (lpS wh g P) 5 = P 0 % pr wh := by
  have h4 := ho_rg wh hwh
  have hE := lay_on hwh h0 (by omega) hz0
  have eA : (lpS wh g P).A = lpA wh P := (lpS_A wh g P).symm
  have ed : (lpS wh g P).dg = g := rfl
  have hf : r.dg ≠ -1 := gd.fl1 rfl
  have hE2 : onE wh (lpS wh g P).A ((lpS wh g P).dg.toNat + 1) (fun k : Nat => P (k : Int)) := by rw [eA]; exact hE
  have il1 := (p_agr hwh gd hf).mpr ⟨_, hE2⟩
  have n := p_num hwh gd hf hE2
  have hb := lay_bc hwh P
  rw [eA] at n
  rw [if_pos (by rw [hb, ed]; omega)] at n
  exact ⟨b01_t il1, n⟩
/-! ===== the property's checks: copies changed ===== -/
theorem q_evadd (x : Int) (n : Nat) (f g : Nat → Int) : q_ev n (fun k => f k + g k) x = q_ev n f x + q_ev n g x := by
  have h := q_lin 1 x n f g
  rw [Int.one_mul] at h
  rw [← h]
  exact q_congr (fun k _ => by rw [Int.one_mul]) x
theorem q_evmul (c x : Int) (n : Nat) (f : Nat → Int) : q_ev n (fun k => c * f k) x = c * q_ev n f x := by
  induction n generalizing f with
  | zero => show (0 : Int) = c * 0; rw [Int.mul_zero]
  | succ n ih =>
    show c * f 0 + x * q_ev n (fun k => c * f (k + 1)) x = c * (f 0 + x * q_ev n (fun k => f (k + 1)) x)
    rw [ih (fun k => f (k + 1)), Int.mul_add, Int.mul_left_comm]
/-- presence alone decides the sets -/
theorem stK_pr {A B : Int → Int} : ∀ k : Nat, k ≤ 7 → (∀ j : Nat, j < 7 → (A ((j : Int) + 1) = -1 ↔ B ((j : Int) + 1) = -1)) → stK A k = stK B k := by
  intro k
  induction k with
  | zero => intro _ _; rfl
  | succ k ih =>
    intro hk h
    show stK A k + (if A ((k : Int) + 1) ≠ -1 then 2 ^ k else 0) = stK B k + (if B ((k : Int) + 1) ≠ -1 then 2 ^ k else 0)
    rw [ih (by omega) h]
    have i := h k (by omega)
    by_cases c : A ((k : Int) + 1) = -1
    · rw [if_neg (fun q => q c), if_neg (fun q => q (i.mp c))]
    · rw [if_pos c, if_pos (fun q => c (i.mpr q))]
theorem st7_pr {A B : Int → Int} (h : ∀ j : Nat, j < 7 → (A ((j : Int) + 1) = -1 ↔ B ((j : Int) + 1) = -1)) : st7 A = st7 B := stK_pr 7 (by omega) h
theorem bcm_0 (p g a b c d : Int) : bcm p g a b c d 0 = a % p := if_pos rfl
/-- a deal that agrees with its number: 4 and 5 of ofDeal -/
theorem k_on {wh : Nat} (hwh : wh < 7) {s : SD} {r : RD} (g : GD wh s r) (hf : s.fl = 1) {E : Nat → Int} (h : onE wh s.A (s.dg.toNat + 1) E) : odV wh s 4 = 1 ∧ odV wh s 5 = if s.dg < bc (st7 s.A) then E 0 % pr wh else -1 :=
  ⟨b01_t ((p_agr hwh g (g.fl1 hf)).mpr ⟨_, h⟩), p_num hwh g (g.fl1 hf) h⟩
theorem odV4 {wh : Nat} {s : SD} : odV wh s 4 = 1 ↔ il wh (st7 s.A) s.A s.fl s.dg := b01_1
theorem odV5_nn {wh : Nat} (hwh : wh < 7) {s : SD} {r : RD} (g : GD wh s r) (hf : s.fl = 1) (h : 0 ≤ odV wh s 5) : s.dg < bc (st7 s.A) := by
  have f := p_fs hwh g (g.fl1 hf)
  rcases Int.lt_or_le s.dg (bc (st7 s.A)) with q | q
  · exact q
  · have e : odV wh s 5 = if fs7 s.A s.dg = 0 then -1 else tl wh (fs7 s.A s.dg) s.A 0 := rfl
    rw [e, if_pos (f.2 q)] at h
    exact absurd h (by decide)
theorem k_pour {wh : Nat} (hwh : wh < 7) {s : SD} {r r2 : RD} (g : GD wh s r) (hil : odV wh s 4 = 1) (hn : 0 ≤ odV wh s 5) (a b c d : Int) (g2 : GD wh (poS wh s (bcm (pr wh) s.dg a b c d)) r2) : odV wh (poS wh s (bcm (pr wh) s.dg a b c d)) 4 = 1 ∧ odV wh (poS wh s (bcm (pr wh) s.dg a b c d)) 5 = (odV wh s 5 + a) % pr wh := by
  have hp := pr_rg wh hwh
  have hM := pr_M hwh
  have hil := odV4.mp hil
  have hf := hil.1
  have hb := odV5_nn hwh g hf hn
  have d2 := g.2.1
  obtain ⟨E, hE, n, -⟩ := t_kno9 hwh g hil hb
  have hE2 : onE wh (poS wh s (bcm (pr wh) s.dg a b c d)).A ((poS wh s (bcm (pr wh) s.dg a b c d)).dg.toNat + 1) (fun k : Nat => E k + bcm (pr wh) s.dg a b c d (k : Int)) := by
    intro j hj q
    have eA : (poS wh s (bcm (pr wh) s.dg a b c d)).A ((j : Int) + 1) = if s.A ((j : Int) + 1) = -1 then -1 else (s.A ((j : Int) + 1) + hz (pr wh) ((j : Int) + 1) (bcm (pr wh) s.dg a b c d) 7) % pr wh := rfl
    rw [eA] at q ⊢
    by_cases w : s.A ((j : Int) + 1) = -1
    · rw [if_pos w] at q; exact absurd rfl q
    · rw [if_neg w]
      show cg (pr wh) _ (q_ev (s.dg.toNat + 1) (fun k : Nat => E k + bcm (pr wh) s.dg a b c d (k : Int)) ((j : Int) + 1))
      rw [q_evadd]
      refine cg_t cg_e (cg_a (hE j hj w) ?_)
      rw [hv_cut (by omega) d2.1 d2.2 (fun k h1 h2 => bcm_z _ _ _ _ _ _ k h1 h2 d2.1) (fun _ _ _ => rfl)]
      exact hv_ev _ _ _ _ rfl
  have st : st7 (poS wh s (bcm (pr wh) s.dg a b c d)).A = st7 s.A := st7_pr (fun j hj => by
    have eA : (poS wh s (bcm (pr wh) s.dg a b c d)).A ((j : Int) + 1) = if s.A ((j : Int) + 1) = -1 then -1 else (s.A ((j : Int) + 1) + hz (pr wh) ((j : Int) + 1) (bcm (pr wh) s.dg a b c d) 7) % pr wh := rfl
    rw [eA]
    by_cases w : s.A ((j : Int) + 1) = -1
    · rw [if_pos w]; exact ⟨fun _ => w, fun _ => rfl⟩
    · rw [if_neg w]
      have := emod_rg (s.A ((j : Int) + 1) + hz (pr wh) ((j : Int) + 1) (bcm (pr wh) s.dg a b c d) 7) hwh
      exact ⟨fun q => by omega, fun q => absurd q w⟩)
  have k := k_on hwh g2 hf hE2
  rw [st] at k
  have ed : (poS wh s (bcm (pr wh) s.dg a b c d)).dg = s.dg := rfl
  rw [ed, if_pos hb] at k
  refine ⟨k.1, k.2.trans ?_⟩
  rw [n]
  show (E 0 + bcm (pr wh) s.dg a b c d 0) % pr wh = _
  rw [bcm_0]
  exact cg_t (cg_a (cg_s cg_e) cg_e) (cg_r)
theorem k_scale {wh : Nat} (hwh : wh < 7) {s : SD} {r r2 : RD} (g : GD wh s r) (hil : odV wh s 4 = 1) (hn : 0 ≤ odV wh s 5) (b : Int) (g2 : GD wh (scS wh s (b % pr wh)) r2) : odV wh (scS wh s (b % pr wh)) 4 = 1 ∧ odV wh (scS wh s (b % pr wh)) 5 = odV wh s 5 * b % pr wh := by
  have hp := pr_rg wh hwh
  have hil := odV4.mp hil
  have hf := hil.1
  have hb := odV5_nn hwh g hf hn
  obtain ⟨E, hE, n, -⟩ := t_kno9 hwh g hil hb
  have eA : ∀ h, (scS wh s (b % pr wh)).A h = if s.A h = -1 then -1 else s.A h * (b % pr wh) % pr wh := fun _ => rfl
  have hE2 : onE wh (scS wh s (b % pr wh)).A ((scS wh s (b % pr wh)).dg.toNat + 1) (fun k : Nat => b * E k) := by
    intro j hj q
    rw [eA] at q ⊢
    by_cases w : s.A ((j : Int) + 1) = -1
    · rw [if_pos w] at q; exact absurd rfl q
    · rw [if_neg w]
      show cg (pr wh) _ (q_ev (s.dg.toNat + 1) (fun k : Nat => b * E k) ((j : Int) + 1))
      rw [q_evmul, Int.mul_comm b]
      exact cg_t cg_e (cg_m (hE j hj w) cg_e)
  have st : st7 (scS wh s (b % pr wh)).A = st7 s.A := st7_pr (fun j hj => by
    rw [eA]
    by_cases w : s.A ((j : Int) + 1) = -1
    · rw [if_pos w]; exact ⟨fun _ => w, fun _ => rfl⟩
    · rw [if_neg w]
      have := emod_rg (s.A ((j : Int) + 1) * (b % pr wh)) hwh
      exact ⟨fun q => by omega, fun q => absurd q w⟩)
  have k := k_on hwh g2 rfl hE2
  rw [st] at k
  have ed : (scS wh s (b % pr wh)).dg = s.dg := rfl
  rw [ed, if_pos hb] at k
  refine ⟨k.1, k.2.trans ?_⟩
  rw [n, Int.mul_comm b]
  exact cg_m (cg_s cg_e) cg_r
theorem k_hand {wh : Nat} (hwh : wh < 7) (set : Int) (A : Int → Int) {g a b : Int} (h0 : 0 ≤ g) (h3 : g ≤ 3) {r : RD} (gd : GD wh (lpS wh g (hoP wh set A g a b (ho wh).toNat)) r) : odV wh (lpS wh g (hoP wh set A g a b (ho wh).toNat)) 4 = 1 ∧ odV wh (lpS wh g (hoP wh set A g a b (ho wh).toNat)) 5 = tl wh set A 0 := by
  have k := k_lay hwh h0 h3 (hoP_z wh set A g a b _) gd
  refine ⟨k.1, k.2.trans ?_⟩
  rw [hoP_eq hwh set A g a b 0 (Int.le_refl _) h0]
  show (if (0 : Int) = 0 then atV wh set A 0 else _) % pr wh = _
  rw [if_pos rfl, ← tl_at hwh]
  exact Int.emod_emod_of_dvd _ (Int.dvd_refl _)
/-! one share becomes another one -/
theorem fu_at (A : Int → Int) (h v : Int) : e_fu A h v h = v := if_pos rfl
theorem fu_ne {A : Int → Int} {h v j : Int} (n : j ≠ h) : e_fu A h v j = A j := if_neg n
theorem st_fu {A : Int → Int} {h v : Int} (ha : A h ≠ -1) (hv : v ≠ -1) : st7 (e_fu A h v) = st7 A := st7_pr (fun j _ => by
  by_cases c : (j : Int) + 1 = h
  · rw [c, fu_at]; exact ⟨fun q => absurd q hv, fun q => absurd q ha⟩
  · rw [fu_ne c])
theorem hs_mi : ∀ s : Nat, s < 128 → ∀ k : Nat, k < 7 → ¬ hs (s : Int) ((k : Int) + 1) ∨ (2 : Int) ^ k ≤ (s : Int) ∧ bc ((s : Int) - 2 ^ k) = bc (s : Int) - 1 := by decide +kernel
theorem hs_mj : ∀ s : Nat, s < 128 → ∀ k : Nat, k < 7 → ∀ j : Nat, j < 7 → ¬ hs (s : Int) ((k : Int) + 1) ∨ (hs ((s : Int) - 2 ^ k) ((j : Int) + 1) ↔ (hs (s : Int) ((j : Int) + 1) ∧ j ≠ k)) := by decide +kernel
theorem st_mi (A : Int → Int) {k : Nat} (hk : k < 7) (h : A ((k : Int) + 1) ≠ -1) : ((2 : Int) ^ k ≤ st7 A ∧ bc (st7 A - 2 ^ k) = bc (st7 A) - 1) ∧ ∀ j : Nat, j < 7 → (hs (st7 A - 2 ^ k) ((j : Int) + 1) ↔ (A ((j : Int) + 1) ≠ -1 ∧ j ≠ k)) := by
  have r := st7_rg A
  have i := (st7_hs A hk).mpr h
  obtain ⟨n, hn⟩ : ∃ n : Nat, st7 A = (n : Int) := ⟨(st7 A).toNat, by omega⟩
  have t := fun j (hj : j < 7) => st7_hs A hj
  rw [hn] at i r t ⊢
  refine ⟨(hs_mi n (by omega) k hk).resolve_left (fun q => q i), fun j hj => ?_⟩
  rw [(hs_mj n (by omega) k hk j hj).resolve_left (fun q => q i), t j hj]
theorem cn_mi {wh : Nat} (hwh : wh < 7) {set : Int} (h0 : 0 ≤ set) (h1 : set ≤ fl wh) {k : Nat} (hk : k < 7) (hin : hs set ((k : Int) + 1)) : q_cn (set - 2 ^ k) (ho wh).toNat + 1 = q_cn set (ho wh).toNat ∧ ∀ j : Nat, j < 7 → (hs (set - 2 ^ k) ((j : Int) + 1) ↔ (hs set ((j : Int) + 1) ∧ j ≠ k)) := by
  have h3 := (fl_rg9 hwh).1
  obtain ⟨n, rfl⟩ : ∃ n : Nat, set = (n : Int) := ⟨set.toNat, by omega⟩
  have m := (hs_mi n (by omega) k hk).resolve_left (fun q => q hin)
  have b1 := cn_bc9 hwh h0 h1
  have pk : (0 : Int) < 2 ^ k := Int.pow_pos (by decide)
  have b2 := cn_bc9 hwh (set := (n : Int) - 2 ^ k) (by omega) (by omega)
  exact ⟨by omega, fun j hj => (hs_mj n (by omega) k hk j hj).resolve_left (fun q => q hin)⟩
/-- two polynomials with the same values at enough places are the same -/
theorem p_two {wh : Nat} (hwh : wh < 7) {set : Int} {A : Int → Int} {E F : Nat → Int} {n : Nat} (hn : n ≤ q_cn set (ho wh).toNat) (HE : ∀ j : Nat, j < (ho wh).toNat → hs set ((j : Int) + 1) → cg (pr wh) (A ((j : Int) + 1)) (q_ev n E ((j : Int) + 1))) (HF : ∀ j : Nat, j < (ho wh).toNat → hs set ((j : Int) + 1) → cg (pr wh) (A ((j : Int) + 1)) (q_ev n F ((j : Int) + 1))) (x : Int) : cg (pr wh) (q_ev n E x) (q_ev n F x) := by
  refine q_cgm (fun k hk => ?_) x
  have u := p_un hwh hn HE k
  have v := p_un hwh hn HF k
  rw [if_pos hk] at u v
  exact cg_t (cg_s u) v
/-- with one wrong share, whose polynomial is known: a set with enough others agrees exactly when that one isn't in it -/
theorem x_il {wh : Nat} (hwh : wh < 7) {set : Int} {A A2 : Int → Int} {d : Nat} (hd6 : d ≤ 6) {E : Nat → Int} {k : Nat} (hk : k < (ho wh).toNat) (h0 : 0 ≤ set) (h1 : set ≤ fl wh) (hE : onE wh A (d + 1) E) (he : ∀ j : Nat, j < (ho wh).toNat → hs set ((j : Int) + 1) → A ((j : Int) + 1) ≠ -1 ∧ (j ≠ k → A2 ((j : Int) + 1) = A ((j : Int) + 1))) (hne : ¬ cg (pr wh) (A2 ((k : Int) + 1)) (A ((k : Int) + 1))) (hc : d + 2 ≤ q_cn set (ho wh).toNat) : hiK (gt wh set A2 (ho wh).toNat) 7 ≤ (d : Int) ↔ ¬ hs set ((k : Int) + 1) := by
  have hM := pr_M hwh
  rw [p_hi hwh hd6]
  constructor
  · rintro ⟨F, hF⟩ hin
    have m := cn_mi hwh h0 h1 (by omega) hin
    have e1 : ∀ j : Nat, j < (ho wh).toNat → hs (set - 2 ^ k) ((j : Int) + 1) → hs set ((j : Int) + 1) ∧ j ≠ k := fun j hj q => (m.2 j (by omega)).mp q
    have t := p_two hwh (set := set - 2 ^ k) (A := A) (n := d + 1) (E := E) (F := F) (by omega) (fun j hj q => hE j hj (he j hj (e1 j hj q).1).1) (fun j hj q => by
      have e2 := e1 j hj q
      rw [← (he j hj e2.1).2 e2.2]
      exact hF j hj e2.1) ((k : Int) + 1)
    exact hne (cg_t (hF k hk hin) (cg_t (cg_s t) (cg_s (hE k hk (he k hk hin).1))))
  · intro hn
    refine ⟨E, fun j hj q => ?_⟩
    have e := he j hj q
    have jk : j ≠ k := fun w => hn (by rw [← w]; exact q)
    rw [e.2 jk]
    exact hE j hj e.1
theorem hs_p2 : ∀ k : Nat, k < 7 → ∀ j : Nat, j < 7 → (hs ((2 : Int) ^ k) ((j : Int) + 1) ↔ j = k) := by decide +kernel
theorem ffd_p2 {M : Int} {k : Nat} (hk : k < 7) (hM7 : M ≤ 7) : ∀ r : Nat, (r : Int) ≤ M → M - (k : Int) ≤ (r : Int) → (k : Int) + 1 ≤ M → ffd (2 ^ k) M r = (k : Int) + 1 := by
  intro r
  induction r with
  | zero => intro _ h2 h3; have : ((0 : Nat) : Int) = 0 := rfl; omega
  | succ r ih =>
    intro h1 h2 h3
    show (if hs (2 ^ k) (M - (r : Int)) then M - (r : Int) else ffd (2 ^ k) M r) = _
    obtain ⟨j, hj⟩ : ∃ j : Nat, M - (r : Int) = (j : Int) + 1 := ⟨(M - (r : Int) - 1).toNat, by omega⟩
    rw [hj]
    have i := hs_p2 k hk j (by omega)
    by_cases c : j = k
    · rw [if_pos (i.mpr c), c]
    · rw [if_neg (fun q => c (i.mp q))]
      exact ih (by omega) (by omega) h3
/-- what is so of a deal that agrees, when one share of it becomes another one -/
theorem x_all {wh : Nat} (hwh : wh < 7) {s : SD} {r : RD} (g : GD wh s r) (hil : odV wh s 4 = 1) {h v : Int} (h1 : 1 ≤ h) (h2 : h ≤ ho wh) (ha : s.A h ≠ -1) (hv : 0 ≤ v ∧ v < pr wh) (hne : v ≠ s.A h) : odV wh (puS s h v) 4 = (if 1 < bc (st7 s.A) - s.dg then 0 else 1) ∧ (3 ≤ bc (st7 s.A) - s.dg → ssK wh (puS s h v).A (puS s h v).fl (puS s h v).dg (ho wh).toNat = 2 ^ (h - 1).toNat ∧ wrf wh (puS s h v).A (puS s h v).fl (puS s h v).dg = h ∧ tl wh (st7 (puS s h v).A - 2 ^ (h - 1).toNat) (puS s h v).A h = s.A h) := by
  have hp := pr_rg wh hwh
  have hM := pr_M hwh
  have hil := odV4.mp hil
  have hf := hil.1
  have d2 := g.2.1
  obtain ⟨E, hE⟩ := (p_agr hwh g (g.fl1 hf)).mp hil
  have rgA := (g.2.2.2.2.1 h).resolve_left (by rw [← g.1.2.1]; exact ha)
  rw [← g.1.2.1] at rgA
  obtain ⟨k, hk⟩ : ∃ k : Nat, h = (k : Int) + 1 := ⟨(h - 1).toNat, by omega⟩
  have hkM : k < (ho wh).toNat := by omega
  have e2k : (h - 1).toNat = k := by omega
  have eA : (puS s h v).A = e_fu s.A h v := rfl
  have st : st7 (e_fu s.A h v) = st7 s.A := st_fu ha (by omega)
  have tf := t_fl hwh g
  have cb := cn_bc9 hwh tf.1 tf.2
  have hne2 : ¬ cg (pr wh) (e_fu s.A h v ((k : Int) + 1)) (s.A ((k : Int) + 1)) := by
    rw [← hk, fu_at]
    exact fun q => hne (cg_eq q hv rgA)
  have he : ∀ set : Int, (∀ j : Nat, j < (ho wh).toNat → hs set ((j : Int) + 1) → s.A ((j : Int) + 1) ≠ -1) → ∀ j : Nat, j < (ho wh).toNat → hs set ((j : Int) + 1) → s.A ((j : Int) + 1) ≠ -1 ∧ (j ≠ k → e_fu s.A h v ((j : Int) + 1) = s.A ((j : Int) + 1)) := fun set H j hj q => ⟨H j hj q, fun n => fu_ne (by omega)⟩
  have hst : ∀ j : Nat, j < (ho wh).toNat → hs (st7 s.A) ((j : Int) + 1) → s.A ((j : Int) + 1) ≠ -1 := fun j hj q => (st7_hs s.A (by omega)).mp q
  have hin : hs (st7 s.A) ((k : Int) + 1) := (st7_hs s.A (by omega)).mpr (by rw [← hk]; exact ha)
  have edg : ((s.dg.toNat : Nat) : Int) = s.dg := by omega
  have big : 2 ≤ bc (st7 s.A) - s.dg → ¬ il wh (st7 s.A) (e_fu s.A h v) s.fl s.dg := by
    intro c q
    have i := x_il hwh (set := st7 s.A) (A2 := e_fu s.A h v) (d := s.dg.toNat) (by omega) hkM tf.1 tf.2 hE (he _ hst) hne2 (by omega)
    rw [edg] at i
    exact i.mp q.2 hin
  refine ⟨?_, fun hm => ?_⟩
  · show b01 (il wh (st7 (e_fu s.A h v)) (e_fu s.A h v) s.fl s.dg) = _
    rw [st]
    by_cases c : 1 < bc (st7 s.A) - s.dg
    · rw [if_pos c]
      exact b01_f (big (by omega))
    · rw [if_neg c]
      refine b01_t ⟨hf, ?_⟩
      rw [hiK_le _ (by omega) 7]
      intro c9 h3 h4
      exact zb_gt (wh := wh) (st7 s.A) (e_fu s.A h v) (ho wh).toNat (Nat.le_refl _) c9 (by omega)
  · have ilj : ∀ j : Nat, j < (ho wh).toNat → s.A ((j : Int) + 1) ≠ -1 → (il wh (st7 s.A - 2 ^ j) (e_fu s.A h v) s.fl s.dg ↔ j = k) := by
      intro j hj q
      have hinj : hs (st7 s.A) ((j : Int) + 1) := (st7_hs s.A (by omega)).mpr q
      have m := cn_mi hwh tf.1 tf.2 (k := j) (by omega) hinj
      have mi := (st_mi s.A (k := j) (by omega) q).1.1
      have pj : (0 : Int) < 2 ^ j := Int.pow_pos (by decide)
      have i := x_il hwh (set := st7 s.A - 2 ^ j) (A2 := e_fu s.A h v) (d := s.dg.toNat) (by omega) hkM (by omega) (by omega) hE (he _ (fun j2 hj2 q2 => hst j2 hj2 ((m.2 j2 (by omega)).mp q2).1)) hne2 (by omega)
      rw [edg] at i
      show (s.fl = 1 ∧ _) ↔ _
      rw [i, m.2 k (by omega)]
      constructor
      · rintro ⟨-, q3⟩
        exact Classical.byContradiction (fun n => q3 ⟨hin, fun w => n w.symm⟩)
      · intro w; exact ⟨hf, fun q3 => q3.2 w.symm⟩
    have sus : ∀ m : Nat, m ≤ (ho wh).toNat → ssK wh (e_fu s.A h v) s.fl s.dg m = if k < m then 2 ^ k else 0 := by
      intro m
      induction m with
      | zero => intro _; rfl
      | succ m ih =>
        intro hm2
        show (if hs (st7 (e_fu s.A h v)) ((m : Int) + 1) ∧ il wh (st7 (e_fu s.A h v) - 2 ^ m) (e_fu s.A h v) s.fl s.dg then ssK wh (e_fu s.A h v) s.fl s.dg m + 2 ^ m else ssK wh (e_fu s.A h v) s.fl s.dg m) = _
        rw [st, ih (by omega)]
        by_cases c : m = k
        · have q1 : s.A ((m : Int) + 1) ≠ -1 := by rw [c, ← hk]; exact ha
          rw [if_pos ⟨(st7_hs s.A (by omega)).mpr q1, (ilj m (by omega) q1).mpr c⟩, if_neg (by omega), if_pos (by omega), c, Int.zero_add]
        · rw [if_neg (fun q => c ((ilj m (by omega) ((st7_hs s.A (by omega)).mp q.1)).mp q.2))]
          by_cases c2 : k < m
          · rw [if_pos c2, if_pos (by omega)]
          · rw [if_neg c2, if_neg (by omega)]
    have susM := sus (ho wh).toNat (Nat.le_refl _)
    rw [if_pos hkM] at susM
    refine ⟨by rw [e2k]; exact susM, ?_, ?_⟩
    · show (if s.fl = 0 then -9 else if il wh (st7 (e_fu s.A h v)) (e_fu s.A h v) s.fl s.dg then 0 else if bc (st7 (e_fu s.A h v)) < s.dg + 3 then -9 else ffd (ssK wh (e_fu s.A h v) s.fl s.dg (ho wh).toNat) (ho wh) (ho wh).toNat) = h
      rw [st, if_neg (by omega), if_neg (big (by omega)), if_neg (by omega), susM, hk]
      exact ffd_p2 (by omega) (by omega) _ (by omega) (by omega) (by omega)
    · show tl wh (st7 (e_fu s.A h v) - 2 ^ (h - 1).toNat) (e_fu s.A h v) h = s.A h
      rw [st, e2k]
      have m := cn_mi hwh tf.1 tf.2 (k := k) (by omega) hin
      rw [p_tl hwh (n := s.dg.toNat + 1) (E := E) (by omega) (fun j hj q => by
        have q2 := (m.2 j (by omega)).mp q
        rw [fu_ne (by omega)]
        exact hE j hj (hst j hj q2.1))]
      have w := hE k hkM (by rw [← hk]; exact ha)
      rw [← hk] at w
      exact (cg_lt w rgA).symm
theorem x_same {wh : Nat} {s : SD} {h v : Int} (hf : s.fl = 1) : smV wh s (puS (puS s h v) h (s.A h)) = 1 := by
  have e : ∀ k : Nat, smK s (puS (puS s h v) h (s.A h)) k = true := by
    intro k
    induction k with
    | zero => exact decide_eq_true rfl
    | succ k ih =>
      show (smK s (puS (puS s h v) h (s.A h)) k && decide (s.A ((k : Int) + 1) = e_fu (e_fu s.A h v) h (s.A h) ((k : Int) + 1))) = true
      rw [ih, decide_eq_true]
      · rfl
      · by_cases c : (k : Int) + 1 = h
        · rw [c, fu_at]
        · rw [fu_ne c, fu_ne c]
  unfold smV
  have f2 : (puS (puS s h v) h (s.A h)).fl = 1 := hf
  rw [if_neg (by rw [f2, hf]; decide), b01_t (e _)]
/-! ===== the checksum ===== -/
theorem od_eq {wh : Nat} {s s2 : SD} (h : s = s2) (c : Int) : odV wh s c = odV wh s2 c := by rw [h]
theorem fd_cg {D D2 : Nat → SD} : ∀ k : Nat, (∀ j : Nat, j < k → D j = D2 j) → fdK D k = fdK D2 k := by
  intro k
  induction k with
  | zero => intro _; rfl
  | succ k ih =>
    intro h
    show (if (D k).fl = 0 then fdK D k else fdK D k + 1) = (if (D2 k).fl = 0 then fdK D2 k else fdK D2 k + 1)
    rw [h k (by omega), ih (fun j hj => h j (by omega))]
theorem hs_cg {wh : Nat} {kn : Int} {D D2 : Nat → SD} (h : ∀ j : Nat, j < 6 → D j = D2 j) (c : Int) : hsV wh kn D c = hsV wh kn D2 c := by
  unfold hsV
  rw [fd_cg 6 h]
theorem fss_cg {wh : Nat} {D D2 : Nat → SD} (h : ∀ j : Nat, j < 6 → D j = D2 j) : ∀ k : Nat, k ≤ 6 → fss wh D k = fss wh D2 k := by
  intro k
  induction k with
  | zero => intro _; rfl
  | succ k ih =>
    intro hk
    show (if 0 < (D (5 - k)).sc then decide (dok wh (D (5 - k))) else fss wh D k) = (if 0 < (D2 (5 - k)).sc then decide (dok wh (D2 (5 - k))) else fss wh D2 k)
    rw [h (5 - k) (by omega), ih (by omega)]
theorem dgI_cg {wh : Nat} {kn : Int} {D D2 : Nat → SD} (h : ∀ j : Nat, j < 6 → D j = D2 j) : ∀ k : Nat, k ≤ 6 → dgI wh kn D k = dgI wh kn D2 k := by
  intro k
  induction k with
  | zero => intro _; exact itF_cg rfl 7 (fun j _ => hs_cg h _)
  | succ k ih =>
    intro hk
    show dg3 wh (D k) (dgI wh kn D k) 4 = dg3 wh (D2 k) (dgI wh kn D2 k) 4
    rw [h k (by omega), ih (by omega)]
theorem dgV_cg {wh : Nat} {kn : Int} {D D2 : Nat → SD} (h : ∀ j : Nat, j < 6 → D j = D2 j) : dgV wh kn D = dgV wh kn D2 := by
  unfold dgV snV
  rw [dgI_cg h 6 (by omega), fss_cg h 6 (by omega)]
/-! ===== the property's checks: deals joined ===== -/
theorem st_and {A B C : Int → Int} (h : ∀ j : Nat, j < 7 → (C ((j : Int) + 1) ≠ -1 ↔ A ((j : Int) + 1) ≠ -1 ∧ B ((j : Int) + 1) ≠ -1)) : st7 C = (((st7 A).toNat &&& (st7 B).toNat : Nat) : Int) := by
  have ra := st7_rg A
  have rb := st7_rg B
  have rc := st7_rg C
  have e : (st7 C).toNat = (st7 A).toNat &&& (st7 B).toNat := by
    apply Nat.eq_of_testBit_eq
    intro i
    rw [Nat.testBit_and]
    by_cases q : i < 7
    · have tc := (hs_tb (k := i) rc.1).symm.trans (st7_hs C q)
      have ta := (hs_tb (k := i) ra.1).symm.trans (st7_hs A q)
      have tb := (hs_tb (k := i) rb.1).symm.trans (st7_hs B q)
      have hh := h i q
      rw [← ta, ← tb, ← tc] at hh
      cases e1 : (st7 C).toNat.testBit i <;> cases e2 : (st7 A).toNat.testBit i <;> cases e3 : (st7 B).toNat.testBit i <;> simp [e1, e2, e3] at hh ⊢
    · have z : ∀ n : Nat, n < 128 → n.testBit i = false := fun n hn => Nat.testBit_lt_two_pow (Nat.lt_of_lt_of_le hn (show 2 ^ 7 ≤ 2 ^ i from Nat.pow_le_pow_right (by omega) (by omega)))
      rw [z _ (by omega), z _ (by omega), z _ (by omega)]; rfl
  rw [← e]; omega
theorem bc_sub {A C : Int → Int} : ∀ k : Nat, k ≤ 7 → (∀ j : Nat, j < 7 → C ((j : Int) + 1) ≠ -1 → A ((j : Int) + 1) ≠ -1) → bc (stK C k) ≤ bc (stK A k) := by
  intro k
  induction k with
  | zero => intro _ _; exact Int.le_refl _
  | succ k ih =>
    intro hk h
    have i := ih (by omega) h
    have r := stK_rg C k
    have r2 := stK_rg A k
    have b1 := bc_add r.1 (by omega) r.2
    have b2 := bc_add r2.1 (by omega) r2.2
    show bc (stK C k + (if C ((k : Int) + 1) ≠ -1 then 2 ^ k else 0)) ≤ bc (stK A k + (if A ((k : Int) + 1) ≠ -1 then 2 ^ k else 0))
    by_cases c : C ((k : Int) + 1) ≠ -1
    · rw [if_pos c, if_pos (h k (by omega) c), b1, b2]; omega
    · rw [if_neg c, Int.add_zero]
      by_cases c2 : A ((k : Int) + 1) ≠ -1
      · rw [if_pos c2, b2]; omega
      · rw [if_neg c2, Int.add_zero]; exact i
def padE (n : Nat) (E : Nat → Int) : Nat → Int := fun k => if k < n then E k else 0
theorem pad_ev {n m : Nat} (h : n ≤ m) (E : Nat → Int) (x : Int) : q_ev m (padE n E) x = q_ev n E x := by
  have e2 := q_more (p := 0) (f := padE n E) (n := n) (m - n) (fun k hk => if_neg (by omega)) x
  rw [show n + (m - n) = m by omega] at e2
  rw [e2]
  exact q_congr (fun k hk => if_pos hk) x
theorem q_mul (m : Nat) (g : Nat → Int) : ∀ (n : Nat) (f : Nat → Int), ∃ F : Nat → Int, F 0 = f 0 * g 0 ∧ ∀ x, q_ev (n + m + 1) F x = q_ev (n + 1) f x * q_ev (m + 1) g x := by
  intro n
  induction n with
  | zero =>
    intro f
    refine ⟨fun k => f 0 * g k, rfl, fun x => ?_⟩
    rw [q_evmul, Nat.zero_add]
    show f 0 * q_ev (m + 1) g x = (f 0 + x * 0) * q_ev (m + 1) g x
    rw [Int.mul_zero, Int.add_zero]
  | succ n ih =>
    intro f
    obtain ⟨F, -, hF⟩ := ih (fun k => f (k + 1))
    refine ⟨fun k => f 0 * padE (m + 1) g k + (if k = 0 then 0 else F (k - 1)), ?_, fun x => ?_⟩
    · show f 0 * (if 0 < m + 1 then g 0 else 0) + (if 0 = 0 then 0 else F (0 - 1)) = _
      rw [if_pos (by omega), if_pos rfl, Int.add_zero]
    · rw [q_evadd, q_evmul, pad_ev (by omega), show n + 1 + m + 1 = (n + m + 1) + 1 by omega]
      have e : q_ev (n + m + 1 + 1) (fun k => if k = 0 then 0 else F (k - 1)) x = x * q_ev (n + m + 1) F x := by
        show (if 0 = 0 then (0 : Int) else F (0 - 1)) + x * q_ev (n + m + 1) (fun k => if k + 1 = 0 then 0 else F (k + 1 - 1)) x = _
        rw [if_pos rfl, Int.zero_add]
        congr 1
      rw [e, hF]
      show _ = (f 0 + x * q_ev (n + 1) (fun k => f (k + 1)) x) * q_ev (m + 1) g x
      rw [Int.add_mul, Int.mul_assoc]
theorem j_two {wh : Nat} {s1 s2 : SD} {r1 r2 : RD} (hwh : wh < 7) (g1 : GD wh s1 r1) (g2 : GD wh s2 r2) (h1 : odV wh s1 4 = 1) (h2 : odV wh s2 4 = 1) {C : Int → Int} (hC : ∀ j : Nat, j < 7 → (C ((j : Int) + 1) ≠ -1 ↔ s1.A ((j : Int) + 1) ≠ -1 ∧ s2.A ((j : Int) + 1) ≠ -1)) (c1 : s1.dg < bc (st7 C)) (c2 : s2.dg < bc (st7 C)) : ∃ E1 E2 : Nat → Int, onE wh s1.A (s1.dg.toNat + 1) E1 ∧ onE wh s2.A (s2.dg.toNat + 1) E2 ∧ odV wh s1 5 = E1 0 % pr wh ∧ odV wh s2 5 = E2 0 % pr wh := by
  have b1 : bc (st7 C) ≤ bc (st7 s1.A) := bc_sub 7 (by omega) (fun j hj q => ((hC j hj).mp q).1)
  have b2 : bc (st7 C) ≤ bc (st7 s2.A) := bc_sub 7 (by omega) (fun j hj q => ((hC j hj).mp q).2)
  obtain ⟨E1, hE1, n1, -⟩ := t_kno9 hwh g1 (odV4.mp h1) (by omega)
  obtain ⟨E2, hE2, n2, -⟩ := t_kno9 hwh g2 (odV4.mp h2) (by omega)
  exact ⟨E1, E2, hE1, hE2, n1, n2⟩
theorem auA_pr {wh : Nat} (hwh : wh < 7) {s1 s2 : SD} {r1 r2 : RD} (g1 : GD wh s1 r1) (b : Int) : ∀ j : Nat, j < 7 → (auA wh b s1.A s2.A ((j : Int) + 1) ≠ -1 ↔ s1.A ((j : Int) + 1) ≠ -1 ∧ s2.A ((j : Int) + 1) ≠ -1) := by
  intro j _
  unfold auA
  by_cases c : (1 ≤ (j : Int) + 1 ∧ (j : Int) + 1 ≤ ho wh) ∧ s1.A ((j : Int) + 1) ≠ -1 ∧ s2.A ((j : Int) + 1) ≠ -1
  · rw [if_pos c]
    have := emod_rg (s1.A ((j : Int) + 1) + (if b = 0 then s2.A ((j : Int) + 1) else -s2.A ((j : Int) + 1))) hwh
    exact ⟨fun _ => c.2, fun _ q => by omega⟩
  · rw [if_neg c]
    refine ⟨fun q => absurd rfl q, fun q => absurd ⟨?_, q⟩ c⟩
    exact Classical.byContradiction (fun z => q.1 (by rw [g1.1.2.1]; exact g1.1.2.2.1 _ z))
theorem j_add {wh : Nat} {s1 s2 : SD} {r1 r2 r5 : RD} (hwh : wh < 7) (g1 : GD wh s1 r1) (g2 : GD wh s2 r2) (h1 : odV wh s1 4 = 1) (h2 : odV wh s2 4 = 1) {b sg : Int} (hb : (b = 0 ∧ sg = 1) ∨ (b = 1 ∧ sg = -1)) (c1 : s1.dg < bc (st7 (auA wh b s1.A s2.A))) (c2 : s2.dg < bc (st7 (auA wh b s1.A s2.A))) (g5 : GD wh (auR wh b s1 s2) r5) : odV wh (auR wh b s1 s2) 4 = 1 ∧ odV wh (auR wh b s1 s2) 5 = (odV wh s1 5 + sg * odV wh s2 5) % pr wh := by
  have d1 := g1.2.1
  have d2 := g2.2.1
  obtain ⟨E1, E2, hE1, hE2, n1, n2⟩ := j_two hwh g1 g2 h1 h2 (auA_pr (r1 := r1) (r2 := r2) hwh g1 b) c1 c2
  have ed : (auR wh b s1 s2).dg = if s1.dg < s2.dg then s2.dg else s1.dg := rfl
  have m1 : s1.dg.toNat + 1 ≤ (auR wh b s1 s2).dg.toNat + 1 := by rw [ed]; split <;> omega
  have m2 : s2.dg.toNat + 1 ≤ (auR wh b s1 s2).dg.toNat + 1 := by rw [ed]; split <;> omega
  have hE : onE wh (auR wh b s1 s2).A ((auR wh b s1 s2).dg.toNat + 1) (fun k => padE (s1.dg.toNat + 1) E1 k + sg * padE (s2.dg.toNat + 1) E2 k) := by
    intro j hj q
    rw [← auR_A] at q ⊢
    have pr1 := (auA_pr (r1 := r1) (r2 := r2) hwh g1 b j (by have := pr_M hwh; omega)).mp q
    rw [q_lin, pad_ev m1, pad_ev m2]
    have hM := pr_M hwh
    have e : auA wh b s1.A s2.A ((j : Int) + 1) = (s1.A ((j : Int) + 1) + (if b = 0 then s2.A ((j : Int) + 1) else -s2.A ((j : Int) + 1))) % pr wh := if_pos ⟨by omega, pr1⟩
    rw [e]
    refine cg_t cg_e (cg_a (hE1 j hj pr1.1) ?_)
    rcases hb with ⟨rfl, rfl⟩ | ⟨rfl, rfl⟩
    · rw [if_pos rfl, Int.one_mul]; exact hE2 j hj pr1.2
    · rw [if_neg (show ¬ (1 : Int) = 0 by decide), ← Int.neg_one_mul (s2.A _)]
      exact cg_m cg_r (hE2 j hj pr1.2)
  have k := k_on hwh g5 rfl hE
  rw [← auR_A, if_pos (by rw [ed]; split <;> omega)] at k
  refine ⟨k.1, k.2.trans ?_⟩
  rw [n1, n2]
  show ((if 0 < s1.dg.toNat + 1 then E1 0 else 0) + sg * (if 0 < s2.dg.toNat + 1 then E2 0 else 0)) % pr wh = _
  rw [if_pos (by omega), if_pos (by omega)]
  exact cg_a (cg_s cg_e) (cg_m cg_r (cg_s cg_e))
theorem tiA_pr {wh : Nat} (hwh : wh < 7) {s1 s2 : SD} {r1 : RD} (g1 : GD wh s1 r1) : ∀ j : Nat, j < 7 → (tiA wh s1.A s2.A ((j : Int) + 1) ≠ -1 ↔ s1.A ((j : Int) + 1) ≠ -1 ∧ s2.A ((j : Int) + 1) ≠ -1) := by
  intro j _
  unfold tiA
  by_cases c : (1 ≤ (j : Int) + 1 ∧ (j : Int) + 1 ≤ ho wh) ∧ s1.A ((j : Int) + 1) ≠ -1 ∧ s2.A ((j : Int) + 1) ≠ -1
  · rw [if_pos c]
    have := emod_rg (s1.A ((j : Int) + 1) * s2.A ((j : Int) + 1)) hwh
    exact ⟨fun _ => c.2, fun _ q => by omega⟩
  · rw [if_neg c]
    refine ⟨fun q => absurd rfl q, fun q => absurd ⟨?_, q⟩ c⟩
    exact Classical.byContradiction (fun z => q.1 (by rw [g1.1.2.1]; exact g1.1.2.2.1 _ z))
theorem j_mul {wh : Nat} {s1 s2 : SD} {r1 r2 r5 : RD} (hwh : wh < 7) (g1 : GD wh s1 r1) (g2 : GD wh s2 r2) (h1 : odV wh s1 4 = 1) (h2 : odV wh s2 4 = 1) (c1 : s1.dg + s2.dg < bc (st7 (tiA wh s1.A s2.A))) (h6 : s1.dg + s2.dg ≤ 6) (g5 : GD wh (tiS wh s1 s2) r5) : odV wh (tiS wh s1 s2) 4 = 1 ∧ odV wh (tiS wh s1 s2) 5 = odV wh s1 5 * odV wh s2 5 % pr wh := by
  have d1 := g1.2.1
  have d2 := g2.2.1
  obtain ⟨E1, E2, hE1, hE2, n1, n2⟩ := j_two hwh g1 g2 h1 h2 (tiA_pr hwh g1) (by omega) (by omega)
  have ed : (tiS wh s1 s2).dg = s1.dg + s2.dg := rfl
  obtain ⟨F, hF0, hF⟩ := q_mul s2.dg.toNat E2 s1.dg.toNat E1
  have hE : onE wh (tiS wh s1 s2).A ((tiS wh s1 s2).dg.toNat + 1) F := by
    intro j hj q
    rw [← tiS_A] at q ⊢
    have hM := pr_M hwh
    have pr1 := (tiA_pr hwh g1 j (by omega)).mp q
    rw [ed, show (s1.dg + s2.dg).toNat + 1 = s1.dg.toNat + s2.dg.toNat + 1 by omega, hF]
    have e : tiA wh s1.A s2.A ((j : Int) + 1) = s1.A ((j : Int) + 1) * s2.A ((j : Int) + 1) % pr wh := if_pos ⟨by omega, pr1⟩
    rw [e]
    exact cg_t cg_e (cg_m (hE1 j hj pr1.1) (hE2 j hj pr1.2))
  have k := k_on hwh g5 rfl hE
  rw [← tiS_A, ed, if_pos c1] at k
  refine ⟨k.1, k.2.trans ?_⟩
  rw [n1, n2, hF0]
  exact cg_m (cg_s cg_e) (cg_s cg_e)
/-- a seal of the joined deal -/
theorem j_seal {wh : Nat} {s1 s2 : SD} {r1 r2 : RD} (g1 : GD wh s1 r1) (g2 : GD wh s2 r2) (h5 : 0 < (auR wh 0 s1 s2).sc) {k : Int} (hk : 0 ≤ k) : (if 0 ≤ k ∧ k < (auR wh 0 s1 s2).sc then (auR wh 0 s1 s2).B k else -1) = (if s1.dg < k ∧ s2.dg < k then -1 else (if k < s1.sc then s1.B k else 1) * (if k < s2.sc then s2.B k else 1) % gr wh) := by
  have esc : (auR wh 0 s1 s2).sc = if 0 < s1.sc ∧ 0 < s2.sc then (if s1.dg < s2.dg then s2.dg else s1.dg) + 1 else 0 := rfl
  rw [esc] at h5 ⊢
  by_cases c : 0 < s1.sc ∧ 0 < s2.sc
  · rw [if_pos c] at h5 ⊢
    by_cases q : s1.dg < k ∧ s2.dg < k
    · rw [if_pos q, if_neg (by split <;> omega)]
    · rw [if_neg q, if_pos ⟨hk, by split <;> omega⟩]
      show (if k < s1.sc then s1.B k else 1) * (if (0 : Int) = 0 then (if k < s2.sc then s2.B k else 1) else _) % gr wh = _
      rw [if_pos rfl]
  · rw [if_neg c] at h5
    omega
/-! ===== the property: what each step leaves ===== -/
theorem up_s (D : Nat → SD) (i : Nat) (s : SD) : upD D i s i = s := if_pos rfl
theorem up_n {D : Nat → SD} {i j : Nat} {s : SD} (h : j ≠ i) : upD D i s j = D j := if_neg h
/-- the object between two calls: its deals and a ghost -/
def QW (w : e_W) (x wh : Nat) (kn : Int) (D : Nat → SD) : Prop := CW w x wh kn D ∧ ∃ R, GG wh D R
theorem QW.of {w : e_W} {x wh : Nat} {kn : Int} {D : Nat → SD} {R : Nat → RD} (hC : CW w x wh kn D) (h : SS wh D R) : QW w x wh kn D := ⟨hC, _, GN hC h⟩
theorem QW.same {w w2 : e_W} {x wh : Nat} {kn : Int} {D : Nat → SD} (h : QW w x wh kn D) (hC : CW w2 x wh kn D) : QW w2 x wh kn D := ⟨hC, h.2⟩
/-- only the deal 5 is another one -/
def O5 (D D2 : Nat → SD) : Prop := ∀ j : Nat, j ≠ 5 → D2 j = D j
theorem O5.rf {D : Nat → SD} : O5 D D := fun _ _ => rfl
theorem O5.tr {D D2 D3 : Nat → SD} (h : O5 D D2) (g : O5 D2 D3) : O5 D D3 := fun j hj => (g j hj).trans (h j hj)
theorem O5.up (D : Nat → SD) (s : SD) : O5 D (upD D 5 s) := fun _ hj => up_n hj
theorem z5 : (0 : Int) ≤ 5 ∧ (5 : Int) < 6 := by decide
theorem odV4or {wh : Nat} {s : SD} : odV wh s 4 = 0 ∨ odV wh s 4 = 1 := b01_or _
/-- ofDeal's answers are small -/
theorem od_r {wh : Nat} (hwh : wh < 7) {s : SD} {r : RD} (g : GD wh s r) (c : Int) : -1 ≤ odV wh s c ∧ odV wh s c < 1000003 := by
  have hp := pr_rg wh hwh
  have d := g.2.1
  have st := st7_rg s.A
  have b := bc_rg (v := st7 s.A) st.1 st.2
  unfold odV
  split
  · split <;> omega
  · split
    · omega
    · split
      · omega
      · split
        · rcases b01_or (0 < s.sc) with q | q <;> omega
        · split
          · rcases b01_or (il wh (st7 s.A) s.A s.fl s.dg) with q | q <;> omega
          · split
            · omega
            · have := emod_rg (tlK wh (fs7 s.A s.dg) s.A 0 (ho wh).toNat) hwh
              unfold tl
              omega
theorem od0 {wh : Nat} {s : SD} {r : RD} (g : GD wh s r) : (odV wh s 0 < 0 ↔ s.fl = 0) ∧ (s.fl = 1 → odV wh s 0 = s.dg) := by
  have d := g.2.1
  have e := g.e
  have e0 : odV wh s 0 = if s.fl = 0 then -1 else s.dg := rfl
  rw [e0]
  by_cases c : s.fl = 0
  · rw [if_pos c]; exact ⟨⟨fun _ => c, fun _ => by decide⟩, fun q => by omega⟩
  · rw [if_neg c]; exact ⟨⟨fun q => by omega, fun q => absurd q c⟩, fun _ => rfl⟩
theorem fl01 {wh : Nat} {s : SD} {r : RD} (g : GD wh s r) : s.fl = 0 ∨ s.fl = 1 := by
  rcases g.1.1 with q | q
  · exact Or.inl q.1
  · exact Or.inr q.1
/-! isKept -/
theorem n_hide {w : e_W} {x wh : Nat} {kn g a b c d : Int} {D : Nat → SD} (Q : ∃ R, GG wh D R) (hC : CW w x wh kn (upD D (5 : Int).toNat (lpS wh g (bcm (pr wh) g a b c d)))) (h0 : 0 ≤ g) (h3 : g ≤ 3) : ∃ D1, QW w x wh kn D1 ∧ O5 D D1 ∧ odV wh (D1 5) 4 = 1 ∧ odV wh (D1 5) 5 = a % pr wh := by
  obtain ⟨R, G⟩ := Q
  have q := (y_hide G (i := 5) (a := a) (b := b) (c := c) (d := d) ⟨z5, h0, h3⟩).2
  have G1 := GN hC q
  have k := k_lay G.1 h0 h3 (fun k h1 h2 => bcm_z (pr wh) g a b c d k h1 h2 h0) (by have := G1.2.2 5 (by decide); rw [show (5 : Int).toNat = 5 from rfl, up_s] at this; exact this)
  rw [bcm_0, Int.emod_emod_of_dvd _ (Int.dvd_refl _)] at k
  exact ⟨_, ⟨hC, _, G1⟩, O5.up D _, by rw [show (5 : Int).toNat = 5 from rfl, up_s]; exact k⟩
theorem n_hand {w : e_W} {x wh i : Nat} {kn g a b u : Int} {D : Nat → SD} (Q : ∃ R, GG wh D R) (hi : i < 6) (hC : CW w x wh kn (haQ wh D i u (5 : Int).toNat g a b).2) (h0 : 0 ≤ g) (h3 : g ≤ 3) (hu : 1 ≤ u ∧ u ≤ fl wh) (hen : ((D i).fl = 1 ∧ thr (D i).A u) ∧ (D i).dg < bc u) : (haQ wh D i u (5 : Int).toNat g a b).1 = ho wh ∧ ∃ D1, QW w x wh kn D1 ∧ O5 D D1 ∧ odV wh (D1 5) 4 = 1 ∧ odV wh (D1 5) 5 = tl wh u (D i).A 0 := by
  obtain ⟨R, G⟩ := Q
  have q := (y_handOn G (i := (i : Int)) (u := u) (t := 5) (g := g) (a := a) (b := b) ⟨⟨⟨by omega, by omega⟩, z5⟩, hu, h0, h3⟩).2
  rw [Int.toNat_natCast] at q
  have G1 := GN hC q
  have e : haQ wh D i u (5 : Int).toNat g a b = (bc (st7 (lpA wh (hoP wh u (D i).A g a b (ho wh).toNat))), upD D (5 : Int).toNat (lpS wh g (hoP wh u (D i).A g a b (ho wh).toNat))) := if_pos hen
  rw [e] at hC G1 ⊢
  refine ⟨lay_bc G.1 _, _, ⟨hC, _, G1⟩, O5.up D _, ?_⟩
  show odV wh (upD D 5 _ 5) 4 = 1 ∧ odV wh (upD D 5 _ 5) 5 = _
  rw [up_s]
  exact k_hand G.1 u (D i).A h0 h3 (by have := G1.2.2 5 (by decide); show GD wh _ _; change GD wh (upD D 5 _ 5) _ at this; rw [up_s] at this; exact this)
theorem n_copy {w : e_W} {x wh i : Nat} {kn : Int} {D : Nat → SD} (Q : ∃ R, GG wh D R) (hi : i < 6) (hC : CW w x wh kn (upD D (5 : Int).toNat (D i))) : ∃ D1, QW w x wh kn D1 ∧ O5 D D1 ∧ D1 5 = D i := by
  obtain ⟨R, G⟩ := Q
  have q := (y_copy G (i := (i : Int)) (j := 5) ⟨⟨by omega, by omega⟩, z5⟩).2
  rw [Int.toNat_natCast] at q
  exact ⟨_, ⟨hC, _, GN hC q⟩, O5.up D _, up_s D 5 _⟩
theorem n_pour {w : e_W} {x wh : Nat} {kn a b c d : Int} {D : Nat → SD} (Q : ∃ R, GG wh D R) (hC : CW w x wh kn (poQ wh D (5 : Int).toNat a b c d).2) (h4 : odV wh (D 5) 4 = 1) (h5 : 0 ≤ odV wh (D 5) 5) : ∃ D1, QW w x wh kn D1 ∧ O5 D D1 ∧ odV wh (D1 5) 4 = 1 ∧ odV wh (D1 5) 5 = (odV wh (D 5) 5 + a) % pr wh := by
  obtain ⟨R, G⟩ := Q
  have q := (y_pour G (i := 5) (a := a) (b := b) (c := c) (d := d) z5).2
  have G1 := GN hC q
  have hf := (odV4.mp h4).1
  have e : poQ wh D (5 : Int).toNat a b c d = (bc (st7 (poS wh (D 5) (bcm (pr wh) (D 5).dg a b c d)).A), upD D 5 (poS wh (D 5) (bcm (pr wh) (D 5).dg a b c d))) := if_neg (by show ¬ (D 5).fl = 0; omega)
  rw [e] at hC G1
  refine ⟨_, ⟨hC, _, G1⟩, O5.up D _, ?_⟩
  show odV wh (upD D 5 _ 5) 4 = 1 ∧ odV wh (upD D 5 _ 5) 5 = _
  rw [up_s]
  exact k_pour G.1 (G.2.2 5 (by decide)) h4 h5 a b c d (by have := G1.2.2 5 (by decide); change GD wh (upD D 5 _ 5) _ at this; rw [up_s] at this; exact this)
theorem n_scale {w : e_W} {x wh i : Nat} {kn b : Int} {D : Nat → SD} (Q : ∃ R, GG wh D R) (hi : i < 6) (hC : CW w x wh kn (scQ wh D i b (5 : Int).toNat).2) (h4 : odV wh (D i) 4 = 1) (h5 : 0 ≤ odV wh (D i) 5) : ∃ D1, QW w x wh kn D1 ∧ O5 D D1 ∧ odV wh (D1 5) 4 = 1 ∧ odV wh (D1 5) 5 = odV wh (D i) 5 * b % pr wh := by
  obtain ⟨R, G⟩ := Q
  have q := (y_scale G (i := (i : Int)) (b := b) (t := 5) ⟨⟨by omega, by omega⟩, z5⟩).2
  rw [Int.toNat_natCast] at q
  have G1 := GN hC q
  have hf := (odV4.mp h4).1
  have e : scQ wh D i b (5 : Int).toNat = (bc (st7 (scS wh (D i) (b % pr wh)).A), upD D 5 (scS wh (D i) (b % pr wh))) := if_neg (by show ¬ (D i).fl = 0; omega)
  rw [e] at hC G1
  refine ⟨_, ⟨hC, _, G1⟩, O5.up D _, ?_⟩
  show odV wh (upD D 5 _ 5) 4 = 1 ∧ odV wh (upD D 5 _ 5) 5 = _
  rw [up_s]
  exact k_scale G.1 (G.2.2 i hi) h4 h5 b (by have := G1.2.2 5 (by decide); change GD wh (upD D 5 _ 5) _ at this; rw [up_s] at this; exact this)
/-! isFound: the deal 5 is a copy of a deal that agrees -/
theorem n_give {w : e_W} {x wh : Nat} {kn h v : Int} {D : Nat → SD} (Q : ∃ R, GG wh D R) (hC : CW w x wh kn (giQ wh D (5 : Int).toNat h v).2) (hh : 1 ≤ h ∧ h ≤ ho wh) (h4 : odV wh (D 5) 4 = 1) (ha : 0 ≤ (D 5).A h) (hne : v % pr wh ≠ (D 5).A h) : ∃ D1, QW w x wh kn D1 ∧ O5 D D1 ∧ D1 5 = puS (D 5) h (v % pr wh) ∧ odV wh (D1 5) 4 = (if 1 < bc (st7 (D 5).A) - (D 5).dg then 0 else 1) ∧ (3 ≤ bc (st7 (D 5).A) - (D 5).dg → ssK wh (D1 5).A (D1 5).fl (D1 5).dg (ho wh).toNat = 2 ^ (h - 1).toNat ∧ wrf wh (D1 5).A (D1 5).fl (D1 5).dg = h ∧ tl wh (st7 (D1 5).A - 2 ^ (h - 1).toNat) (D1 5).A h = (D 5).A h) := by
  obtain ⟨R, G⟩ := Q
  have q := (y_give G (i := 5) (h := h) (v := v) ⟨z5, hh⟩).2
  have G1 := GN hC q
  have hf := (odV4.mp h4).1
  have e : giQ wh D (5 : Int).toNat h v = ((D 5).A h, upD D 5 (puS (D 5) h (v % pr wh))) := if_neg (by show ¬ (D 5).fl = 0; omega)
  rw [e] at hC G1
  refine ⟨_, ⟨hC, _, G1⟩, O5.up D _, up_s D 5 _, ?_⟩
  show odV wh (upD D 5 _ 5) 4 = _ ∧ (_ → ssK wh (upD D 5 _ 5).A (upD D 5 _ 5).fl (upD D 5 _ 5).dg _ = _ ∧ wrf wh (upD D 5 _ 5).A (upD D 5 _ 5).fl (upD D 5 _ 5).dg = _ ∧ tl wh (st7 (upD D 5 _ 5).A - _) (upD D 5 _ 5).A h = _)
  rw [up_s]
  exact x_all G.1 (G.2.2 5 (by decide)) h4 hh.1 hh.2 (by omega) (emod_rg v G.1) hne
theorem n_mend {w : e_W} {x wh : Nat} {kn h v : Int} {D : Nat → SD} {s : SD} (Q : ∃ R, GG wh D R) (hC : CW w x wh kn (meQ wh D (5 : Int).toNat).2) (hs : D 5 = puS s h v) (hf : s.fl = 1) (hh : 1 ≤ h) (hw : wrf wh (D 5).A (D 5).fl (D 5).dg = h) (ht : tl wh (st7 (D 5).A - 2 ^ (h - 1).toNat) (D 5).A h = s.A h) : (meQ wh D (5 : Int).toNat).1 = h ∧ ∃ D1, QW w x wh kn D1 ∧ O5 D D1 ∧ smV wh s (D1 5) = 1 := by
  obtain ⟨R, G⟩ := Q
  have q := (y_mend G (i := 5) z5).2
  have G1 := GN hC q
  have e : meQ wh D (5 : Int).toNat = (h, upD D 5 (puS (D 5) h (s.A h))) := by
    show (wrf wh (D 5).A (D 5).fl (D 5).dg, if 0 < wrf wh (D 5).A (D 5).fl (D 5).dg then upD D 5 (puS (D 5) (wrf wh (D 5).A (D 5).fl (D 5).dg) (tl wh (st7 (D 5).A - 2 ^ (wrf wh (D 5).A (D 5).fl (D 5).dg - 1).toNat) (D 5).A (wrf wh (D 5).A (D 5).fl (D 5).dg))) else D) = _
    rw [hw, if_pos (by omega), ht]
  rw [e] at hC G1 ⊢
  refine ⟨rfl, _, ⟨hC, _, G1⟩, O5.up D _, ?_⟩
  show smV wh s (upD D 5 _ 5) = 1
  rw [up_s, hs]
  exact x_same hf
/-! areJoined -/
theorem n_join {w : e_W} {x wh i j : Nat} {kn b sg : Int} {D : Nat → SD} (Q : ∃ R, GG wh D R) (hi : i < 6) (hj : j < 6) (hb : (b = 0 ∧ sg = 1) ∨ (b = 1 ∧ sg = -1)) (hC : CW w x wh kn (auQ wh b D i j (5 : Int).toNat).2) (h1 : odV wh (D i) 4 = 1) (h2 : odV wh (D j) 4 = 1) {cm : Int} (hcm : cm = bc ((((st7 (D i).A).toNat &&& (st7 (D j).A).toNat : Nat) : Int))) (c1 : (D i).dg < cm) (c2 : (D j).dg < cm) : (auQ wh b D i j (5 : Int).toNat).1 = cm ∧ ∃ D1, QW w x wh kn D1 ∧ O5 D D1 ∧ odV wh (D1 5) 4 = 1 ∧ odV wh (D1 5) 5 = (odV wh (D i) 5 + sg * odV wh (D j) 5) % pr wh ∧ D1 5 = auR wh b (D i) (D j) := by
  obtain ⟨R, G⟩ := Q
  have q := (y_join G (i := (i : Int)) (j := (j : Int)) (t := 5) hb ⟨⟨by omega, by omega⟩, ⟨by omega, by omega⟩, z5⟩).2
  rw [Int.toNat_natCast, Int.toNat_natCast] at q
  have G1 := GN hC q
  have f1 := (odV4.mp h1).1
  have f2 := (odV4.mp h2).1
  have st := st_and (auA_pr (r1 := R i) (r2 := R j) (s1 := D i) (s2 := D j) G.1 (G.2.2 i hi) b)
  rw [← st] at hcm
  have e : auQ wh b D i j (5 : Int).toNat = (bc (st7 (auA wh b (D i).A (D j).A)), upD D 5 (auR wh b (D i) (D j))) := if_neg (by omega)
  rw [e] at hC G1 ⊢
  have k := j_add G.1 (G.2.2 i hi) (G.2.2 j hj) h1 h2 hb (by rw [← hcm]; exact c1) (by rw [← hcm]; exact c2) (by have := G1.2.2 5 (by decide); change GD wh (upD D 5 _ 5) _ at this; rw [up_s] at this; exact this)
  refine ⟨hcm.symm, _, ⟨hC, _, G1⟩, O5.up D _, ?_⟩
  show odV wh (upD D 5 _ 5) 4 = 1 ∧ odV wh (upD D 5 _ 5) 5 = _ ∧ upD D 5 _ 5 = _
  rw [up_s]
  exact ⟨k.1, k.2, rfl⟩
theorem n_times {w : e_W} {x wh i j : Nat} {kn : Int} {D : Nat → SD} (Q : ∃ R, GG wh D R) (hi : i < 6) (hj : j < 6) (hC : CW w x wh kn (tiQ wh D i j (5 : Int).toNat).2) (h1 : odV wh (D i) 4 = 1) (h2 : odV wh (D j) 4 = 1) {cm : Int} (hcm : cm = bc ((((st7 (D i).A).toNat &&& (st7 (D j).A).toNat : Nat) : Int))) (h6 : (D i).dg + (D j).dg ≤ 6) : (tiQ wh D i j (5 : Int).toNat).1 = cm ∧ ∃ D1, QW w x wh kn D1 ∧ O5 D D1 ∧ ((D i).dg + (D j).dg < cm → odV wh (D1 5) 4 = 1 ∧ odV wh (D1 5) 5 = odV wh (D i) 5 * odV wh (D j) 5 % pr wh) := by
  obtain ⟨R, G⟩ := Q
  have q := (y_times G (i := (i : Int)) (j := (j : Int)) (t := 5) ⟨⟨by omega, by omega⟩, ⟨by omega, by omega⟩, z5⟩).2
  rw [Int.toNat_natCast, Int.toNat_natCast] at q
  have G1 := GN hC q
  have f1 := (odV4.mp h1).1
  have f2 := (odV4.mp h2).1
  have st := st_and (tiA_pr (r1 := R i) (s1 := D i) (s2 := D j) G.1 (G.2.2 i hi))
  rw [← st] at hcm
  have e : tiQ wh D i j (5 : Int).toNat = (bc (st7 (tiA wh (D i).A (D j).A)), upD D 5 (tiS wh (D i) (D j))) := if_neg (by omega)
  rw [e] at hC G1 ⊢
  refine ⟨hcm.symm, _, ⟨hC, _, G1⟩, O5.up D _, fun c => ?_⟩
  show odV wh (upD D 5 _ 5) 4 = 1 ∧ odV wh (upD D 5 _ 5) 5 = _
  rw [up_s]
  exact j_mul G.1 (G.2.2 i hi) (G.2.2 j hj) h1 h2 (by rw [← hcm]; exact c) h6 (by have := G1.2.2 5 (by decide); change GD wh (upD D 5 _ 5) _ at this; rw [up_s] at this; exact this)
theorem n_times9 {wh i j : Nat} {D : Nat → SD} (h6 : 6 < (D i).dg + (D j).dg) : tiQ wh D i j (5 : Int).toNat = (-9, D) := if_pos (Or.inr (Or.inr h6))
/-! isTold -/
theorem hiK_lo9 (P : Int → Int) : ∀ j : Nat, -1 ≤ hiK P j ∧ hiK P j ≤ (j : Int) := by
  intro j
  induction j with
  | zero => exact ⟨Int.le_refl _, by show (-1 : Int) ≤ 0; decide⟩
  | succ j ih =>
    show -1 ≤ (if P (j : Int) ≠ 0 then (j : Int) else hiK P j) ∧ (if P (j : Int) ≠ 0 then (j : Int) else hiK P j) ≤ ((j + 1 : Nat) : Int)
    split <;> omega
theorem wyV_r {wh : Nat} (hwh : wh < 7) {s : SD} {r : RD} (g : GD wh s r) (a c : Int) (ha : 0 ≤ bc a) : -9 ≤ wyV wh s a c ∧ wyV wh s a c ≤ 125 := by
  have hp := pr_rg wh hwh
  have d2 := g.2.1
  unfold wyV
  by_cases q : (s.fl = 1 ∧ thr s.A a) ∧ pbK (pr wh) s.dg.toNat ≤ 125
  · rw [if_pos q]
    by_cases q2 : 0 ≤ s.dg - bc a
    · rw [if_pos q2]
      have h1 := pbK_le (p := pr wh) (by omega) (s.dg - bc a).toNat (s.dg.toNat - (s.dg - bc a).toNat)
      rw [show (s.dg - bc a).toNat + (s.dg.toNat - (s.dg - bc a).toNat) = s.dg.toNat by omega] at h1
      have h2 := pbK_1 (p := pr wh) (by omega) (s.dg - bc a).toNat
      have := q.2
      omega
    · rw [if_neg q2]
      rcases b01_or (il wh a s.A s.fl s.dg ∧ tl wh a s.A 0 = c % pr wh) with e | e <;> omega
  · rw [if_neg q]; decide
theorem wyV_c {wh : Nat} {s : SD} {a c c2 : Int} (h : bc a ≤ s.dg) : wyV wh s a c = wyV wh s a c2 := by
  unfold wyV
  rw [if_pos (show 0 ≤ s.dg - bc a by omega), if_pos (show 0 ≤ s.dg - bc a by omega)]
theorem t_emp {wh : Nat} {D : Nat → SD} {i : Nat} (h5 : D 5 = SD0) (h : (D i).fl = 0) : smV wh (D i) (D (5 : Int).toNat) = 1 := by
  have f5 : (D (5 : Int).toNat).fl = 0 := by show (D 5).fl = 0; rw [h5]; rfl
  unfold smV
  rw [if_pos (Or.inl h), b01_t ⟨h, f5⟩]
