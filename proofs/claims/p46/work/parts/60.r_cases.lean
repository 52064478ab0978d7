/-! ===== case by case: both answers are one, and the relation is kept ===== -/
def GG (wh : Nat) (D : Nat → SD) (R : Nat → RD) : Prop := wh < 7 ∧ SS wh D R ∧ ∀ j : Nat, j < 6 → GD wh (D j) (R j)
theorem b_st {wh : Nat} {s : SD} {r : RD} (h : SR wh s r) : bc (st7 s.A) = bc (st7 r.A) := by rw [h.2.1]
theorem lpS_A (wh : Nat) (g : Int) (P : Int → Int) : lpA wh P = (lpS wh g P).A := by unfold lpS; rfl
theorem auR_A (wh : Nat) (b : Int) (s1 s2 : SD) : auA wh b s1.A s2.A = (auR wh b s1 s2).A := by unfold auR; rfl
theorem tiS_A (wh : Nat) (s1 s2 : SD) : tiA wh s1.A s2.A = (tiS wh s1 s2).A := by unfold tiS; rfl
theorem y_hide {wh : Nat} {D : Nat → SD} {R : Nat → RD} (G : GG wh D R) {i g a b c d : Int} (hc : (0 ≤ i ∧ i < 6) ∧ (0 ≤ g ∧ g ≤ 3)) : bc (st7 (lpA wh (bcm (pr wh) g a b c d))) = (bc (st7 (lpR wh g (bcm (pr wh) g a b c d)).A), updR R i.toNat (lpR wh g (bcm (pr wh) g a b c d))).1 ∧ SS wh (upD D i.toNat (lpS wh g (bcm (pr wh) g a b c d))) (bc (st7 (lpR wh g (bcm (pr wh) g a b c d)).A), updR R i.toNat (lpR wh g (bcm (pr wh) g a b c d))).2 := by
  have h : SR wh (lpS wh g (bcm (pr wh) g a b c d)) (lpR wh g (bcm (pr wh) g a b c d)) := SR.lay G.1 hc.2.1 (by omega) (fun k h1 h2 => bcm_z _ _ _ _ _ _ k h1 h2 hc.2.1) (fun _ _ _ => rfl)
  rw [lpS_A wh g]
  exact ⟨b_st h, G.2.1.up h⟩
theorem y_pour {wh : Nat} {D : Nat → SD} {R : Nat → RD} (G : GG wh D R) {i a b c d : Int} (hc : 0 ≤ i ∧ i < 6) : (poQ wh D i.toNat a b c d).1 = (if (R i.toNat).dg = -1 then (-9, R) else (bc (st7 (poR wh (R i.toNat) (bcm (pr wh) (R i.toNat).dg a b c d)).A), updR R i.toNat (poR wh (R i.toNat) (bcm (pr wh) (R i.toNat).dg a b c d)))).1 ∧ SS wh (poQ wh D i.toNat a b c d).2 (if (R i.toNat).dg = -1 then (-9, R) else (bc (st7 (poR wh (R i.toNat) (bcm (pr wh) (R i.toNat).dg a b c d)).A), updR R i.toNat (poR wh (R i.toNat) (bcm (pr wh) (R i.toNat).dg a b c d)))).2 := by
  have h := G.2.2 i.toNat (by omega)
  unfold poQ
  by_cases f : (R i.toNat).dg = -1
  · rw [if_pos f, if_pos (h.e.1.mpr f)]; exact ⟨rfl, G.2.1⟩
  · rw [if_neg f, if_neg (fun q => f (h.e.1.mp q)), ← h.e.2.2 f]
    have hd := h.e.2.2 f
    have h2 := h.2.1
    have q : SR wh (poS wh (D i.toNat) (bcm (pr wh) (R i.toNat).dg a b c d)) (poR wh (R i.toNat) (bcm (pr wh) (R i.toNat).dg a b c d)) := SR.pour G.1 h f (fun k h1 h2 => bcm_z _ _ _ _ _ _ k h1 h2 (by omega))
    exact ⟨b_st q, G.2.1.up q⟩
theorem y_join {wh : Nat} {D : Nat → SD} {R : Nat → RD} (G : GG wh D R) {i j t : Int} {b s : Int} (hb : (b = 0 ∧ s = 1) ∨ (b = 1 ∧ s = -1)) (hc : (0 ≤ i ∧ i < 6) ∧ (0 ≤ j ∧ j < 6) ∧ (0 ≤ t ∧ t < 6)) : (auQ wh b D i.toNat j.toNat t.toNat).1 = (if (R i.toNat).dg = -1 ∨ (R j.toNat).dg = -1 then (-9, R) else (bc (st7 (joR wh s (R i.toNat) (R j.toNat)).A), updR R t.toNat (joR wh s (R i.toNat) (R j.toNat)))).1 ∧ SS wh (auQ wh b D i.toNat j.toNat t.toNat).2 (if (R i.toNat).dg = -1 ∨ (R j.toNat).dg = -1 then (-9, R) else (bc (st7 (joR wh s (R i.toNat) (R j.toNat)).A), updR R t.toNat (joR wh s (R i.toNat) (R j.toNat)))).2 := by
  have h1 := G.2.2 i.toNat (by omega)
  have h2 := G.2.2 j.toNat (by omega)
  unfold auQ
  by_cases f : (R i.toNat).dg = -1 ∨ (R j.toNat).dg = -1
  · rw [if_pos f, if_pos (f.imp h1.e.1.mpr h2.e.1.mpr)]; exact ⟨rfl, G.2.1⟩
  · rw [if_neg f, if_neg (fun q => f (q.imp h1.e.1.mp h2.e.1.mp))]
    have q : SR wh (auR wh b (D i.toNat) (D j.toNat)) (joR wh s (R i.toNat) (R j.toNat)) := SR.join G.1 h1 h2 (fun z => f (Or.inl z)) (fun z => f (Or.inr z)) hb
    rw [auR_A]
    exact ⟨b_st q, G.2.1.up q⟩
theorem y_plus {wh : Nat} {D : Nat → SD} {R : Nat → RD} (G : GG wh D R) {i j t : Int} (hc : (0 ≤ i ∧ i < 6) ∧ (0 ≤ j ∧ j < 6) ∧ (0 ≤ t ∧ t < 6)) : (auQ wh 0 D i.toNat j.toNat t.toNat).1 = (if (R i.toNat).dg = -1 ∨ (R j.toNat).dg = -1 then (-9, R) else (bc (st7 (joR wh 1 (R i.toNat) (R j.toNat)).A), updR R t.toNat (joR wh 1 (R i.toNat) (R j.toNat)))).1 ∧ SS wh (auQ wh 0 D i.toNat j.toNat t.toNat).2 (if (R i.toNat).dg = -1 ∨ (R j.toNat).dg = -1 then (-9, R) else (bc (st7 (joR wh 1 (R i.toNat) (R j.toNat)).A), updR R t.toNat (joR wh 1 (R i.toNat) (R j.toNat)))).2 := y_join G (Or.inl ⟨rfl, rfl⟩) hc
theorem y_less {wh : Nat} {D : Nat → SD} {R : Nat → RD} (G : GG wh D R) {i j t : Int} (hc : (0 ≤ i ∧ i < 6) ∧ (0 ≤ j ∧ j < 6) ∧ (0 ≤ t ∧ t < 6)) : (auQ wh 1 D i.toNat j.toNat t.toNat).1 = (if (R i.toNat).dg = -1 ∨ (R j.toNat).dg = -1 then (-9, R) else (bc (st7 (joR wh (-1) (R i.toNat) (R j.toNat)).A), updR R t.toNat (joR wh (-1) (R i.toNat) (R j.toNat)))).1 ∧ SS wh (auQ wh 1 D i.toNat j.toNat t.toNat).2 (if (R i.toNat).dg = -1 ∨ (R j.toNat).dg = -1 then (-9, R) else (bc (st7 (joR wh (-1) (R i.toNat) (R j.toNat)).A), updR R t.toNat (joR wh (-1) (R i.toNat) (R j.toNat)))).2 := y_join G (Or.inr ⟨rfl, rfl⟩) hc
theorem y_times {wh : Nat} {D : Nat → SD} {R : Nat → RD} (G : GG wh D R) {i j t : Int} (hc : (0 ≤ i ∧ i < 6) ∧ (0 ≤ j ∧ j < 6) ∧ (0 ≤ t ∧ t < 6)) : (tiQ wh D i.toNat j.toNat t.toNat).1 = (if (R i.toNat).dg = -1 ∨ (R j.toNat).dg = -1 ∨ 6 < (R i.toNat).dg + (R j.toNat).dg then (-9, R) else (bc (st7 (tiR wh (R i.toNat) (R j.toNat)).A), updR R t.toNat (tiR wh (R i.toNat) (R j.toNat)))).1 ∧ SS wh (tiQ wh D i.toNat j.toNat t.toNat).2 (if (R i.toNat).dg = -1 ∨ (R j.toNat).dg = -1 ∨ 6 < (R i.toNat).dg + (R j.toNat).dg then (-9, R) else (bc (st7 (tiR wh (R i.toNat) (R j.toNat)).A), updR R t.toNat (tiR wh (R i.toNat) (R j.toNat)))).2 := by
  have h1 := G.2.2 i.toNat (by omega)
  have h2 := G.2.2 j.toNat (by omega)
  have e1 := h1.e
  have e2 := h2.e
  unfold tiQ
  by_cases f : (R i.toNat).dg = -1 ∨ (R j.toNat).dg = -1 ∨ 6 < (R i.toNat).dg + (R j.toNat).dg
  · rw [if_pos f, if_pos (by omega)]; exact ⟨rfl, G.2.1⟩
  · rw [if_neg f, if_neg (by omega)]
    have q : SR wh (tiS wh (D i.toNat) (D j.toNat)) (tiR wh (R i.toNat) (R j.toNat)) := SR.times G.1 h1 h2 (fun z => f (Or.inl z)) (fun z => f (Or.inr (Or.inl z)))
    rw [tiS_A]
    exact ⟨b_st q, G.2.1.up q⟩
theorem y_scale {wh : Nat} {D : Nat → SD} {R : Nat → RD} (G : GG wh D R) {i b t : Int} (hc : (0 ≤ i ∧ i < 6) ∧ (0 ≤ t ∧ t < 6)) : (scQ wh D i.toNat b t.toNat).1 = (if (R i.toNat).dg = -1 then (-9, R) else (bc (st7 (scR wh (R i.toNat) (b % pr wh)).A), updR R t.toNat (scR wh (R i.toNat) (b % pr wh)))).1 ∧ SS wh (scQ wh D i.toNat b t.toNat).2 (if (R i.toNat).dg = -1 then (-9, R) else (bc (st7 (scR wh (R i.toNat) (b % pr wh)).A), updR R t.toNat (scR wh (R i.toNat) (b % pr wh)))).2 := by
  have h := G.2.2 i.toNat (by omega)
  unfold scQ
  by_cases f : (R i.toNat).dg = -1
  · rw [if_pos f, if_pos (h.e.1.mpr f)]; exact ⟨rfl, G.2.1⟩
  · rw [if_neg f, if_neg (fun q => f (h.e.1.mp q))]
    have q : SR wh (scS wh (D i.toNat) (b % pr wh)) (scR wh (R i.toNat) (b % pr wh)) := SR.scale G.1 h f (emod_rg b G.1).1
    exact ⟨b_st q, G.2.1.up q⟩
theorem y_handOn {wh : Nat} {D : Nat → SD} {R : Nat → RD} (G : GG wh D R) {i u t g a b : Int} (hc : ((0 ≤ i ∧ i < 6) ∧ (0 ≤ t ∧ t < 6)) ∧ (1 ≤ u ∧ u ≤ fl wh) ∧ (0 ≤ g ∧ g ≤ 3)) : (haQ wh D i.toNat u t.toNat g a b).1 = (if (thQ wh (R i.toNat) u ∧ (R i.toNat).dg < bc u) then (bc (st7 (lpR wh g (hnP wh u (R i.toNat).A a b)).A), updR R t.toNat (lpR wh g (hnP wh u (R i.toNat).A a b))) else (-9, R)).1 ∧ SS wh (haQ wh D i.toNat u t.toNat g a b).2 (if (thQ wh (R i.toNat) u ∧ (R i.toNat).dg < bc u) then (bc (st7 (lpR wh g (hnP wh u (R i.toNat).A a b)).A), updR R t.toNat (lpR wh g (hnP wh u (R i.toNat).A a b))) else (-9, R)).2 := by
  have h := G.2.2 i.toNat (by omega)
  have en := h.en G.1 hc.2.1.1 hc.2.1.2
  unfold haQ
  by_cases f : thQ wh (R i.toNat) u ∧ (R i.toNat).dg < bc u
  · rw [if_pos f, if_pos (en.mpr f), h.1.2.1]
    have q : SR wh (lpS wh g (hoP wh u (R i.toNat).A g a b (ho wh).toNat)) (lpR wh g (hnP wh u (R i.toNat).A a b)) := SR.lay G.1 hc.2.2.1 (by omega) (hoP_z wh u _ g a b _) (hoP_eq G.1 u _ g a b)
    rw [lpS_A wh g]
    exact ⟨b_st q, G.2.1.up q⟩
  · rw [if_neg f, if_neg (fun q => f (en.mp q))]; exact ⟨rfl, G.2.1⟩
theorem y_lose {wh : Nat} {D : Nat → SD} {R : Nat → RD} (G : GG wh D R) {i h : Int} (hc : (0 ≤ i ∧ i < 6) ∧ (1 ≤ h ∧ h ≤ ho wh)) : (lsQ D i.toNat h).1 = (if hs (st7 (R i.toNat).A) h then ((R i.toNat).A h, updR R i.toNat (puR (R i.toNat) h (-1))) else (-9, R)).1 ∧ SS wh (lsQ D i.toNat h).2 (if hs (st7 (R i.toNat).A) h then ((R i.toNat).A h, updR R i.toNat (puR (R i.toNat) h (-1))) else (-9, R)).2 := by
  have g := G.2.2 i.toNat (by omega)
  have hM := pr_M G.1
  have e := st7_hs (R i.toNat).A (j := (h - 1).toNat) (by omega)
  rw [show (((h - 1).toNat : Nat) : Int) + 1 = h by omega] at e
  unfold lsQ
  rw [g.1.2.1]
  by_cases f : (R i.toNat).A h = -1
  · rw [if_pos f, if_neg (fun q => e.mp q f)]; exact ⟨rfl, G.2.1⟩
  · rw [if_neg f, if_pos (e.mpr f)]; exact ⟨rfl, G.2.1.up (g.1.put hc.2)⟩
theorem y_give {wh : Nat} {D : Nat → SD} {R : Nat → RD} (G : GG wh D R) {i h v : Int} (hc : (0 ≤ i ∧ i < 6) ∧ (1 ≤ h ∧ h ≤ ho wh)) : (giQ wh D i.toNat h v).1 = (if (R i.toNat).dg = -1 then (-9, R) else ((R i.toNat).A h, updR R i.toNat (puR (R i.toNat) h (v % pr wh)))).1 ∧ SS wh (giQ wh D i.toNat h v).2 (if (R i.toNat).dg = -1 then (-9, R) else ((R i.toNat).A h, updR R i.toNat (puR (R i.toNat) h (v % pr wh)))).2 := by
  have g := G.2.2 i.toNat (by omega)
  unfold giQ
  rw [g.1.2.1]
  by_cases f : (R i.toNat).dg = -1
  · rw [if_pos f, if_pos (g.e.1.mpr f)]; exact ⟨rfl, G.2.1⟩
  · rw [if_neg f, if_neg (fun q => f (g.e.1.mp q))]; exact ⟨rfl, G.2.1.up (g.1.put hc.2)⟩
theorem y_regain {wh : Nat} {D : Nat → SD} {R : Nat → RD} (G : GG wh D R) {i h a : Int} (hc : (0 ≤ i ∧ i < 6) ∧ (1 ≤ h ∧ h ≤ ho wh) ∧ (1 ≤ a ∧ a ≤ fl wh)) : (rgQ wh D i.toNat h a).1 = (if (thQ wh (R i.toNat) a ∧ (R i.toNat).dg < bc a) then (atV wh a (R i.toNat).A h, updR R i.toNat (puR (R i.toNat) h (atV wh a (R i.toNat).A h))) else (-9, R)).1 ∧ SS wh (rgQ wh D i.toNat h a).2 (if (thQ wh (R i.toNat) a ∧ (R i.toNat).dg < bc a) then (atV wh a (R i.toNat).A h, updR R i.toNat (puR (R i.toNat) h (atV wh a (R i.toNat).A h))) else (-9, R)).2 := by
  have g := G.2.2 i.toNat (by omega)
  have en := g.en G.1 hc.2.2.1 hc.2.2.2
  unfold rgQ
  by_cases f : thQ wh (R i.toNat) a ∧ (R i.toNat).dg < bc a
  · rw [if_pos f, if_pos (en.mpr f), g.1.2.1, tl_at G.1]; exact ⟨rfl, G.2.1.up (g.1.put hc.2.1)⟩
  · rw [if_neg f, if_neg (fun q => f (en.mp q))]; exact ⟨rfl, G.2.1⟩
theorem y_mend {wh : Nat} {D : Nat → SD} {R : Nat → RD} (G : GG wh D R) {i : Int} (hc : 0 ≤ i ∧ i < 6) : (meQ wh D i.toNat).1 = ((wrV wh (R i.toNat), if 0 < wrV wh (R i.toNat) then updR R i.toNat (puR (R i.toNat) (wrV wh (R i.toNat)) (atV wh (st7 (R i.toNat).A - 2 ^ (wrV wh (R i.toNat) - 1).toNat) (R i.toNat).A (wrV wh (R i.toNat)))) else R)).1 ∧ SS wh (meQ wh D i.toNat).2 ((wrV wh (R i.toNat), if 0 < wrV wh (R i.toNat) then updR R i.toNat (puR (R i.toNat) (wrV wh (R i.toNat)) (atV wh (st7 (R i.toNat).A - 2 ^ (wrV wh (R i.toNat) - 1).toNat) (R i.toNat).A (wrV wh (R i.toNat)))) else R)).2 := by
  have g := G.2.2 i.toNat (by omega)
  unfold meQ
  rw [g.wr G.1]
  by_cases f : 0 < wrV wh (R i.toNat)
  · rw [if_pos f, if_pos f, g.1.2.1, tl_at G.1]; exact ⟨rfl, G.2.1.up (g.1.put (wrV_rg2 G.1 f))⟩
  · rw [if_neg f, if_neg f]; exact ⟨rfl, G.2.1⟩
theorem y_copy {wh : Nat} {D : Nat → SD} {R : Nat → RD} (G : GG wh D R) {i j : Int} (hc : (0 ≤ i ∧ i < 6) ∧ (0 ≤ j ∧ j < 6)) : bc (st7 (D i.toNat).A) = ((bc (st7 (R i.toNat).A), updR R j.toNat (R i.toNat))).1 ∧ SS wh (upD D j.toNat (D i.toNat)) ((bc (st7 (R i.toNat).A), updR R j.toNat (R i.toNat))).2 := by
  have g := G.2.2 i.toNat (by omega)
  exact ⟨b_st g.1, G.2.1.up g.1⟩
theorem y_drop {wh : Nat} {D : Nat → SD} {R : Nat → RD} (G : GG wh D R) {i : Int} (hc : 0 ≤ i ∧ i < 6) : bc (st7 (D i.toNat).A) = ((bc (st7 (R i.toNat).A), updR R i.toNat (emR (R i.toNat)))).1 ∧ SS wh (upD D i.toNat SD0) ((bc (st7 (R i.toNat).A), updR R i.toNat (emR (R i.toNat)))).2 := by
  have g := G.2.2 i.toNat (by omega)
  exact ⟨b_st g.1, G.2.1.up (SR.em _)⟩
/-! the askers -/
theorem y_reckon {wh : Nat} {D : Nat → SD} {R : Nat → RD} (_ : GG wh D R) {a b c : Int} (_ : 0 ≤ c ∧ c ≤ 3) : rcV wh a b c = rcV wh a b c := rfl
theorem y_weight {wh : Nat} {D : Nat → SD} {R : Nat → RD} (G : GG wh D R) {a h c : Int} (hc : (1 ≤ h ∧ h ≤ ho wh) ∧ (1 ≤ a ∧ a ≤ fl wh)) : (if hs a h then wgt wh a h c else -9) = (if hs a h then atV wh a (fun j => if j = h then 1 else 0) c else -9) := by
  by_cases f : hs a h
  · rw [if_pos f, if_pos f]; exact wgt_at G.1 hc.1.1 hc.1.2 f c
  · rw [if_neg f, if_neg f]
theorem y_weights {wh : Nat} {D : Nat → SD} {R : Nat → RD} (G : GG wh D R) {a c : Int} (_ : 1 ≤ a ∧ a ≤ fl wh) : tl wh a (fun _ => 1) c = atV wh a (fun _ => 1) c := tl_at G.1 a _ c
theorem y_share {wh : Nat} {D : Nat → SD} {R : Nat → RD} (G : GG wh D R) {i h : Int} (hc : (0 ≤ i ∧ i < 6) ∧ (1 ≤ h ∧ h ≤ ho wh)) : (D i.toNat).A h = (R i.toNat).A h := by
  have g := G.2.2 i.toNat (by omega)
  rw [g.1.2.1]
theorem y_told {wh : Nat} {D : Nat → SD} {R : Nat → RD} (G : GG wh D R) {i a c : Int} (hc : (0 ≤ i ∧ i < 6) ∧ (1 ≤ a ∧ a ≤ fl wh)) : (if (D i.toNat).fl = 1 ∧ thr (D i.toNat).A a then tl wh a (D i.toNat).A c else -9) = (if (thQ wh (R i.toNat) a) then atV wh a (R i.toNat).A c else -9) := by
  have g := G.2.2 i.toNat (by omega)
  have en := g.th G.1 hc.2.1 hc.2.2
  by_cases f : thQ wh (R i.toNat) a
  · rw [if_pos f, if_pos (en.mpr f), g.1.2.1, tl_at G.1]
  · rw [if_neg f, if_neg (fun q => f (en.mp q))]
theorem y_open {wh : Nat} {D : Nat → SD} {R : Nat → RD} (G : GG wh D R) {i a : Int} (hc : (0 ≤ i ∧ i < 6) ∧ (1 ≤ a ∧ a ≤ fl wh)) : (if ((D i.toNat).fl = 1 ∧ thr (D i.toNat).A a) ∧ (D i.toNat).dg < bc a then tl wh a (D i.toNat).A 0 else -9) = (if (thQ wh (R i.toNat) a ∧ (R i.toNat).dg < bc a) then atV wh a (R i.toNat).A 0 else -9) := by
  have g := G.2.2 i.toNat (by omega)
  have en := g.en G.1 hc.2.1 hc.2.2
  by_cases f : thQ wh (R i.toNat) a ∧ (R i.toNat).dg < bc a
  · rw [if_pos f, if_pos (en.mpr f), g.1.2.1, tl_at G.1]
  · rw [if_neg f, if_neg (fun q => f (en.mp q))]
theorem y_coefficient {wh : Nat} {D : Nat → SD} {R : Nat → RD} (G : GG wh D R) {i a c : Int} (hc : (0 ≤ i ∧ i < 6) ∧ (1 ≤ a ∧ a ≤ fl wh) ∧ (0 ≤ c ∧ c ≤ 6)) : (if (D i.toNat).fl = 1 ∧ thr (D i.toNat).A a then gt wh a (D i.toNat).A (ho wh).toNat c else -9) = (if (thQ wh (R i.toNat) a) then (trK wh a (R i.toNat).A (ho wh).toNat).1 c else -9) := by
  have g := G.2.2 i.toNat (by omega)
  have en := g.th G.1 hc.2.1.1 hc.2.1.2
  by_cases f : thQ wh (R i.toNat) a
  · rw [if_pos f, if_pos (en.mpr f), g.1.2.1, gt_tr G.1 _ _ hc.2.2.1]
  · rw [if_neg f, if_neg (fun q => f (en.mp q))]
theorem y_degreeBy {wh : Nat} {D : Nat → SD} {R : Nat → RD} (G : GG wh D R) {i a : Int} (hc : (0 ≤ i ∧ i < 6) ∧ (1 ≤ a ∧ a ≤ fl wh)) : (if (D i.toNat).fl = 1 ∧ thr (D i.toNat).A a then hiK (gt wh a (D i.toNat).A (ho wh).toNat) 7 else -9) = (if (thQ wh (R i.toNat) a) then hiK (trK wh a (R i.toNat).A (ho wh).toNat).1 7 else -9) := by
  have g := G.2.2 i.toNat (by omega)
  have en := g.th G.1 hc.2.1 hc.2.2
  by_cases f : thQ wh (R i.toNat) a
  · rw [if_pos f, if_pos (en.mpr f), g.1.2.1, hi_tr G.1]
  · rw [if_neg f, if_neg (fun q => f (en.mp q))]
theorem b01_cg {c d : Prop} [Decidable c] [Decidable d] (h : c ↔ d) : b01 c = b01 d := by
  by_cases q : d
  · rw [b01_t q, b01_t (h.mpr q)]
  · rw [b01_f q, b01_f (fun z => q (h.mp z))]
theorem y_agrees {wh : Nat} {D : Nat → SD} {R : Nat → RD} (G : GG wh D R) {i a : Int} (hc : (0 ≤ i ∧ i < 6) ∧ (1 ≤ a ∧ a ≤ fl wh)) : (if (D i.toNat).fl = 1 ∧ thr (D i.toNat).A a then b01 (il wh a (D i.toNat).A (D i.toNat).fl (D i.toNat).dg) else -9) = (if (thQ wh (R i.toNat) a) then b01 (agD wh (R i.toNat) a) else -9) := by
  have g := G.2.2 i.toNat (by omega)
  have en := g.th G.1 hc.2.1 hc.2.2
  by_cases f : thQ wh (R i.toNat) a
  · rw [if_pos f, if_pos (en.mpr f)]
    exact b01_cg (g.inl G.1 f.2 a)
  · rw [if_neg f, if_neg (fun q => f (en.mp q))]
theorem y_suspects {wh : Nat} {D : Nat → SD} {R : Nat → RD} (G : GG wh D R) {i : Int} (hc : 0 ≤ i ∧ i < 6) : (if (D i.toNat).fl = 0 then -9 else ssK wh (D i.toNat).A (D i.toNat).fl (D i.toNat).dg (ho wh).toNat) = (if (R i.toNat).dg = -1 then -9 else suK wh (R i.toNat) (ho wh).toNat) := by
  have g := G.2.2 i.toNat (by omega)
  by_cases f : (R i.toNat).dg = -1
  · rw [if_pos f, if_pos (g.e.1.mpr f)]
  · rw [if_neg f, if_neg (fun q => f (g.e.1.mp q)), g.ss G.1 f]
theorem y_wrong {wh : Nat} {D : Nat → SD} {R : Nat → RD} (G : GG wh D R) {i : Int} (hc : 0 ≤ i ∧ i < 6) : wrf wh (D i.toNat).A (D i.toNat).fl (D i.toNat).dg = wrV wh (R i.toNat) := (G.2.2 i.toNat (by omega)).wr G.1
theorem y_total {wh : Nat} {D : Nat → SD} {R : Nat → RD} (G : GG wh D R) {i a : Int} (hc : (0 ≤ i ∧ i < 6) ∧ (1 ≤ a ∧ a ≤ fl wh)) : (if ((D i.toNat).fl = 1 ∧ thr (D i.toNat).A a) then tsK a (D i.toNat).A (ho wh).toNat else -9) = (if (thQ wh (R i.toNat) a) then tsK a (R i.toNat).A (ho wh).toNat else -9) := by
  have g := G.2.2 i.toNat (by omega)
  have en := g.th G.1 hc.2.1 hc.2.2
  by_cases f : thQ wh (R i.toNat) a
  · rw [if_pos f, if_pos (en.mpr f), g.1.2.1]
  · rw [if_neg f, if_neg (fun q => f (en.mp q))]
theorem GD.st {wh : Nat} {s : SD} {r : RD} (g : GD wh s r) {c : Int} (hc : 0 ≤ c) : (if 0 ≤ c ∧ c < s.sc then s.B c else -1) = stV wh r c := by
  have z := g.sc
  unfold stV
  by_cases e : r.hp = 1
  · have z2 := z.2 e
    have z3 := g.e.2.2 z2.2
    by_cases f : c ≤ r.dg
    · have c1 : 0 ≤ c ∧ c < s.sc := ⟨hc, by omega⟩
      rw [if_pos c1, if_pos ⟨e, f⟩]
      rcases g.1.2.2.2 with q | q
      · omega
      · exact q.2.2 c hc f
    · have c1 : ¬ (0 ≤ c ∧ c < s.sc) := by omega
      rw [if_neg c1, if_neg (fun q => f q.2)]
  · have z3 : ¬ 0 < s.sc := fun q => e (z.1.mp q)
    have c1 : ¬ (0 ≤ c ∧ c < s.sc) := by omega
    rw [if_neg c1, if_neg (fun q => e q.1)]
theorem y_seal {wh : Nat} {D : Nat → SD} {R : Nat → RD} (G : GG wh D R) {i c : Int} (hc : (0 ≤ i ∧ i < 6) ∧ (0 ≤ c ∧ c ≤ 6)) : (if 0 ≤ c ∧ c < (D i.toNat).sc then (D i.toNat).B c else -1) = stV wh (R i.toNat) c := (G.2.2 i.toNat (by omega)).st hc.2.1
theorem GD.ft {wh : Nat} (hwh : wh < 7) {s : SD} {r : RD} (g : GD wh s r) (hp1 : r.hp = 1) {h : Int} (hh : 0 ≤ h) (hA : r.A h ≠ -1) : fit wh s.sc s.A s.B h ↔ fiV wh r h := by
  have hp := pr_rg wh hwh
  have z := g.sc.2 hp1
  have z2 := g.e.2.2 z.2
  have z3 := g.2.1
  have hA2 := (g.2.2.2.2.1 h).resolve_left hA
  have hB : ∀ j : Int, 0 ≤ j → j < ((r.dg.toNat + 1 : Nat) : Int) → s.B j = sl wh (r.E j) := by
    intro j a b
    rcases g.1.2.2.2 with q | q
    · omega
    · exact q.2.2 j a (by omega)
  show sl wh (s.A h) = dfK (gr wh) s.B h s.sc.toNat ↔ r.A h = hv (pr wh) h r.E ((r.dg.toNat + 1 : Nat) : Int) (r.dg.toNat + 1)
  rw [show s.sc.toNat = r.dg.toNat + 1 by omega, dfK_sl hwh hh _ hB, g.1.2.1]
  have e : sl wh (q_ev (r.dg.toNat + 1) (fun j : Nat => r.E (j : Int)) h) = sl wh (hv (pr wh) h r.E ((r.dg.toNat + 1 : Nat) : Int) (r.dg.toNat + 1)) := sl_eq (cg_s (hv_ev _ _ _ _ rfl))
  rw [e]
  constructor
  · exact fun q => sl_inj hwh hA2 (hv_rg (by omega) _) q
  · exact fun q => by rw [q]
theorem y_fits {wh : Nat} {D : Nat → SD} {R : Nat → RD} (G : GG wh D R) {i h : Int} (hc : (0 ≤ i ∧ i < 6) ∧ (1 ≤ h ∧ h ≤ ho wh)) : (if 0 < (D i.toNat).sc ∧ (D i.toNat).A h ≠ -1 then b01 (fit wh (D i.toNat).sc (D i.toNat).A (D i.toNat).B h) else -9) = (if (R i.toNat).hp = 0 ∨ (R i.toNat).A h = -1 then -9 else b01 (fiV wh (R i.toNat) h)) := by
  have g := G.2.2 i.toNat (by omega)
  have z := g.sc.1
  have z2 := g.2.2.2.1
  have eA : (D i.toNat).A h = (R i.toNat).A h := by rw [g.1.2.1]
  by_cases f : (R i.toNat).hp = 0 ∨ (R i.toNat).A h = -1
  · rw [if_pos f, if_neg (by rw [eA]; rintro ⟨q1, q2⟩; have := z.mp q1; omega)]
  · have f1 : (R i.toNat).hp = 1 := by omega
    have f2 : (R i.toNat).A h ≠ -1 := fun q => f (Or.inr q)
    rw [if_neg f, if_pos ⟨z.mpr f1, by rw [eA]; exact f2⟩]
    exact b01_cg (g.ft G.1 f1 (by omega) f2)
theorem y_order {wh : Nat} {D : Nat → SD} {R : Nat → RD} (G : GG wh D R) {i j h : Int} (hc : (0 ≤ i ∧ i < 6) ∧ (0 ≤ j ∧ j < 6) ∧ (1 ≤ h ∧ h ≤ ho wh)) : (if (D i.toNat).A h ≠ -1 ∧ (D j.toNat).A h ≠ -1 then (if (D i.toNat).A h < (D j.toNat).A h then -1 else if (D j.toNat).A h < (D i.toNat).A h then 1 else 0) else -9) = orV ((R i.toNat).A h) ((R j.toNat).A h) := by
  have g := G.2.2 i.toNat (by omega)
  have g2 := G.2.2 j.toNat (by omega)
  rw [g.1.2.1, g2.1.2.1]
  generalize (R i.toNat).A h = a
  generalize (R j.toNat).A h = b
  unfold orV
  by_cases c1 : a = -1
  · rw [if_neg (fun q => q.1 c1), if_pos (Or.inl c1)]
  · by_cases c2 : b = -1
    · rw [if_neg (fun q => q.2 c2), if_pos (Or.inr c2)]
    · have c0 : ¬ (a = -1 ∨ b = -1) := fun q => q.elim c1 c2
      rw [if_pos ⟨c1, c2⟩, if_neg c0]
      by_cases c3 : a < b
      · rw [if_pos c3, b01_t c3, b01_f (show ¬ b < a by omega)]; rfl
      · rw [if_neg c3, b01_f c3]
        by_cases c4 : b < a
        · rw [if_pos c4, b01_t c4]; rfl
        · rw [if_neg c4, b01_f c4]; rfl
