-- 26.lay.lean.txt
section
/-! Secretshares: methods that lay -/
theorem FR.tr {w w1 w2 : e_W} {x : Nat} (h1 : FR w w1 x) (h2 : FR w1 w2 x) : FR w w2 x := fun q hq => by rw [h2 q hq, h1 q hq]
theorem CW.sp2 {w wl : e_W} {x wh : Nat} {kn : Int} {D : Nat → SD} {s2 : SD} (h : CW w x wh kn D) (hS : DS wl (x + 24) s2) (hf : DF w wl (x + 24)) : CW wl x wh kn D ∧ FR w wl x := by
  obtain ⟨a1, a2, a3, a4, a5⟩ := h.spare hf
  exact ⟨⟨a1, a2, h.2.2.1, a3, a4, fun j hj => ⟨a5 j hj, (h.2.2.2.2.2.1 j hj).2⟩, s2, hS⟩, fun q hq => hf q (by omega) (by omega) (by omega)⟩
theorem CW.deal {w w' : e_W} {x wh i : Nat} {kn : Int} {D : Nat → SD} {s : SD} (h : CW w x wh kn D) (hi : i < 6) (hd : DS w' (x + 6 + 3 * i) s) (hs : SW wh s) (hf : DF w w' (x + 6 + 3 * i)) : CW w' x wh kn (upD D i s) ∧ FR w w' x := by
  obtain ⟨P, hP⟩ := h.2.2.2.1
  obtain ⟨s2, hS⟩ := h.2.2.2.2.2.2
  exact CW.lay h hi ⟨P, hP.fr (hf _ (by omega) (by omega) (by omega)) (hf _ (by omega) (by omega) (by omega)) (hf _ (by omega) (by omega) (by omega))⟩ hd hs ⟨s2, hS.fr (hf _ (by omega) (by omega) (by omega)) (hf _ (by omega) (by omega) (by omega)) (hf _ (by omega) (by omega) (by omega))⟩ (fun q a1 a2 a3 a4 => hf q (by omega) (by omega) (by omega))
theorem CW.to {w : e_W} {x wh : Nat} {kn : Int} {D D2 : Nat → SD} (h : CW w x wh kn D) (hd : ∀ j, j < 6 → DS w (x + 6 + 3 * j) (D2 j) ∧ SW wh (D2 j)) : CW w x wh kn D2 := ⟨h.1, h.2.1, h.2.2.1, h.2.2.2.1, h.2.2.2.2.1, hd, h.2.2.2.2.2.2⟩
def lpS (wh : Nat) (g : Int) (P : Int → Int) : SD := (1, g, g + 1, lpA wh P, fun k => sl wh (P k))
theorem lpS_SW {wh : Nat} (hwh : wh < 7) (g : Int) (P : Int → Int) : SW wh (lpS wh g P) := by
  have hp := pr_rg wh hwh
  refine ⟨fun j _ _ => ?_, fun j _ _ => ⟨sl_rg hwh, un_sl hwh _⟩, Or.inr rfl, fun q => absurd q (show ¬ ((1 : Int) = 0) by decide)⟩
  show lpA wh P j = -1 ∨ (0 ≤ lpA wh P j ∧ lpA wh P j < pr wh ∧ j ≤ ho wh)
  unfold lpA
  split
  · have := hz_rg (p := pr wh) (x := j) (P := P) (by omega) 7
    exact Or.inr ⟨this.1, this.2, by omega⟩
  · exact Or.inl rfl
/-- a share put -/
def puS (s : SD) (h v : Int) : SD := (s.fl, s.dg, s.sc, e_fu s.A h v, s.B)
theorem puS_SW {wh : Nat} {s : SD} (hs : SW wh s) {h v : Int} (hv : v = -1 ∨ (0 ≤ v ∧ v < pr wh ∧ h ≤ ho wh)) (hf : s.fl ≠ 0 ∨ v = -1) : SW wh (puS s h v) := by
  refine ⟨fun j j0 j1 => ?_, hs.2.1, hs.2.2.1, fun q => ?_⟩
  · show e_fu s.A h v j = -1 ∨ _
    show e_fu s.A h v j = -1 ∨ (0 ≤ e_fu s.A h v j ∧ e_fu s.A h v j < pr wh ∧ j ≤ ho wh)
    unfold e_fu
    split
    · rename_i e; rw [e]; exact hv
    · exact hs.1 j j0 j1
  · have h9 := hs.2.2.2 q
    refine ⟨h9.1, h9.2.1, fun j j0 j1 => ?_⟩
    show e_fu s.A h v j = -1
    unfold e_fu
    split
    · rcases hf with hf | hf
      · exact absurd q hf
      · exact hf
    · exact h9.2.2 j j0 j1
def lsQ (D : Nat → SD) (i : Nat) (h : Int) : Int × (Nat → SD) := if (D i).A h = -1 then (-9, D) else ((D i).A h, upD D i (puS (D i) h (-1)))
def giQ (wh : Nat) (D : Nat → SD) (i : Nat) (h v : Int) : Int × (Nat → SD) := if (D i).fl = 0 then (-9, D) else ((D i).A h, upD D i (puS (D i) h (v % pr wh)))
def rgQ (wh : Nat) (D : Nat → SD) (i : Nat) (h a : Int) : Int × (Nat → SD) := if ((D i).fl = 1 ∧ thr (D i).A a) ∧ (D i).dg < bc a then (tl wh a (D i).A h, upD D i (puS (D i) h (tl wh a (D i).A h))) else (-9, D)
def poS (wh : Nat) (s : SD) (P : Int → Int) : SD := (s.fl, s.dg, s.sc, fun h => if s.A h = -1 then -1 else (s.A h + hz (pr wh) h P 7) % pr wh, fun k => s.B k * sl wh (P k) % gr wh)
theorem poS_SW {wh : Nat} (hwh : wh < 7) {s : SD} (hs : SW wh s) (P : Int → Int) : SW wh (poS wh s P) := by
  have hg9 := gr_rg wh hwh
  refine ⟨fun j j0 j1 => ?_, fun j j0 j1 => ⟨⟨Int.emod_nonneg _ (by omega), Int.emod_lt_of_pos _ (by omega)⟩, un_mul (hs.2.1 j j0 j1).2 (un_sl hwh _)⟩, hs.2.2.1, fun q => ?_⟩
  · show (if s.A j = -1 then -1 else (s.A j + hz (pr wh) j P 7) % pr wh) = -1 ∨ (0 ≤ (if s.A j = -1 then -1 else (s.A j + hz (pr wh) j P 7) % pr wh) ∧ (if s.A j = -1 then -1 else (s.A j + hz (pr wh) j P 7) % pr wh) < pr wh ∧ j ≤ ho wh)
    split
    · exact Or.inl rfl
    · rename_i e
      have h1 := emod_rg (s.A j + hz (pr wh) j P 7) hwh
      rcases hs.1 j j0 j1 with h | h
      · exact absurd h e
      · exact Or.inr ⟨h1.1, h1.2, h.2.2⟩
  · have h9 := hs.2.2.2 q
    exact ⟨h9.1, h9.2.1, fun j j0 j1 => if_pos (h9.2.2 j j0 j1)⟩
def poQ (wh : Nat) (D : Nat → SD) (i : Nat) (a b c d : Int) : Int × (Nat → SD) := if (D i).fl = 0 then (-9, D) else (bc (st7 (poS wh (D i) (bcm (pr wh) (D i).dg a b c d)).A), upD D i (poS wh (D i) (bcm (pr wh) (D i).dg a b c d)))
def tiA (wh : Nat) (A1 A2 : Int → Int) : Int → Int := fun h => if (1 ≤ h ∧ h ≤ ho wh) ∧ A1 h ≠ -1 ∧ A2 h ≠ -1 then A1 h * A2 h % pr wh else -1
def tiS (wh : Nat) (s1 s2 : SD) : SD := (1, s1.dg + s2.dg, 0, tiA wh s1.A s2.A, fun _ => 0)
theorem tiS_SW {wh : Nat} (hwh : wh < 7) (s1 s2 : SD) : SW wh (tiS wh s1 s2) := by
  refine ⟨fun j j0 j1 => ?_, fun j j0 j1 => absurd j1 (show ¬ j < 0 by omega), Or.inl rfl, fun q => absurd q (show ¬ ((1 : Int) = 0) by decide)⟩
  show tiA wh s1.A s2.A j = -1 ∨ (0 ≤ tiA wh s1.A s2.A j ∧ tiA wh s1.A s2.A j < pr wh ∧ j ≤ ho wh)
  unfold tiA
  split
  · rename_i q
    have h1 := emod_rg (s1.A j * s2.A j) hwh
    exact Or.inr ⟨h1.1, h1.2, q.1.2⟩
  · exact Or.inl rfl
def tiQ (wh : Nat) (D : Nat → SD) (i j t : Nat) : Int × (Nat → SD) := if (D i).fl = 0 ∨ (D j).fl = 0 ∨ 6 < (D i).dg + (D j).dg then (-9, D) else (bc (st7 (tiA wh (D i).A (D j).A)), upD D t (tiS wh (D i) (D j)))
def scS (wh : Nat) (s : SD) (f : Int) : SD := (1, s.dg, s.sc, fun h => if s.A h = -1 then -1 else s.A h * f % pr wh, fun k => e_pw (s.B k) f.toNat (gr wh))
theorem scS_SW {wh : Nat} (hwh : wh < 7) {s : SD} (hs : SW wh s) (f : Int) : SW wh (scS wh s f) := by
  have hg9 := gr_rg wh hwh
  refine ⟨fun j j0 j1 => ?_, fun j j0 j1 => ⟨e_pw_rg (by omega), un_pow hwh (hs.2.1 j j0 j1).2 _⟩, hs.2.2.1, fun q => absurd q (show ¬ ((1 : Int) = 0) by decide)⟩
  show (if s.A j = -1 then -1 else s.A j * f % pr wh) = -1 ∨ (0 ≤ (if s.A j = -1 then -1 else s.A j * f % pr wh) ∧ (if s.A j = -1 then -1 else s.A j * f % pr wh) < pr wh ∧ j ≤ ho wh)
  split
  · exact Or.inl rfl
  · rename_i e
    have h1 := emod_rg (s.A j * f) hwh
    rcases hs.1 j j0 j1 with h | h
    · exact absurd h e
    · exact Or.inr ⟨h1.1, h1.2, h.2.2⟩
def scQ (wh : Nat) (D : Nat → SD) (i : Nat) (b : Int) (t : Nat) : Int × (Nat → SD) := if (D i).fl = 0 then (-9, D) else (bc (st7 (scS wh (D i) (b % pr wh)).A), upD D t (scS wh (D i) (b % pr wh)))
def hoK (wh : Nat) (set : Int) (A : Int → Int) (a b c : Int) : Nat → Int
  | 0 => 0
  | k + 1 => if hs set ((k : Int) + 1) then (hoK wh set A a b c k + wgt wh set ((k : Int) + 1) 0 * (if c = 0 then A ((k : Int) + 1) else (a * ((k : Int) + 1) + b * c) % pr wh)) % pr wh else hoK wh set A a b c k
def hoP (wh : Nat) (set : Int) (A : Int → Int) (g a b : Int) (k : Nat) : Int → Int := fun c => if c ≤ g then hoK wh set A a b c k else 0
def haQ (wh : Nat) (D : Nat → SD) (i : Nat) (set : Int) (t : Nat) (g a b : Int) : Int × (Nat → SD) := if ((D i).fl = 1 ∧ thr (D i).A set) ∧ (D i).dg < bc set then (bc (st7 (lpA wh (hoP wh set (D i).A g a b (ho wh).toNat))), upD D t (lpS wh g (hoP wh set (D i).A g a b (ho wh).toNat))) else (-9, D)
set_option maxHeartbeats 4000000 in
set_option maxRecDepth 100000 in
theorem c_X3_hide {K : e_K} {l : Launch} {w : e_W} {n : Nat} {x wh : Nat} {kn : Int} {D : Nat → SD} (hC : CW w x wh kn D) {i : Int} (hi : e_r i) {g : Int} (hg : e_r g) {a : Int} (ha : e_r a) {b : Int} (hb : e_r b) {c : Int} (hc : e_r c) {d : Int} (hd : e_r d) : e_Met K l yX3_hide (Cond.code yX3_hide cX3_hide 8 (Option.some .int) :: e_TB) (7) (2) [.ref x, .int (eI i), .int (eI g), .int (eI a), .int (eI b), .int (eI c), .int (eI d)] w n (fun r w' n' => ((0 ≤ i ∧ i < 6) ∧ (0 ≤ g ∧ g ≤ 3)) ∧ r = some (.int (eI (bc (st7 (lpA wh (bcm (pr wh) g a b c d)))))) ∧ n' = n ∧ CW w' x wh (kn) (upD D i.toNat (lpS wh g (bcm (pr wh) g a b c d))) ∧ FR w w' x) (pxd w (¬ (0 ≤ i ∧ i < 6)) ((0 ≤ i ∧ i < 6) ∧ ¬ (0 ≤ g ∧ g ≤ 3))) := by
  refine e_ofV rfl (Nat.le_of_ble_eq_true rfl) ?_
  intro P9 E9 S9 M9 A9 B9 T9 C9 F hnm
  have hC0 := hC
  have hDA := hC.2.2.2.2.1
  obtain ⟨hX, hF, hwh, ⟨P0, hQ⟩, ⟨ga, hga, hgj⟩, hDs, s0, hS⟩ := hC
  have hp := pr_rg wh hwh
  have ho9 := ho_rg wh hwh
  have hg9 := gr_rg wh hwh
  have hf9 := fl_rg wh hwh
  refine e_aload_n F dX3_hide_0 rfl ?_
  refine e_iload_n F dX3_hide_1 rfl ?_
  refine e_callVV F u_X3_dealAt (by rfl) (c_X3_dealAt hX hDA (i := i) hi) hX rfl rfl w_ml_RX3_94 dX3_hide_2 (by rfl) (Nat.le_of_ble_eq_true rfl) (by decide) (by omega) (fun E w2 n2 h _ => ⟨Or.inl ⟨h.1, by have q := h.2.1; omega⟩, h.2.2⟩) (fun r_2 w_2 n_2 h_2 hn_2 => ?_)
  obtain ⟨hi1, rfl, ew_2, en_2⟩ := h_2
  rw [ew_2, en_2]
  obtain ⟨hD1, hW1⟩ := hDs i.toNat (by omega)
  refine e_astore F dX3_hide_5 (by decide) ?_
  refine e_iload_n F dX3_hide_7 rfl ?_
  refine e_callSS F u_X3_requireToldDegree (by rfl) (c_X3_requireToldDegree (g := g) hg) w_ml_RX3_98 dX3_hide_8 (by rfl) (Nat.le_of_ble_eq_true rfl) (by decide) (by omega) (fun E w2 n2 h _ => ⟨Or.inr ⟨h.1, by have q := h.2.1; omega⟩, h.2.2⟩) (fun r_8 w_8 n_8 h_8 hn_8 => ?_)
  obtain ⟨hrd, rfl, ew_8, en_8⟩ := h_8
  rw [ew_8, en_8]
  refine e_aload_n F dX3_hide_11 rfl ?_
  refine e_get (ci := 3) (fi := 1) (q := (RX3, TX3, 5)) F (by first | assumption | exact e_up_s | (rw [e_up_n (by first | assumption | omega)]; first | assumption | exact e_up_s | (rw [e_up_n (by first | assumption | omega)]; first | assumption | exact e_up_s | (rw [e_up_n (by first | assumption | omega)]; first | assumption | exact e_up_s))) | exact hD.1 | exact hD1.1 | exact hD2.1 | exact gD.1 | exact gD1.1 | exact gD2.1 | exact gQ.1 | exact hQ.1 | exact gS.1 | exact hS.1 | exact zD.1) rfl (by decide) w_fl_RX3_19 (by rfl) dX3_hide_12 ?_
  refine e_aload_n F dX3_hide_15 rfl ?_
  refine e_get (ci := 3) (fi := 0) (q := (RX3, TX3, 5)) F (by first | assumption | exact e_up_s | (rw [e_up_n (by first | assumption | omega)]; first | assumption | exact e_up_s | (rw [e_up_n (by first | assumption | omega)]; first | assumption | exact e_up_s | (rw [e_up_n (by first | assumption | omega)]; first | assumption | exact e_up_s))) | exact hD.1 | exact hD1.1 | exact hD2.1 | exact gD.1 | exact gD1.1 | exact gD2.1 | exact gQ.1 | exact hQ.1 | exact gS.1 | exact hS.1 | exact zD.1) rfl (by decide) w_fl_RX3_10 (by rfl) dX3_hide_16 ?_
  refine e_iload_n F dX3_hide_19 rfl ?_
  refine e_iload_n F dX3_hide_20 rfl ?_
  refine e_iload F dX3_hide_21 rfl ?_
  refine e_iload F dX3_hide_23 rfl ?_
  refine e_iload F dX3_hide_25 rfl ?_
  refine e_callVN F u_X2_become (by rfl) (c_X2_become hQ hF hwh (dg := g) (by omega) ha hb hc hd) (by first | assumption | exact e_up_s | (rw [e_up_n (by first | assumption | omega)]; first | assumption | exact e_up_s | (rw [e_up_n (by first | assumption | omega)]; first | assumption | exact e_up_s | (rw [e_up_n (by first | assumption | omega)]; first | assumption | exact e_up_s))) | exact hD.1 | exact hD1.1 | exact hD2.1 | exact gD.1 | exact gD1.1 | exact gD2.1 | exact gQ.1 | exact hQ.1 | exact gS.1 | exact hS.1 | exact zD.1) rfl rfl w_mn_RX3_101 dX3_hide_27 (by rfl) (Nat.le_of_ble_eq_true rfl) (by decide) (by omega) (fun _ _ _ h _ => False.elim h) (fun r_27 w_27 n_27 h_27 hn_27 => ?_)
  obtain ⟨rfl, en_27, gQ, gF⟩ := h_27
  rw [en_27]
  have hres := hC0.px ⟨⟨_, gQ⟩, gF⟩
  have gX := hres.1.1
  have gFO := hres.1.2.1
  have gD1 := (hres.1.2.2.2.2.2.1 i.toNat (by omega)).1
  refine e_aload_n F dX3_hide_30 rfl ?_
  refine e_aload F dX3_hide_31 rfl ?_
  refine e_iload_n F dX3_hide_33 rfl ?_
  refine e_callVV F u_X3_layPoly (by rfl) (c_X3_layPoly gX gFO hwh gQ gD1 (by omega) (g := g) (by omega)) gX rfl rfl w_ml_RX3_105 dX3_hide_34 (by rfl) (Nat.le_of_ble_eq_true rfl) (by decide) (by omega) (fun _ _ _ h _ => False.elim h) (fun r_34 w_34 n_34 h_34 hn_34 => ?_)
  obtain ⟨rfl, en_34, zD, zF⟩ := h_34
  rw [en_34]
  have hr2 := hres.1.deal (by omega) (s := lpS wh g (bcm (pr wh) g a b c d)) zD (lpS_SW hwh g _) zF
  refine e_iret F rfl (by omega) ?_ dX3_hide_37
  exact ⟨⟨hi1, hrd⟩, rfl, rfl, hr2.1, hres.2.tr hr2.2⟩
set_option maxHeartbeats 4000000 in
set_option maxRecDepth 100000 in
theorem c_X3_lose {K : e_K} {l : Launch} {w : e_W} {n : Nat} {x wh : Nat} {kn : Int} {D : Nat → SD} (hC : CW w x wh kn D) {i : Int} (hi : e_r i) {h : Int} (hh : e_r h) : e_Met K l yX3_lose (Cond.code yX3_lose cX3_lose 5 (Option.some .int) :: e_TB) (7) (2) [.ref x, .int (eI i), .int (eI h)] w n (fun r w' n' => ((0 ≤ i ∧ i < 6) ∧ (1 ≤ h ∧ h ≤ ho wh)) ∧ r = some (.int (eI ((lsQ D i.toNat h).1))) ∧ n' = n ∧ CW w' x wh (kn) ((lsQ D i.toNat h).2) ∧ FR w w' x) (pxd w (¬ ((0 ≤ i ∧ i < 6) ∧ (1 ≤ h ∧ h ≤ ho wh))) False) := by
  refine e_ofV rfl (Nat.le_of_ble_eq_true rfl) ?_
  intro P9 E9 S9 M9 A9 B9 T9 C9 F hnm
  have hC0 := hC
  have hDA := hC.2.2.2.2.1
  obtain ⟨hX, hF, hwh, ⟨P0, hQ⟩, ⟨ga, hga, hgj⟩, hDs, s0, hS⟩ := hC
  have hp := pr_rg wh hwh
  have ho9 := ho_rg wh hwh
  have hg9 := gr_rg wh hwh
  have hf9 := fl_rg wh hwh
  refine e_aload_n F dX3_lose_0 rfl ?_
  refine e_iload_n F dX3_lose_1 rfl ?_
  refine e_callVV F u_X3_dealAt (by rfl) (c_X3_dealAt hX hDA (i := i) hi) hX rfl rfl w_ml_RX3_94 dX3_lose_2 (by rfl) (Nat.le_of_ble_eq_true rfl) (by decide) (by omega) (fun E w2 n2 h _ => ⟨Or.inl ⟨h.1, by have q := h.2.1; omega⟩, h.2.2⟩) (fun r_2 w_2 n_2 h_2 hn_2 => ?_)
  obtain ⟨hi1, rfl, ew_2, en_2⟩ := h_2
  rw [ew_2, en_2]
  obtain ⟨hD1, hW1⟩ := hDs i.toNat (by omega)
  refine e_astore_n F dX3_lose_5 (by decide) ?_
  refine e_aload_n F dX3_lose_6 rfl ?_
  refine e_iload_n F dX3_lose_7 rfl ?_
  refine e_callVV F u_X3_requireHolder (by rfl) (c_X3_requireHolder hX hF hwh (h := h) hh) hX rfl rfl w_ml_RX3_77 dX3_lose_8 (by rfl) (Nat.le_of_ble_eq_true rfl) (by decide) (by omega) (fun E w2 n2 h _ => ⟨Or.inl ⟨h.1, by have q := h.2.1; omega⟩, h.2.2⟩) (fun r_8 w_8 n_8 h_8 hn_8 => ?_)
  obtain ⟨hrh, rfl, ew_8, en_8⟩ := h_8
  rw [ew_8, en_8]
  refine e_aload_n F dX3_lose_11 rfl ?_
  refine e_iload_n F dX3_lose_12 rfl ?_
  refine e_callVN F u_X0_hasShare (by rfl) (c_X0_hasShare hD1 (h := h) (by omega) (by omega)) (by first | assumption | exact e_up_s | (rw [e_up_n (by first | assumption | omega)]; first | assumption | exact e_up_s | (rw [e_up_n (by first | assumption | omega)]; first | assumption | exact e_up_s | (rw [e_up_n (by first | assumption | omega)]; first | assumption | exact e_up_s))) | exact hD.1 | exact hD1.1 | exact hD2.1 | exact gD.1 | exact gD1.1 | exact gD2.1 | exact gQ.1 | exact hQ.1 | exact gS.1 | exact hS.1 | exact zD.1) rfl rfl w_mn_RX3_119 dX3_lose_13 (by rfl) (Nat.le_of_ble_eq_true rfl) (by decide) (by omega) (fun _ _ _ h _ => False.elim h) (fun r_13 w_13 n_13 h_13 hn_13 => ?_)
  obtain ⟨rfl, ew_13, en_13⟩ := h_13
  rw [ew_13, en_13]
  refine e_if_ne F 22 dX3_lose_16 (by decide) (b01_r _) (fun c_16 => ?_) (fun c_16 => ?_)
  ·
    rw [ne_eq, b01_0, Classical.not_not] at c_16
    refine e_aload_n F dX3_lose_22 rfl ?_
    refine e_iload_n F dX3_lose_23 rfl ?_
    refine e_callVN F u_X0_shareAt (by rfl) (c_X0_shareAt hD1 (h := h) (by omega) (by omega)) (by first | assumption | exact e_up_s | (rw [e_up_n (by first | assumption | omega)]; first | assumption | exact e_up_s | (rw [e_up_n (by first | assumption | omega)]; first | assumption | exact e_up_s | (rw [e_up_n (by first | assumption | omega)]; first | assumption | exact e_up_s))) | exact hD.1 | exact hD1.1 | exact hD2.1 | exact gD.1 | exact gD1.1 | exact gD2.1 | exact gQ.1 | exact hQ.1 | exact gS.1 | exact hS.1 | exact zD.1) rfl rfl w_mn_RX3_123 dX3_lose_24 (by rfl) (Nat.le_of_ble_eq_true rfl) (by decide) (by omega) (fun _ _ _ h _ => False.elim h) (fun r_24 w_24 n_24 h_24 hn_24 => ?_)
    obtain ⟨rfl, ew_24, en_24⟩ := h_24
    rw [ew_24, en_24]
    refine e_istore F dX3_lose_27 (by decide) ?_
    refine e_aload_n F dX3_lose_29 rfl ?_
    refine e_iload_n F dX3_lose_30 rfl ?_
    refine e_iconst F dX3_lose_31 ?_
    refine e_callVN F u_X0_setShare (by rfl) (c_X0_setShare hD1 (h := h) (v := -1) (by omega) (by omega) (by omega) (by omega)) (by first | assumption | exact e_up_s | (rw [e_up_n (by first | assumption | omega)]; first | assumption | exact e_up_s | (rw [e_up_n (by first | assumption | omega)]; first | assumption | exact e_up_s | (rw [e_up_n (by first | assumption | omega)]; first | assumption | exact e_up_s))) | exact hD.1 | exact hD1.1 | exact hD2.1 | exact gD.1 | exact gD1.1 | exact gD2.1 | exact gQ.1 | exact hQ.1 | exact gS.1 | exact hS.1 | exact zD.1) rfl rfl w_mn_RX3_130 dX3_lose_32 (by rfl) (Nat.le_of_ble_eq_true rfl) (by decide) (by omega) (fun _ _ _ h _ => False.elim h) (fun r_32 w_32 n_32 h_32 hn_32 => ?_)
    obtain ⟨rfl, en_32, zD, zF⟩ := h_32
    rw [en_32]
    refine e_iload F dX3_lose_35 rfl ?_
    refine e_iret F rfl (by omega) ?_ dX3_lose_37
    refine ⟨⟨hi1, hrh⟩, ?_⟩
    unfold lsQ
    rw [if_neg (by omega)]
    exact ⟨rfl, rfl, hC0.deal (by omega) (s := puS (D i.toNat) h (-1)) zD (puS_SW hW1 (Or.inl rfl) (Or.inr rfl)) zF⟩
  ·
    rw [b01_0] at c_16
    refine e_bipush F dX3_lose_19 (by decide) ?_
    refine e_iret F rfl (by omega) ?_ dX3_lose_21
    refine ⟨⟨hi1, hrh⟩, ?_⟩
    unfold lsQ
    rw [if_pos (by omega)]
    exact ⟨rfl, rfl, hC0, FR.rf⟩
set_option maxHeartbeats 4000000 in
set_option maxRecDepth 100000 in
theorem c_X3_give {K : e_K} {l : Launch} {w : e_W} {n : Nat} {x wh : Nat} {kn : Int} {D : Nat → SD} (hC : CW w x wh kn D) {i : Int} (hi : e_r i) {h : Int} (hh : e_r h) {v : Int} (hv : e_r v) : e_Met K l yX3_give (Cond.code yX3_give cX3_give 6 (Option.some .int) :: e_TB) (7) (2) [.ref x, .int (eI i), .int (eI h), .int (eI v)] w n (fun r w' n' => ((0 ≤ i ∧ i < 6) ∧ (1 ≤ h ∧ h ≤ ho wh)) ∧ r = some (.int (eI ((giQ wh D i.toNat h v).1))) ∧ n' = n ∧ CW w' x wh (kn) ((giQ wh D i.toNat h v).2) ∧ FR w w' x) (pxd w (¬ ((0 ≤ i ∧ i < 6) ∧ (1 ≤ h ∧ h ≤ ho wh))) False) := by
  refine e_ofV rfl (Nat.le_of_ble_eq_true rfl) ?_
  intro P9 E9 S9 M9 A9 B9 T9 C9 F hnm
  have hC0 := hC
  have hDA := hC.2.2.2.2.1
  obtain ⟨hX, hF, hwh, ⟨P0, hQ⟩, ⟨ga, hga, hgj⟩, hDs, s0, hS⟩ := hC
  have hp := pr_rg wh hwh
  have ho9 := ho_rg wh hwh
  have hg9 := gr_rg wh hwh
  have hf9 := fl_rg wh hwh
  have hm := emod_rg v hwh
  refine e_aload_n F dX3_give_0 rfl ?_
  refine e_iload_n F dX3_give_1 rfl ?_
  refine e_callVV F u_X3_dealAt (by rfl) (c_X3_dealAt hX hDA (i := i) hi) hX rfl rfl w_ml_RX3_94 dX3_give_2 (by rfl) (Nat.le_of_ble_eq_true rfl) (by decide) (by omega) (fun E w2 n2 h _ => ⟨Or.inl ⟨h.1, by have q := h.2.1; omega⟩, h.2.2⟩) (fun r_2 w_2 n_2 h_2 hn_2 => ?_)
  obtain ⟨hi1, rfl, ew_2, en_2⟩ := h_2
  rw [ew_2, en_2]
  obtain ⟨hD1, hW1⟩ := hDs i.toNat (by omega)
  refine e_astore F dX3_give_5 (by decide) ?_
  refine e_aload_n F dX3_give_7 rfl ?_
  refine e_iload_n F dX3_give_8 rfl ?_
  refine e_callVV F u_X3_requireHolder (by rfl) (c_X3_requireHolder hX hF hwh (h := h) hh) hX rfl rfl w_ml_RX3_77 dX3_give_9 (by rfl) (Nat.le_of_ble_eq_true rfl) (by decide) (by omega) (fun E w2 n2 h _ => ⟨Or.inl ⟨h.1, by have q := h.2.1; omega⟩, h.2.2⟩) (fun r_9 w_9 n_9 h_9 hn_9 => ?_)
  obtain ⟨hrh, rfl, ew_9, en_9⟩ := h_9
  rw [ew_9, en_9]
  refine e_aload F dX3_give_12 rfl ?_
  refine e_callVN F u_X0_isEmpty (by rfl) (c_X0_isEmpty hD1) (by first | assumption | exact e_up_s | (rw [e_up_n (by first | assumption | omega)]; first | assumption | exact e_up_s | (rw [e_up_n (by first | assumption | omega)]; first | assumption | exact e_up_s | (rw [e_up_n (by first | assumption | omega)]; first | assumption | exact e_up_s))) | exact hD.1 | exact hD1.1 | exact hD2.1 | exact gD.1 | exact gD1.1 | exact gD2.1 | exact gQ.1 | exact hQ.1 | exact gS.1 | exact hS.1 | exact zD.1) rfl rfl w_mn_RX3_109 dX3_give_14 (by rfl) (Nat.le_of_ble_eq_true rfl) (by decide) (by omega) (fun _ _ _ h _ => False.elim h) (fun r_14 w_14 n_14 h_14 hn_14 => ?_)
  obtain ⟨rfl, ew_14, en_14⟩ := h_14
  rw [ew_14, en_14]
  refine e_if_eq F 23 dX3_give_17 (by decide) (b01_r _) (fun c_17 => ?_) (fun c_17 => ?_)
  ·
    rw [b01_0] at c_17
    refine e_aload F dX3_give_23 rfl ?_
    refine e_iload_n F dX3_give_25 rfl ?_
    refine e_callVN F u_X0_shareAt (by rfl) (c_X0_shareAt hD1 (h := h) (by omega) (by omega)) (by first | assumption | exact e_up_s | (rw [e_up_n (by first | assumption | omega)]; first | assumption | exact e_up_s | (rw [e_up_n (by first | assumption | omega)]; first | assumption | exact e_up_s | (rw [e_up_n (by first | assumption | omega)]; first | assumption | exact e_up_s))) | exact hD.1 | exact hD1.1 | exact hD2.1 | exact gD.1 | exact gD1.1 | exact gD2.1 | exact gQ.1 | exact hQ.1 | exact gS.1 | exact hS.1 | exact zD.1) rfl rfl w_mn_RX3_123 dX3_give_26 (by rfl) (Nat.le_of_ble_eq_true rfl) (by decide) (by omega) (fun _ _ _ h _ => False.elim h) (fun r_26 w_26 n_26 h_26 hn_26 => ?_)
    obtain ⟨rfl, ew_26, en_26⟩ := h_26
    rw [ew_26, en_26]
    refine e_istore F dX3_give_29 (by decide) ?_
    refine e_aload F dX3_give_31 rfl ?_
    refine e_iload_n F dX3_give_33 rfl ?_
    refine e_aload_n F dX3_give_34 rfl ?_
    refine e_get (ci := 3) (fi := 0) (q := (RX3, TX3, 5)) F (by first | assumption | exact e_up_s | (rw [e_up_n (by first | assumption | omega)]; first | assumption | exact e_up_s | (rw [e_up_n (by first | assumption | omega)]; first | assumption | exact e_up_s | (rw [e_up_n (by first | assumption | omega)]; first | assumption | exact e_up_s))) | exact hD.1 | exact hD1.1 | exact hD2.1 | exact gD.1 | exact gD1.1 | exact gD2.1 | exact gQ.1 | exact hQ.1 | exact gS.1 | exact hS.1 | exact zD.1) rfl (by decide) w_fl_RX3_10 (by rfl) dX3_give_35 ?_
    refine e_iload_n F dX3_give_38 rfl ?_
    refine e_i2l F dX3_give_39 (⟨by omega, by omega⟩) ?_
    refine e_callVN F u_X1_modPrime (by rfl) (c_X1_modPrime hF hwh (v := v) (by constructor <;> omega)) (by first | assumption | exact e_up_s | (rw [e_up_n (by first | assumption | omega)]; first | assumption | exact e_up_s | (rw [e_up_n (by first | assumption | omega)]; first | assumption | exact e_up_s | (rw [e_up_n (by first | assumption | omega)]; first | assumption | exact e_up_s))) | exact hD.1 | exact hD1.1 | exact hD2.1 | exact gD.1 | exact gD1.1 | exact gD2.1 | exact gQ.1 | exact hQ.1 | exact gS.1 | exact hS.1 | exact zD.1) rfl rfl w_mn_RX3_59 dX3_give_40 (by rfl) (Nat.le_of_ble_eq_true rfl) (by decide) (by omega) (fun _ _ _ h _ => False.elim h) (fun r_40 w_40 n_40 h_40 hn_40 => ?_)
    obtain ⟨rfl, ew_40, en_40⟩ := h_40
    rw [ew_40, en_40]
    refine e_callVN F u_X0_setShare (by rfl) (c_X0_setShare hD1 (h := h) (v := v % pr wh) (by omega) (by omega) (by omega) (by omega)) (by first | assumption | exact e_up_s | (rw [e_up_n (by first | assumption | omega)]; first | assumption | exact e_up_s | (rw [e_up_n (by first | assumption | omega)]; first | assumption | exact e_up_s | (rw [e_up_n (by first | assumption | omega)]; first | assumption | exact e_up_s))) | exact hD.1 | exact hD1.1 | exact hD2.1 | exact gD.1 | exact gD1.1 | exact gD2.1 | exact gQ.1 | exact hQ.1 | exact gS.1 | exact hS.1 | exact zD.1) rfl rfl w_mn_RX3_130 dX3_give_43 (by rfl) (Nat.le_of_ble_eq_true rfl) (by decide) (by omega) (fun _ _ _ h _ => False.elim h) (fun r_43 w_43 n_43 h_43 hn_43 => ?_)
    obtain ⟨rfl, en_43, zD, zF⟩ := h_43
    rw [en_43]
    refine e_iload F dX3_give_46 rfl ?_
    refine e_iret F rfl (by omega) ?_ dX3_give_48
    refine ⟨⟨hi1, hrh⟩, ?_⟩
    unfold giQ
    rw [if_neg c_17]
    exact ⟨rfl, rfl, hC0.deal (by omega) (s := puS (D i.toNat) h (v % pr wh)) zD (puS_SW hW1 (Or.inr ⟨hm.1, hm.2, hrh.2⟩) (Or.inl c_17)) zF⟩
  ·
    rw [b01_0, Classical.not_not] at c_17
    refine e_bipush F dX3_give_20 (by decide) ?_
    refine e_iret F rfl (by omega) ?_ dX3_give_22
    refine ⟨⟨hi1, hrh⟩, ?_⟩
    unfold giQ
    rw [if_pos c_17]
    exact ⟨rfl, rfl, hC0, FR.rf⟩
set_option maxHeartbeats 4000000 in
set_option maxRecDepth 100000 in
theorem c_X3_regain {K : e_K} {l : Launch} {w : e_W} {n : Nat} {x wh : Nat} {kn : Int} {D : Nat → SD} (hC : CW w x wh kn D) {i : Int} (hi : e_r i) {h : Int} (hh : e_r h) {a : Int} (ha : e_r a) : e_Met K l yX3_regain (Cond.code yX3_regain cX3_regain 6 (Option.some .int) :: e_TB) (7) (3) [.ref x, .int (eI i), .int (eI h), .int (eI a)] w n (fun r w' n' => ((0 ≤ i ∧ i < 6) ∧ (1 ≤ h ∧ h ≤ ho wh) ∧ (1 ≤ a ∧ a ≤ fl wh)) ∧ r = some (.int (eI ((rgQ wh D i.toNat h a).1))) ∧ n' = n ∧ CW w' x wh (kn) ((rgQ wh D i.toNat h a).2) ∧ FR w w' x) (pxd w (¬ ((0 ≤ i ∧ i < 6) ∧ (1 ≤ h ∧ h ≤ ho wh))) (((0 ≤ i ∧ i < 6) ∧ (1 ≤ h ∧ h ≤ ho wh)) ∧ ¬ (1 ≤ a ∧ a ≤ fl wh))) := by
  refine e_ofV rfl (Nat.le_of_ble_eq_true rfl) ?_
  intro P9 E9 S9 M9 A9 B9 T9 C9 F hnm
  have hC0 := hC
  have hDA := hC.2.2.2.2.1
  obtain ⟨hX, hF, hwh, ⟨P0, hQ⟩, ⟨ga, hga, hgj⟩, hDs, s0, hS⟩ := hC
  have hp := pr_rg wh hwh
  have ho9 := ho_rg wh hwh
  have hg9 := gr_rg wh hwh
  have hf9 := fl_rg wh hwh
  refine e_aload_n F dX3_regain_0 rfl ?_
  refine e_iload_n F dX3_regain_1 rfl ?_
  refine e_callVV F u_X3_dealAt (by rfl) (c_X3_dealAt hX hDA (i := i) hi) hX rfl rfl w_ml_RX3_94 dX3_regain_2 (by rfl) (Nat.le_of_ble_eq_true rfl) (by decide) (by omega) (fun E w2 n2 h _ => ⟨Or.inl ⟨h.1, by have q := h.2.1; omega⟩, h.2.2⟩) (fun r_2 w_2 n_2 h_2 hn_2 => ?_)
  obtain ⟨hi1, rfl, ew_2, en_2⟩ := h_2
  rw [ew_2, en_2]
  obtain ⟨hD1, hW1⟩ := hDs i.toNat (by omega)
  refine e_astore F dX3_regain_5 (by decide) ?_
  refine e_aload_n F dX3_regain_7 rfl ?_
  refine e_iload_n F dX3_regain_8 rfl ?_
  refine e_callVV F u_X3_requireHolder (by rfl) (c_X3_requireHolder hX hF hwh (h := h) hh) hX rfl rfl w_ml_RX3_77 dX3_regain_9 (by rfl) (Nat.le_of_ble_eq_true rfl) (by decide) (by omega) (fun E w2 n2 h _ => ⟨Or.inl ⟨h.1, by have q := h.2.1; omega⟩, h.2.2⟩) (fun r_9 w_9 n_9 h_9 hn_9 => ?_)
  obtain ⟨hrh, rfl, ew_9, en_9⟩ := h_9
  rw [ew_9, en_9]
  refine e_aload_n F dX3_regain_12 rfl ?_
  refine e_iload_n F dX3_regain_13 rfl ?_
  refine e_callVV F u_X3_requireSet (by rfl) (c_X3_requireSet hX hF hwh (s9 := a) ha) hX rfl rfl w_ml_RX3_80 dX3_regain_14 (by rfl) (Nat.le_of_ble_eq_true rfl) (by decide) (by omega) (fun E w2 n2 h _ => ⟨Or.inr ⟨h.1, by have q := h.2.1; omega⟩, h.2.2⟩) (fun r_14 w_14 n_14 h_14 hn_14 => ?_)
  obtain ⟨hrs, rfl, ew_14, en_14⟩ := h_14
  rw [ew_14, en_14]
  refine e_aload F dX3_regain_17 rfl ?_
  refine e_iload_n F dX3_regain_19 rfl ?_
  refine e_callVN F u_X0_isEnough (by rfl) (c_X0_isEnough hD1 (set := a) (by omega) (by omega)) (by first | assumption | exact e_up_s | (rw [e_up_n (by first | assumption | omega)]; first | assumption | exact e_up_s | (rw [e_up_n (by first | assumption | omega)]; first | assumption | exact e_up_s | (rw [e_up_n (by first | assumption | omega)]; first | assumption | exact e_up_s))) | exact hD.1 | exact hD1.1 | exact hD2.1 | exact gD.1 | exact gD1.1 | exact gD2.1 | exact gQ.1 | exact hQ.1 | exact gS.1 | exact hS.1 | exact zD.1) rfl rfl w_mn_RX3_170 dX3_regain_20 (by rfl) (Nat.le_of_ble_eq_true rfl) (by decide) (by omega) (fun _ _ _ h _ => False.elim h) (fun r_20 w_20 n_20 h_20 hn_20 => ?_)
  obtain ⟨rfl, ew_20, en_20⟩ := h_20
  rw [ew_20, en_20]
  refine e_if_ne F 29 dX3_regain_23 (by decide) (b01_r _) (fun c_23 => ?_) (fun c_23 => ?_)
  ·
    rw [ne_eq, b01_0, Classical.not_not] at c_23
    refine e_aload_n F dX3_regain_29 rfl ?_
    refine e_aload F dX3_regain_30 rfl ?_
    refine e_iload_n F dX3_regain_32 rfl ?_
    refine e_iload_n F dX3_regain_33 rfl ?_
    refine e_callVV F u_X3_tell (by rfl) (c_X3_tell hX hF hwh hD1 (set := a) (pl := h) (by omega) (by omega) hh) hX rfl rfl w_ml_RX3_178 dX3_regain_34 (by rfl) (Nat.le_of_ble_eq_true rfl) (by decide) (by omega) (fun _ _ _ h _ => False.elim h) (fun r_34 w_34 n_34 h_34 hn_34 => ?_)
    obtain ⟨rfl, ew_34, en_34⟩ := h_34
    rw [ew_34, en_34]
    have htl : 0 ≤ tl wh a (D i.toNat).A h ∧ tl wh a (D i.toNat).A h < pr wh := emod_rg _ hwh
    refine e_istore F dX3_regain_37 (by decide) ?_
    refine e_aload F dX3_regain_39 rfl ?_
    refine e_iload_n F dX3_regain_41 rfl ?_
    refine e_iload F dX3_regain_42 rfl ?_
    refine e_callVN F u_X0_setShare (by rfl) (c_X0_setShare hD1 (h := h) (v := tl wh a (D i.toNat).A h) (by omega) (by omega) (by omega) (by omega)) (by first | assumption | exact e_up_s | (rw [e_up_n (by first | assumption | omega)]; first | assumption | exact e_up_s | (rw [e_up_n (by first | assumption | omega)]; first | assumption | exact e_up_s | (rw [e_up_n (by first | assumption | omega)]; first | assumption | exact e_up_s))) | exact hD.1 | exact hD1.1 | exact hD2.1 | exact gD.1 | exact gD1.1 | exact gD2.1 | exact gQ.1 | exact hQ.1 | exact gS.1 | exact hS.1 | exact zD.1) rfl rfl w_mn_RX3_130 dX3_regain_44 (by rfl) (Nat.le_of_ble_eq_true rfl) (by decide) (by omega) (fun _ _ _ h _ => False.elim h) (fun r_44 w_44 n_44 h_44 hn_44 => ?_)
    obtain ⟨rfl, en_44, zD, zF⟩ := h_44
    rw [en_44]
    refine e_iload F dX3_regain_47 rfl ?_
    refine e_iret F rfl (by omega) ?_ dX3_regain_49
    refine ⟨⟨hi1, hrh, hrs⟩, ?_⟩
    unfold rgQ
    rw [if_pos c_23]
    exact ⟨rfl, rfl, hC0.deal (by omega) (s := puS (D i.toNat) h (tl wh a (D i.toNat).A h)) zD (puS_SW hW1 (Or.inr ⟨htl.1, htl.2, hrh.2⟩) (Or.inl (by rw [c_23.1.1]; decide))) zF⟩
  ·
    rw [b01_0] at c_23
    refine e_bipush F dX3_regain_26 (by decide) ?_
    refine e_iret F rfl (by omega) ?_ dX3_regain_28
    refine ⟨⟨hi1, hrh, hrs⟩, ?_⟩
    unfold rgQ
    rw [if_neg c_23]
    exact ⟨rfl, rfl, hC0, FR.rf⟩
set_option maxHeartbeats 4000000 in
set_option maxRecDepth 100000 in
theorem c_X3_copy {K : e_K} {l : Launch} {w : e_W} {n : Nat} {x wh : Nat} {kn : Int} {D : Nat → SD} (hC : CW w x wh kn D) {i : Int} (hi : e_r i) {j : Int} (hj : e_r j) : e_Met K l yX3_copy (Cond.code yX3_copy cX3_copy 5 (Option.some .int) :: e_TB) (7) (2) [.ref x, .int (eI i), .int (eI j)] w n (fun r w' n' => ((0 ≤ i ∧ i < 6) ∧ (0 ≤ j ∧ j < 6)) ∧ r = some (.int (eI (bc (st7 (D i.toNat).A)))) ∧ n' = n ∧ CW w' x wh (kn) (upD D j.toNat (D i.toNat)) ∧ FR w w' x) (pxd w (¬ ((0 ≤ i ∧ i < 6) ∧ (0 ≤ j ∧ j < 6))) False) := by
  refine e_ofV rfl (Nat.le_of_ble_eq_true rfl) ?_
  intro P9 E9 S9 M9 A9 B9 T9 C9 F hnm
  have hC0 := hC
  have hDA := hC.2.2.2.2.1
  obtain ⟨hX, hF, hwh, ⟨P0, hQ⟩, ⟨ga, hga, hgj⟩, hDs, s0, hS⟩ := hC
  have hp := pr_rg wh hwh
  have ho9 := ho_rg wh hwh
  have hg9 := gr_rg wh hwh
  have hf9 := fl_rg wh hwh
  refine e_aload_n F dX3_copy_0 rfl ?_
  refine e_iload_n F dX3_copy_1 rfl ?_
  refine e_callVV F u_X3_dealAt (by rfl) (c_X3_dealAt hX hDA (i := i) hi) hX rfl rfl w_ml_RX3_94 dX3_copy_2 (by rfl) (Nat.le_of_ble_eq_true rfl) (by decide) (by omega) (fun E w2 n2 h _ => ⟨Or.inl ⟨h.1, by have q := h.2.1; omega⟩, h.2.2⟩) (fun r_2 w_2 n_2 h_2 hn_2 => ?_)
  obtain ⟨hi1, rfl, ew_2, en_2⟩ := h_2
  rw [ew_2, en_2]
  obtain ⟨hD1, hW1⟩ := hDs i.toNat (by omega)
  refine e_astore_n F dX3_copy_5 (by decide) ?_
  refine e_aload_n F dX3_copy_6 rfl ?_
  refine e_iload_n F dX3_copy_7 rfl ?_
  refine e_callVV F u_X3_dealAt (by rfl) (c_X3_dealAt hX hDA (i := j) hj) hX rfl rfl w_ml_RX3_94 dX3_copy_8 (by rfl) (Nat.le_of_ble_eq_true rfl) (by decide) (by omega) (fun E w2 n2 h _ => ⟨Or.inl ⟨h.1, by have q := h.2.1; omega⟩, h.2.2⟩) (fun r_8 w_8 n_8 h_8 hn_8 => ?_)
  obtain ⟨hi2, rfl, ew_8, en_8⟩ := h_8
  rw [ew_8, en_8]
  obtain ⟨hD2, hW2⟩ := hDs j.toNat (by omega)
  refine e_astore F dX3_copy_11 (by decide) ?_
  refine e_aload F dX3_copy_13 rfl ?_
  refine e_aload_n F dX3_copy_15 rfl ?_
  have htk : e_Met K l yX0_take (Cond.code yX0_take cX0_take 3 none :: e_TB) (1) (0) [.ref (x + 6 + 3 * j.toNat), .ref (x + 6 + 3 * i.toNat)] w n (fun r w' n' => r = none ∧ n' = n ∧ DS w' (x + 6 + 3 * j.toNat) (D i.toNat) ∧ DF w w' (x + 6 + 3 * j.toNat)) (e_px0) := by
    by_cases e : i.toNat = j.toNat
    · rw [e]; exact c_X0_takeS hD2
    · exact c_X0_take hD2 hD1 (by omega)
  refine e_callVN F u_X0_take (by rfl) htk hD2.1 rfl rfl w_mn_RX3_191 dX3_copy_16 (by rfl) (Nat.le_of_ble_eq_true rfl) (by decide) (by omega) (fun _ _ _ h _ => False.elim h) (fun r_16 w_16 n_16 h_16 hn_16 => ?_)
  obtain ⟨rfl, en_16, zD, zF⟩ := h_16
  rw [en_16]
  refine e_aload F dX3_copy_19 rfl ?_
  refine e_callVN F u_X0_shareCount (by rfl) (c_X0_shareCount zD) zD.1 rfl rfl w_mn_RX3_149 dX3_copy_21 (by rfl) (Nat.le_of_ble_eq_true rfl) (by decide) (by omega) (fun _ _ _ h _ => False.elim h) (fun r_21 w_21 n_21 h_21 hn_21 => ?_)
  obtain ⟨rfl, ew_21, en_21⟩ := h_21
  rw [ew_21, en_21]
  refine e_iret F rfl (by omega) ?_ dX3_copy_24
  exact ⟨⟨hi1, hi2⟩, rfl, rfl, hC0.deal (by omega) zD hW1 zF⟩
set_option maxHeartbeats 4000000 in
set_option maxRecDepth 100000 in
theorem c_X3_drop {K : e_K} {l : Launch} {w : e_W} {n : Nat} {x wh : Nat} {kn : Int} {D : Nat → SD} (hC : CW w x wh kn D) {i : Int} (hi : e_r i) : e_Met K l yX3_drop (Cond.code yX3_drop cX3_drop 4 (Option.some .int) :: e_TB) (7) (1) [.ref x, .int (eI i)] w n (fun r w' n' => ((0 ≤ i ∧ i < 6)) ∧ r = some (.int (eI (bc (st7 (D i.toNat).A)))) ∧ n' = n ∧ CW w' x wh (kn) (upD D i.toNat SD0) ∧ FR w w' x) (pxd w (¬ (0 ≤ i ∧ i < 6)) False) := by
  refine e_ofV rfl (Nat.le_of_ble_eq_true rfl) ?_
  intro P9 E9 S9 M9 A9 B9 T9 C9 F hnm
  have hC0 := hC
  have hDA := hC.2.2.2.2.1
  obtain ⟨hX, hF, hwh, ⟨P0, hQ⟩, ⟨ga, hga, hgj⟩, hDs, s0, hS⟩ := hC
  have hp := pr_rg wh hwh
  have ho9 := ho_rg wh hwh
  have hg9 := gr_rg wh hwh
  have hf9 := fl_rg wh hwh
  refine e_aload_n F dX3_drop_0 rfl ?_
  refine e_iload_n F dX3_drop_1 rfl ?_
  refine e_callVV F u_X3_dealAt (by rfl) (c_X3_dealAt hX hDA (i := i) hi) hX rfl rfl w_ml_RX3_94 dX3_drop_2 (by rfl) (Nat.le_of_ble_eq_true rfl) (by decide) (by omega) (fun E w2 n2 h _ => ⟨Or.inl ⟨h.1, by have q := h.2.1; omega⟩, h.2.2⟩) (fun r_2 w_2 n_2 h_2 hn_2 => ?_)
  obtain ⟨hi1, rfl, ew_2, en_2⟩ := h_2
  rw [ew_2, en_2]
  obtain ⟨hD1, hW1⟩ := hDs i.toNat (by omega)
  refine e_astore_n F dX3_drop_5 (by decide) ?_
  refine e_aload_n F dX3_drop_6 rfl ?_
  refine e_callVN F u_X0_shareCount (by rfl) (c_X0_shareCount hD1) (by first | assumption | exact e_up_s | (rw [e_up_n (by first | assumption | omega)]; first | assumption | exact e_up_s | (rw [e_up_n (by first | assumption | omega)]; first | assumption | exact e_up_s | (rw [e_up_n (by first | assumption | omega)]; first | assumption | exact e_up_s))) | exact hD.1 | exact hD1.1 | exact hD2.1 | exact gD.1 | exact gD1.1 | exact gD2.1 | exact gQ.1 | exact hQ.1 | exact gS.1 | exact hS.1 | exact zD.1) rfl rfl w_mn_RX3_149 dX3_drop_7 (by rfl) (Nat.le_of_ble_eq_true rfl) (by decide) (by omega) (fun _ _ _ h _ => False.elim h) (fun r_7 w_7 n_7 h_7 hn_7 => ?_)
  obtain ⟨rfl, ew_7, en_7⟩ := h_7
  rw [ew_7, en_7]
  refine e_istore_n F dX3_drop_10 (by decide) ?_
  refine e_aload_n F dX3_drop_11 rfl ?_
  obtain ⟨q0, ⟨qf, qf1, qf2⟩, ⟨qg, qg1, qg2⟩, qw⟩ := hD1
  refine e_callVN F u_X0_clear (by rfl) (c_X0_clear q0 qf1) q0 rfl rfl w_mn_RX3_56 dX3_drop_12 (by rfl) (Nat.le_of_ble_eq_true rfl) (by decide) (by omega) (fun _ _ _ h _ => False.elim h) (fun r_12 w_12 n_12 h_12 hn_12 => ?_)
  obtain ⟨rfl, en_12, z0, ⟨zf, z1, z2⟩, zF⟩ := h_12
  rw [en_12]
  have zD : DS w_12 (x + 6 + 3 * i.toNat) SD0 := ⟨z0, ⟨zf, z1, fun j j0 j1 => z2 j (by omega) j1⟩, ⟨qg, by rw [zF _ (by omega) (by omega)]; exact qg1, fun j j0 j1 => absurd j1 (show ¬ j < 0 by omega)⟩, Or.inl rfl, by decide, by decide, fun j _ _ => by show -1 ≤ (-1 : Int) ∧ (-1 : Int) < 1000003; decide, fun j j0 j1 => absurd j1 (show ¬ j < 0 by omega)⟩
  refine e_iload_n F dX3_drop_15 rfl ?_
  refine e_iret F rfl (by omega) ?_ dX3_drop_16
  exact ⟨hi1, rfl, rfl, hC0.deal (by omega) zD (SD0_SW wh) (fun q a1 a2 _ => zF q a1 a2)⟩
set_option maxHeartbeats 4000000 in
set_option maxRecDepth 100000 in
theorem c_X3_plus {K : e_K} {l : Launch} {w : e_W} {n : Nat} {x wh : Nat} {kn : Int} {D : Nat → SD} (hC : CW w x wh kn D) {i : Int} (hi : e_r i) {j : Int} (hj : e_r j) {t : Int} (ht : e_r t) : e_Met K l yX3_plus (Cond.code yX3_plus cX3_plus 4 (Option.some .int) :: e_TB) (7) (3) [.ref x, .int (eI i), .int (eI j), .int (eI t)] w n (fun r w' n' => ((0 ≤ i ∧ i < 6) ∧ (0 ≤ j ∧ j < 6) ∧ (0 ≤ t ∧ t < 6)) ∧ r = some (.int (eI ((auQ wh 0 D i.toNat j.toNat t.toNat).1))) ∧ n' = n ∧ CW w' x wh (kn) ((auQ wh 0 D i.toNat j.toNat t.toNat).2) ∧ FR w w' x) (pxd w (¬ ((0 ≤ i ∧ i < 6) ∧ (0 ≤ j ∧ j < 6) ∧ (0 ≤ t ∧ t < 6))) False) := by
  refine e_ofV rfl (Nat.le_of_ble_eq_true rfl) ?_
  intro P9 E9 S9 M9 A9 B9 T9 C9 F hnm
  have hC0 := hC
  have hDA := hC.2.2.2.2.1
  obtain ⟨hX, hF, hwh, ⟨P0, hQ⟩, ⟨ga, hga, hgj⟩, hDs, s0, hS⟩ := hC
  have hp := pr_rg wh hwh
  have ho9 := ho_rg wh hwh
  have hg9 := gr_rg wh hwh
  have hf9 := fl_rg wh hwh
  refine e_aload_n F dX3_plus_0 rfl ?_
  refine e_aload_n F dX3_plus_1 rfl ?_
  refine e_iload_n F dX3_plus_2 rfl ?_
  refine e_callVV F u_X3_dealAt (by rfl) (c_X3_dealAt hX hDA (i := i) hi) hX rfl rfl w_ml_RX3_94 dX3_plus_3 (by rfl) (Nat.le_of_ble_eq_true rfl) (by decide) (by omega) (fun E w2 n2 h _ => ⟨Or.inl ⟨h.1, by have q := h.2.1; omega⟩, h.2.2⟩) (fun r_3 w_3 n_3 h_3 hn_3 => ?_)
  obtain ⟨hi1, rfl, ew_3, en_3⟩ := h_3
  rw [ew_3, en_3]
  obtain ⟨hD1, hW1⟩ := hDs i.toNat (by omega)
  refine e_aload_n F dX3_plus_6 rfl ?_
  refine e_iload_n F dX3_plus_7 rfl ?_
  refine e_callVV F u_X3_dealAt (by rfl) (c_X3_dealAt hX hDA (i := j) hj) hX rfl rfl w_ml_RX3_94 dX3_plus_8 (by rfl) (Nat.le_of_ble_eq_true rfl) (by decide) (by omega) (fun E w2 n2 h _ => ⟨Or.inl ⟨h.1, by have q := h.2.1; omega⟩, h.2.2⟩) (fun r_8 w_8 n_8 h_8 hn_8 => ?_)
  obtain ⟨hi2, rfl, ew_8, en_8⟩ := h_8
  rw [ew_8, en_8]
  obtain ⟨hD2, hW2⟩ := hDs j.toNat (by omega)
  refine e_aload_n F dX3_plus_11 rfl ?_
  refine e_iload_n F dX3_plus_12 rfl ?_
  refine e_callVV F u_X3_dealAt (by rfl) (c_X3_dealAt hX hDA (i := t) ht) hX rfl rfl w_ml_RX3_94 dX3_plus_13 (by rfl) (Nat.le_of_ble_eq_true rfl) (by decide) (by omega) (fun E w2 n2 h _ => ⟨Or.inl ⟨h.1, by have q := h.2.1; omega⟩, h.2.2⟩) (fun r_13 w_13 n_13 h_13 hn_13 => ?_)
  obtain ⟨hi3, rfl, ew_13, en_13⟩ := h_13
  rw [ew_13, en_13]
  obtain ⟨hD3, hW3⟩ := hDs t.toNat (by omega)
  refine e_iconst F dX3_plus_16 ?_
  refine e_callVV F u_X3_addUp (by rfl) (c_X3_addUp hC0 (i1 := i.toNat) (i2 := j.toNat) (i3 := t.toNat) (b := 0) (by omega) (by omega) (by omega) (by decide)) hX rfl rfl w_ml_RX3_153 dX3_plus_17 (by rfl) (Nat.le_of_ble_eq_true rfl) (by decide) (by omega) (fun _ _ _ h _ => False.elim h) (fun r_17 w_17 n_17 h_17 hn_17 => ?_)
  obtain ⟨rfl, en_17, hres⟩ := h_17
  rw [en_17]
  refine e_iret F rfl (by omega) ?_ dX3_plus_20
  exact ⟨⟨hi1, hi2, hi3⟩, rfl, rfl, hres⟩
set_option maxHeartbeats 4000000 in
set_option maxRecDepth 100000 in
theorem c_X3_less {K : e_K} {l : Launch} {w : e_W} {n : Nat} {x wh : Nat} {kn : Int} {D : Nat → SD} (hC : CW w x wh kn D) {i : Int} (hi : e_r i) {j : Int} (hj : e_r j) {t : Int} (ht : e_r t) : e_Met K l yX3_less (Cond.code yX3_less cX3_less 4 (Option.some .int) :: e_TB) (7) (3) [.ref x, .int (eI i), .int (eI j), .int (eI t)] w n (fun r w' n' => ((0 ≤ i ∧ i < 6) ∧ (0 ≤ j ∧ j < 6) ∧ (0 ≤ t ∧ t < 6)) ∧ r = some (.int (eI ((auQ wh 1 D i.toNat j.toNat t.toNat).1))) ∧ n' = n ∧ CW w' x wh (kn) ((auQ wh 1 D i.toNat j.toNat t.toNat).2) ∧ FR w w' x) (pxd w (¬ ((0 ≤ i ∧ i < 6) ∧ (0 ≤ j ∧ j < 6) ∧ (0 ≤ t ∧ t < 6))) False) := by
  refine e_ofV rfl (Nat.le_of_ble_eq_true rfl) ?_
  intro P9 E9 S9 M9 A9 B9 T9 C9 F hnm
  have hC0 := hC
  have hDA := hC.2.2.2.2.1
  obtain ⟨hX, hF, hwh, ⟨P0, hQ⟩, ⟨ga, hga, hgj⟩, hDs, s0, hS⟩ := hC
  have hp := pr_rg wh hwh
  have ho9 := ho_rg wh hwh
  have hg9 := gr_rg wh hwh
  have hf9 := fl_rg wh hwh
  refine e_aload_n F dX3_less_0 rfl ?_
  refine e_aload_n F dX3_less_1 rfl ?_
  refine e_iload_n F dX3_less_2 rfl ?_
  refine e_callVV F u_X3_dealAt (by rfl) (c_X3_dealAt hX hDA (i := i) hi) hX rfl rfl w_ml_RX3_94 dX3_less_3 (by rfl) (Nat.le_of_ble_eq_true rfl) (by decide) (by omega) (fun E w2 n2 h _ => ⟨Or.inl ⟨h.1, by have q := h.2.1; omega⟩, h.2.2⟩) (fun r_3 w_3 n_3 h_3 hn_3 => ?_)
  obtain ⟨hi1, rfl, ew_3, en_3⟩ := h_3
  rw [ew_3, en_3]
  obtain ⟨hD1, hW1⟩ := hDs i.toNat (by omega)
  refine e_aload_n F dX3_less_6 rfl ?_
  refine e_iload_n F dX3_less_7 rfl ?_
  refine e_callVV F u_X3_dealAt (by rfl) (c_X3_dealAt hX hDA (i := j) hj) hX rfl rfl w_ml_RX3_94 dX3_less_8 (by rfl) (Nat.le_of_ble_eq_true rfl) (by decide) (by omega) (fun E w2 n2 h _ => ⟨Or.inl ⟨h.1, by have q := h.2.1; omega⟩, h.2.2⟩) (fun r_8 w_8 n_8 h_8 hn_8 => ?_)
  obtain ⟨hi2, rfl, ew_8, en_8⟩ := h_8
  rw [ew_8, en_8]
  obtain ⟨hD2, hW2⟩ := hDs j.toNat (by omega)
  refine e_aload_n F dX3_less_11 rfl ?_
  refine e_iload_n F dX3_less_12 rfl ?_
  refine e_callVV F u_X3_dealAt (by rfl) (c_X3_dealAt hX hDA (i := t) ht) hX rfl rfl w_ml_RX3_94 dX3_less_13 (by rfl) (Nat.le_of_ble_eq_true rfl) (by decide) (by omega) (fun E w2 n2 h _ => ⟨Or.inl ⟨h.1, by have q := h.2.1; omega⟩, h.2.2⟩) (fun r_13 w_13 n_13 h_13 hn_13 => ?_)
  obtain ⟨hi3, rfl, ew_13, en_13⟩ := h_13
  rw [ew_13, en_13]
  obtain ⟨hD3, hW3⟩ := hDs t.toNat (by omega)
  refine e_iconst F dX3_less_16 ?_
  refine e_callVV F u_X3_addUp (by rfl) (c_X3_addUp hC0 (i1 := i.toNat) (i2 := j.toNat) (i3 := t.toNat) (b := 1) (by omega) (by omega) (by omega) (by decide)) hX rfl rfl w_ml_RX3_153 dX3_less_17 (by rfl) (Nat.le_of_ble_eq_true rfl) (by decide) (by omega) (fun _ _ _ h _ => False.elim h) (fun r_17 w_17 n_17 h_17 hn_17 => ?_)
  obtain ⟨rfl, en_17, hres⟩ := h_17
  rw [en_17]
  refine e_iret F rfl (by omega) ?_ dX3_less_20
  exact ⟨⟨hi1, hi2, hi3⟩, rfl, rfl, hres⟩
set_option maxHeartbeats 4000000 in
set_option maxRecDepth 100000 in
theorem c_X3_pour {K : e_K} {l : Launch} {w : e_W} {n : Nat} {x wh : Nat} {kn : Int} {D : Nat → SD} (hC : CW w x wh kn D) {i : Int} (hi : e_r i) {a : Int} (ha : e_r a) {b : Int} (hb : e_r b) {c : Int} (hc : e_r c) {d : Int} (hd : e_r d) : e_Met K l yX3_pour (Cond.code yX3_pour cX3_pour 10 (Option.some .int) :: e_TB) (7) (1) [.ref x, .int (eI i), .int (eI a), .int (eI b), .int (eI c), .int (eI d)] w n (fun r w' n' => ((0 ≤ i ∧ i < 6)) ∧ r = some (.int (eI ((poQ wh D i.toNat a b c d).1))) ∧ n' = n ∧ CW w' x wh (kn) ((poQ wh D i.toNat a b c d).2) ∧ FR w w' x) (pxd w (¬ (0 ≤ i ∧ i < 6)) False) := by
  refine e_ofV rfl (Nat.le_of_ble_eq_true rfl) ?_
  intro P9 E9 S9 M9 A9 B9 T9 C9 F hnm
  have hC0 := hC
  have hDA := hC.2.2.2.2.1
  obtain ⟨hX, hF, hwh, ⟨P0, hQ⟩, ⟨ga, hga, hgj⟩, hDs, s0, hS⟩ := hC
  have hp := pr_rg wh hwh
  have ho9 := ho_rg wh hwh
  have hg9 := gr_rg wh hwh
  have hf9 := fl_rg wh hwh
  have hres9 : True := trivial
  refine e_aload_n F dX3_pour_0 rfl ?_
  refine e_iload_n F dX3_pour_1 rfl ?_
  refine e_callVV F u_X3_dealAt (by rfl) (c_X3_dealAt hX hDA (i := i) hi) hX rfl rfl w_ml_RX3_94 dX3_pour_2 (by rfl) (Nat.le_of_ble_eq_true rfl) (by decide) (by omega) (fun E w2 n2 h _ => ⟨Or.inl ⟨h.1, by have q := h.2.1; omega⟩, h.2.2⟩) (fun r_2 w_2 n_2 h_2 hn_2 => ?_)
  obtain ⟨hi1, rfl, ew_2, en_2⟩ := h_2
  rw [ew_2, en_2]
  obtain ⟨hD1, hW1⟩ := hDs i.toNat (by omega)
  refine e_astore F dX3_pour_5 (by decide) ?_
  refine e_aload F dX3_pour_7 rfl ?_
  refine e_callVN F u_X0_isEmpty (by rfl) (c_X0_isEmpty hD1) (by first | assumption | exact e_up_s | (rw [e_up_n (by first | assumption | omega)]; first | assumption | exact e_up_s | (rw [e_up_n (by first | assumption | omega)]; first | assumption | exact e_up_s | (rw [e_up_n (by first | assumption | omega)]; first | assumption | exact e_up_s))) | exact hD.1 | exact hD1.1 | exact hD2.1 | exact gD.1 | exact gD1.1 | exact gD2.1 | exact gQ.1 | exact hQ.1 | exact gS.1 | exact hS.1 | exact zD.1) rfl rfl w_mn_RX3_109 dX3_pour_9 (by rfl) (Nat.le_of_ble_eq_true rfl) (by decide) (by omega) (fun _ _ _ h _ => False.elim h) (fun r_9 w_9 n_9 h_9 hn_9 => ?_)
  obtain ⟨rfl, ew_9, en_9⟩ := h_9
  rw [ew_9, en_9]
  refine e_if_eq F 18 dX3_pour_12 (by decide) (b01_r _) (fun c_12 => ?_) (fun c_12 => ?_)
  ·
    rw [b01_0] at c_12
    refine e_aload_n F dX3_pour_18 rfl ?_
    refine e_get (ci := 3) (fi := 1) (q := (RX3, TX3, 5)) F (by first | assumption | exact e_up_s | (rw [e_up_n (by first | assumption | omega)]; first | assumption | exact e_up_s | (rw [e_up_n (by first | assumption | omega)]; first | assumption | exact e_up_s | (rw [e_up_n (by first | assumption | omega)]; first | assumption | exact e_up_s))) | exact hD.1 | exact hD1.1 | exact hD2.1 | exact gD.1 | exact gD1.1 | exact gD2.1 | exact gQ.1 | exact hQ.1 | exact gS.1 | exact hS.1 | exact zD.1) rfl (by decide) w_fl_RX3_19 (by rfl) dX3_pour_19 ?_
    refine e_aload_n F dX3_pour_22 rfl ?_
    refine e_get (ci := 3) (fi := 0) (q := (RX3, TX3, 5)) F (by first | assumption | exact e_up_s | (rw [e_up_n (by first | assumption | omega)]; first | assumption | exact e_up_s | (rw [e_up_n (by first | assumption | omega)]; first | assumption | exact e_up_s | (rw [e_up_n (by first | assumption | omega)]; first | assumption | exact e_up_s))) | exact hD.1 | exact hD1.1 | exact hD2.1 | exact gD.1 | exact gD1.1 | exact gD2.1 | exact gQ.1 | exact hQ.1 | exact gS.1 | exact hS.1 | exact zD.1) rfl (by decide) w_fl_RX3_10 (by rfl) dX3_pour_23 ?_
    refine e_aload F dX3_pour_26 rfl ?_
    refine e_getN (ci := 0) (fi := 1) (q := (RX0, TX0, 5)) F hD1.1 rfl (by decide) w_fn_RX3_113 (by rfl) dX3_pour_28 ?_
    refine e_iload_n F dX3_pour_31 rfl ?_
    refine e_iload_n F dX3_pour_32 rfl ?_
    refine e_iload F dX3_pour_33 rfl ?_
    refine e_iload F dX3_pour_35 rfl ?_
    have hdg := hD1.2.2.2.2.1
    have hsc := hD1.2.2.2.2.2.1
    have hA1 := hD1.2.2.2.2.2.2.1
    refine e_callVN F u_X2_become (by rfl) (c_X2_become hQ hF hwh (dg := (D i.toNat).dg) (by omega) ha hb hc hd) (by first | assumption | exact e_up_s | (rw [e_up_n (by first | assumption | omega)]; first | assumption | exact e_up_s | (rw [e_up_n (by first | assumption | omega)]; first | assumption | exact e_up_s | (rw [e_up_n (by first | assumption | omega)]; first | assumption | exact e_up_s))) | exact hD.1 | exact hD1.1 | exact hD2.1 | exact gD.1 | exact gD1.1 | exact gD2.1 | exact gQ.1 | exact hQ.1 | exact gS.1 | exact hS.1 | exact zD.1) rfl rfl w_mn_RX3_101 dX3_pour_37 (by rfl) (Nat.le_of_ble_eq_true rfl) (by decide) (by omega) (fun _ _ _ h _ => False.elim h) (fun r_37 w_37 n_37 h_37 hn_37 => ?_)
    obtain ⟨rfl, en_37, gQ, gF0⟩ := h_37
    rw [en_37]
    have hres := hC0.px ⟨⟨_, gQ⟩, gF0⟩
    have hh : ∀ wl : e_W, DF w_37 wl (x + 6 + 3 * i.toNat) → wl x = some (SO x kn) ∧ wl (x + 1) = some (FO wh) ∧ PL wl (x + 2) (bcm (pr wh) (D i.toNat).dg a b c d) := fun wl gF => ⟨by rw [gF x (by omega) (by omega) (by omega)]; exact hres.1.1, by rw [gF _ (by omega) (by omega) (by omega)]; exact hres.1.2.1, gQ.fr (gF _ (by omega) (by omega) (by omega)) (gF _ (by omega) (by omega) (by omega)) (gF _ (by omega) (by omega) (by omega))⟩
    have hPR := gQ.2.2.2
    have lq : ∀ (N : Nat) (j : Int) (wl : e_W), (9 - j).toNat < N → (0 ≤ j ∧ j ≤ (D i.toNat).sc ∧ DL wl (x + 6 + 3 * i.toNat) (D i.toNat).fl (D i.toNat).dg (D i.toNat).sc (poS wh (D i.toNat) (bcm (pr wh) (D i.toNat).dg a b c d)).A (fun k => if k < j then (poS wh (D i.toNat) (bcm (pr wh) (D i.toNat).dg a b c d)).B k else (D i.toNat).B k) ∧ DF w_37 wl (x + 6 + 3 * i.toNat)) → e_V K P9 l E9 (7) (1) S9 M9 A9 B9 T9 C9 10 (fun r w' n' => ((0 ≤ i ∧ i < 6)) ∧ r = some (.int (eI ((poQ wh D i.toNat a b c d).1))) ∧ n' = n ∧ CW w' x wh (kn) ((poQ wh D i.toNat a b c d).2) ∧ FR w w' x) (pxd w (¬ (0 ≤ i ∧ i < 6)) False) 115 [(0, .ref x), (6, .ref (x + 6 + 3 * i.toNat)), (7, .int (eI j))] [] wl n ((0 + 1 + 0 + 0)) := by
      intro N
      induction N with
      | zero => intro j wl hN; exact absurd hN (Nat.not_lt_zero _)
      | succ N ih =>
        intro j wl hN ⟨k1, k2, gD, gF⟩
        obtain ⟨gX, gFO, gP⟩ := hh wl gF
        refine e_iload F dX3_pour_115 rfl ?_
        refine e_aload F dX3_pour_117 rfl ?_
        refine e_getN (ci := 0) (fi := 2) (q := (RX0, TX0, 5)) F gD.1 rfl (by decide) w_fn_RX3_134 (by rfl) dX3_pour_119 ?_
        refine e_icmp_ge F 168 dX3_pour_122 (by decide) (⟨by omega, by omega⟩) (⟨by omega, by omega⟩) (fun c_122 => ?_) (fun c_122 => ?_)
        ·
          obtain rfl : j = (D i.toNat).sc := by omega
          have zD : DS wl (x + 6 + 3 * i.toNat) (poS wh (D i.toNat) (bcm (pr wh) (D i.toNat).dg a b c d)) := gD.to (fun _ _ _ => rfl) (fun k k0 k1 => if_pos k1)
          have hr2 := hres.1.deal (by omega) (s := poS wh (D i.toNat) (bcm (pr wh) (D i.toNat).dg a b c d)) zD (poS_SW hwh hW1 _) gF
          refine e_aload F dX3_pour_168 rfl ?_
          refine e_callVN F u_X0_shareCount (by rfl) (c_X0_shareCount zD) zD.1 rfl rfl w_mn_RX3_149 dX3_pour_170 (by rfl) (Nat.le_of_ble_eq_true rfl) (by decide) (by omega) (fun _ _ _ h _ => False.elim h) (fun r_170 w_170 n_170 h_170 hn_170 => ?_)
          obtain ⟨rfl, ew_170, en_170⟩ := h_170
          rw [ew_170, en_170]
          refine e_iret F rfl (by omega) ?_ dX3_pour_173
          refine ⟨hi1, ?_⟩
          unfold poQ
          rw [if_neg c_12]
          exact ⟨rfl, rfl, hr2.1, hres.2.tr hr2.2⟩
        · refine e_aload F dX3_pour_125 rfl ?_
          refine e_iload F dX3_pour_127 rfl ?_
          refine e_aload_n F dX3_pour_129 rfl ?_
          refine e_get (ci := 3) (fi := 0) (q := (RX3, TX3, 5)) F (by first | assumption | exact e_up_s | (rw [e_up_n (by first | assumption | omega)]; first | assumption | exact e_up_s | (rw [e_up_n (by first | assumption | omega)]; first | assumption | exact e_up_s | (rw [e_up_n (by first | assumption | omega)]; first | assumption | exact e_up_s))) | exact hD.1 | exact hD1.1 | exact hD2.1 | exact gD.1 | exact gD1.1 | exact gD2.1 | exact gQ.1 | exact hQ.1 | exact gS.1 | exact hS.1 | exact zD.1) rfl (by decide) w_fl_RX3_10 (by rfl) dX3_pour_130 ?_
          refine e_aload F dX3_pour_133 rfl ?_
          refine e_iload F dX3_pour_135 rfl ?_
          refine e_callVN F u_X0_sealAt (by rfl) (c_X0_sealAt gD (h := j) ⟨by omega, by omega⟩) gD.1 rfl rfl w_mn_RX3_137 dX3_pour_137 (by rfl) (Nat.le_of_ble_eq_true rfl) (by decide) (by omega) (fun _ _ _ h _ => False.elim h) (fun r_137 w_137 n_137 h_137 hn_137 => ?_)
          obtain ⟨rfl, ew_137, en_137⟩ := h_137
          rw [ew_137, en_137, if_pos (show 0 ≤ j ∧ j < (D i.toNat).sc from ⟨by omega, by omega⟩), if_neg (show ¬ j < j by omega)]
          have hPj := hPR j (by omega) (by omega)
          have hBj := (hW1.2.1 j (by omega) (by omega)).1
          refine e_aload_n F dX3_pour_140 rfl ?_
          refine e_get (ci := 3) (fi := 0) (q := (RX3, TX3, 5)) F (by first | assumption | exact e_up_s | (rw [e_up_n (by first | assumption | omega)]; first | assumption | exact e_up_s | (rw [e_up_n (by first | assumption | omega)]; first | assumption | exact e_up_s | (rw [e_up_n (by first | assumption | omega)]; first | assumption | exact e_up_s))) | exact hD.1 | exact hD1.1 | exact hD2.1 | exact gD.1 | exact gD1.1 | exact gD2.1 | exact gQ.1 | exact hQ.1 | exact gS.1 | exact hS.1 | exact zD.1) rfl (by decide) w_fl_RX3_10 (by rfl) dX3_pour_141 ?_
          refine e_aload_n F dX3_pour_144 rfl ?_
          refine e_get (ci := 3) (fi := 1) (q := (RX3, TX3, 5)) F (by first | assumption | exact e_up_s | (rw [e_up_n (by first | assumption | omega)]; first | assumption | exact e_up_s | (rw [e_up_n (by first | assumption | omega)]; first | assumption | exact e_up_s | (rw [e_up_n (by first | assumption | omega)]; first | assumption | exact e_up_s))) | exact hD.1 | exact hD1.1 | exact hD2.1 | exact gD.1 | exact gD1.1 | exact gD2.1 | exact gQ.1 | exact hQ.1 | exact gS.1 | exact hS.1 | exact zD.1) rfl (by decide) w_fl_RX3_19 (by rfl) dX3_pour_145 ?_
          refine e_iload F dX3_pour_148 rfl ?_
          refine e_callVN F u_X2_at (by rfl) (c_X2_at gP (h := j) ⟨by omega, by omega⟩) gP.1 rfl rfl w_mn_RX3_140 dX3_pour_150 (by rfl) (Nat.le_of_ble_eq_true rfl) (by decide) (by omega) (fun _ _ _ h _ => False.elim h) (fun r_150 w_150 n_150 h_150 hn_150 => ?_)
          obtain ⟨rfl, ew_150, en_150⟩ := h_150
          rw [ew_150, en_150, if_pos (show 0 ≤ j ∧ j < 7 from ⟨by omega, by omega⟩)]
          refine e_callVN F u_X1_sealFor (by rfl) (c_X1_sealFor gFO hwh (v := (bcm (pr wh) (D i.toNat).dg a b c d) j) ⟨by omega, by omega⟩) (by first | assumption | exact e_up_s | (rw [e_up_n (by first | assumption | omega)]; first | assumption | exact e_up_s | (rw [e_up_n (by first | assumption | omega)]; first | assumption | exact e_up_s | (rw [e_up_n (by first | assumption | omega)]; first | assumption | exact e_up_s))) | exact hD.1 | exact hD1.1 | exact hD2.1 | exact gD.1 | exact gD1.1 | exact gD2.1 | exact gQ.1 | exact hQ.1 | exact gS.1 | exact hS.1 | exact zD.1) rfl rfl w_mn_RX3_73 dX3_pour_153 (by rfl) (Nat.le_of_ble_eq_true rfl) (by decide) (by omega) (fun _ _ _ h _ => False.elim h) (fun r_153 w_153 n_153 h_153 hn_153 => ?_)
          obtain ⟨rfl, ew_153, en_153⟩ := h_153
          rw [ew_153, en_153]
          have hsl := sl_rg (v := (bcm (pr wh) (D i.toNat).dg a b c d) j) hwh
          refine e_callVN F u_X1_sealProduct (by rfl) (c_X1_sealProduct gFO hwh hBj.1 hBj.2 hsl.1 hsl.2) (by first | assumption | exact e_up_s | (rw [e_up_n (by first | assumption | omega)]; first | assumption | exact e_up_s | (rw [e_up_n (by first | assumption | omega)]; first | assumption | exact e_up_s | (rw [e_up_n (by first | assumption | omega)]; first | assumption | exact e_up_s))) | exact hD.1 | exact hD1.1 | exact hD2.1 | exact gD.1 | exact gD1.1 | exact gD2.1 | exact gQ.1 | exact hQ.1 | exact gS.1 | exact hS.1 | exact zD.1) rfl rfl w_mn_RX3_143 dX3_pour_156 (by rfl) (Nat.le_of_ble_eq_true rfl) (by decide) (by omega) (fun _ _ _ h _ => False.elim h) (fun r_156 w_156 n_156 h_156 hn_156 => ?_)
          obtain ⟨rfl, ew_156, en_156⟩ := h_156
          rw [ew_156, en_156]
          refine e_callVN F u_X0_setSeal (by rfl) (c_X0_setSeal gD (h := j) (v := (D i.toNat).B j * sl wh ((bcm (pr wh) (D i.toNat).dg a b c d) j) % gr wh) (by omega) (by omega) (Int.emod_nonneg _ (by omega)) (Int.lt_of_lt_of_le (Int.emod_lt_of_pos _ (by omega)) hg9.2)) gD.1 rfl rfl w_mn_RX3_146 dX3_pour_159 (by rfl) (Nat.le_of_ble_eq_true rfl) (by decide) (by omega) (fun _ _ _ h _ => False.elim h) (fun r_159 w_159 n_159 h_159 hn_159 => ?_)
          
          refine e_iinc F dX3_pour_162 rfl (by decide) ?_
          refine e_goto F 115 dX3_pour_165 (by decide) ?_
          obtain ⟨rfl, en_159, zD, zF⟩ := h_159
          rw [en_159]
          refine e_go (ih (j + 1) w_159 (by omega) ⟨by omega, by omega, zD.to (fun _ _ _ => rfl) (fun k k0 k1 => ?_), fun q a1 a2 a3 => by rw [zF q a1 a2 a3, gF q a1 a2 a3]⟩) (And.intro rfl (And.intro rfl (And.intro rfl (trivial))))
          unfold e_fu
          try dsimp only
          by_cases e9 : k = j
          · rw [if_pos e9, if_pos (show k < j + 1 by omega), e9]; rfl
          · rw [if_neg e9]
            by_cases e8 : k < j
            · rw [if_pos e8, if_pos (show k < j + 1 by omega)]
            · rw [if_neg e8, if_neg (show ¬ k < j + 1 by omega)]
    have lp : ∀ (N : Nat) (j : Int) (wl : e_W), (9 - j).toNat < N → (1 ≤ j ∧ j ≤ ho wh + 1 ∧ DL wl (x + 6 + 3 * i.toNat) (D i.toNat).fl (D i.toNat).dg (D i.toNat).sc (fun h => if h < j then (poS wh (D i.toNat) (bcm (pr wh) (D i.toNat).dg a b c d)).A h else (D i.toNat).A h) (D i.toNat).B ∧ DF w_37 wl (x + 6 + 3 * i.toNat)) → e_V K P9 l E9 (7) (1) S9 M9 A9 B9 T9 C9 10 (fun r w' n' => ((0 ≤ i ∧ i < 6)) ∧ r = some (.int (eI ((poQ wh D i.toNat a b c d).1))) ∧ n' = n ∧ CW w' x wh (kn) ((poQ wh D i.toNat a b c d).2) ∧ FR w w' x) (pxd w (¬ (0 ≤ i ∧ i < 6)) False) 43 [(0, .ref x), (6, .ref (x + 6 + 3 * i.toNat)), (7, .int (eI j))] [] wl n ((0 + 1 + 0 + 0)) := by
      intro N
      induction N with
      | zero => intro j wl hN; exact absurd hN (Nat.not_lt_zero _)
      | succ N ih =>
        intro j wl hN ⟨k1, k2, gD, gF⟩
        obtain ⟨gX, gFO, gP⟩ := hh wl gF
        refine e_iload F dX3_pour_43 rfl ?_
        refine e_aload_n F dX3_pour_45 rfl ?_
        refine e_get (ci := 3) (fi := 0) (q := (RX3, TX3, 5)) F (by first | assumption | exact e_up_s | (rw [e_up_n (by first | assumption | omega)]; first | assumption | exact e_up_s | (rw [e_up_n (by first | assumption | omega)]; first | assumption | exact e_up_s | (rw [e_up_n (by first | assumption | omega)]; first | assumption | exact e_up_s))) | exact hD.1 | exact hD1.1 | exact hD2.1 | exact gD.1 | exact gD1.1 | exact gD2.1 | exact gQ.1 | exact hQ.1 | exact gS.1 | exact hS.1 | exact zD.1) rfl (by decide) w_fl_RX3_10 (by rfl) dX3_pour_46 ?_
        refine e_getN (ci := 1) (fi := 4) (q := (RX1, TX1, 5)) F (by first | assumption | exact e_up_s | (rw [e_up_n (by first | assumption | omega)]; first | assumption | exact e_up_s | (rw [e_up_n (by first | assumption | omega)]; first | assumption | exact e_up_s | (rw [e_up_n (by first | assumption | omega)]; first | assumption | exact e_up_s))) | exact hD.1 | exact hD1.1 | exact hD2.1 | exact gD.1 | exact gD1.1 | exact gD2.1 | exact gQ.1 | exact hQ.1 | exact gS.1 | exact hS.1 | exact zD.1) rfl (by decide) w_fn_RX3_116 (by rfl) dX3_pour_49 ?_
        refine e_icmp_gt F 112 dX3_pour_52 (by decide) (⟨by omega, by omega⟩) (⟨by omega, by omega⟩) (fun c_52 => ?_) (fun c_52 => ?_)
        · refine e_iconst F dX3_pour_112 ?_
          refine e_istore F dX3_pour_113 (by decide) ?_
          obtain rfl : j = ho wh + 1 := by omega
          refine e_go (lq 10 0 wl (by omega) ⟨by omega, by omega, gD.to (fun k k0 k1 => ?_) (fun k k0 k1 => by rw [if_neg (show ¬ k < 0 by omega)]), gF⟩) (And.intro rfl (And.intro rfl (And.intro rfl (trivial))))
          try dsimp only
          by_cases e8 : k < ho wh + 1
          · rw [if_pos e8]
          · rw [if_neg e8]
            show _ = (if (D i.toNat).A k = -1 then -1 else _)
            have hk9 := hW1.1 k k0 k1
            rw [if_pos (by omega)]; omega
        · refine e_aload F dX3_pour_55 rfl ?_
          refine e_iload F dX3_pour_57 rfl ?_
          refine e_callVN F u_X0_hasShare (by rfl) (c_X0_hasShare gD (h := j) (by omega) (by omega)) gD.1 rfl rfl w_mn_RX3_119 dX3_pour_59 (by rfl) (Nat.le_of_ble_eq_true rfl) (by decide) (by omega) (fun _ _ _ h _ => False.elim h) (fun r_59 w_59 n_59 h_59 hn_59 => ?_)
          obtain ⟨rfl, ew_59, en_59⟩ := h_59
          rw [ew_59, en_59, if_neg (show ¬ j < j by omega)]
          refine e_if_eq F 106 dX3_pour_62 (by decide) (b01_r _) (fun c_62 => ?_) (fun c_62 => ?_)
          ·
            rw [b01_0] at c_62
            refine e_iinc F dX3_pour_106 rfl (by decide) ?_
            refine e_goto F 43 dX3_pour_109 (by decide) ?_
            first
            | (obtain ⟨rfl, en_103, zD, zF⟩ := h_103
               rw [en_103]
               refine e_go (ih (j + 1) w_103 (by omega) ⟨by omega, by omega, zD.to (fun k k0 k1 => ?_) (fun _ _ _ => rfl), fun q a1 a2 a3 => by rw [zF q a1 a2 a3, gF q a1 a2 a3]⟩) (And.intro rfl (And.intro rfl (And.intro rfl (trivial))))
               unfold e_fu
               try dsimp only
               by_cases e9 : k = j
               · rw [if_pos e9, if_pos (show k < j + 1 by omega), e9]
                 show _ = (if (D i.toNat).A j = -1 then -1 else _)
                 rw [if_neg c_62]
               · rw [if_neg e9]
                 by_cases e8 : k < j
                 · rw [if_pos e8, if_pos (show k < j + 1 by omega)]
                 · rw [if_neg e8, if_neg (show ¬ k < j + 1 by omega)])
            | (refine e_go (ih (j + 1) wl (by omega) ⟨by omega, by omega, gD.to (fun k k0 k1 => ?_) (fun _ _ _ => rfl), gF⟩) (And.intro rfl (And.intro rfl (And.intro rfl (trivial))))
               try dsimp only
               by_cases e9 : k = j
               · rw [if_neg (show ¬ k < j by omega), if_pos (show k < j + 1 by omega), e9]
                 show _ = (if (D i.toNat).A j = -1 then -1 else _)
                 rw [if_pos (by omega)]; omega
               · by_cases e8 : k < j
                 · rw [if_pos e8, if_pos (show k < j + 1 by omega)]
                 · rw [if_neg e8, if_neg (show ¬ k < j + 1 by omega)])
          ·
            rw [b01_0, Classical.not_not] at c_62
            have hA1j := hA1 j (by omega) (by omega)
            refine e_aload F dX3_pour_65 rfl ?_
            refine e_iload F dX3_pour_67 rfl ?_
            refine e_callVN F u_X0_shareAt (by rfl) (c_X0_shareAt gD (h := j) (by omega) (by omega)) gD.1 rfl rfl w_mn_RX3_123 dX3_pour_69 (by rfl) (Nat.le_of_ble_eq_true rfl) (by decide) (by omega) (fun _ _ _ h _ => False.elim h) (fun r_69 w_69 n_69 h_69 hn_69 => ?_)
            obtain ⟨rfl, ew_69, en_69⟩ := h_69
            rw [ew_69, en_69, if_neg (show ¬ j < j by omega)]
            refine e_i2l F dX3_pour_72 (⟨by omega, by omega⟩) ?_
            refine e_aload_n F dX3_pour_73 rfl ?_
            refine e_get (ci := 3) (fi := 1) (q := (RX3, TX3, 5)) F (by first | assumption | exact e_up_s | (rw [e_up_n (by first | assumption | omega)]; first | assumption | exact e_up_s | (rw [e_up_n (by first | assumption | omega)]; first | assumption | exact e_up_s | (rw [e_up_n (by first | assumption | omega)]; first | assumption | exact e_up_s))) | exact hD.1 | exact hD1.1 | exact hD2.1 | exact gD.1 | exact gD1.1 | exact gD2.1 | exact gQ.1 | exact hQ.1 | exact gS.1 | exact hS.1 | exact zD.1) rfl (by decide) w_fl_RX3_19 (by rfl) dX3_pour_74 ?_
            refine e_aload_n F dX3_pour_77 rfl ?_
            refine e_get (ci := 3) (fi := 0) (q := (RX3, TX3, 5)) F (by first | assumption | exact e_up_s | (rw [e_up_n (by first | assumption | omega)]; first | assumption | exact e_up_s | (rw [e_up_n (by first | assumption | omega)]; first | assumption | exact e_up_s | (rw [e_up_n (by first | assumption | omega)]; first | assumption | exact e_up_s))) | exact hD.1 | exact hD1.1 | exact hD2.1 | exact gD.1 | exact gD1.1 | exact gD2.1 | exact gQ.1 | exact hQ.1 | exact gS.1 | exact hS.1 | exact zD.1) rfl (by decide) w_fl_RX3_10 (by rfl) dX3_pour_78 ?_
            refine e_iload F dX3_pour_81 rfl ?_
            refine e_callVN F u_X2_valueAt (by rfl) (c_X2_valueAt gP gFO hwh (x := j) ⟨by omega, by omega⟩) gP.1 rfl rfl w_mn_RX3_126 dX3_pour_83 (by rfl) (Nat.le_of_ble_eq_true rfl) (by decide) (by omega) (fun _ _ _ h _ => False.elim h) (fun r_83 w_83 n_83 h_83 hn_83 => ?_)
            obtain ⟨rfl, ew_83, en_83⟩ := h_83
            rw [ew_83, en_83]
            have hz9 := hz_rg (p := pr wh) (x := j) (P := (bcm (pr wh) (D i.toNat).dg a b c d)) (by omega) 7
            have hm9 := emod_rg ((D i.toNat).A j + hz (pr wh) j (bcm (pr wh) (D i.toNat).dg a b c d) 7) hwh
            refine e_i2l F dX3_pour_86 (⟨by omega, by omega⟩) ?_
            refine e_ladd F dX3_pour_87 ?_
            refine e_lstore F dX3_pour_88 (by decide) ?_
            refine e_aload F dX3_pour_90 rfl ?_
            refine e_iload F dX3_pour_92 rfl ?_
            refine e_aload_n F dX3_pour_94 rfl ?_
            refine e_get (ci := 3) (fi := 0) (q := (RX3, TX3, 5)) F (by first | assumption | exact e_up_s | (rw [e_up_n (by first | assumption | omega)]; first | assumption | exact e_up_s | (rw [e_up_n (by first | assumption | omega)]; first | assumption | exact e_up_s | (rw [e_up_n (by first | assumption | omega)]; first | assumption | exact e_up_s))) | exact hD.1 | exact hD1.1 | exact hD2.1 | exact gD.1 | exact gD1.1 | exact gD2.1 | exact gQ.1 | exact hQ.1 | exact gS.1 | exact hS.1 | exact zD.1) rfl (by decide) w_fl_RX3_10 (by rfl) dX3_pour_95 ?_
            refine e_lload F dX3_pour_98 rfl ?_
            refine e_callVN F u_X1_modPrime (by rfl) (c_X1_modPrime gFO hwh (by constructor <;> omega)) (by first | assumption | exact e_up_s | (rw [e_up_n (by first | assumption | omega)]; first | assumption | exact e_up_s | (rw [e_up_n (by first | assumption | omega)]; first | assumption | exact e_up_s | (rw [e_up_n (by first | assumption | omega)]; first | assumption | exact e_up_s))) | exact hD.1 | exact hD1.1 | exact hD2.1 | exact gD.1 | exact gD1.1 | exact gD2.1 | exact gQ.1 | exact hQ.1 | exact gS.1 | exact hS.1 | exact zD.1) rfl rfl w_mn_RX3_59 dX3_pour_100 (by rfl) (Nat.le_of_ble_eq_true rfl) (by decide) (by omega) (fun _ _ _ h _ => False.elim h) (fun r_100 w_100 n_100 h_100 hn_100 => ?_)
            obtain ⟨rfl, ew_100, en_100⟩ := h_100
            rw [ew_100, en_100]
            refine e_callVN F u_X0_setShare (by rfl) (c_X0_setShare gD (h := j) (v := ((D i.toNat).A j + hz (pr wh) j (bcm (pr wh) (D i.toNat).dg a b c d) 7) % pr wh) (by omega) (by omega) (by omega) (by omega)) gD.1 rfl rfl w_mn_RX3_130 dX3_pour_103 (by rfl) (Nat.le_of_ble_eq_true rfl) (by decide) (by omega) (fun _ _ _ h _ => False.elim h) (fun r_103 w_103 n_103 h_103 hn_103 => ?_)
            
            refine e_iinc F dX3_pour_106 rfl (by decide) ?_
            refine e_goto F 43 dX3_pour_109 (by decide) ?_
            first
            | (obtain ⟨rfl, en_103, zD, zF⟩ := h_103
               rw [en_103]
               refine e_go (ih (j + 1) w_103 (by omega) ⟨by omega, by omega, zD.to (fun k k0 k1 => ?_) (fun _ _ _ => rfl), fun q a1 a2 a3 => by rw [zF q a1 a2 a3, gF q a1 a2 a3]⟩) (And.intro rfl (And.intro rfl (And.intro rfl (trivial))))
               unfold e_fu
               try dsimp only
               by_cases e9 : k = j
               · rw [if_pos e9, if_pos (show k < j + 1 by omega), e9]
                 show _ = (if (D i.toNat).A j = -1 then -1 else _)
                 rw [if_neg c_62]
               · rw [if_neg e9]
                 by_cases e8 : k < j
                 · rw [if_pos e8, if_pos (show k < j + 1 by omega)]
                 · rw [if_neg e8, if_neg (show ¬ k < j + 1 by omega)])
            | (refine e_go (ih (j + 1) wl (by omega) ⟨by omega, by omega, gD.to (fun k k0 k1 => ?_) (fun _ _ _ => rfl), gF⟩) (And.intro rfl (And.intro rfl (And.intro rfl (trivial))))
               try dsimp only
               by_cases e9 : k = j
               · rw [if_neg (show ¬ k < j by omega), if_pos (show k < j + 1 by omega), e9]
                 show _ = (if (D i.toNat).A j = -1 then -1 else _)
                 rw [if_pos (by omega)]; omega
               · by_cases e8 : k < j
                 · rw [if_pos e8, if_pos (show k < j + 1 by omega)]
                 · rw [if_neg e8, if_neg (show ¬ k < j + 1 by omega)])
    refine e_iconst F dX3_pour_40 ?_
    refine e_istore F dX3_pour_41 (by decide) ?_
    refine e_go (lp 9 1 w_37 (by omega) ⟨by omega, by omega, (hres.1.2.2.2.2.2.1 i.toNat (by omega)).1.to (fun k k0 k1 => by rw [if_neg (show ¬ k < 1 by omega)]) (fun _ _ _ => rfl), fun q _ _ _ => rfl⟩) (And.intro rfl (And.intro rfl (And.intro rfl (trivial))))
  ·
    rw [b01_0, Classical.not_not] at c_12
    refine e_bipush F dX3_pour_15 (by decide) ?_
    refine e_iret F rfl (by omega) ?_ dX3_pour_17
    refine ⟨hi1, ?_⟩
    unfold poQ
    rw [if_pos c_12]
    exact ⟨rfl, rfl, hC0, FR.rf⟩
end
-- 27.lay2.lean.txt
section
/-! Secretshares: methods that lay, the longer ones -/
/-- sums of bits -/
def bsK (f : Nat → Bool) : Nat → Int
  | 0 => 0
  | k + 1 => bsK f k + (if f k then 2 ^ k else 0)
theorem bsK_rg (f : Nat → Bool) (k : Nat) : 0 ≤ bsK f k ∧ bsK f k < 2 ^ k := by
  induction k with
  | zero => unfold bsK; decide
  | succ k ih =>
    unfold bsK
    have hp : (0 : Int) < 2 ^ k := Int.pow_pos (by omega)
    rw [Int.pow_succ]
    split <;> omega
theorem bsK_hs (f : Nat → Bool) {j : Nat} (k : Nat) : hs (bsK f k) ((j : Int) + 1) ↔ (j < k ∧ f j = true) := by
  have e1 : ((j : Int) + 1 - 1).toNat = j := by omega
  show bsK f k / 2 ^ ((j : Int) + 1 - 1).toNat % 2 = 1 ↔ _
  rw [e1]
  have hp : (0 : Int) < 2 ^ j := Int.pow_pos (by omega)
  induction k with
  | zero =>
    unfold bsK
    rw [Int.zero_ediv]
    constructor
    · intro h; exact absurd h (by decide)
    · intro h; exact absurd h.1 (Nat.not_lt_zero _)
  | succ k ih =>
    unfold bsK
    rcases Nat.lt_trichotomy j k with h | h | h
    · have e2 : (2 : Int) ^ k = 2 ^ j * (2 * 2 ^ (k - j - 1)) := by
        rw [← Int.mul_assoc, ← Int.pow_succ, ← Int.pow_add]; congr 1; omega
      have e3 : (bsK f k + (if f k = true then 2 ^ k else 0)) / 2 ^ j % 2 = bsK f k / 2 ^ j % 2 := by
        split
        · rw [e2, Int.add_mul_ediv_left _ _ (by omega), Int.add_mul_emod_self_left]
        · rw [Int.add_zero]
      rw [e3]
      constructor
      · intro q; exact ⟨by omega, (ih.mp q).2⟩
      · intro q; exact ih.mpr ⟨h, q.2⟩
    · subst h
      have hr := bsK_rg f j
      by_cases hf : f j = true
      · rw [if_pos hf]
        have e4 : (bsK f j + 2 ^ j) / 2 ^ j = 1 := by
          have : bsK f j + 2 ^ j = bsK f j + 2 ^ j * 1 := by omega
          rw [this, Int.add_mul_ediv_left _ _ (by omega), Int.ediv_eq_zero_of_lt hr.1 hr.2]; rfl
        rw [e4]
        exact ⟨fun _ => ⟨by omega, hf⟩, fun _ => by decide⟩
      · rw [if_neg hf, Int.add_zero, Int.ediv_eq_zero_of_lt hr.1 hr.2]
        exact ⟨fun q => absurd q (by decide), fun q => absurd q.2 hf⟩
    · have hr := bsK_rg f (k + 1)
      unfold bsK at hr
      have e5 : (2 : Int) ^ (k + 1) ≤ 2 ^ j := by
        obtain ⟨t, ht⟩ : ∃ t, j = k + 1 + t := ⟨j - (k + 1), by omega⟩
        rw [ht, Int.pow_add 2 (k + 1) t]
        have a1 : (0 : Int) < 2 ^ (k + 1) := Int.pow_pos (by omega)
        have a2 : (0 : Int) < 2 ^ t := Int.pow_pos (by omega)
        have a3 : (2 : Int) ^ (k + 1) * 1 ≤ 2 ^ (k + 1) * 2 ^ t := Int.mul_le_mul_of_nonneg_left a2 (by omega)
        omega
      rw [Int.ediv_eq_zero_of_lt hr.1 (by omega)]
      exact ⟨fun q => absurd q (by decide), fun q => by omega⟩
theorem stK_bs (A : Int → Int) (k : Nat) : stK A k = bsK (fun j => decide (A ((j : Int) + 1) ≠ -1)) k := by
  induction k with
  | zero => rfl
  | succ k ih =>
    unfold stK bsK
    rw [ih]
    congr 1
    by_cases h : A ((k : Int) + 1) ≠ -1
    · rw [if_pos h, if_pos (by simpa using h)]
    · rw [if_neg h, if_neg (by simpa using h)]
theorem st7_hs (A : Int → Int) {j : Nat} (hj : j < 7) : hs (st7 A) ((j : Int) + 1) ↔ A ((j : Int) + 1) ≠ -1 := by
  unfold st7
  rw [stK_bs, bsK_hs]
  simp [hj]
theorem ssK_bs (wh : Nat) (A : Int → Int) (fl9 dg : Int) (k : Nat) : ssK wh A fl9 dg k = bsK (fun j => decide (hs (st7 A) ((j : Int) + 1) ∧ il wh (st7 A - 2 ^ j) A fl9 dg)) k := by
  induction k with
  | zero => rfl
  | succ k ih =>
    unfold ssK bsK
    rw [ih]
    by_cases h : hs (st7 A) ((k : Int) + 1) ∧ il wh (st7 A - 2 ^ k) A fl9 dg
    · rw [if_pos h, if_pos (by simpa using h)]
    · rw [if_neg h, if_neg (by simpa using h), Int.add_zero]
theorem ssK_hs (wh : Nat) (A : Int → Int) (fl9 dg : Int) {j k : Nat} : hs (ssK wh A fl9 dg k) ((j : Int) + 1) ↔ (j < k ∧ hs (st7 A) ((j : Int) + 1) ∧ il wh (st7 A - 2 ^ j) A fl9 dg) := by
  rw [ssK_bs, bsK_hs]
  simp
theorem ffd_rg {set M : Int} : ∀ r : Nat, (r : Int) ≤ M → 0 < ffd set M r → hs set (ffd set M r) ∧ 1 ≤ ffd set M r ∧ ffd set M r ≤ M := by
  intro r
  induction r with
  | zero => intro _ h; unfold ffd at h; omega
  | succ r ih =>
    intro hr h
    unfold ffd at h ⊢
    by_cases q : hs set (M - (r : Int))
    · rw [if_pos q]; exact ⟨q, by omega, by omega⟩
    · rw [if_neg q] at h ⊢; exact ih (by omega) h
theorem wrf_pos {wh : Nat} (hwh : wh < 7) {A : Int → Int} {fl9 dg : Int} (h : 0 < wrf wh A fl9 dg) : 1 ≤ wrf wh A fl9 dg ∧ wrf wh A fl9 dg ≤ ho wh ∧ hs (st7 A) (wrf wh A fl9 dg) := by
  have ho9 := ho_rg wh hwh
  unfold wrf at h ⊢
  split at h <;> rename_i q1
  · omega
  · split at h <;> rename_i q2
    · omega
    · split at h <;> rename_i q3
      · omega
      · rw [if_neg q1, if_neg q2, if_neg q3]
        have h9 := ffd_rg (ho wh).toNat (by omega) h
        refine ⟨h9.2.1, h9.2.2, ?_⟩
        have e1 : ffd (ssK wh A fl9 dg (ho wh).toNat) (ho wh) (ho wh).toNat = (((ffd (ssK wh A fl9 dg (ho wh).toNat) (ho wh) (ho wh).toNat - 1).toNat : Nat) : Int) + 1 := by omega
        rw [e1] at h9 ⊢
        exact (ssK_hs wh A fl9 dg (k := (ho wh).toNat)).mp h9.1 |>.2.1
theorem wrf_rg {wh : Nat} (hwh : wh < 7) (A : Int → Int) (fl9 dg : Int) : -9 ≤ wrf wh A fl9 dg ∧ wrf wh A fl9 dg ≤ 7 := by
  have ho9 := ho_rg wh hwh
  have hff : ∀ (set M : Int) (r : Nat), (r : Int) ≤ M → M ≤ 7 → -9 ≤ ffd set M r ∧ ffd set M r ≤ 7 := by
    intro set M r hr hM
    induction r with
    | zero => unfold ffd; omega
    | succ r ih =>
      unfold ffd
      split
      · omega
      · exact ih (by omega)
  unfold wrf
  split
  · omega
  · split
    · omega
    · split
      · omega
      · exact hff _ _ _ (by omega) (by omega)
def meQ (wh : Nat) (D : Nat → SD) (i : Nat) : Int × (Nat → SD) := (wrf wh (D i).A (D i).fl (D i).dg, if 0 < wrf wh (D i).A (D i).fl (D i).dg then upD D i (puS (D i) (wrf wh (D i).A (D i).fl (D i).dg) (tl wh (st7 (D i).A - 2 ^ (wrf wh (D i).A (D i).fl (D i).dg - 1).toNat) (D i).A (wrf wh (D i).A (D i).fl (D i).dg))) else D)
set_option maxHeartbeats 4000000 in
set_option maxRecDepth 100000 in
theorem c_X3_mend {K : e_K} {l : Launch} {w : e_W} {n : Nat} {x wh : Nat} {kn : Int} {D : Nat → SD} (hC : CW w x wh kn D) {i : Int} (hi : e_r i) : e_Met K l yX3_mend (Cond.code yX3_mend cX3_mend 5 (Option.some .int) :: e_TB) (7) (1) [.ref x, .int (eI i)] w n (fun r w' n' => ((0 ≤ i ∧ i < 6)) ∧ r = some (.int (eI ((meQ wh D i.toNat).1))) ∧ n' = n ∧ CW w' x wh (kn) ((meQ wh D i.toNat).2) ∧ FR w w' x) (pxd w (¬ (0 ≤ i ∧ i < 6)) False) := by
  refine e_ofV rfl (Nat.le_of_ble_eq_true rfl) ?_
  intro P9 E9 S9 M9 A9 B9 T9 C9 F hnm
  have hC0 := hC
  have hDA := hC.2.2.2.2.1
  obtain ⟨hX, hF, hwh, ⟨P0, hQ⟩, ⟨ga, hga, hgj⟩, hDs, s0, hS⟩ := hC
  have hp := pr_rg wh hwh
  have ho9 := ho_rg wh hwh
  have hg9 := gr_rg wh hwh
  have hf9 := fl_rg wh hwh
  refine e_aload_n F dX3_mend_0 rfl ?_
  refine e_iload_n F dX3_mend_1 rfl ?_
  refine e_callVV F u_X3_dealAt (by rfl) (c_X3_dealAt hX hDA (i := i) hi) hX rfl rfl w_ml_RX3_94 dX3_mend_2 (by rfl) (Nat.le_of_ble_eq_true rfl) (by decide) (by omega) (fun E w2 n2 h _ => ⟨Or.inl ⟨h.1, by have q := h.2.1; omega⟩, h.2.2⟩) (fun r_2 w_2 n_2 h_2 hn_2 => ?_)
  obtain ⟨hi1, rfl, ew_2, en_2⟩ := h_2
  rw [ew_2, en_2]
  obtain ⟨hD1, hW1⟩ := hDs i.toNat (by omega)
  refine e_astore_n F dX3_mend_5 (by decide) ?_
  refine e_aload_n F dX3_mend_6 rfl ?_
  refine e_aload_n F dX3_mend_7 rfl ?_
  refine e_callVV F u_X3_wrongHolder (by rfl) (c_X3_wrongHolder hX hF hwh hQ hD1 (by omega)) hX rfl rfl w_ml_RX3_182 dX3_mend_8 (by rfl) (Nat.le_of_ble_eq_true rfl) (by decide) (by omega) (fun _ _ _ h _ => False.elim h) (fun r_8 w_8 n_8 h_8 hn_8 => ?_)
  obtain ⟨rfl, en_8, gP⟩ := h_8
  rw [en_8]
  have hres := hC0.px gP
  have gX := hres.1.1
  have gFO := hres.1.2.1
  have gD1 := (hres.1.2.2.2.2.2.1 i.toNat (by omega)).1
  have hst := st7_rg (D i.toNat).A
  have hwr := wrf_rg hwh (D i.toNat).A (D i.toNat).fl (D i.toNat).dg
  refine e_istore_n F dX3_mend_11 (by decide) ?_
  refine e_iload_n F dX3_mend_12 rfl ?_
  refine e_if_le F 42 dX3_mend_13 (by decide) (⟨by omega, by omega⟩) (fun c_13 => ?_) (fun c_13 => ?_)
  · refine e_iload_n F dX3_mend_42 rfl ?_
    refine e_iret F rfl (by omega) ?_ dX3_mend_43
    refine ⟨hi1, ?_⟩
    unfold meQ
    first
    | (rw [if_neg (by omega)]
       exact ⟨rfl, rfl, hres⟩)
    | (rw [if_pos (by omega)]
       exact ⟨rfl, rfl, hr2.1, hres.2.tr hr2.2⟩)
  ·
    obtain ⟨p1, p2, p3⟩ := wrf_pos hwh (A := (D i.toNat).A) (fl9 := (D i.toNat).fl) (dg := (D i.toNat).dg) (by omega)
    have p4 : ((((wrf wh (D i.toNat).A (D i.toNat).fl (D i.toNat).dg) - 1).toNat : Nat) : Int) + 1 = (wrf wh (D i.toNat).A (D i.toNat).fl (D i.toNat).dg) := by omega
    have p3b : hs (st7 (D i.toNat).A) (((((wrf wh (D i.toNat).A (D i.toNat).fl (D i.toNat).dg) - 1).toNat : Nat) : Int) + 1) := by rw [p4]; exact p3
    have hle := hs_le hst.1 hst.2 (by omega) p3b
    have hpp : (0 : Int) < 2 ^ ((wrf wh (D i.toNat).A (D i.toNat).fl (D i.toNat).dg) - 1).toNat := Int.pow_pos (by omega)
    have htl : 0 ≤ tl wh (st7 (D i.toNat).A - 2 ^ ((wrf wh (D i.toNat).A (D i.toNat).fl (D i.toNat).dg) - 1).toNat) (D i.toNat).A (wrf wh (D i.toNat).A (D i.toNat).fl (D i.toNat).dg) ∧ tl wh (st7 (D i.toNat).A - 2 ^ ((wrf wh (D i.toNat).A (D i.toNat).fl (D i.toNat).dg) - 1).toNat) (D i.toNat).A (wrf wh (D i.toNat).A (D i.toNat).fl (D i.toNat).dg) < pr wh := emod_rg _ hwh
    refine e_aload_n F dX3_mend_16 rfl ?_
    refine e_callVN F u_X0_holderSet (by rfl) (c_X0_holderSet gD1) (by first | assumption | exact e_up_s | (rw [e_up_n (by first | assumption | omega)]; first | assumption | exact e_up_s | (rw [e_up_n (by first | assumption | omega)]; first | assumption | exact e_up_s | (rw [e_up_n (by first | assumption | omega)]; first | assumption | exact e_up_s))) | exact hD.1 | exact hD1.1 | exact hD2.1 | exact gD.1 | exact gD1.1 | exact gD2.1 | exact gQ.1 | exact hQ.1 | exact gS.1 | exact hS.1 | exact zD.1) rfl rfl w_mn_RX3_185 dX3_mend_17 (by rfl) (Nat.le_of_ble_eq_true rfl) (by decide) (by omega) (fun _ _ _ h _ => False.elim h) (fun r_17 w_17 n_17 h_17 hn_17 => ?_)
    obtain ⟨rfl, ew_17, en_17⟩ := h_17
    rw [ew_17, en_17]
    refine e_iload_n F dX3_mend_20 rfl ?_
    refine e_callSS F u_X3_bitOf (by rfl) (c_X3_bitOf (h := (wrf wh (D i.toNat).A (D i.toNat).fl (D i.toNat).dg)) (by omega) (by omega)) w_ml_RX3_188 dX3_mend_21 (by rfl) (Nat.le_of_ble_eq_true rfl) (by decide) (by omega) (fun _ _ _ h _ => False.elim h) (fun r_21 w_21 n_21 h_21 hn_21 => ?_)
    obtain ⟨rfl, ew_21, en_21⟩ := h_21
    rw [ew_21, en_21]
    refine e_iconst F dX3_mend_24 ?_
    refine e_ixor F dX3_mend_25 ((eI_self _).symm) ?_
    refine e_iand F dX3_mend_26 (show _ = eI (st7 (D i.toNat).A - 2 ^ ((wrf wh (D i.toNat).A (D i.toNat).fl (D i.toNat).dg) - 1).toNat) from by rw [eI_self]; exact eI_andn hst.1 hst.2 (by omega) p3b) ?_
    refine e_istore F dX3_mend_27 (by decide) ?_
    refine e_aload_n F dX3_mend_29 rfl ?_
    refine e_iload_n F dX3_mend_30 rfl ?_
    refine e_aload_n F dX3_mend_31 rfl ?_
    refine e_aload_n F dX3_mend_32 rfl ?_
    refine e_iload F dX3_mend_33 rfl ?_
    refine e_iload_n F dX3_mend_35 rfl ?_
    refine e_callVV F u_X3_tell (by rfl) (c_X3_tell gX gFO hwh gD1 (set := (st7 (D i.toNat).A - 2 ^ ((wrf wh (D i.toNat).A (D i.toNat).fl (D i.toNat).dg) - 1).toNat)) (pl := (wrf wh (D i.toNat).A (D i.toNat).fl (D i.toNat).dg)) (by omega) (by omega) ⟨by omega, by omega⟩) gX rfl rfl w_ml_RX3_178 dX3_mend_36 (by rfl) (Nat.le_of_ble_eq_true rfl) (by decide) (by omega) (fun _ _ _ h _ => False.elim h) (fun r_36 w_36 n_36 h_36 hn_36 => ?_)
    obtain ⟨rfl, ew_36, en_36⟩ := h_36
    rw [ew_36, en_36]
    refine e_callVN F u_X0_setShare (by rfl) (c_X0_setShare gD1 (h := (wrf wh (D i.toNat).A (D i.toNat).fl (D i.toNat).dg)) (v := tl wh (st7 (D i.toNat).A - 2 ^ ((wrf wh (D i.toNat).A (D i.toNat).fl (D i.toNat).dg) - 1).toNat) (D i.toNat).A (wrf wh (D i.toNat).A (D i.toNat).fl (D i.toNat).dg)) (by omega) (by omega) (by omega) (by omega)) (by first | assumption | exact e_up_s | (rw [e_up_n (by first | assumption | omega)]; first | assumption | exact e_up_s | (rw [e_up_n (by first | assumption | omega)]; first | assumption | exact e_up_s | (rw [e_up_n (by first | assumption | omega)]; first | assumption | exact e_up_s))) | exact hD.1 | exact hD1.1 | exact hD2.1 | exact gD.1 | exact gD1.1 | exact gD2.1 | exact gQ.1 | exact hQ.1 | exact gS.1 | exact hS.1 | exact zD.1) rfl rfl w_mn_RX3_130 dX3_mend_39 (by rfl) (Nat.le_of_ble_eq_true rfl) (by decide) (by omega) (fun _ _ _ h _ => False.elim h) (fun r_39 w_39 n_39 h_39 hn_39 => ?_)
    obtain ⟨rfl, en_39, zD, zF⟩ := h_39
    rw [en_39]
    have hfl0 : (D i.toNat).fl ≠ 0 := fun q => by
      have q9 : (wrf wh (D i.toNat).A (D i.toNat).fl (D i.toNat).dg) = -9 := if_pos q
      omega
    have hr2 := hres.1.deal (by omega) (s := puS (D i.toNat) (wrf wh (D i.toNat).A (D i.toNat).fl (D i.toNat).dg) (tl wh (st7 (D i.toNat).A - 2 ^ ((wrf wh (D i.toNat).A (D i.toNat).fl (D i.toNat).dg) - 1).toNat) (D i.toNat).A (wrf wh (D i.toNat).A (D i.toNat).fl (D i.toNat).dg))) zD (puS_SW hW1 (Or.inr ⟨htl.1, htl.2, p2⟩) (Or.inl hfl0)) zF
    refine e_iload_n F dX3_mend_42 rfl ?_
    refine e_iret F rfl (by omega) ?_ dX3_mend_43
    refine ⟨hi1, ?_⟩
    unfold meQ
    first
    | (rw [if_neg (by omega)]
       exact ⟨rfl, rfl, hres⟩)
    | (rw [if_pos (by omega)]
       exact ⟨rfl, rfl, hr2.1, hres.2.tr hr2.2⟩)
set_option maxHeartbeats 4000000 in
set_option maxRecDepth 100000 in
theorem c_X3_times {K : e_K} {l : Launch} {w : e_W} {n : Nat} {x wh : Nat} {kn : Int} {D : Nat → SD} (hC : CW w x wh kn D) {i : Int} (hi : e_r i) {j : Int} (hj : e_r j) {t : Int} (ht : e_r t) : e_Met K l yX3_times (Cond.code yX3_times cX3_times 10 (Option.some .int) :: e_TB) (7) (3) [.ref x, .int (eI i), .int (eI j), .int (eI t)] w n (fun r w' n' => ((0 ≤ i ∧ i < 6) ∧ (0 ≤ j ∧ j < 6) ∧ (0 ≤ t ∧ t < 6)) ∧ r = some (.int (eI ((tiQ wh D i.toNat j.toNat t.toNat).1))) ∧ n' = n ∧ CW w' x wh (kn) ((tiQ wh D i.toNat j.toNat t.toNat).2) ∧ FR w w' x) (pxd w (¬ ((0 ≤ i ∧ i < 6) ∧ (0 ≤ j ∧ j < 6) ∧ (0 ≤ t ∧ t < 6))) False) := by
  refine e_ofV rfl (Nat.le_of_ble_eq_true rfl) ?_
  intro P9 E9 S9 M9 A9 B9 T9 C9 F hnm
  have hC0 := hC
  have hDA := hC.2.2.2.2.1
  obtain ⟨hX, hF, hwh, ⟨P0, hQ⟩, ⟨ga, hga, hgj⟩, hDs, s0, hS⟩ := hC
  have hp := pr_rg wh hwh
  have ho9 := ho_rg wh hwh
  have hg9 := gr_rg wh hwh
  have hf9 := fl_rg wh hwh
  refine e_aload_n F dX3_times_0 rfl ?_
  refine e_iload_n F dX3_times_1 rfl ?_
  refine e_callVV F u_X3_dealAt (by rfl) (c_X3_dealAt hX hDA (i := i) hi) hX rfl rfl w_ml_RX3_94 dX3_times_2 (by rfl) (Nat.le_of_ble_eq_true rfl) (by decide) (by omega) (fun E w2 n2 h _ => ⟨Or.inl ⟨h.1, by have q := h.2.1; omega⟩, h.2.2⟩) (fun r_2 w_2 n_2 h_2 hn_2 => ?_)
  obtain ⟨hi1, rfl, ew_2, en_2⟩ := h_2
  rw [ew_2, en_2]
  obtain ⟨hD1, hW1⟩ := hDs i.toNat (by omega)
  refine e_astore F dX3_times_5 (by decide) ?_
  refine e_aload_n F dX3_times_7 rfl ?_
  refine e_iload_n F dX3_times_8 rfl ?_
  refine e_callVV F u_X3_dealAt (by rfl) (c_X3_dealAt hX hDA (i := j) hj) hX rfl rfl w_ml_RX3_94 dX3_times_9 (by rfl) (Nat.le_of_ble_eq_true rfl) (by decide) (by omega) (fun E w2 n2 h _ => ⟨Or.inl ⟨h.1, by have q := h.2.1; omega⟩, h.2.2⟩) (fun r_9 w_9 n_9 h_9 hn_9 => ?_)
  obtain ⟨hi2, rfl, ew_9, en_9⟩ := h_9
  rw [ew_9, en_9]
  obtain ⟨hD2, hW2⟩ := hDs j.toNat (by omega)
  refine e_astore F dX3_times_12 (by decide) ?_
  refine e_aload_n F dX3_times_14 rfl ?_
  refine e_iload_n F dX3_times_15 rfl ?_
  refine e_callVV F u_X3_dealAt (by rfl) (c_X3_dealAt hX hDA (i := t) ht) hX rfl rfl w_ml_RX3_94 dX3_times_16 (by rfl) (Nat.le_of_ble_eq_true rfl) (by decide) (by omega) (fun E w2 n2 h _ => ⟨Or.inl ⟨h.1, by have q := h.2.1; omega⟩, h.2.2⟩) (fun r_16 w_16 n_16 h_16 hn_16 => ?_)
  obtain ⟨hi3, rfl, ew_16, en_16⟩ := h_16
  rw [ew_16, en_16]
  obtain ⟨hD3, hW3⟩ := hDs t.toNat (by omega)
  refine e_astore F dX3_times_19 (by decide) ?_
  refine e_aload F dX3_times_21 rfl ?_
  refine e_callVN F u_X0_isEmpty (by rfl) (c_X0_isEmpty hD1) (by first | assumption | exact e_up_s | (rw [e_up_n (by first | assumption | omega)]; first | assumption | exact e_up_s | (rw [e_up_n (by first | assumption | omega)]; first | assumption | exact e_up_s | (rw [e_up_n (by first | assumption | omega)]; first | assumption | exact e_up_s))) | exact hD.1 | exact hD1.1 | exact hD2.1 | exact gD.1 | exact gD1.1 | exact gD2.1 | exact gQ.1 | exact hQ.1 | exact gS.1 | exact hS.1 | exact zD.1) rfl rfl w_mn_RX3_109 dX3_times_23 (by rfl) (Nat.le_of_ble_eq_true rfl) (by decide) (by omega) (fun _ _ _ h _ => False.elim h) (fun r_23 w_23 n_23 h_23 hn_23 => ?_)
  obtain ⟨rfl, ew_23, en_23⟩ := h_23
  rw [ew_23, en_23]
  refine e_if_ne F 53 dX3_times_26 (by decide) (b01_r _) (fun c_26 => ?_) (fun c_26 => ?_)
  ·
    rw [ne_eq, b01_0, Classical.not_not] at c_26
    refine e_bipush F dX3_times_53 (by decide) ?_
    refine e_iret F rfl (by omega) ?_ dX3_times_55
    refine ⟨⟨hi1, hi2, hi3⟩, ?_⟩
    unfold tiQ
    rw [if_pos (by omega)]
    exact ⟨rfl, rfl, hC0, FR.rf⟩
  ·
    rw [b01_0] at c_26
    refine e_aload F dX3_times_29 rfl ?_
    refine e_callVN F u_X0_isEmpty (by rfl) (c_X0_isEmpty hD2) (by first | assumption | exact e_up_s | (rw [e_up_n (by first | assumption | omega)]; first | assumption | exact e_up_s | (rw [e_up_n (by first | assumption | omega)]; first | assumption | exact e_up_s | (rw [e_up_n (by first | assumption | omega)]; first | assumption | exact e_up_s))) | exact hD.1 | exact hD1.1 | exact hD2.1 | exact gD.1 | exact gD1.1 | exact gD2.1 | exact gQ.1 | exact hQ.1 | exact gS.1 | exact hS.1 | exact zD.1) rfl rfl w_mn_RX3_109 dX3_times_31 (by rfl) (Nat.le_of_ble_eq_true rfl) (by decide) (by omega) (fun _ _ _ h _ => False.elim h) (fun r_31 w_31 n_31 h_31 hn_31 => ?_)
    obtain ⟨rfl, ew_31, en_31⟩ := h_31
    rw [ew_31, en_31]
    have hdg1 := hD1.2.2.2.2.1
    have hdg2 := hD2.2.2.2.2.1
    refine e_if_ne F 53 dX3_times_34 (by decide) (b01_r _) (fun c_34 => ?_) (fun c_34 => ?_)
    ·
      rw [ne_eq, b01_0, Classical.not_not] at c_34
      refine e_bipush F dX3_times_53 (by decide) ?_
      refine e_iret F rfl (by omega) ?_ dX3_times_55
      refine ⟨⟨hi1, hi2, hi3⟩, ?_⟩
      unfold tiQ
      rw [if_pos (by omega)]
      exact ⟨rfl, rfl, hC0, FR.rf⟩
    ·
      rw [b01_0] at c_34
      refine e_aload F dX3_times_37 rfl ?_
      refine e_getN (ci := 0) (fi := 1) (q := (RX0, TX0, 5)) F (by first | assumption | exact e_up_s | (rw [e_up_n (by first | assumption | omega)]; first | assumption | exact e_up_s | (rw [e_up_n (by first | assumption | omega)]; first | assumption | exact e_up_s | (rw [e_up_n (by first | assumption | omega)]; first | assumption | exact e_up_s))) | exact hD.1 | exact hD1.1 | exact hD2.1 | exact gD.1 | exact gD1.1 | exact gD2.1 | exact gQ.1 | exact hQ.1 | exact gS.1 | exact hS.1 | exact zD.1) rfl (by decide) w_fn_RX3_113 (by rfl) dX3_times_39 ?_
      refine e_aload F dX3_times_42 rfl ?_
      refine e_getN (ci := 0) (fi := 1) (q := (RX0, TX0, 5)) F (by first | assumption | exact e_up_s | (rw [e_up_n (by first | assumption | omega)]; first | assumption | exact e_up_s | (rw [e_up_n (by first | assumption | omega)]; first | assumption | exact e_up_s | (rw [e_up_n (by first | assumption | omega)]; first | assumption | exact e_up_s))) | exact hD.1 | exact hD1.1 | exact hD2.1 | exact gD.1 | exact gD1.1 | exact gD2.1 | exact gQ.1 | exact hQ.1 | exact gS.1 | exact hS.1 | exact zD.1) rfl (by decide) w_fn_RX3_113 (by rfl) dX3_times_44 ?_
      refine e_iadd F dX3_times_47 ?_
      refine e_bipush F dX3_times_48 (by decide) ?_
      refine e_icmp_le F 56 dX3_times_50 (by decide) (⟨by omega, by omega⟩) (⟨by omega, by omega⟩) (fun c_50 => ?_) (fun c_50 => ?_)
      · refine e_aload_n F dX3_times_56 rfl ?_
        refine e_get (ci := 3) (fi := 3) (q := (RX3, TX3, 5)) F (by first | assumption | exact e_up_s | (rw [e_up_n (by first | assumption | omega)]; first | assumption | exact e_up_s | (rw [e_up_n (by first | assumption | omega)]; first | assumption | exact e_up_s | (rw [e_up_n (by first | assumption | omega)]; first | assumption | exact e_up_s))) | exact hD.1 | exact hD1.1 | exact hD2.1 | exact gD.1 | exact gD1.1 | exact gD2.1 | exact gQ.1 | exact hQ.1 | exact gS.1 | exact hS.1 | exact zD.1) rfl (by decide) w_fl_RX3_30 (by rfl) dX3_times_57 ?_
        refine e_aload F dX3_times_60 rfl ?_
        refine e_getN (ci := 0) (fi := 1) (q := (RX0, TX0, 5)) F (by first | assumption | exact e_up_s | (rw [e_up_n (by first | assumption | omega)]; first | assumption | exact e_up_s | (rw [e_up_n (by first | assumption | omega)]; first | assumption | exact e_up_s | (rw [e_up_n (by first | assumption | omega)]; first | assumption | exact e_up_s))) | exact hD.1 | exact hD1.1 | exact hD2.1 | exact gD.1 | exact gD1.1 | exact gD2.1 | exact gQ.1 | exact hQ.1 | exact gS.1 | exact hS.1 | exact zD.1) rfl (by decide) w_fn_RX3_113 (by rfl) dX3_times_62 ?_
        refine e_aload F dX3_times_65 rfl ?_
        refine e_getN (ci := 0) (fi := 1) (q := (RX0, TX0, 5)) F (by first | assumption | exact e_up_s | (rw [e_up_n (by first | assumption | omega)]; first | assumption | exact e_up_s | (rw [e_up_n (by first | assumption | omega)]; first | assumption | exact e_up_s | (rw [e_up_n (by first | assumption | omega)]; first | assumption | exact e_up_s))) | exact hD.1 | exact hD1.1 | exact hD2.1 | exact gD.1 | exact gD1.1 | exact gD2.1 | exact gQ.1 | exact hQ.1 | exact gS.1 | exact hS.1 | exact zD.1) rfl (by decide) w_fn_RX3_113 (by rfl) dX3_times_67 ?_
        refine e_iadd F dX3_times_70 ?_
        refine e_callVN F u_X0_start (by rfl) (c_X0_start hS (t := ((D i.toNat).dg + (D j.toNat).dg)) ⟨by omega, by omega⟩) hS.1 rfl rfl w_mn_RX3_157 dX3_times_71 (by rfl) (Nat.le_of_ble_eq_true rfl) (by decide) (by omega) (fun _ _ _ h _ => False.elim h) (fun r_71 w_71 n_71 h_71 hn_71 => ?_)
        obtain ⟨rfl, en_71, gS, gF1⟩ := h_71
        rw [en_71]
        have hno : ¬ ((D i.toNat).fl = 0 ∨ (D j.toNat).fl = 0 ∨ 6 < (D i.toNat).dg + (D j.toNat).dg) := by omega
        have lp : ∀ (N : Nat) (h : Int) (wl : e_W), (9 - h).toNat < N → (1 ≤ h ∧ h ≤ ho wh + 1 ∧ DL wl (x + 24) 1 ((D i.toNat).dg + (D j.toNat).dg) 0 (fun k => if k < h then tiA wh (D i.toNat).A (D j.toNat).A k else -1) s0.B ∧ DF w wl (x + 24)) → e_V K P9 l E9 (7) (3) S9 M9 A9 B9 T9 C9 10 (fun r w' n' => ((0 ≤ i ∧ i < 6) ∧ (0 ≤ j ∧ j < 6) ∧ (0 ≤ t ∧ t < 6)) ∧ r = some (.int (eI ((tiQ wh D i.toNat j.toNat t.toNat).1))) ∧ n' = n ∧ CW w' x wh (kn) ((tiQ wh D i.toNat j.toNat t.toNat).2) ∧ FR w w' x) (pxd w (¬ ((0 ≤ i ∧ i < 6) ∧ (0 ≤ j ∧ j < 6) ∧ (0 ≤ t ∧ t < 6))) False) 77 [(0, .ref x), (4, .ref (x + 6 + 3 * i.toNat)), (5, .ref (x + 6 + 3 * j.toNat)), (6, .ref (x + 6 + 3 * t.toNat)), (7, .int (eI h))] [] wl n ((0 + 1 + 1 + 1 + 0 + 0 + 0)) := by
          intro N
          induction N with
          | zero => intro h wl hN; exact absurd hN (Nat.not_lt_zero _)
          | succ N ih =>
            intro h wl hN ⟨k1, k2, gD, gF⟩
            obtain ⟨gX, gFO, ⟨P2, gQ⟩, gDA, gDs⟩ := hC0.spare gF
            have gD1 := gDs i.toNat (by omega)
            have gD2 := gDs j.toNat (by omega)
            refine e_iload F dX3_times_77 rfl ?_
            refine e_aload_n F dX3_times_79 rfl ?_
            refine e_get (ci := 3) (fi := 0) (q := (RX3, TX3, 5)) F (by first | assumption | exact e_up_s | (rw [e_up_n (by first | assumption | omega)]; first | assumption | exact e_up_s | (rw [e_up_n (by first | assumption | omega)]; first | assumption | exact e_up_s | (rw [e_up_n (by first | assumption | omega)]; first | assumption | exact e_up_s))) | exact hD.1 | exact hD1.1 | exact hD2.1 | exact gD.1 | exact gD1.1 | exact gD2.1 | exact gQ.1 | exact hQ.1 | exact gS.1 | exact hS.1 | exact zD.1) rfl (by decide) w_fl_RX3_10 (by rfl) dX3_times_80 ?_
            refine e_getN (ci := 1) (fi := 4) (q := (RX1, TX1, 5)) F (by first | assumption | exact e_up_s | (rw [e_up_n (by first | assumption | omega)]; first | assumption | exact e_up_s | (rw [e_up_n (by first | assumption | omega)]; first | assumption | exact e_up_s | (rw [e_up_n (by first | assumption | omega)]; first | assumption | exact e_up_s))) | exact hD.1 | exact hD1.1 | exact hD2.1 | exact gD.1 | exact gD1.1 | exact gD2.1 | exact gQ.1 | exact hQ.1 | exact gS.1 | exact hS.1 | exact zD.1) rfl (by decide) w_fn_RX3_116 (by rfl) dX3_times_83 ?_
            refine e_icmp_gt F 152 dX3_times_86 (by decide) (⟨by omega, by omega⟩) (⟨by omega, by omega⟩) (fun c_86 => ?_) (fun c_86 => ?_)
            ·
              obtain rfl : h = ho wh + 1 := by omega
              have zD : DS wl (x + 24) (tiS wh (D i.toNat) (D j.toNat)) := gD.to (fun k k0 k1 => by
                  try dsimp only
                  by_cases e8 : k < ho wh + 1
                  · rw [if_pos e8]; rfl
                  · rw [if_neg e8]
                    show _ = tiA wh (D i.toNat).A (D j.toNat).A k
                    unfold tiA
                    rw [if_neg (fun q => by omega)]) (fun k k0 k1 => absurd k1 (by omega))
              have hsp := hC0.sp2 (s2 := tiS wh (D i.toNat) (D j.toNat)) zD gF
              refine e_aload_n F dX3_times_152 rfl ?_
              refine e_aload F dX3_times_153 rfl ?_
              refine e_callVV F u_X3_laySpare (by rfl) (c_X3_laySpare hsp.1.1 (hsp.1.2.2.2.2.2.1 t.toNat (by omega)).1 zD (by omega)) hsp.1.1 rfl rfl w_ml_RX3_160 dX3_times_155 (by rfl) (Nat.le_of_ble_eq_true rfl) (by decide) (by omega) (fun _ _ _ h _ => False.elim h) (fun r_155 w_155 n_155 h_155 hn_155 => ?_)
              obtain ⟨rfl, en_155, yD, yF⟩ := h_155
              rw [en_155]
              have hr2 := hsp.1.deal (by omega) (s := tiS wh (D i.toNat) (D j.toNat)) yD (tiS_SW hwh _ _) yF
              refine e_iret F rfl (by omega) ?_ dX3_times_158
              refine ⟨⟨hi1, hi2, hi3⟩, ?_⟩
              unfold tiQ
              rw [if_neg hno]
              exact ⟨rfl, rfl, hr2.1, hsp.2.tr hr2.2⟩
            · refine e_aload F dX3_times_89 rfl ?_
              refine e_iload F dX3_times_91 rfl ?_
              refine e_callVN F u_X0_hasShare (by rfl) (c_X0_hasShare gD1 (h := h) (by omega) (by omega)) gD1.1 rfl rfl w_mn_RX3_119 dX3_times_93 (by rfl) (Nat.le_of_ble_eq_true rfl) (by decide) (by omega) (fun _ _ _ h _ => False.elim h) (fun r_93 w_93 n_93 h_93 hn_93 => ?_)
              obtain ⟨rfl, ew_93, en_93⟩ := h_93
              rw [ew_93, en_93]
              refine e_if_eq F 146 dX3_times_96 (by decide) (b01_r _) (fun c_96 => ?_) (fun c_96 => ?_)
              ·
                rw [b01_0] at c_96
                refine e_iinc F dX3_times_146 rfl (by decide) ?_
                refine e_goto F 77 dX3_times_149 (by decide) ?_
                first
                | (obtain ⟨rfl, en_143, zD, zF⟩ := h_143
                   rw [en_143]
                   refine e_go (ih (h + 1) w_143 (by omega) ⟨by omega, by omega, zD.to (fun k k0 k1 => ?_) (fun _ _ _ => rfl), fun q a1 a2 a3 => by rw [zF q a1 a2 a3, gF q a1 a2 a3]⟩) (And.intro rfl (And.intro rfl (And.intro rfl (And.intro rfl (And.intro rfl (trivial))))))
                   unfold e_fu
                   try dsimp only
                   by_cases e9 : k = h
                   · rw [if_pos e9, if_pos (show k < h + 1 by omega), e9]
                     unfold tiA
                     rw [if_pos (show (1 ≤ h ∧ h ≤ ho wh) ∧ (D i.toNat).A h ≠ -1 ∧ (D j.toNat).A h ≠ -1 from ⟨⟨by omega, by omega⟩, c_96, c_106⟩)]
                   · rw [if_neg e9]
                     by_cases e8 : k < h
                     · rw [if_pos e8, if_pos (show k < h + 1 by omega)]
                     · rw [if_neg e8, if_neg (show ¬ k < h + 1 by omega)])
                | (refine e_go (ih (h + 1) wl (by omega) ⟨by omega, by omega, gD.to (fun k k0 k1 => ?_) (fun _ _ _ => rfl), gF⟩) (And.intro rfl (And.intro rfl (And.intro rfl (And.intro rfl (And.intro rfl (trivial))))))
                   try dsimp only
                   by_cases e9 : k = h
                   · rw [if_neg (show ¬ k < h by omega), if_pos (show k < h + 1 by omega), e9]
                     unfold tiA
                     rw [if_neg (show ¬ ((1 ≤ h ∧ h ≤ ho wh) ∧ (D i.toNat).A h ≠ -1 ∧ (D j.toNat).A h ≠ -1) by omega)]
                   · by_cases e8 : k < h
                     · rw [if_pos e8, if_pos (show k < h + 1 by omega)]
                     · rw [if_neg e8, if_neg (show ¬ k < h + 1 by omega)])
              ·
                rw [b01_0, Classical.not_not] at c_96
                refine e_aload F dX3_times_99 rfl ?_
                refine e_iload F dX3_times_101 rfl ?_
                refine e_callVN F u_X0_hasShare (by rfl) (c_X0_hasShare gD2 (h := h) (by omega) (by omega)) gD2.1 rfl rfl w_mn_RX3_119 dX3_times_103 (by rfl) (Nat.le_of_ble_eq_true rfl) (by decide) (by omega) (fun _ _ _ h _ => False.elim h) (fun r_103 w_103 n_103 h_103 hn_103 => ?_)
                obtain ⟨rfl, ew_103, en_103⟩ := h_103
                rw [ew_103, en_103]
                refine e_if_eq F 146 dX3_times_106 (by decide) (b01_r _) (fun c_106 => ?_) (fun c_106 => ?_)
                ·
                  rw [b01_0] at c_106
                  refine e_iinc F dX3_times_146 rfl (by decide) ?_
                  refine e_goto F 77 dX3_times_149 (by decide) ?_
                  first
                  | (obtain ⟨rfl, en_143, zD, zF⟩ := h_143
                     rw [en_143]
                     refine e_go (ih (h + 1) w_143 (by omega) ⟨by omega, by omega, zD.to (fun k k0 k1 => ?_) (fun _ _ _ => rfl), fun q a1 a2 a3 => by rw [zF q a1 a2 a3, gF q a1 a2 a3]⟩) (And.intro rfl (And.intro rfl (And.intro rfl (And.intro rfl (And.intro rfl (trivial))))))
                     unfold e_fu
                     try dsimp only
                     by_cases e9 : k = h
                     · rw [if_pos e9, if_pos (show k < h + 1 by omega), e9]
                       unfold tiA
                       rw [if_pos (show (1 ≤ h ∧ h ≤ ho wh) ∧ (D i.toNat).A h ≠ -1 ∧ (D j.toNat).A h ≠ -1 from ⟨⟨by omega, by omega⟩, c_96, c_106⟩)]
                     · rw [if_neg e9]
                       by_cases e8 : k < h
                       · rw [if_pos e8, if_pos (show k < h + 1 by omega)]
                       · rw [if_neg e8, if_neg (show ¬ k < h + 1 by omega)])
                  | (refine e_go (ih (h + 1) wl (by omega) ⟨by omega, by omega, gD.to (fun k k0 k1 => ?_) (fun _ _ _ => rfl), gF⟩) (And.intro rfl (And.intro rfl (And.intro rfl (And.intro rfl (And.intro rfl (trivial))))))
                     try dsimp only
                     by_cases e9 : k = h
                     · rw [if_neg (show ¬ k < h by omega), if_pos (show k < h + 1 by omega), e9]
                       unfold tiA
                       rw [if_neg (show ¬ ((1 ≤ h ∧ h ≤ ho wh) ∧ (D i.toNat).A h ≠ -1 ∧ (D j.toNat).A h ≠ -1) by omega)]
                     · by_cases e8 : k < h
                       · rw [if_pos e8, if_pos (show k < h + 1 by omega)]
                       · rw [if_neg e8, if_neg (show ¬ k < h + 1 by omega)])
                ·
                  rw [b01_0, Classical.not_not] at c_106
                  refine e_aload F dX3_times_109 rfl ?_
                  refine e_iload F dX3_times_111 rfl ?_
                  refine e_callVN F u_X0_shareAt (by rfl) (c_X0_shareAt gD1 (h := h) (by omega) (by omega)) gD1.1 rfl rfl w_mn_RX3_123 dX3_times_113 (by rfl) (Nat.le_of_ble_eq_true rfl) (by decide) (by omega) (fun _ _ _ h _ => False.elim h) (fun r_113 w_113 n_113 h_113 hn_113 => ?_)
                  obtain ⟨rfl, ew_113, en_113⟩ := h_113
                  rw [ew_113, en_113]
                  have ra := gD1.2.2.2.2.2.2.1 h (by omega) (by omega)
                  have rb := gD2.2.2.2.2.2.2.1 h (by omega) (by omega)
                  have rm := mulI_rg (a := (D i.toNat).A h) (b := (D j.toNat).A h) (by constructor <;> omega) (by constructor <;> omega)
                  have hm9 := emod_rg ((D i.toNat).A h * (D j.toNat).A h) hwh
                  refine e_i2l F dX3_times_116 (⟨by omega, by omega⟩) ?_
                  refine e_aload F dX3_times_117 rfl ?_
                  refine e_iload F dX3_times_119 rfl ?_
                  refine e_callVN F u_X0_shareAt (by rfl) (c_X0_shareAt gD2 (h := h) (by omega) (by omega)) gD2.1 rfl rfl w_mn_RX3_123 dX3_times_121 (by rfl) (Nat.le_of_ble_eq_true rfl) (by decide) (by omega) (fun _ _ _ h _ => False.elim h) (fun r_121 w_121 n_121 h_121 hn_121 => ?_)
                  obtain ⟨rfl, ew_121, en_121⟩ := h_121
                  rw [ew_121, en_121]
                  refine e_i2l F dX3_times_124 (⟨by omega, by omega⟩) ?_
                  refine e_lmul F dX3_times_125 ?_
                  refine e_lstore F dX3_times_126 (by decide) ?_
                  refine e_aload_n F dX3_times_128 rfl ?_
                  refine e_get (ci := 3) (fi := 3) (q := (RX3, TX3, 5)) F (by first | assumption | exact e_up_s | (rw [e_up_n (by first | assumption | omega)]; first | assumption | exact e_up_s | (rw [e_up_n (by first | assumption | omega)]; first | assumption | exact e_up_s | (rw [e_up_n (by first | assumption | omega)]; first | assumption | exact e_up_s))) | exact hD.1 | exact hD1.1 | exact hD2.1 | exact gD.1 | exact gD1.1 | exact gD2.1 | exact gQ.1 | exact hQ.1 | exact gS.1 | exact hS.1 | exact zD.1) rfl (by decide) w_fl_RX3_30 (by rfl) dX3_times_129 ?_
                  refine e_iload F dX3_times_132 rfl ?_
                  refine e_aload_n F dX3_times_134 rfl ?_
                  refine e_get (ci := 3) (fi := 0) (q := (RX3, TX3, 5)) F (by first | assumption | exact e_up_s | (rw [e_up_n (by first | assumption | omega)]; first | assumption | exact e_up_s | (rw [e_up_n (by first | assumption | omega)]; first | assumption | exact e_up_s | (rw [e_up_n (by first | assumption | omega)]; first | assumption | exact e_up_s))) | exact hD.1 | exact hD1.1 | exact hD2.1 | exact gD.1 | exact gD1.1 | exact gD2.1 | exact gQ.1 | exact hQ.1 | exact gS.1 | exact hS.1 | exact zD.1) rfl (by decide) w_fl_RX3_10 (by rfl) dX3_times_135 ?_
                  refine e_lload F dX3_times_138 rfl ?_
                  refine e_callVN F u_X1_modPrime (by rfl) (c_X1_modPrime gFO hwh rm) (by first | assumption | exact e_up_s | (rw [e_up_n (by first | assumption | omega)]; first | assumption | exact e_up_s | (rw [e_up_n (by first | assumption | omega)]; first | assumption | exact e_up_s | (rw [e_up_n (by first | assumption | omega)]; first | assumption | exact e_up_s))) | exact hD.1 | exact hD1.1 | exact hD2.1 | exact gD.1 | exact gD1.1 | exact gD2.1 | exact gQ.1 | exact hQ.1 | exact gS.1 | exact hS.1 | exact zD.1) rfl rfl w_mn_RX3_59 dX3_times_140 (by rfl) (Nat.le_of_ble_eq_true rfl) (by decide) (by omega) (fun _ _ _ h _ => False.elim h) (fun r_140 w_140 n_140 h_140 hn_140 => ?_)
                  obtain ⟨rfl, ew_140, en_140⟩ := h_140
                  rw [ew_140, en_140]
                  refine e_callVN F u_X0_setShare (by rfl) (c_X0_setShare gD (h := h) (v := (D i.toNat).A h * (D j.toNat).A h % pr wh) (by omega) (by omega) (by omega) (by omega)) gD.1 rfl rfl w_mn_RX3_130 dX3_times_143 (by rfl) (Nat.le_of_ble_eq_true rfl) (by decide) (by omega) (fun _ _ _ h _ => False.elim h) (fun r_143 w_143 n_143 h_143 hn_143 => ?_)
                  
                  refine e_iinc F dX3_times_146 rfl (by decide) ?_
                  refine e_goto F 77 dX3_times_149 (by decide) ?_
                  first
                  | (obtain ⟨rfl, en_143, zD, zF⟩ := h_143
                     rw [en_143]
                     refine e_go (ih (h + 1) w_143 (by omega) ⟨by omega, by omega, zD.to (fun k k0 k1 => ?_) (fun _ _ _ => rfl), fun q a1 a2 a3 => by rw [zF q a1 a2 a3, gF q a1 a2 a3]⟩) (And.intro rfl (And.intro rfl (And.intro rfl (And.intro rfl (And.intro rfl (trivial))))))
                     unfold e_fu
                     try dsimp only
                     by_cases e9 : k = h
                     · rw [if_pos e9, if_pos (show k < h + 1 by omega), e9]
                       unfold tiA
                       rw [if_pos (show (1 ≤ h ∧ h ≤ ho wh) ∧ (D i.toNat).A h ≠ -1 ∧ (D j.toNat).A h ≠ -1 from ⟨⟨by omega, by omega⟩, c_96, c_106⟩)]
                     · rw [if_neg e9]
                       by_cases e8 : k < h
                       · rw [if_pos e8, if_pos (show k < h + 1 by omega)]
                       · rw [if_neg e8, if_neg (show ¬ k < h + 1 by omega)])
                  | (refine e_go (ih (h + 1) wl (by omega) ⟨by omega, by omega, gD.to (fun k k0 k1 => ?_) (fun _ _ _ => rfl), gF⟩) (And.intro rfl (And.intro rfl (And.intro rfl (And.intro rfl (And.intro rfl (trivial))))))
                     try dsimp only
                     by_cases e9 : k = h
                     · rw [if_neg (show ¬ k < h by omega), if_pos (show k < h + 1 by omega), e9]
                       unfold tiA
                       rw [if_neg (show ¬ ((1 ≤ h ∧ h ≤ ho wh) ∧ (D i.toNat).A h ≠ -1 ∧ (D j.toNat).A h ≠ -1) by omega)]
                     · by_cases e8 : k < h
                       · rw [if_pos e8, if_pos (show k < h + 1 by omega)]
                       · rw [if_neg e8, if_neg (show ¬ k < h + 1 by omega)])
        refine e_iconst F dX3_times_74 ?_
        refine e_istore F dX3_times_75 (by decide) ?_
        refine e_go (lp 10 1 w_71 (by omega) ⟨by omega, by omega, gS.to (fun k k0 k1 => by rw [if_neg (show ¬ k < 1 by omega)]) (fun k _ _ => by omega), gF1⟩) (And.intro rfl (And.intro rfl (And.intro rfl (And.intro rfl (And.intro rfl (trivial))))))
      · refine e_bipush F dX3_times_53 (by decide) ?_
        refine e_iret F rfl (by omega) ?_ dX3_times_55
        refine ⟨⟨hi1, hi2, hi3⟩, ?_⟩
        unfold tiQ
        rw [if_pos (by omega)]
        exact ⟨rfl, rfl, hC0, FR.rf⟩
set_option maxHeartbeats 4000000 in
set_option maxRecDepth 100000 in
theorem c_X3_scale {K : e_K} {l : Launch} {w : e_W} {n : Nat} {x wh : Nat} {kn : Int} {D : Nat → SD} (hC : CW w x wh kn D) {i : Int} (hi : e_r i) {b : Int} (hb : e_r b) {t : Int} (ht : e_r t) : e_Met K l yX3_scale (Cond.code yX3_scale cX3_scale 8 (Option.some .int) :: e_TB) (7) (2) [.ref x, .int (eI i), .int (eI b), .int (eI t)] w n (fun r w' n' => ((0 ≤ i ∧ i < 6) ∧ (0 ≤ t ∧ t < 6)) ∧ r = some (.int (eI ((scQ wh D i.toNat b t.toNat).1))) ∧ n' = n ∧ CW w' x wh (kn) ((scQ wh D i.toNat b t.toNat).2) ∧ FR w w' x) (pxd w (¬ ((0 ≤ i ∧ i < 6) ∧ (0 ≤ t ∧ t < 6))) False) := by
  refine e_ofV rfl (Nat.le_of_ble_eq_true rfl) ?_
  intro P9 E9 S9 M9 A9 B9 T9 C9 F hnm
  have hC0 := hC
  have hDA := hC.2.2.2.2.1
  obtain ⟨hX, hF, hwh, ⟨P0, hQ⟩, ⟨ga, hga, hgj⟩, hDs, s0, hS⟩ := hC
  have hp := pr_rg wh hwh
  have ho9 := ho_rg wh hwh
  have hg9 := gr_rg wh hwh
  have hf9 := fl_rg wh hwh
  refine e_aload_n F dX3_scale_0 rfl ?_
  refine e_iload_n F dX3_scale_1 rfl ?_
  refine e_callVV F u_X3_dealAt (by rfl) (c_X3_dealAt hX hDA (i := i) hi) hX rfl rfl w_ml_RX3_94 dX3_scale_2 (by rfl) (Nat.le_of_ble_eq_true rfl) (by decide) (by omega) (fun E w2 n2 h _ => ⟨Or.inl ⟨h.1, by have q := h.2.1; omega⟩, h.2.2⟩) (fun r_2 w_2 n_2 h_2 hn_2 => ?_)
  obtain ⟨hi1, rfl, ew_2, en_2⟩ := h_2
  rw [ew_2, en_2]
  obtain ⟨hD1, hW1⟩ := hDs i.toNat (by omega)
  refine e_astore F dX3_scale_5 (by decide) ?_
  refine e_aload_n F dX3_scale_7 rfl ?_
  refine e_iload_n F dX3_scale_8 rfl ?_
  refine e_callVV F u_X3_dealAt (by rfl) (c_X3_dealAt hX hDA (i := t) ht) hX rfl rfl w_ml_RX3_94 dX3_scale_9 (by rfl) (Nat.le_of_ble_eq_true rfl) (by decide) (by omega) (fun E w2 n2 h _ => ⟨Or.inl ⟨h.1, by have q := h.2.1; omega⟩, h.2.2⟩) (fun r_9 w_9 n_9 h_9 hn_9 => ?_)
  obtain ⟨hi2, rfl, ew_9, en_9⟩ := h_9
  rw [ew_9, en_9]
  obtain ⟨hD2, hW2⟩ := hDs t.toNat (by omega)
  refine e_astore F dX3_scale_12 (by decide) ?_
  refine e_aload F dX3_scale_14 rfl ?_
  refine e_callVN F u_X0_isEmpty (by rfl) (c_X0_isEmpty hD1) (by first | assumption | exact e_up_s | (rw [e_up_n (by first | assumption | omega)]; first | assumption | exact e_up_s | (rw [e_up_n (by first | assumption | omega)]; first | assumption | exact e_up_s | (rw [e_up_n (by first | assumption | omega)]; first | assumption | exact e_up_s))) | exact hD.1 | exact hD1.1 | exact hD2.1 | exact gD.1 | exact gD1.1 | exact gD2.1 | exact gQ.1 | exact hQ.1 | exact gS.1 | exact hS.1 | exact zD.1) rfl rfl w_mn_RX3_109 dX3_scale_16 (by rfl) (Nat.le_of_ble_eq_true rfl) (by decide) (by omega) (fun _ _ _ h _ => False.elim h) (fun r_16 w_16 n_16 h_16 hn_16 => ?_)
  obtain ⟨rfl, ew_16, en_16⟩ := h_16
  rw [ew_16, en_16]
  refine e_if_eq F 25 dX3_scale_19 (by decide) (b01_r _) (fun c_19 => ?_) (fun c_19 => ?_)
  ·
    rw [b01_0] at c_19
    refine e_aload_n F dX3_scale_25 rfl ?_
    refine e_get (ci := 3) (fi := 0) (q := (RX3, TX3, 5)) F (by first | assumption | exact e_up_s | (rw [e_up_n (by first | assumption | omega)]; first | assumption | exact e_up_s | (rw [e_up_n (by first | assumption | omega)]; first | assumption | exact e_up_s | (rw [e_up_n (by first | assumption | omega)]; first | assumption | exact e_up_s))) | exact hD.1 | exact hD1.1 | exact hD2.1 | exact gD.1 | exact gD1.1 | exact gD2.1 | exact gQ.1 | exact hQ.1 | exact gS.1 | exact hS.1 | exact zD.1) rfl (by decide) w_fl_RX3_10 (by rfl) dX3_scale_26 ?_
    refine e_iload_n F dX3_scale_29 rfl ?_
    refine e_i2l F dX3_scale_30 (⟨by omega, by omega⟩) ?_
    refine e_callVN F u_X1_modPrime (by rfl) (c_X1_modPrime hF hwh (v := b) (by constructor <;> omega)) (by first | assumption | exact e_up_s | (rw [e_up_n (by first | assumption | omega)]; first | assumption | exact e_up_s | (rw [e_up_n (by first | assumption | omega)]; first | assumption | exact e_up_s | (rw [e_up_n (by first | assumption | omega)]; first | assumption | exact e_up_s))) | exact hD.1 | exact hD1.1 | exact hD2.1 | exact gD.1 | exact gD1.1 | exact gD2.1 | exact gQ.1 | exact hQ.1 | exact gS.1 | exact hS.1 | exact zD.1) rfl rfl w_mn_RX3_59 dX3_scale_31 (by rfl) (Nat.le_of_ble_eq_true rfl) (by decide) (by omega) (fun _ _ _ h _ => False.elim h) (fun r_31 w_31 n_31 h_31 hn_31 => ?_)
    obtain ⟨rfl, ew_31, en_31⟩ := h_31
    rw [ew_31, en_31]
    have hfb := emod_rg b hwh
    have hdg1 := hD1.2.2.2.2.1
    refine e_istore F dX3_scale_34 (by decide) ?_
    refine e_aload_n F dX3_scale_36 rfl ?_
    refine e_get (ci := 3) (fi := 3) (q := (RX3, TX3, 5)) F (by first | assumption | exact e_up_s | (rw [e_up_n (by first | assumption | omega)]; first | assumption | exact e_up_s | (rw [e_up_n (by first | assumption | omega)]; first | assumption | exact e_up_s | (rw [e_up_n (by first | assumption | omega)]; first | assumption | exact e_up_s))) | exact hD.1 | exact hD1.1 | exact hD2.1 | exact gD.1 | exact gD1.1 | exact gD2.1 | exact gQ.1 | exact hQ.1 | exact gS.1 | exact hS.1 | exact zD.1) rfl (by decide) w_fl_RX3_30 (by rfl) dX3_scale_37 ?_
    refine e_aload F dX3_scale_40 rfl ?_
    refine e_getN (ci := 0) (fi := 1) (q := (RX0, TX0, 5)) F (by first | assumption | exact e_up_s | (rw [e_up_n (by first | assumption | omega)]; first | assumption | exact e_up_s | (rw [e_up_n (by first | assumption | omega)]; first | assumption | exact e_up_s | (rw [e_up_n (by first | assumption | omega)]; first | assumption | exact e_up_s))) | exact hD.1 | exact hD1.1 | exact hD2.1 | exact gD.1 | exact gD1.1 | exact gD2.1 | exact gQ.1 | exact hQ.1 | exact gS.1 | exact hS.1 | exact zD.1) rfl (by decide) w_fn_RX3_113 (by rfl) dX3_scale_42 ?_
    refine e_callVN F u_X0_start (by rfl) (c_X0_start hS (t := (D i.toNat).dg) ⟨by omega, by omega⟩) hS.1 rfl rfl w_mn_RX3_157 dX3_scale_45 (by rfl) (Nat.le_of_ble_eq_true rfl) (by decide) (by omega) (fun _ _ _ h _ => False.elim h) (fun r_45 w_45 n_45 h_45 hn_45 => ?_)
    obtain ⟨rfl, en_45, gS, gF1⟩ := h_45
    rw [en_45]
    have lq : ∀ (N : Nat) (h : Int) (wl : e_W), (9 - h).toNat < N → (0 ≤ h ∧ h ≤ (D i.toNat).sc ∧ DL wl (x + 24) 1 (D i.toNat).dg h (scS wh (D i.toNat) (b % pr wh)).A (scS wh (D i.toNat) (b % pr wh)).B ∧ DF w wl (x + 24)) → e_V K P9 l E9 (7) (2) S9 M9 A9 B9 T9 C9 8 (fun r w' n' => ((0 ≤ i ∧ i < 6) ∧ (0 ≤ t ∧ t < 6)) ∧ r = some (.int (eI ((scQ wh D i.toNat b t.toNat).1))) ∧ n' = n ∧ CW w' x wh (kn) ((scQ wh D i.toNat b t.toNat).2) ∧ FR w w' x) (pxd w (¬ ((0 ≤ i ∧ i < 6) ∧ (0 ≤ t ∧ t < 6))) False) 110 [(0, .ref x), (4, .ref (x + 6 + 3 * i.toNat)), (5, .ref (x + 6 + 3 * t.toNat)), (6, .int (eI (b % pr wh))), (7, .int (eI h))] [] wl n ((0 + 1 + 1 + 0 + 0 + 0)) := by
      intro N
      induction N with
      | zero => intro h wl hN; exact absurd hN (Nat.not_lt_zero _)
      | succ N ih =>
        intro h wl hN ⟨k1, k2, gD, gF⟩
        obtain ⟨gX, gFO, ⟨P2, gQ⟩, gDA, gDs⟩ := hC0.spare gF
        have gD1 := gDs i.toNat (by omega)
        have hsc1 := gD1.2.2.2.2.2.1
        refine e_iload F dX3_scale_110 rfl ?_
        refine e_aload F dX3_scale_112 rfl ?_
        refine e_getN (ci := 0) (fi := 2) (q := (RX0, TX0, 5)) F gD1.1 rfl (by decide) w_fn_RX3_134 (by rfl) dX3_scale_114 ?_
        refine e_icmp_ge F 153 dX3_scale_117 (by decide) (⟨by omega, by omega⟩) (⟨by omega, by omega⟩) (fun c_117 => ?_) (fun c_117 => ?_)
        ·
          obtain rfl : h = (D i.toNat).sc := by omega
          have hsp := hC0.sp2 (s2 := scS wh (D i.toNat) (b % pr wh)) gD gF
          refine e_aload_n F dX3_scale_153 rfl ?_
          refine e_aload F dX3_scale_154 rfl ?_
          refine e_callVV F u_X3_laySpare (by rfl) (c_X3_laySpare hsp.1.1 (hsp.1.2.2.2.2.2.1 t.toNat (by omega)).1 gD (by omega)) hsp.1.1 rfl rfl w_ml_RX3_160 dX3_scale_156 (by rfl) (Nat.le_of_ble_eq_true rfl) (by decide) (by omega) (fun _ _ _ h _ => False.elim h) (fun r_156 w_156 n_156 h_156 hn_156 => ?_)
          obtain ⟨rfl, en_156, yD, yF⟩ := h_156
          rw [en_156]
          have hr2 := hsp.1.deal (by omega) (s := scS wh (D i.toNat) (b % pr wh)) yD (scS_SW hwh hW1 _) yF
          refine e_iret F rfl (by omega) ?_ dX3_scale_159
          refine ⟨⟨hi1, hi2⟩, ?_⟩
          unfold scQ
          rw [if_neg c_19]
          exact ⟨rfl, rfl, hr2.1, hsp.2.tr hr2.2⟩
        · refine e_aload_n F dX3_scale_120 rfl ?_
          refine e_get (ci := 3) (fi := 3) (q := (RX3, TX3, 5)) F (by first | assumption | exact e_up_s | (rw [e_up_n (by first | assumption | omega)]; first | assumption | exact e_up_s | (rw [e_up_n (by first | assumption | omega)]; first | assumption | exact e_up_s | (rw [e_up_n (by first | assumption | omega)]; first | assumption | exact e_up_s))) | exact hD.1 | exact hD1.1 | exact hD2.1 | exact gD.1 | exact gD1.1 | exact gD2.1 | exact gQ.1 | exact hQ.1 | exact gS.1 | exact hS.1 | exact zD.1) rfl (by decide) w_fl_RX3_30 (by rfl) dX3_scale_121 ?_
          refine e_aload F dX3_scale_124 rfl ?_
          refine e_iload F dX3_scale_126 rfl ?_
          refine e_callVN F u_X0_sealAt (by rfl) (c_X0_sealAt gD1 (h := h) ⟨by omega, by omega⟩) gD1.1 rfl rfl w_mn_RX3_137 dX3_scale_128 (by rfl) (Nat.le_of_ble_eq_true rfl) (by decide) (by omega) (fun _ _ _ h _ => False.elim h) (fun r_128 w_128 n_128 h_128 hn_128 => ?_)
          obtain ⟨rfl, ew_128, en_128⟩ := h_128
          rw [ew_128, en_128, if_pos (show 0 ≤ h ∧ h < (D i.toNat).sc from ⟨by omega, by omega⟩)]
          have hBj := (hW1.2.1 h (by omega) (by omega)).1
          have hpw := e_pw_rg (b := (D i.toNat).B h) (k := (b % pr wh).toNat) (show 0 < gr wh by omega)
          refine e_iload F dX3_scale_131 rfl ?_
          refine e_i2l F dX3_scale_133 (⟨by omega, by omega⟩) ?_
          refine e_aload_n F dX3_scale_134 rfl ?_
          refine e_get (ci := 3) (fi := 0) (q := (RX3, TX3, 5)) F (by first | assumption | exact e_up_s | (rw [e_up_n (by first | assumption | omega)]; first | assumption | exact e_up_s | (rw [e_up_n (by first | assumption | omega)]; first | assumption | exact e_up_s | (rw [e_up_n (by first | assumption | omega)]; first | assumption | exact e_up_s))) | exact hD.1 | exact hD1.1 | exact hD2.1 | exact gD.1 | exact gD1.1 | exact gD2.1 | exact gQ.1 | exact hQ.1 | exact gS.1 | exact hS.1 | exact zD.1) rfl (by decide) w_fl_RX3_10 (by rfl) dX3_scale_135 ?_
          refine e_getN (ci := 1) (fi := 2) (q := (RX1, TX1, 5)) F (by first | assumption | exact e_up_s | (rw [e_up_n (by first | assumption | omega)]; first | assumption | exact e_up_s | (rw [e_up_n (by first | assumption | omega)]; first | assumption | exact e_up_s | (rw [e_up_n (by first | assumption | omega)]; first | assumption | exact e_up_s))) | exact hD.1 | exact hD1.1 | exact hD2.1 | exact gD.1 | exact gD1.1 | exact gD2.1 | exact gQ.1 | exact hQ.1 | exact gS.1 | exact hS.1 | exact zD.1) rfl (by decide) w_fn_RX3_164 (by rfl) dX3_scale_138 ?_
          refine e_callSN F u_X1_raise (by rfl) (c_X1_raise (b := (D i.toNat).B h) (k := (b % pr wh)) (m := gr wh) hBj.1 hBj.2 (by omega) (by omega) (by omega) (by omega)) w_mn_RX3_69 dX3_scale_141 (by rfl) (Nat.le_of_ble_eq_true rfl) (by decide) (by omega) (fun _ _ _ h _ => False.elim h) (fun r_141 w_141 n_141 h_141 hn_141 => ?_)
          obtain ⟨rfl, ew_141, en_141⟩ := h_141
          rw [ew_141, en_141]
          refine e_callVN F u_X0_addSeal (by rfl) (c_X0_addSeal gD (v := e_pw ((D i.toNat).B h) (b % pr wh).toNat (gr wh)) (by omega) (by omega) (by omega)) gD.1 rfl rfl w_mn_RX3_167 dX3_scale_144 (by rfl) (Nat.le_of_ble_eq_true rfl) (by decide) (by omega) (fun _ _ _ h _ => False.elim h) (fun r_144 w_144 n_144 h_144 hn_144 => ?_)
          
          refine e_iinc F dX3_scale_147 rfl (by decide) ?_
          refine e_goto F 110 dX3_scale_150 (by decide) ?_
          obtain ⟨rfl, en_144, zD, zF⟩ := h_144
          rw [en_144]
          refine e_go (ih (h + 1) w_144 (by omega) ⟨by omega, by omega, zD.to (fun _ _ _ => rfl) (fu_ite rfl (fun _ _ _ => rfl)), fun q a1 a2 a3 => by rw [zF q a1 a2 a3, gF q a1 a2 a3]⟩) (And.intro rfl (And.intro rfl (And.intro rfl (And.intro rfl (And.intro rfl (trivial))))))
    have lp : ∀ (N : Nat) (h : Int) (wl : e_W), (9 - h).toNat < N → (1 ≤ h ∧ h ≤ ho wh + 1 ∧ DL wl (x + 24) 1 (D i.toNat).dg 0 (fun k => if k < h then (scS wh (D i.toNat) (b % pr wh)).A k else -1) s0.B ∧ DF w wl (x + 24)) → e_V K P9 l E9 (7) (2) S9 M9 A9 B9 T9 C9 8 (fun r w' n' => ((0 ≤ i ∧ i < 6) ∧ (0 ≤ t ∧ t < 6)) ∧ r = some (.int (eI ((scQ wh D i.toNat b t.toNat).1))) ∧ n' = n ∧ CW w' x wh (kn) ((scQ wh D i.toNat b t.toNat).2) ∧ FR w w' x) (pxd w (¬ ((0 ≤ i ∧ i < 6) ∧ (0 ≤ t ∧ t < 6))) False) 51 [(0, .ref x), (4, .ref (x + 6 + 3 * i.toNat)), (5, .ref (x + 6 + 3 * t.toNat)), (6, .int (eI (b % pr wh))), (7, .int (eI h))] [] wl n ((0 + 1 + 1 + 0 + 0 + 0)) := by
      intro N
      induction N with
      | zero => intro h wl hN; exact absurd hN (Nat.not_lt_zero _)
      | succ N ih =>
        intro h wl hN ⟨k1, k2, gD, gF⟩
        obtain ⟨gX, gFO, ⟨P2, gQ⟩, gDA, gDs⟩ := hC0.spare gF
        have gD1 := gDs i.toNat (by omega)
        have hsc1 := gD1.2.2.2.2.2.1
        refine e_iload F dX3_scale_51 rfl ?_
        refine e_aload_n F dX3_scale_53 rfl ?_
        refine e_get (ci := 3) (fi := 0) (q := (RX3, TX3, 5)) F (by first | assumption | exact e_up_s | (rw [e_up_n (by first | assumption | omega)]; first | assumption | exact e_up_s | (rw [e_up_n (by first | assumption | omega)]; first | assumption | exact e_up_s | (rw [e_up_n (by first | assumption | omega)]; first | assumption | exact e_up_s))) | exact hD.1 | exact hD1.1 | exact hD2.1 | exact gD.1 | exact gD1.1 | exact gD2.1 | exact gQ.1 | exact hQ.1 | exact gS.1 | exact hS.1 | exact zD.1) rfl (by decide) w_fl_RX3_10 (by rfl) dX3_scale_54 ?_
        refine e_getN (ci := 1) (fi := 4) (q := (RX1, TX1, 5)) F (by first | assumption | exact e_up_s | (rw [e_up_n (by first | assumption | omega)]; first | assumption | exact e_up_s | (rw [e_up_n (by first | assumption | omega)]; first | assumption | exact e_up_s | (rw [e_up_n (by first | assumption | omega)]; first | assumption | exact e_up_s))) | exact hD.1 | exact hD1.1 | exact hD2.1 | exact gD.1 | exact gD1.1 | exact gD2.1 | exact gQ.1 | exact hQ.1 | exact gS.1 | exact hS.1 | exact zD.1) rfl (by decide) w_fn_RX3_116 (by rfl) dX3_scale_57 ?_
        refine e_icmp_gt F 107 dX3_scale_60 (by decide) (⟨by omega, by omega⟩) (⟨by omega, by omega⟩) (fun c_60 => ?_) (fun c_60 => ?_)
        · refine e_iconst F dX3_scale_107 ?_
          refine e_istore F dX3_scale_108 (by decide) ?_
          obtain rfl : h = ho wh + 1 := by omega
          refine e_go (lq 10 0 wl (by omega) ⟨by omega, by omega, gD.to (fun k k0 k1 => ?_) (fun k k0 k1 => by omega), gF⟩) (And.intro rfl (And.intro rfl (And.intro rfl (And.intro rfl (And.intro rfl (trivial))))))
          try dsimp only
          by_cases e8 : k < ho wh + 1
          · rw [if_pos e8]
          · rw [if_neg e8]
            show _ = (if (D i.toNat).A k = -1 then -1 else _)
            have hk9 := hW1.1 k k0 k1
            rw [if_pos (by omega)]
        · refine e_aload F dX3_scale_63 rfl ?_
          refine e_iload F dX3_scale_65 rfl ?_
          refine e_callVN F u_X0_hasShare (by rfl) (c_X0_hasShare gD1 (h := h) (by omega) (by omega)) gD1.1 rfl rfl w_mn_RX3_119 dX3_scale_67 (by rfl) (Nat.le_of_ble_eq_true rfl) (by decide) (by omega) (fun _ _ _ h _ => False.elim h) (fun r_67 w_67 n_67 h_67 hn_67 => ?_)
          obtain ⟨rfl, ew_67, en_67⟩ := h_67
          rw [ew_67, en_67]
          refine e_if_eq F 101 dX3_scale_70 (by decide) (b01_r _) (fun c_70 => ?_) (fun c_70 => ?_)
          ·
            rw [b01_0] at c_70
            refine e_iinc F dX3_scale_101 rfl (by decide) ?_
            refine e_goto F 51 dX3_scale_104 (by decide) ?_
            first
            | (obtain ⟨rfl, en_98, zD, zF⟩ := h_98
               rw [en_98]
               refine e_go (ih (h + 1) w_98 (by omega) ⟨by omega, by omega, zD.to (fun k k0 k1 => ?_) (fun _ _ _ => rfl), fun q a1 a2 a3 => by rw [zF q a1 a2 a3, gF q a1 a2 a3]⟩) (And.intro rfl (And.intro rfl (And.intro rfl (And.intro rfl (And.intro rfl (trivial))))))
               unfold e_fu
               try dsimp only
               by_cases e9 : k = h
               · rw [if_pos e9, if_pos (show k < h + 1 by omega), e9]
                 show _ = (if (D i.toNat).A h = -1 then -1 else _)
                 rw [if_neg c_70]
               · rw [if_neg e9]
                 by_cases e8 : k < h
                 · rw [if_pos e8, if_pos (show k < h + 1 by omega)]
                 · rw [if_neg e8, if_neg (show ¬ k < h + 1 by omega)])
            | (refine e_go (ih (h + 1) wl (by omega) ⟨by omega, by omega, gD.to (fun k k0 k1 => ?_) (fun _ _ _ => rfl), gF⟩) (And.intro rfl (And.intro rfl (And.intro rfl (And.intro rfl (And.intro rfl (trivial))))))
               try dsimp only
               by_cases e9 : k = h
               · rw [if_neg (show ¬ k < h by omega), if_pos (show k < h + 1 by omega), e9]
                 show _ = (if (D i.toNat).A h = -1 then -1 else _)
                 rw [if_pos (by omega)]
               · by_cases e8 : k < h
                 · rw [if_pos e8, if_pos (show k < h + 1 by omega)]
                 · rw [if_neg e8, if_neg (show ¬ k < h + 1 by omega)])
          ·
            rw [b01_0, Classical.not_not] at c_70
            refine e_aload_n F dX3_scale_73 rfl ?_
            refine e_get (ci := 3) (fi := 3) (q := (RX3, TX3, 5)) F (by first | assumption | exact e_up_s | (rw [e_up_n (by first | assumption | omega)]; first | assumption | exact e_up_s | (rw [e_up_n (by first | assumption | omega)]; first | assumption | exact e_up_s | (rw [e_up_n (by first | assumption | omega)]; first | assumption | exact e_up_s))) | exact hD.1 | exact hD1.1 | exact hD2.1 | exact gD.1 | exact gD1.1 | exact gD2.1 | exact gQ.1 | exact hQ.1 | exact gS.1 | exact hS.1 | exact zD.1) rfl (by decide) w_fl_RX3_30 (by rfl) dX3_scale_74 ?_
            refine e_iload F dX3_scale_77 rfl ?_
            refine e_aload_n F dX3_scale_79 rfl ?_
            refine e_get (ci := 3) (fi := 0) (q := (RX3, TX3, 5)) F (by first | assumption | exact e_up_s | (rw [e_up_n (by first | assumption | omega)]; first | assumption | exact e_up_s | (rw [e_up_n (by first | assumption | omega)]; first | assumption | exact e_up_s | (rw [e_up_n (by first | assumption | omega)]; first | assumption | exact e_up_s))) | exact hD.1 | exact hD1.1 | exact hD2.1 | exact gD.1 | exact gD1.1 | exact gD2.1 | exact gQ.1 | exact hQ.1 | exact gS.1 | exact hS.1 | exact zD.1) rfl (by decide) w_fl_RX3_10 (by rfl) dX3_scale_80 ?_
            refine e_aload F dX3_scale_83 rfl ?_
            refine e_iload F dX3_scale_85 rfl ?_
            refine e_callVN F u_X0_shareAt (by rfl) (c_X0_shareAt gD1 (h := h) (by omega) (by omega)) gD1.1 rfl rfl w_mn_RX3_123 dX3_scale_87 (by rfl) (Nat.le_of_ble_eq_true rfl) (by decide) (by omega) (fun _ _ _ h _ => False.elim h) (fun r_87 w_87 n_87 h_87 hn_87 => ?_)
            obtain ⟨rfl, ew_87, en_87⟩ := h_87
            rw [ew_87, en_87]
            have ra := gD1.2.2.2.2.2.2.1 h (by omega) (by omega)
            have rm := mulI_rg (a := (D i.toNat).A h) (b := (b % pr wh)) (by constructor <;> omega) (by constructor <;> omega)
            have hm9 := emod_rg ((D i.toNat).A h * (b % pr wh)) hwh
            refine e_i2l F dX3_scale_90 (⟨by omega, by omega⟩) ?_
            refine e_iload F dX3_scale_91 rfl ?_
            refine e_i2l F dX3_scale_93 (⟨by omega, by omega⟩) ?_
            refine e_lmul F dX3_scale_94 ?_
            refine e_callVN F u_X1_modPrime (by rfl) (c_X1_modPrime gFO hwh rm) (by first | assumption | exact e_up_s | (rw [e_up_n (by first | assumption | omega)]; first | assumption | exact e_up_s | (rw [e_up_n (by first | assumption | omega)]; first | assumption | exact e_up_s | (rw [e_up_n (by first | assumption | omega)]; first | assumption | exact e_up_s))) | exact hD.1 | exact hD1.1 | exact hD2.1 | exact gD.1 | exact gD1.1 | exact gD2.1 | exact gQ.1 | exact hQ.1 | exact gS.1 | exact hS.1 | exact zD.1) rfl rfl w_mn_RX3_59 dX3_scale_95 (by rfl) (Nat.le_of_ble_eq_true rfl) (by decide) (by omega) (fun _ _ _ h _ => False.elim h) (fun r_95 w_95 n_95 h_95 hn_95 => ?_)
            obtain ⟨rfl, ew_95, en_95⟩ := h_95
            rw [ew_95, en_95]
            refine e_callVN F u_X0_setShare (by rfl) (c_X0_setShare gD (h := h) (v := (D i.toNat).A h * (b % pr wh) % pr wh) (by omega) (by omega) (by omega) (by omega)) gD.1 rfl rfl w_mn_RX3_130 dX3_scale_98 (by rfl) (Nat.le_of_ble_eq_true rfl) (by decide) (by omega) (fun _ _ _ h _ => False.elim h) (fun r_98 w_98 n_98 h_98 hn_98 => ?_)
            
            refine e_iinc F dX3_scale_101 rfl (by decide) ?_
            refine e_goto F 51 dX3_scale_104 (by decide) ?_
            first
            | (obtain ⟨rfl, en_98, zD, zF⟩ := h_98
               rw [en_98]
               refine e_go (ih (h + 1) w_98 (by omega) ⟨by omega, by omega, zD.to (fun k k0 k1 => ?_) (fun _ _ _ => rfl), fun q a1 a2 a3 => by rw [zF q a1 a2 a3, gF q a1 a2 a3]⟩) (And.intro rfl (And.intro rfl (And.intro rfl (And.intro rfl (And.intro rfl (trivial))))))
               unfold e_fu
               try dsimp only
               by_cases e9 : k = h
               · rw [if_pos e9, if_pos (show k < h + 1 by omega), e9]
                 show _ = (if (D i.toNat).A h = -1 then -1 else _)
                 rw [if_neg c_70]
               · rw [if_neg e9]
                 by_cases e8 : k < h
                 · rw [if_pos e8, if_pos (show k < h + 1 by omega)]
                 · rw [if_neg e8, if_neg (show ¬ k < h + 1 by omega)])
            | (refine e_go (ih (h + 1) wl (by omega) ⟨by omega, by omega, gD.to (fun k k0 k1 => ?_) (fun _ _ _ => rfl), gF⟩) (And.intro rfl (And.intro rfl (And.intro rfl (And.intro rfl (And.intro rfl (trivial))))))
               try dsimp only
               by_cases e9 : k = h
               · rw [if_neg (show ¬ k < h by omega), if_pos (show k < h + 1 by omega), e9]
                 show _ = (if (D i.toNat).A h = -1 then -1 else _)
                 rw [if_pos (by omega)]
               · by_cases e8 : k < h
                 · rw [if_pos e8, if_pos (show k < h + 1 by omega)]
                 · rw [if_neg e8, if_neg (show ¬ k < h + 1 by omega)])
    refine e_iconst F dX3_scale_48 ?_
    refine e_istore F dX3_scale_49 (by decide) ?_
    refine e_go (lp 10 1 w_45 (by omega) ⟨by omega, by omega, gS.to (fun k k0 k1 => by rw [if_neg (show ¬ k < 1 by omega)]) (fun k _ _ => by omega), gF1⟩) (And.intro rfl (And.intro rfl (And.intro rfl (And.intro rfl (And.intro rfl (trivial))))))
  ·
    rw [b01_0, Classical.not_not] at c_19
    refine e_bipush F dX3_scale_22 (by decide) ?_
    refine e_iret F rfl (by omega) ?_ dX3_scale_24
    refine ⟨⟨hi1, hi2⟩, ?_⟩
    unfold scQ
    rw [if_pos c_19]
    exact ⟨rfl, rfl, hC0, FR.rf⟩
end
-- 28.rest.lean.txt
section
/-! Secretshares: handOn, prime, and what is asked of all -/
theorem mul7_rg {a h : Int} (ha : e_r a) (h0 : 0 ≤ h) (h1 : h ≤ 7) : -15032385536 ≤ a * h ∧ a * h ≤ 15032385536 := by
  obtain ⟨a1, a2⟩ := ha
  rcases (show h = 0 ∨ h = 1 ∨ h = 2 ∨ h = 3 ∨ h = 4 ∨ h = 5 ∨ h = 6 ∨ h = 7 by omega) with rfl | rfl | rfl | rfl | rfl | rfl | rfl | rfl <;> omega
theorem hoP_no {wh : Nat} {set : Int} {A : Int → Int} {g a b : Int} {k : Nat} (h : ¬ hs set ((k : Int) + 1)) : hoP wh set A g a b (k + 1) = hoP wh set A g a b k := by
  funext c
  unfold hoP
  have e : hoK wh set A a b c (k + 1) = hoK wh set A a b c k := if_neg h
  rw [e]
theorem hoP_yes {wh : Nat} {set : Int} {A : Int → Int} {g a b : Int} {k : Nat} (h : hs set ((k : Int) + 1)) {c : Int} (hc : c ≤ g) : hoP wh set A g a b (k + 1) c = (hoP wh set A g a b k c + wgt wh set ((k : Int) + 1) 0 * (if c = 0 then A ((k : Int) + 1) else (a * ((k : Int) + 1) + b * c) % pr wh)) % pr wh := by
  unfold hoP
  rw [if_pos hc, if_pos hc]
  exact if_pos h
theorem clearD {w w' : e_W} {d : Nat} {s : SD} (hD : DS w d s) (z0 : w' d = some (DO d 0 0 0)) (z1 : ∃ f', w' (d + 1) = some (e_ia 8 f') ∧ ∀ j, 0 ≤ j → j < 8 → f' j = -1) (zF : ∀ q, q ≠ d → q ≠ d + 1 → w' q = w q) : DS w' d SD0 := by
  obtain ⟨q0, ⟨qf, qf1, qf2⟩, ⟨qg, qg1, qg2⟩, qw⟩ := hD
  obtain ⟨zf, z1, z2⟩ := z1
  exact ⟨z0, ⟨zf, z1, fun j j0 j1 => z2 j (by omega) j1⟩, ⟨qg, by rw [zF _ (by omega) (by omega)]; exact qg1, fun j j0 j1 => absurd j1 (show ¬ j < 0 by omega)⟩, Or.inl rfl, by decide, by decide, fun j _ _ => by show -1 ≤ (-1 : Int) ∧ (-1 : Int) < 1000003; decide, fun j j0 j1 => absurd j1 (show ¬ j < 0 by omega)⟩
def odV (wh : Nat) (s : SD) (c : Int) : Int := if c = 0 then (if s.fl = 0 then -1 else s.dg) else if c = 1 then bc (st7 s.A) else if c = 2 then st7 s.A else if c = 3 then b01 (0 < s.sc) else if c = 4 then b01 (il wh (st7 s.A) s.A s.fl s.dg) else (if fs7 s.A s.dg = 0 then -1 else tl wh (fs7 s.A s.dg) s.A 0)
def wyV (wh : Nat) (s : SD) (a c : Int) : Int := if (s.fl = 1 ∧ thr s.A a) ∧ pbK (pr wh) s.dg.toNat ≤ 125 then (if 0 ≤ s.dg - bc a then pbK (pr wh) (s.dg - bc a).toNat else b01 (il wh a s.A s.fl s.dg ∧ tl wh a s.A 0 = c % pr wh)) else -9
def tsK (set : Int) (A : Int → Int) : Nat → Int
  | 0 => 0
  | k + 1 => if hs set ((k : Int) + 1) then tsK set A k + A ((k : Int) + 1) else tsK set A k
def msK (b : Int) (A : Int → Int) : Nat → Int × Int
  | 0 => (0, 0)
  | k + 1 => if A ((k : Int) + 1) ≠ -1 ∧ ((msK b A k).1 = 0 ∨ (if b = 0 then (msK b A k).2 < A ((k : Int) + 1) else A ((k : Int) + 1) < (msK b A k).2)) then ((k : Int) + 1, A ((k : Int) + 1)) else msK b A k
theorem msK_rg (b : Int) {A : Int → Int} (hA : ∀ j, 1 ≤ j → j < 8 → -1 ≤ A j ∧ A j < 1000003) (k : Nat) (hk : k ≤ 7) : (0 ≤ (msK b A k).1 ∧ (msK b A k).1 ≤ 7) ∧ (-1 ≤ (msK b A k).2 ∧ (msK b A k).2 < 1000003) := by
  induction k with
  | zero => unfold msK; decide
  | succ k ih =>
    have h1 := hA ((k : Int) + 1) (by omega) (by omega)
    have h2 := ih (by omega)
    have h3 : msK b A (k + 1) = ((k : Int) + 1, A ((k : Int) + 1)) ∨ msK b A (k + 1) = msK b A k := by
      rw [msK]
      by_cases q : A ((k : Int) + 1) ≠ -1 ∧ ((msK b A k).1 = 0 ∨ (if b = 0 then (msK b A k).2 < A ((k : Int) + 1) else A ((k : Int) + 1) < (msK b A k).2))
      · exact Or.inl (if_pos q)
      · exact Or.inr (if_neg q)
    rcases h3 with h3 | h3 <;> rw [h3]
    · exact ⟨⟨by show 0 ≤ (k : Int) + 1; omega, by show (k : Int) + 1 ≤ 7; omega⟩, h1⟩
    · exact h2
def smK (s1 s2 : SD) : Nat → Bool
  | 0 => decide (s1.dg = s2.dg)
  | k + 1 => smK s1 s2 k && decide (s1.A ((k : Int) + 1) = s2.A ((k : Int) + 1))
def smV (wh : Nat) (s1 s2 : SD) : Int := if s1.fl = 0 ∨ s2.fl = 0 then b01 (s1.fl = 0 ∧ s2.fl = 0) else b01 (smK s1 s2 (ho wh).toNat = true)
def hsV (wh : Nat) (kn : Int) (D : Nat → SD) (a : Int) : Int := if a = 0 then (wh : Int) else if a = 1 then pr wh else if a = 2 then gr wh else if a = 3 then bs wh else if a = 4 then ho wh else if a = 5 then fdK D 6 else kn
def snV (wh : Nat) (D : Nat → SD) : Int := b01 (tl wh (fl wh) (fun _ => 1) 0 = 1 ∧ fss wh D 6 = true)
def itF (f : Nat → Int) (b : Int) : Nat → Int
  | 0 => b
  | k + 1 => itF f b k * 31 + f k
def dg1 (wh : Nat) (s : SD) (b : Int) (k : Nat) : Int := itF (fun c => odV wh s c) b k
def dg2 (wh : Nat) (s : SD) (b : Int) (k : Nat) : Int := itF (fun h => s.A ((h : Int) + 1)) (dg1 wh s b 4) k
def dg3 (wh : Nat) (s : SD) (b : Int) (k : Nat) : Int := itF (fun c => if (c : Int) < s.sc then s.B c else -1) (dg2 wh s b (ho wh).toNat) k
def dgI (wh : Nat) (kn : Int) (D : Nat → SD) : Nat → Int
  | 0 => itF (fun a => hsV wh kn D a) 7977 7
  | i + 1 => dg3 wh (D i) (dgI wh kn D i) 4
def dgV (wh : Nat) (kn : Int) (D : Nat → SD) : Int := dgI wh kn D 6 * 31 + snV wh D
set_option maxHeartbeats 4000000 in
set_option maxRecDepth 100000 in
theorem c_X3_handOn {K : e_K} {l : Launch} {w : e_W} {n : Nat} {x wh : Nat} {kn : Int} {D : Nat → SD} (hC : CW w x wh kn D) {i : Int} (hi : e_r i) {u : Int} (hu : e_r u) {t : Int} (ht : e_r t) {g : Int} (hg : e_r g) {a : Int} (ha : e_r a) {b : Int} (hb : e_r b) : e_Met K l yX3_handOn (Cond.code yX3_handOn cX3_handOn 12 (Option.some .int) :: e_TB) (7) (4) [.ref x, .int (eI i), .int (eI u), .int (eI t), .int (eI g), .int (eI a), .int (eI b)] w n (fun r w' n' => (((0 ≤ i ∧ i < 6) ∧ (0 ≤ t ∧ t < 6)) ∧ (1 ≤ u ∧ u ≤ fl wh) ∧ (0 ≤ g ∧ g ≤ 3)) ∧ r = some (.int (eI ((haQ wh D i.toNat u t.toNat g a b).1))) ∧ n' = n ∧ CW w' x wh (kn) ((haQ wh D i.toNat u t.toNat g a b).2) ∧ FR w w' x) (pxd w (¬ ((0 ≤ i ∧ i < 6) ∧ (0 ≤ t ∧ t < 6))) (((0 ≤ i ∧ i < 6) ∧ (0 ≤ t ∧ t < 6)) ∧ ¬ ((1 ≤ u ∧ u ≤ fl wh) ∧ (0 ≤ g ∧ g ≤ 3)))) := by
  refine e_ofV rfl (Nat.le_of_ble_eq_true rfl) ?_
  intro P9 E9 S9 M9 A9 B9 T9 C9 F hnm
  have hC0 := hC
  have hDA := hC.2.2.2.2.1
  obtain ⟨hX, hF, hwh, ⟨P0, hQ⟩, ⟨ga, hga, hgj⟩, hDs, s0, hS⟩ := hC
  have hp := pr_rg wh hwh
  have ho9 := ho_rg wh hwh
  have hg9 := gr_rg wh hwh
  have hf9 := fl_rg wh hwh
  refine e_aload_n F dX3_handOn_0 rfl ?_
  refine e_iload_n F dX3_handOn_1 rfl ?_
  refine e_callVV F u_X3_dealAt (by rfl) (c_X3_dealAt hX hDA (i := i) hi) hX rfl rfl w_ml_RX3_94 dX3_handOn_2 (by rfl) (Nat.le_of_ble_eq_true rfl) (by decide) (by omega) (fun E w2 n2 h _ => ⟨Or.inl ⟨h.1, by have q := h.2.1; omega⟩, h.2.2⟩) (fun r_2 w_2 n_2 h_2 hn_2 => ?_)
  obtain ⟨hi1, rfl, ew_2, en_2⟩ := h_2
  rw [ew_2, en_2]
  obtain ⟨hD1, hW1⟩ := hDs i.toNat (by omega)
  refine e_astore F dX3_handOn_5 (by decide) ?_
  refine e_aload_n F dX3_handOn_7 rfl ?_
  refine e_iload_n F dX3_handOn_8 rfl ?_
  refine e_callVV F u_X3_dealAt (by rfl) (c_X3_dealAt hX hDA (i := t) ht) hX rfl rfl w_ml_RX3_94 dX3_handOn_9 (by rfl) (Nat.le_of_ble_eq_true rfl) (by decide) (by omega) (fun E w2 n2 h _ => ⟨Or.inl ⟨h.1, by have q := h.2.1; omega⟩, h.2.2⟩) (fun r_9 w_9 n_9 h_9 hn_9 => ?_)
  obtain ⟨hi2, rfl, ew_9, en_9⟩ := h_9
  rw [ew_9, en_9]
  obtain ⟨hD2, hW2⟩ := hDs t.toNat (by omega)
  refine e_astore F dX3_handOn_12 (by decide) ?_
  refine e_aload_n F dX3_handOn_14 rfl ?_
  refine e_iload_n F dX3_handOn_15 rfl ?_
  refine e_callVV F u_X3_requireSet (by rfl) (c_X3_requireSet hX hF hwh (s9 := u) hu) hX rfl rfl w_ml_RX3_80 dX3_handOn_16 (by rfl) (Nat.le_of_ble_eq_true rfl) (by decide) (by omega) (fun E w2 n2 h _ => ⟨Or.inr ⟨h.1, by have q := h.2.1; omega⟩, h.2.2⟩) (fun r_16 w_16 n_16 h_16 hn_16 => ?_)
  obtain ⟨hrs, rfl, ew_16, en_16⟩ := h_16
  rw [ew_16, en_16]
  refine e_iload F dX3_handOn_19 rfl ?_
  refine e_callSS F u_X3_requireToldDegree (by rfl) (c_X3_requireToldDegree (g := g) hg) w_ml_RX3_98 dX3_handOn_21 (by rfl) (Nat.le_of_ble_eq_true rfl) (by decide) (by omega) (fun E w2 n2 h _ => ⟨Or.inr ⟨h.1, by have q := h.2.1; omega⟩, h.2.2⟩) (fun r_21 w_21 n_21 h_21 hn_21 => ?_)
  obtain ⟨hrd, rfl, ew_21, en_21⟩ := h_21
  rw [ew_21, en_21]
  refine e_aload F dX3_handOn_24 rfl ?_
  refine e_iload_n F dX3_handOn_26 rfl ?_
  refine e_callVN F u_X0_isEnough (by rfl) (c_X0_isEnough hD1 (set := u) (by omega) (by omega)) (by first | assumption | exact e_up_s | (rw [e_up_n (by first | assumption | omega)]; first | assumption | exact e_up_s | (rw [e_up_n (by first | assumption | omega)]; first | assumption | exact e_up_s | (rw [e_up_n (by first | assumption | omega)]; first | assumption | exact e_up_s))) | exact hD.1 | exact hD1.1 | exact hD2.1 | exact gD.1 | exact gD1.1 | exact gD2.1 | exact gQ.1 | exact hQ.1 | exact gS.1 | exact hS.1 | exact zD.1) rfl rfl w_mn_RX3_170 dX3_handOn_27 (by rfl) (Nat.le_of_ble_eq_true rfl) (by decide) (by omega) (fun _ _ _ h _ => False.elim h) (fun r_27 w_27 n_27 h_27 hn_27 => ?_)
  obtain ⟨rfl, ew_27, en_27⟩ := h_27
  rw [ew_27, en_27]
  refine e_if_ne F 36 dX3_handOn_30 (by decide) (b01_r _) (fun c_30 => ?_) (fun c_30 => ?_)
  ·
    rw [ne_eq, b01_0, Classical.not_not] at c_30
    refine e_aload_n F dX3_handOn_36 rfl ?_
    refine e_get (ci := 3) (fi := 1) (q := (RX3, TX3, 5)) F (by first | assumption | exact e_up_s | (rw [e_up_n (by first | assumption | omega)]; first | assumption | exact e_up_s | (rw [e_up_n (by first | assumption | omega)]; first | assumption | exact e_up_s | (rw [e_up_n (by first | assumption | omega)]; first | assumption | exact e_up_s))) | exact hD.1 | exact hD1.1 | exact hD2.1 | exact gD.1 | exact gD1.1 | exact gD2.1 | exact gQ.1 | exact hQ.1 | exact gS.1 | exact hS.1 | exact zD.1) rfl (by decide) w_fl_RX3_19 (by rfl) dX3_handOn_37 ?_
    obtain ⟨q0, ⟨qf, qf1, qf2⟩, ⟨qt, qt1⟩, qr⟩ := hQ
    refine e_callVN F u_X2_clear (by rfl) (c_X2_clear q0 qf1) q0 rfl rfl w_mn_RX3_173 dX3_handOn_40 (by rfl) (Nat.le_of_ble_eq_true rfl) (by decide) (by omega) (fun _ _ _ h _ => False.elim h) (fun r_40 w_40 n_40 h_40 hn_40 => ?_)
    obtain ⟨rfl, en_40, v0, ⟨vf, v1, v2⟩, vF⟩ := h_40
    rw [en_40]
    have vQ : PL w_40 (x + 2) (hoP wh u (D i.toNat).A g a b 0) := ⟨v0, ⟨vf, v1, fun j j0 j1 => by rw [v2 j j0 j1]; unfold hoP; split <;> rfl⟩, ⟨qt, by rw [vF _ (by omega)]; exact qt1⟩, fun j j0 j1 => by unfold hoP; split <;> (first | (show 0 ≤ (0 : Int) ∧ (0 : Int) < 1000003; decide))⟩
    have lp : ∀ (N k : Nat) (wl : e_W), 7 - k < N → ((k : Int) ≤ ho wh ∧ PL wl (x + 2) (hoP wh u (D i.toNat).A g a b k) ∧ PF w wl (x + 2)) → e_V K P9 l E9 (7) (4) S9 M9 A9 B9 T9 C9 12 (fun r w' n' => (((0 ≤ i ∧ i < 6) ∧ (0 ≤ t ∧ t < 6)) ∧ (1 ≤ u ∧ u ≤ fl wh) ∧ (0 ≤ g ∧ g ≤ 3)) ∧ r = some (.int (eI ((haQ wh D i.toNat u t.toNat g a b).1))) ∧ n' = n ∧ CW w' x wh (kn) ((haQ wh D i.toNat u t.toNat g a b).2) ∧ FR w w' x) (pxd w (¬ ((0 ≤ i ∧ i < 6) ∧ (0 ≤ t ∧ t < 6))) (((0 ≤ i ∧ i < 6) ∧ (0 ≤ t ∧ t < 6)) ∧ ¬ ((1 ≤ u ∧ u ≤ fl wh) ∧ (0 ≤ g ∧ g ≤ 3)))) 46 [(0, .ref x), (2, .int (eI u)), (4, .int (eI g)), (5, .int (eI a)), (6, .int (eI b)), (7, .ref (x + 6 + 3 * i.toNat)), (8, .ref (x + 6 + 3 * t.toNat)), (9, .int (eI ((k : Int) + 1)))] [] wl n ((0 + 1 + 1 + 1 + 1 + 0 + 0)) := by
      intro N
      induction N with
      | zero => intro k wl hN; exact absurd hN (Nat.not_lt_zero _)
      | succ N ih =>
        intro k wl hN ⟨hk, gQ, gF⟩
        have hres := hC0.px ⟨⟨_, gQ⟩, gF⟩
        have gX := hres.1.1
        have gFO := hres.1.2.1
        have gD1 := (hres.1.2.2.2.2.2.1 i.toNat (by omega)).1
        have l154 : (k : Int) < ho wh → ∀ wl2 : e_W, PL wl2 (x + 2) (hoP wh u (D i.toNat).A g a b (k + 1)) → PF w wl2 (x + 2) → e_V K P9 l E9 (7) (4) S9 M9 A9 B9 T9 C9 12 (fun r w' n' => (((0 ≤ i ∧ i < 6) ∧ (0 ≤ t ∧ t < 6)) ∧ (1 ≤ u ∧ u ≤ fl wh) ∧ (0 ≤ g ∧ g ≤ 3)) ∧ r = some (.int (eI ((haQ wh D i.toNat u t.toNat g a b).1))) ∧ n' = n ∧ CW w' x wh (kn) ((haQ wh D i.toNat u t.toNat g a b).2) ∧ FR w w' x) (pxd w (¬ ((0 ≤ i ∧ i < 6) ∧ (0 ≤ t ∧ t < 6))) (((0 ≤ i ∧ i < 6) ∧ (0 ≤ t ∧ t < 6)) ∧ ¬ ((1 ≤ u ∧ u ≤ fl wh) ∧ (0 ≤ g ∧ g ≤ 3)))) 154 [(0, .ref x), (2, .int (eI u)), (4, .int (eI g)), (5, .int (eI a)), (6, .int (eI b)), (7, .ref (x + 6 + 3 * i.toNat)), (8, .ref (x + 6 + 3 * t.toNat)), (9, .int (eI ((k : Int) + 1)))] [] wl2 n ((0 + 1 + 1 + 1 + 1 + 0 + 0)) := by
          intro hk2 wl2 zQ zF
          refine e_iinc F dX3_handOn_154 rfl (by decide) ?_
          refine e_goto F 46 dX3_handOn_157 (by decide) ?_
          exact e_go (ih (k + 1) wl2 (by omega) ⟨by omega, zQ, zF⟩) (And.intro rfl (And.intro rfl (And.intro rfl (And.intro rfl (And.intro rfl (And.intro rfl (And.intro rfl (And.intro rfl (trivial)))))))))
        have hwg : 0 ≤ (wgt wh u ((k : Int) + 1) 0) ∧ (wgt wh u ((k : Int) + 1) 0) < pr wh := emod_rg _ hwh
        have lq : hs u ((k : Int) + 1) → (k : Int) < ho wh → ∀ (N2 : Nat) (j : Int) (wl2 : e_W), (8 - j).toNat < N2 → (1 ≤ j ∧ j ≤ g + 1 ∧ PL wl2 (x + 2) (fun c => if c < j then hoP wh u (D i.toNat).A g a b (k + 1) c else hoP wh u (D i.toNat).A g a b k c) ∧ PF w wl2 (x + 2)) → e_V K P9 l E9 (7) (4) S9 M9 A9 B9 T9 C9 12 (fun r w' n' => (((0 ≤ i ∧ i < 6) ∧ (0 ≤ t ∧ t < 6)) ∧ (1 ≤ u ∧ u ≤ fl wh) ∧ (0 ≤ g ∧ g ≤ 3)) ∧ r = some (.int (eI ((haQ wh D i.toNat u t.toNat g a b).1))) ∧ n' = n ∧ CW w' x wh (kn) ((haQ wh D i.toNat u t.toNat g a b).2) ∧ FR w w' x) (pxd w (¬ ((0 ≤ i ∧ i < 6) ∧ (0 ≤ t ∧ t < 6))) (((0 ≤ i ∧ i < 6) ∧ (0 ≤ t ∧ t < 6)) ∧ ¬ ((1 ≤ u ∧ u ≤ fl wh) ∧ (0 ≤ g ∧ g ≤ 3)))) 104 [(0, .ref x), (2, .int (eI u)), (4, .int (eI g)), (5, .int (eI a)), (6, .int (eI b)), (7, .ref (x + 6 + 3 * i.toNat)), (8, .ref (x + 6 + 3 * t.toNat)), (9, .int (eI ((k : Int) + 1))), (10, .int (eI (wgt wh u ((k : Int) + 1) 0))), (11, .int (eI j))] [] wl2 n ((0 + 1 + 1 + 1 + 1 + 0 + 0)) := by
          intro hmem hk2 N2
          induction N2 with
          | zero => intro j wl2 hN2; exact absurd hN2 (Nat.not_lt_zero _)
          | succ N2 ih2 =>
            intro j wl2 hN2 ⟨k1, k2, zQ, zF⟩
            have hres2 := hC0.px ⟨⟨_, zQ⟩, zF⟩
            have yX := hres2.1.1
            have yFO := hres2.1.2.1
            have b1 := mul7_rg (a := a) (h := (k : Int) + 1) ha (by omega) (by omega)
            have b2 := mul7_rg (a := b) (h := j) hb (by omega) (by omega)
            have hu := emod_rg (a * ((k : Int) + 1) + b * j) hwh
            refine e_iload F dX3_handOn_104 rfl ?_
            refine e_iload F dX3_handOn_106 rfl ?_
            refine e_icmp_gt F 154 dX3_handOn_108 (by decide) (⟨by omega, by omega⟩) (⟨by omega, by omega⟩) (fun c_108 => ?_) (fun c_108 => ?_)
            · obtain rfl : j = g + 1 := by omega
              exact e_go (l154 hk2 wl2 (zQ.to (fun c c0 c1 => by
                try dsimp only
                by_cases e8 : c < g + 1
                · rw [if_pos e8]
                · rw [if_neg e8]
                  unfold hoP
                  rw [if_neg (show ¬ c ≤ g by omega), if_neg (show ¬ c ≤ g by omega)])) zF) (And.intro rfl (And.intro rfl (And.intro rfl (And.intro rfl (And.intro rfl (And.intro rfl (And.intro rfl (And.intro rfl (trivial)))))))))
            · refine e_aload_n F dX3_handOn_111 rfl ?_
              refine e_get (ci := 3) (fi := 1) (q := (RX3, TX3, 5)) F (by first | assumption | exact e_up_s | (rw [e_up_n (by first | assumption | omega)]; first | assumption | exact e_up_s | (rw [e_up_n (by first | assumption | omega)]; first | assumption | exact e_up_s | (rw [e_up_n (by first | assumption | omega)]; first | assumption | exact e_up_s))) | exact hD.1 | exact hD1.1 | exact hD2.1 | exact gD.1 | exact gD1.1 | exact gD2.1 | exact gQ.1 | exact hQ.1 | exact gS.1 | exact hS.1 | exact zD.1) rfl (by decide) w_fl_RX3_19 (by rfl) dX3_handOn_112 ?_
              refine e_aload_n F dX3_handOn_115 rfl ?_
              refine e_get (ci := 3) (fi := 0) (q := (RX3, TX3, 5)) F (by first | assumption | exact e_up_s | (rw [e_up_n (by first | assumption | omega)]; first | assumption | exact e_up_s | (rw [e_up_n (by first | assumption | omega)]; first | assumption | exact e_up_s | (rw [e_up_n (by first | assumption | omega)]; first | assumption | exact e_up_s))) | exact hD.1 | exact hD1.1 | exact hD2.1 | exact gD.1 | exact gD1.1 | exact gD2.1 | exact gQ.1 | exact hQ.1 | exact gS.1 | exact hS.1 | exact zD.1) rfl (by decide) w_fl_RX3_10 (by rfl) dX3_handOn_116 ?_
              refine e_iload F dX3_handOn_119 rfl ?_
              refine e_iload F dX3_handOn_121 rfl ?_
              refine e_aload_n F dX3_handOn_123 rfl ?_
              refine e_get (ci := 3) (fi := 0) (q := (RX3, TX3, 5)) F (by first | assumption | exact e_up_s | (rw [e_up_n (by first | assumption | omega)]; first | assumption | exact e_up_s | (rw [e_up_n (by first | assumption | omega)]; first | assumption | exact e_up_s | (rw [e_up_n (by first | assumption | omega)]; first | assumption | exact e_up_s))) | exact hD.1 | exact hD1.1 | exact hD2.1 | exact gD.1 | exact gD1.1 | exact gD2.1 | exact gQ.1 | exact hQ.1 | exact gS.1 | exact hS.1 | exact zD.1) rfl (by decide) w_fl_RX3_10 (by rfl) dX3_handOn_124 ?_
              refine e_iload F dX3_handOn_127 rfl ?_
              refine e_i2l F dX3_handOn_129 (⟨by omega, by omega⟩) ?_
              refine e_iload F dX3_handOn_130 rfl ?_
              refine e_i2l F dX3_handOn_132 (⟨by omega, by omega⟩) ?_
              refine e_lmul F dX3_handOn_133 ?_
              refine e_iload F dX3_handOn_134 rfl ?_
              refine e_i2l F dX3_handOn_136 (⟨by omega, by omega⟩) ?_
              refine e_iload F dX3_handOn_137 rfl ?_
              refine e_i2l F dX3_handOn_139 (⟨by omega, by omega⟩) ?_
              refine e_lmul F dX3_handOn_140 ?_
              refine e_ladd F dX3_handOn_141 ?_
              refine e_callVN F u_X1_modPrime (by rfl) (c_X1_modPrime yFO hwh (by constructor <;> omega)) (by first | assumption | exact e_up_s | (rw [e_up_n (by first | assumption | omega)]; first | assumption | exact e_up_s | (rw [e_up_n (by first | assumption | omega)]; first | assumption | exact e_up_s | (rw [e_up_n (by first | assumption | omega)]; first | assumption | exact e_up_s))) | exact hD.1 | exact hD1.1 | exact hD2.1 | exact gD.1 | exact gD1.1 | exact gD2.1 | exact gQ.1 | exact hQ.1 | exact gS.1 | exact hS.1 | exact zD.1) rfl rfl w_mn_RX3_59 dX3_handOn_142 (by rfl) (Nat.le_of_ble_eq_true rfl) (by decide) (by omega) (fun _ _ _ h _ => False.elim h) (fun r_142 w_142 n_142 h_142 hn_142 => ?_)
              obtain ⟨rfl, ew_142, en_142⟩ := h_142
              rw [ew_142, en_142]
              refine e_callVN F u_X2_addTo (by rfl) (c_X2_addTo zQ yFO hwh (h := j) (v := (wgt wh u ((k : Int) + 1) 0)) (u := (a * ((k : Int) + 1) + b * j) % pr wh) (by omega) (by omega) (by omega) ⟨by omega, by omega⟩) zQ.1 rfl rfl w_mn_RX3_174 dX3_handOn_145 (by rfl) (Nat.le_of_ble_eq_true rfl) (by decide) (by omega) (fun _ _ _ h _ => False.elim h) (fun r_145 w_145 n_145 h_145 hn_145 => ?_)
              
              refine e_iinc F dX3_handOn_148 rfl (by decide) ?_
              refine e_goto F 104 dX3_handOn_151 (by decide) ?_
              obtain ⟨rfl, en_145, vQ, vF⟩ := h_145
              rw [en_145]
              refine e_go (ih2 (j + 1) w_145 (by omega) ⟨by omega, by omega, vQ.to (fun c c0 c1 => ?_), fun q a1 a2 => by rw [vF q a1 a2, zF q a1 a2]⟩) (And.intro rfl (And.intro rfl (And.intro rfl (And.intro rfl (And.intro rfl (And.intro rfl (And.intro rfl (And.intro rfl (And.intro rfl (And.intro rfl (trivial)))))))))))
              unfold e_fu
              try dsimp only
              by_cases e9 : c = j
              · rw [if_pos e9, if_neg (show ¬ j < j by omega), if_pos (show c < j + 1 by omega), e9, hoP_yes hmem (by omega), if_neg (show ¬ j = 0 by omega)]
              · rw [if_neg e9]
                by_cases e8 : c < j
                · rw [if_pos e8, if_pos (show c < j + 1 by omega)]
                · rw [if_neg e8, if_neg (show ¬ c < j + 1 by omega)]
        refine e_iload F dX3_handOn_46 rfl ?_
        refine e_aload_n F dX3_handOn_48 rfl ?_
        refine e_get (ci := 3) (fi := 0) (q := (RX3, TX3, 5)) F (by first | assumption | exact e_up_s | (rw [e_up_n (by first | assumption | omega)]; first | assumption | exact e_up_s | (rw [e_up_n (by first | assumption | omega)]; first | assumption | exact e_up_s | (rw [e_up_n (by first | assumption | omega)]; first | assumption | exact e_up_s))) | exact hD.1 | exact hD1.1 | exact hD2.1 | exact gD.1 | exact gD1.1 | exact gD2.1 | exact gQ.1 | exact hQ.1 | exact gS.1 | exact hS.1 | exact zD.1) rfl (by decide) w_fl_RX3_10 (by rfl) dX3_handOn_49 ?_
        refine e_getN (ci := 1) (fi := 4) (q := (RX1, TX1, 5)) F (by first | assumption | exact e_up_s | (rw [e_up_n (by first | assumption | omega)]; first | assumption | exact e_up_s | (rw [e_up_n (by first | assumption | omega)]; first | assumption | exact e_up_s | (rw [e_up_n (by first | assumption | omega)]; first | assumption | exact e_up_s))) | exact hD.1 | exact hD1.1 | exact hD2.1 | exact gD.1 | exact gD1.1 | exact gD2.1 | exact gQ.1 | exact hQ.1 | exact gS.1 | exact hS.1 | exact zD.1) rfl (by decide) w_fn_RX3_116 (by rfl) dX3_handOn_52 ?_
        refine e_icmp_gt F 160 dX3_handOn_55 (by decide) (⟨by omega, by omega⟩) (⟨by omega, by omega⟩) (fun c_55 => ?_) (fun c_55 => ?_)
        ·
          obtain rfl : k = (ho wh).toNat := by omega
          refine e_aload_n F dX3_handOn_160 rfl ?_
          refine e_aload F dX3_handOn_161 rfl ?_
          refine e_iload F dX3_handOn_163 rfl ?_
          refine e_callVV F u_X3_layPoly (by rfl) (c_X3_layPoly gX gFO hwh gQ (hres.1.2.2.2.2.2.1 t.toNat (by omega)).1 (by omega) (g := g) (by omega)) gX rfl rfl w_ml_RX3_105 dX3_handOn_165 (by rfl) (Nat.le_of_ble_eq_true rfl) (by decide) (by omega) (fun _ _ _ h _ => False.elim h) (fun r_165 w_165 n_165 h_165 hn_165 => ?_)
          obtain ⟨rfl, en_165, yD, yF⟩ := h_165
          rw [en_165]
          have hr2 := hres.1.deal (by omega) (s := lpS wh g (hoP wh u (D i.toNat).A g a b (ho wh).toNat)) yD (lpS_SW hwh g _) yF
          refine e_iret F rfl (by omega) ?_ dX3_handOn_168
          refine ⟨⟨⟨hi1, hi2⟩, hrs, hrd⟩, ?_⟩
          unfold haQ
          rw [if_pos c_30]
          exact ⟨rfl, rfl, hr2.1, hres.2.tr hr2.2⟩
        · refine e_iload_n F dX3_handOn_58 rfl ?_
          refine e_iload F dX3_handOn_59 rfl ?_
          refine e_callSS F u_X3_isIn (by rfl) (c_X3_isIn (set := u) (h := (k : Int) + 1) (by omega) (by omega) (by omega) (by omega)) w_ml_RX3_83 dX3_handOn_61 (by rfl) (Nat.le_of_ble_eq_true rfl) (by decide) (by omega) (fun _ _ _ h _ => False.elim h) (fun r_61 w_61 n_61 h_61 hn_61 => ?_)
          obtain ⟨rfl, ew_61, en_61⟩ := h_61
          rw [ew_61, en_61]
          refine e_if_eq F 154 dX3_handOn_64 (by decide) (b01_r _) (fun c_64 => ?_) (fun c_64 => ?_)
          ·
            rw [b01_0] at c_64
            exact e_go (l154 (by omega) wl (by rw [hoP_no c_64]; exact gQ) gF) (And.intro rfl (And.intro rfl (And.intro rfl (And.intro rfl (And.intro rfl (And.intro rfl (And.intro rfl (And.intro rfl (trivial)))))))))
          ·
            rw [b01_0, Classical.not_not] at c_64
            refine e_aload_n F dX3_handOn_67 rfl ?_
            refine e_get (ci := 3) (fi := 0) (q := (RX3, TX3, 5)) F (by first | assumption | exact e_up_s | (rw [e_up_n (by first | assumption | omega)]; first | assumption | exact e_up_s | (rw [e_up_n (by first | assumption | omega)]; first | assumption | exact e_up_s | (rw [e_up_n (by first | assumption | omega)]; first | assumption | exact e_up_s))) | exact hD.1 | exact hD1.1 | exact hD2.1 | exact gD.1 | exact gD1.1 | exact gD2.1 | exact gQ.1 | exact hQ.1 | exact gS.1 | exact hS.1 | exact zD.1) rfl (by decide) w_fl_RX3_10 (by rfl) dX3_handOn_68 ?_
            refine e_iload_n F dX3_handOn_71 rfl ?_
            refine e_iload F dX3_handOn_72 rfl ?_
            refine e_iconst F dX3_handOn_74 ?_
            refine e_callVN F u_X1_weightAt (by rfl) (c_X1_weightAt gFO hwh (set := u) (h := (k : Int) + 1) (x := 0) (by omega) (by omega) (by omega) (by omega) (by decide)) (by first | assumption | exact e_up_s | (rw [e_up_n (by first | assumption | omega)]; first | assumption | exact e_up_s | (rw [e_up_n (by first | assumption | omega)]; first | assumption | exact e_up_s | (rw [e_up_n (by first | assumption | omega)]; first | assumption | exact e_up_s))) | exact hD.1 | exact hD1.1 | exact hD2.1 | exact gD.1 | exact gD1.1 | exact gD2.1 | exact gQ.1 | exact hQ.1 | exact gS.1 | exact hS.1 | exact zD.1) rfl rfl w_mn_RX3_87 dX3_handOn_75 (by rfl) (Nat.le_of_ble_eq_true rfl) (by decide) (by omega) (fun _ _ _ h _ => False.elim h) (fun r_75 w_75 n_75 h_75 hn_75 => ?_)
            obtain ⟨rfl, ew_75, en_75⟩ := h_75
            rw [ew_75, en_75]
            refine e_istore F dX3_handOn_78 (by decide) ?_
            refine e_aload_n F dX3_handOn_80 rfl ?_
            refine e_get (ci := 3) (fi := 1) (q := (RX3, TX3, 5)) F (by first | assumption | exact e_up_s | (rw [e_up_n (by first | assumption | omega)]; first | assumption | exact e_up_s | (rw [e_up_n (by first | assumption | omega)]; first | assumption | exact e_up_s | (rw [e_up_n (by first | assumption | omega)]; first | assumption | exact e_up_s))) | exact hD.1 | exact hD1.1 | exact hD2.1 | exact gD.1 | exact gD1.1 | exact gD2.1 | exact gQ.1 | exact hQ.1 | exact gS.1 | exact hS.1 | exact zD.1) rfl (by decide) w_fl_RX3_19 (by rfl) dX3_handOn_81 ?_
            refine e_aload_n F dX3_handOn_84 rfl ?_
            refine e_get (ci := 3) (fi := 0) (q := (RX3, TX3, 5)) F (by first | assumption | exact e_up_s | (rw [e_up_n (by first | assumption | omega)]; first | assumption | exact e_up_s | (rw [e_up_n (by first | assumption | omega)]; first | assumption | exact e_up_s | (rw [e_up_n (by first | assumption | omega)]; first | assumption | exact e_up_s))) | exact hD.1 | exact hD1.1 | exact hD2.1 | exact gD.1 | exact gD1.1 | exact gD2.1 | exact gQ.1 | exact hQ.1 | exact gS.1 | exact hS.1 | exact zD.1) rfl (by decide) w_fl_RX3_10 (by rfl) dX3_handOn_85 ?_
            refine e_iconst F dX3_handOn_88 ?_
            refine e_iload F dX3_handOn_89 rfl ?_
            refine e_aload F dX3_handOn_91 rfl ?_
            refine e_iload F dX3_handOn_93 rfl ?_
            refine e_callVN F u_X0_shareAt (by rfl) (c_X0_shareAt gD1 (h := (k : Int) + 1) (by omega) (by omega)) gD1.1 rfl rfl w_mn_RX3_123 dX3_handOn_95 (by rfl) (Nat.le_of_ble_eq_true rfl) (by decide) (by omega) (fun _ _ _ h _ => False.elim h) (fun r_95 w_95 n_95 h_95 hn_95 => ?_)
            obtain ⟨rfl, ew_95, en_95⟩ := h_95
            rw [ew_95, en_95]
            have ra := gD1.2.2.2.2.2.2.1 ((k : Int) + 1) (by omega) (by omega)
            refine e_callVN F u_X2_addTo (by rfl) (c_X2_addTo gQ gFO hwh (h := 0) (v := (wgt wh u ((k : Int) + 1) 0)) (u := (D i.toNat).A ((k : Int) + 1)) (by omega) (by omega) (by omega) ⟨by omega, by omega⟩) gQ.1 rfl rfl w_mn_RX3_174 dX3_handOn_98 (by rfl) (Nat.le_of_ble_eq_true rfl) (by decide) (by omega) (fun _ _ _ h _ => False.elim h) (fun r_98 w_98 n_98 h_98 hn_98 => ?_)
            obtain ⟨rfl, en_98, vQ, vF⟩ := h_98
            rw [en_98]
            refine e_iconst F dX3_handOn_101 ?_
            refine e_istore F dX3_handOn_102 (by decide) ?_
            refine e_go (lq c_64 (by omega) 9 1 w_98 (by omega) ⟨by omega, by omega, vQ.to (fun c c0 c1 => ?_), fun q a1 a2 => by rw [vF q a1 a2, gF q a1 a2]⟩) (And.intro rfl (And.intro rfl (And.intro rfl (And.intro rfl (And.intro rfl (And.intro rfl (And.intro rfl (And.intro rfl (And.intro rfl (And.intro rfl (trivial)))))))))))
            unfold e_fu
            try dsimp only
            by_cases e9 : c = 0
            · rw [if_pos e9, if_pos (show c < 1 by omega), e9, hoP_yes c_64 (by omega), if_pos rfl]
            · rw [if_neg e9, if_neg (show ¬ c < 1 by omega)]
    refine e_iconst F dX3_handOn_43 ?_
    refine e_istore F dX3_handOn_44 (by decide) ?_
    exact e_go (lp 8 0 w_40 (by omega) ⟨by omega, vQ, fun q a1 _ => vF q a1⟩) (And.intro rfl (And.intro rfl (And.intro rfl (And.intro rfl (And.intro rfl (And.intro rfl (And.intro rfl (And.intro rfl (trivial)))))))))
  ·
    rw [b01_0] at c_30
    refine e_bipush F dX3_handOn_33 (by decide) ?_
    refine e_iret F rfl (by omega) ?_ dX3_handOn_35
    refine ⟨⟨⟨hi1, hi2⟩, hrs, hrd⟩, ?_⟩
    unfold haQ
    rw [if_neg c_30]
    exact ⟨rfl, rfl, hC0, FR.rf⟩
end
-- 29.prime.lean.txt
section
set_option maxHeartbeats 4000000 in
set_option maxRecDepth 100000 in
theorem c_X3_prime {K : e_K} {l : Launch} {w : e_W} {n : Nat} {x wh : Nat} {kn : Int} {D : Nat → SD} (hC : CW w x wh kn D) {a : Int} (ha : e_r a) : e_Met K l yX3_prime (Cond.code yX3_prime cX3_prime 4 (Option.some .int) :: e_TB) (7) (1) [.ref x, .int (eI a)] w n (fun r w' n' => (0 ≤ a ∧ a < 7) ∧ r = some (.int (eI (pr wh))) ∧ n' = n ∧ CW w' x a.toNat (kn) (fun _ => SD0) ∧ FR w w' x) (pxd w False (¬ (0 ≤ a ∧ a < 7))) := by
  refine e_ofV rfl (Nat.le_of_ble_eq_true rfl) ?_
  intro P9 E9 S9 M9 A9 B9 T9 C9 F hnm
  have hC0 := hC
  have hDA := hC.2.2.2.2.1
  obtain ⟨hX, hF, hwh, ⟨P0, hQ⟩, ⟨ga, hga, hgj⟩, hDs, s0, hS⟩ := hC
  have hp := pr_rg wh hwh
  have ho9 := ho_rg wh hwh
  have hg9 := gr_rg wh hwh
  have hf9 := fl_rg wh hwh
  refine e_iload_n F dX3_prime_0 rfl ?_
  refine e_if_lt F 12 dX3_prime_1 (by decide) (ha) (fun c_1 => ?_) (fun c_1 => ?_)
  · exact e_throwS (text := "no such prime") F (by decide +kernel) w_cl_RX3_42 w_in_java_lang_IllegalArgumentException (by decide +kernel) hat_ia hgood_ia dX3_prime_12 dX3_prime_15 dX3_prime_16 dX3_prime_18 dX3_prime_21 (Nat.le_of_ble_eq_true rfl) (by decide) (by omega) (fun n2 hn2 => ⟨Or.inr ⟨rfl, by omega⟩, rfl⟩)
  · refine e_iload_n F dX3_prime_4 rfl ?_
    refine e_gets F (i := 0) rfl w_fl_RX3_38 dX3_prime_5 ?_
    refine e_alenS F (i := 0) (by decide) dX3_prime_8 ?_
    refine e_icmp_lt F 22 dX3_prime_9 (by decide) (ha) (⟨by omega, by omega⟩) (fun c_9 => ?_) (fun c_9 => ?_)
    · have hlo : 0 ≤ a := by omega
      have hhi : a < 7 := by omega
      have ha9 : ((a.toNat : Nat) : Int) = a := by omega
      refine e_aload_n F dX3_prime_22 rfl ?_
      refine e_get (ci := 3) (fi := 0) (q := (RX3, TX3, 5)) F (by first | assumption | exact e_up_s | (rw [e_up_n (by first | assumption | omega)]; first | assumption | exact e_up_s | (rw [e_up_n (by first | assumption | omega)]; first | assumption | exact e_up_s | (rw [e_up_n (by first | assumption | omega)]; first | assumption | exact e_up_s))) | exact hD.1 | exact hD1.1 | exact hD2.1 | exact gD.1 | exact gD1.1 | exact gD2.1 | exact gQ.1 | exact hQ.1 | exact gS.1 | exact hS.1 | exact zD.1) rfl (by decide) w_fl_RX3_10 (by rfl) dX3_prime_23 ?_
      refine e_getN (ci := 1) (fi := 1) (q := (RX1, TX1, 5)) F (by first | assumption | exact e_up_s | (rw [e_up_n (by first | assumption | omega)]; first | assumption | exact e_up_s | (rw [e_up_n (by first | assumption | omega)]; first | assumption | exact e_up_s | (rw [e_up_n (by first | assumption | omega)]; first | assumption | exact e_up_s))) | exact hD.1 | exact hD1.1 | exact hD2.1 | exact gD.1 | exact gD1.1 | exact gD2.1 | exact gQ.1 | exact hQ.1 | exact gS.1 | exact hS.1 | exact zD.1) rfl (by decide) w_fn_RX3_49 (by rfl) dX3_prime_26 ?_
      refine e_istore_n F dX3_prime_29 (by decide) ?_
      refine e_aload_n F dX3_prime_30 rfl ?_
      refine e_get (ci := 3) (fi := 0) (q := (RX3, TX3, 5)) F (by first | assumption | exact e_up_s | (rw [e_up_n (by first | assumption | omega)]; first | assumption | exact e_up_s | (rw [e_up_n (by first | assumption | omega)]; first | assumption | exact e_up_s | (rw [e_up_n (by first | assumption | omega)]; first | assumption | exact e_up_s))) | exact hD.1 | exact hD1.1 | exact hD2.1 | exact gD.1 | exact gD1.1 | exact gD2.1 | exact gQ.1 | exact hQ.1 | exact gS.1 | exact hS.1 | exact zD.1) rfl (by decide) w_fl_RX3_10 (by rfl) dX3_prime_31 ?_
      refine e_iload_n F dX3_prime_34 rfl ?_
      have h9 := c_X1_choose (K := K) (l := l) (w := w) (n := n) (wh := a.toNat) hF (by omega)
      rw [ha9] at h9
      refine e_callVN F u_X1_choose (by rfl) (h9) (by first | assumption | exact e_up_s | (rw [e_up_n (by first | assumption | omega)]; first | assumption | exact e_up_s | (rw [e_up_n (by first | assumption | omega)]; first | assumption | exact e_up_s | (rw [e_up_n (by first | assumption | omega)]; first | assumption | exact e_up_s))) | exact hD.1 | exact hD1.1 | exact hD2.1 | exact gD.1 | exact gD1.1 | exact gD2.1 | exact gQ.1 | exact hQ.1 | exact gS.1 | exact hS.1 | exact zD.1) rfl rfl w_mn_RX3_52 dX3_prime_35 (by rfl) (Nat.le_of_ble_eq_true rfl) (by decide) (by omega) (fun _ _ _ h _ => False.elim h) (fun r_35 w_35 n_35 h_35 hn_35 => ?_)
      obtain ⟨rfl, f1, fF, en_35⟩ := h_35
      rw [en_35]
      have lp : ∀ (N : Nat) (k : Nat) (wl : e_W), (6 - k) < N → (k ≤ 6 ∧ wl (x + 1) = some (FO a.toNat) ∧ (∀ q, q ≠ x + 1 → (q < x + 6 ∨ x + 24 ≤ q) → wl q = w q) ∧ ∀ j : Nat, j < 6 → DS wl (x + 6 + 3 * j) (if j < k then SD0 else D j)) → e_V K P9 l E9 (7) (1) S9 M9 A9 B9 T9 C9 4 (fun r w' n' => (0 ≤ a ∧ a < 7) ∧ r = some (.int (eI (pr wh))) ∧ n' = n ∧ CW w' x a.toNat (kn) (fun _ => SD0) ∧ FR w w' x) (pxd w False (¬ (0 ≤ a ∧ a < 7))) 40 [(0, .ref x), (2, .int (eI (pr wh))), (3, .int (eI (k : Int)))] [] wl n ((0 + 0)) := by
        intro N
        induction N with
        | zero => intro k wl hN; exact absurd hN (Nat.not_lt_zero _)
        | succ N ih =>
          intro k wl hN ⟨hk, g1, gF, gD⟩
          have hga2 : wl (x + 5) = some (.inr (9, 6, ga)) := by rw [gF _ (by omega) (by omega)]; exact hga
          have gX : wl x = some (SO x kn) := by rw [gF _ (by omega) (by omega)]; exact hX
          refine e_iload_n F dX3_prime_40 rfl ?_
          refine e_aload_n F dX3_prime_41 rfl ?_
          refine e_get (ci := 3) (fi := 2) (q := (RX3, TX3, 5)) F (by first | assumption | exact e_up_s | (rw [e_up_n (by first | assumption | omega)]; first | assumption | exact e_up_s | (rw [e_up_n (by first | assumption | omega)]; first | assumption | exact e_up_s | (rw [e_up_n (by first | assumption | omega)]; first | assumption | exact e_up_s))) | exact hD.1 | exact hD1.1 | exact hD2.1 | exact gD.1 | exact gD1.1 | exact gD2.1 | exact gQ.1 | exact hQ.1 | exact gS.1 | exact hS.1 | exact zD.1) rfl (by decide) w_fl_RX3_25 (by rfl) dX3_prime_42 ?_
          refine e_alen9 F (by first | assumption | exact e_up_s | (rw [e_up_n (by first | assumption | omega)]; first | assumption | exact e_up_s | (rw [e_up_n (by first | assumption | omega)]; first | assumption | exact e_up_s | (rw [e_up_n (by first | assumption | omega)]; first | assumption | exact e_up_s))) | exact hD.1 | exact hD1.1 | exact hD2.1 | exact gD.1 | exact gD1.1 | exact gD2.1 | exact gQ.1 | exact hQ.1 | exact gS.1 | exact hS.1 | exact zD.1) dX3_prime_45 ?_
          refine e_icmp_ge F 64 dX3_prime_46 (by decide) (⟨by omega, by omega⟩) (⟨by omega, by omega⟩) (fun c_46 => ?_) (fun c_46 => ?_)
          ·
            obtain rfl : k = 6 := by omega
            refine e_iload_n F dX3_prime_64 rfl ?_
            refine e_iret F rfl (by omega) ?_ dX3_prime_65
            refine ⟨⟨hlo, hhi⟩, rfl, rfl, ⟨gX, g1, by omega, ⟨P0, hQ.fr (gF _ (by omega) (by omega)) (gF _ (by omega) (by omega)) (gF _ (by omega) (by omega))⟩, ⟨ga, hga2, hgj⟩, fun j hj => ⟨?_, SD0_SW _⟩, s0, hS.fr (gF _ (by omega) (by omega)) (gF _ (by omega) (by omega)) (gF _ (by omega) (by omega))⟩, fun q hq => gF q (by omega) (by omega)⟩
            have h9 := gD j hj
            rw [if_pos hj] at h9
            exact h9
          · refine e_aload_n F dX3_prime_49 rfl ?_
            refine e_get (ci := 3) (fi := 2) (q := (RX3, TX3, 5)) F (by first | assumption | exact e_up_s | (rw [e_up_n (by first | assumption | omega)]; first | assumption | exact e_up_s | (rw [e_up_n (by first | assumption | omega)]; first | assumption | exact e_up_s | (rw [e_up_n (by first | assumption | omega)]; first | assumption | exact e_up_s))) | exact hD.1 | exact hD1.1 | exact hD2.1 | exact gD.1 | exact gD1.1 | exact gD2.1 | exact gQ.1 | exact hQ.1 | exact gS.1 | exact hS.1 | exact zD.1) rfl (by decide) w_fl_RX3_25 (by rfl) dX3_prime_50 ?_
            refine e_iload_n F dX3_prime_53 rfl ?_
            refine e_aald9 F hga2 (by omega) (by omega) (by decide) (hgj k (by omega)) dX3_prime_54 ?_
            have hDk := gD k (by omega)
            rw [if_neg (Nat.lt_irrefl k)] at hDk
            obtain ⟨qf, qf1, qf2⟩ := hDk.2.1
            refine e_callVN F u_X0_clear (by rfl) (c_X0_clear hDk.1 qf1) hDk.1 rfl rfl w_mn_RX3_56 dX3_prime_55 (by rfl) (Nat.le_of_ble_eq_true rfl) (by decide) (by omega) (fun _ _ _ h _ => False.elim h) (fun r_55 w_55 n_55 h_55 hn_55 => ?_)
            
            refine e_iinc F dX3_prime_58 rfl (by decide) ?_
            refine e_goto F 40 dX3_prime_61 (by decide) ?_
            obtain ⟨rfl, en_55, z0, z1, zF⟩ := h_55
            rw [en_55]
            refine e_go (ih (k + 1) w_55 (by omega) ⟨by omega, by rw [zF _ (by omega) (by omega)]; exact g1, fun q a1 a2 => by rw [zF q (by omega) (by omega)]; exact gF q a1 a2, fun j hj => ?_⟩) (And.intro rfl (And.intro rfl (And.intro rfl (trivial))))
            by_cases e9 : j = k
            · subst e9
              rw [if_pos (Nat.lt_succ_self j)]
              exact clearD (gD j hj) z0 z1 zF
            · have h9 := gD j hj
              by_cases e8 : j < k
              · rw [if_pos e8] at h9
                rw [if_pos (by omega)]
                exact h9.fr (zF _ (by omega) (by omega)) (zF _ (by omega) (by omega)) (zF _ (by omega) (by omega))
              · rw [if_neg e8] at h9
                rw [if_neg (by omega)]
                exact h9.fr (zF _ (by omega) (by omega)) (zF _ (by omega) (by omega)) (zF _ (by omega) (by omega))
      refine e_iconst F dX3_prime_38 ?_
      refine e_istore_n F dX3_prime_39 (by decide) ?_
      exact e_go (lp 7 0 w_35 (by omega) ⟨by omega, f1, fun q a1 _ => fF q a1, fun j hj => by rw [if_neg (Nat.not_lt_zero j)]; exact (hDs j hj).1.fr (fF _ (by omega)) (fF _ (by omega)) (fF _ (by omega))⟩) (And.intro rfl (And.intro rfl (And.intro rfl (trivial))))
    · exact e_throwS (text := "no such prime") F (by decide +kernel) w_cl_RX3_42 w_in_java_lang_IllegalArgumentException (by decide +kernel) hat_ia hgood_ia dX3_prime_12 dX3_prime_15 dX3_prime_16 dX3_prime_18 dX3_prime_21 (Nat.le_of_ble_eq_true rfl) (by decide) (by omega) (fun n2 hn2 => ⟨Or.inr ⟨rfl, by omega⟩, rfl⟩)
end
-- 30.asks.lean.txt
section
/-! Secretshares: what is asked of all -/
set_option maxHeartbeats 4000000 in
set_option maxRecDepth 100000 in
theorem c_X3_ofDeal {K : e_K} {l : Launch} {w : e_W} {n : Nat} {x wh : Nat} {kn : Int} {D : Nat → SD} (hC : CW w x wh kn D) {i9 : Int} (hi9 : e_r i9) {c9 : Int} (hc9 : e_r c9) : e_Met K l yX3_ofDeal (Cond.code yX3_ofDeal cX3_ofDeal 5 (Option.some .int) :: e_TB) (7) (2) [.ref x, .int (eI i9), .int (eI c9)] w n (fun r w' n' => ((0 ≤ i9 ∧ i9 < 6) ∧ (0 ≤ c9 ∧ c9 ≤ 5)) ∧ r = some (.int (eI (odV wh (D i9.toNat) c9))) ∧ n' = n ∧ CW w' x wh (kn) (D) ∧ FR w w' x) (pxd w (¬ (0 ≤ i9 ∧ i9 < 6)) ((0 ≤ i9 ∧ i9 < 6) ∧ ¬ (0 ≤ c9 ∧ c9 ≤ 5))) := by
  refine e_ofV rfl (Nat.le_of_ble_eq_true rfl) ?_
  intro P9 E9 S9 M9 A9 B9 T9 C9 F hnm
  have hC0 := hC
  have hDA := hC.2.2.2.2.1
  obtain ⟨hX, hF, hwh, ⟨P0, hQ⟩, ⟨ga, hga, hgj⟩, hDs, s0, hS⟩ := hC
  have hp := pr_rg wh hwh
  have ho9 := ho_rg wh hwh
  have hg9 := gr_rg wh hwh
  have hf9 := fl_rg wh hwh
  refine e_aload_n F dX3_ofDeal_0 rfl ?_
  refine e_iload_n F dX3_ofDeal_1 rfl ?_
  refine e_callVV F u_X3_dealAt (by rfl) (c_X3_dealAt hX hDA (i := i9) hi9) hX rfl rfl w_ml_RX3_94 dX3_ofDeal_2 (by rfl) (Nat.le_of_ble_eq_true rfl) (by decide) (by omega) (fun E w2 n2 h _ => ⟨Or.inl ⟨h.1, by have q := h.2.1; omega⟩, h.2.2⟩) (fun r_2 w_2 n_2 h_2 hn_2 => ?_)
  obtain ⟨hi1, rfl, ew_2, en_2⟩ := h_2
  rw [ew_2, en_2]
  obtain ⟨hD1, hW1⟩ := hDs i9.toNat (by omega)
  refine e_astore_n F dX3_ofDeal_5 (by decide) ?_
  refine e_iload_n F dX3_ofDeal_6 rfl ?_
  rcases (show c9 = 0 ∨ c9 = 1 ∨ c9 = 2 ∨ c9 = 3 ∨ c9 = 4 ∨ c9 = 5 ∨ (c9 < 0 ∨ 5 < c9) by omega) with rfl | rfl | rfl | rfl | rfl | rfl | ho
  · refine e_tabIn F 44 dX3_ofDeal_7 (by decide) (by decide) (by decide) (by rfl) (by decide) ?_
    refine e_aload_n F dX3_ofDeal_44 rfl ?_
    refine e_callVN F u_X0_isEmpty (by rfl) (c_X0_isEmpty hD1) (by first | assumption | exact e_up_s | (rw [e_up_n (by first | assumption | omega)]; first | assumption | exact e_up_s | (rw [e_up_n (by first | assumption | omega)]; first | assumption | exact e_up_s | (rw [e_up_n (by first | assumption | omega)]; first | assumption | exact e_up_s))) | exact hD.1 | exact hD1.1 | exact hD2.1 | exact gD.1 | exact gD1.1 | exact gD2.1 | exact gQ.1 | exact hQ.1 | exact gS.1 | exact hS.1 | exact zD.1) rfl rfl w_mn_RX3_109 dX3_ofDeal_45 (by rfl) (Nat.le_of_ble_eq_true rfl) (by decide) (by omega) (fun _ _ _ h _ => False.elim h) (fun r_45 w_45 n_45 h_45 hn_45 => ?_)
    obtain ⟨rfl, ew_45, en_45⟩ := h_45
    rw [ew_45, en_45]
    refine e_if_eq F 55 dX3_ofDeal_48 (by decide) (b01_r _) (fun c_48 => ?_) (fun c_48 => ?_)
    ·
      rw [b01_0] at c_48
      refine e_aload_n F dX3_ofDeal_55 rfl ?_
      refine e_getN (ci := 0) (fi := 1) (q := (RX0, TX0, 5)) F (by first | assumption | exact e_up_s | (rw [e_up_n (by first | assumption | omega)]; first | assumption | exact e_up_s | (rw [e_up_n (by first | assumption | omega)]; first | assumption | exact e_up_s | (rw [e_up_n (by first | assumption | omega)]; first | assumption | exact e_up_s))) | exact hD.1 | exact hD1.1 | exact hD2.1 | exact gD.1 | exact gD1.1 | exact gD2.1 | exact gQ.1 | exact hQ.1 | exact gS.1 | exact hS.1 | exact zD.1) rfl (by decide) w_fn_RX3_113 (by rfl) dX3_ofDeal_56 ?_
      refine e_iret F rfl (by omega) ?_ dX3_ofDeal_59
      refine ⟨⟨hi1, by decide⟩, ?_, rfl, hC0, FR.rf⟩
      show some (Value.int _) = some (Value.int (eI (if (D i9.toNat).fl = 0 then -1 else (D i9.toNat).dg)))
      first | rw [if_pos c_48] | rw [if_neg c_48]
    ·
      rw [b01_0, Classical.not_not] at c_48
      refine e_iconst F dX3_ofDeal_51 ?_
      refine e_goto F 59 dX3_ofDeal_52 (by decide) ?_
      refine e_iret F rfl (by omega) ?_ dX3_ofDeal_59
      refine ⟨⟨hi1, by decide⟩, ?_, rfl, hC0, FR.rf⟩
      show some (Value.int _) = some (Value.int (eI (if (D i9.toNat).fl = 0 then -1 else (D i9.toNat).dg)))
      first | rw [if_pos c_48] | rw [if_neg c_48]
  · refine e_tabIn F 60 dX3_ofDeal_7 (by decide) (by decide) (by decide) (by rfl) (by decide) ?_
    refine e_aload_n F dX3_ofDeal_60 rfl ?_
    refine e_callVN F u_X0_shareCount (by rfl) (c_X0_shareCount hD1) (by first | assumption | exact e_up_s | (rw [e_up_n (by first | assumption | omega)]; first | assumption | exact e_up_s | (rw [e_up_n (by first | assumption | omega)]; first | assumption | exact e_up_s | (rw [e_up_n (by first | assumption | omega)]; first | assumption | exact e_up_s))) | exact hD.1 | exact hD1.1 | exact hD2.1 | exact gD.1 | exact gD1.1 | exact gD2.1 | exact gQ.1 | exact hQ.1 | exact gS.1 | exact hS.1 | exact zD.1) rfl rfl w_mn_RX3_149 dX3_ofDeal_61 (by rfl) (Nat.le_of_ble_eq_true rfl) (by decide) (by omega) (fun _ _ _ h _ => False.elim h) (fun r_61 w_61 n_61 h_61 hn_61 => ?_)
    obtain ⟨rfl, ew_61, en_61⟩ := h_61
    rw [ew_61, en_61]
    refine e_iret F rfl (by omega) ?_ dX3_ofDeal_64
    exact ⟨⟨hi1, by decide⟩, rfl, rfl, hC0, FR.rf⟩
  · refine e_tabIn F 65 dX3_ofDeal_7 (by decide) (by decide) (by decide) (by rfl) (by decide) ?_
    refine e_aload_n F dX3_ofDeal_65 rfl ?_
    refine e_callVN F u_X0_holderSet (by rfl) (c_X0_holderSet hD1) (by first | assumption | exact e_up_s | (rw [e_up_n (by first | assumption | omega)]; first | assumption | exact e_up_s | (rw [e_up_n (by first | assumption | omega)]; first | assumption | exact e_up_s | (rw [e_up_n (by first | assumption | omega)]; first | assumption | exact e_up_s))) | exact hD.1 | exact hD1.1 | exact hD2.1 | exact gD.1 | exact gD1.1 | exact gD2.1 | exact gQ.1 | exact hQ.1 | exact gS.1 | exact hS.1 | exact zD.1) rfl rfl w_mn_RX3_185 dX3_ofDeal_66 (by rfl) (Nat.le_of_ble_eq_true rfl) (by decide) (by omega) (fun _ _ _ h _ => False.elim h) (fun r_66 w_66 n_66 h_66 hn_66 => ?_)
    obtain ⟨rfl, ew_66, en_66⟩ := h_66
    rw [ew_66, en_66]
    refine e_iret F rfl (by omega) ?_ dX3_ofDeal_69
    exact ⟨⟨hi1, by decide⟩, rfl, rfl, hC0, FR.rf⟩
  · refine e_tabIn F 70 dX3_ofDeal_7 (by decide) (by decide) (by decide) (by rfl) (by decide) ?_
    refine e_aload_n F dX3_ofDeal_70 rfl ?_
    refine e_callVN F u_X0_hasSeals (by rfl) (c_X0_hasSeals hD1) (by first | assumption | exact e_up_s | (rw [e_up_n (by first | assumption | omega)]; first | assumption | exact e_up_s | (rw [e_up_n (by first | assumption | omega)]; first | assumption | exact e_up_s | (rw [e_up_n (by first | assumption | omega)]; first | assumption | exact e_up_s))) | exact hD.1 | exact hD1.1 | exact hD2.1 | exact gD.1 | exact gD1.1 | exact gD2.1 | exact gQ.1 | exact hQ.1 | exact gS.1 | exact hS.1 | exact zD.1) rfl rfl w_mn_RX3_195 dX3_ofDeal_71 (by rfl) (Nat.le_of_ble_eq_true rfl) (by decide) (by omega) (fun _ _ _ h _ => False.elim h) (fun r_71 w_71 n_71 h_71 hn_71 => ?_)
    obtain ⟨rfl, ew_71, en_71⟩ := h_71
    rw [ew_71, en_71]
    refine e_if_eq F 81 dX3_ofDeal_74 (by decide) (b01_r _) (fun c_74 => ?_) (fun c_74 => ?_)
    ·
      rw [b01_0] at c_74
      refine e_iconst F dX3_ofDeal_81 ?_
      refine e_iret F rfl (by omega) ?_ dX3_ofDeal_82
      refine ⟨⟨hi1, by decide⟩, ?_, rfl, hC0, FR.rf⟩
      show some (Value.int _) = some (Value.int (eI (b01 (0 < (D i9.toNat).sc))))
      first | rw [b01_t c_74] | rw [b01_f c_74]
    ·
      rw [b01_0, Classical.not_not] at c_74
      refine e_iconst F dX3_ofDeal_77 ?_
      refine e_goto F 82 dX3_ofDeal_78 (by decide) ?_
      refine e_iret F rfl (by omega) ?_ dX3_ofDeal_82
      refine ⟨⟨hi1, by decide⟩, ?_, rfl, hC0, FR.rf⟩
      show some (Value.int _) = some (Value.int (eI (b01 (0 < (D i9.toNat).sc))))
      first | rw [b01_t c_74] | rw [b01_f c_74]
  · refine e_tabIn F 83 dX3_ofDeal_7 (by decide) (by decide) (by decide) (by rfl) (by decide) ?_
    refine e_aload_n F dX3_ofDeal_83 rfl ?_
    refine e_aload_n F dX3_ofDeal_84 rfl ?_
    refine e_aload_n F dX3_ofDeal_85 rfl ?_
    refine e_callVN F u_X0_holderSet (by rfl) (c_X0_holderSet hD1) (by first | assumption | exact e_up_s | (rw [e_up_n (by first | assumption | omega)]; first | assumption | exact e_up_s | (rw [e_up_n (by first | assumption | omega)]; first | assumption | exact e_up_s | (rw [e_up_n (by first | assumption | omega)]; first | assumption | exact e_up_s))) | exact hD.1 | exact hD1.1 | exact hD2.1 | exact gD.1 | exact gD1.1 | exact gD2.1 | exact gQ.1 | exact hQ.1 | exact gS.1 | exact hS.1 | exact zD.1) rfl rfl w_mn_RX3_185 dX3_ofDeal_86 (by rfl) (Nat.le_of_ble_eq_true rfl) (by decide) (by omega) (fun _ _ _ h _ => False.elim h) (fun r_86 w_86 n_86 h_86 hn_86 => ?_)
    obtain ⟨rfl, ew_86, en_86⟩ := h_86
    rw [ew_86, en_86]
    have hst := st7_rg (D i9.toNat).A
    refine e_callVV F u_X3_isInLine (by rfl) (c_X3_isInLine hX hF hwh hQ hD1 (by omega) (set := st7 (D i9.toNat).A) (by omega) (by omega)) hX rfl rfl w_ml_RX3_198 dX3_ofDeal_89 (by rfl) (Nat.le_of_ble_eq_true rfl) (by decide) (by omega) (fun _ _ _ h _ => False.elim h) (fun r_89 w_89 n_89 h_89 hn_89 => ?_)
    obtain ⟨rfl, en_89, gP⟩ := h_89
    rw [en_89]
    have hres := hC0.px gP
    refine e_if_eq F 99 dX3_ofDeal_92 (by decide) (b01_r _) (fun c_92 => ?_) (fun c_92 => ?_)
    ·
      rw [b01_0] at c_92
      refine e_iconst F dX3_ofDeal_99 ?_
      refine e_iret F rfl (by omega) ?_ dX3_ofDeal_100
      refine ⟨⟨hi1, by decide⟩, ?_, rfl, hres⟩
      show some (Value.int _) = some (Value.int (eI (b01 (il wh (st7 (D i9.toNat).A) (D i9.toNat).A (D i9.toNat).fl (D i9.toNat).dg))))
      first | rw [b01_t c_92] | rw [b01_f c_92]
    ·
      rw [b01_0, Classical.not_not] at c_92
      refine e_iconst F dX3_ofDeal_95 ?_
      refine e_goto F 100 dX3_ofDeal_96 (by decide) ?_
      refine e_iret F rfl (by omega) ?_ dX3_ofDeal_100
      refine ⟨⟨hi1, by decide⟩, ?_, rfl, hres⟩
      show some (Value.int _) = some (Value.int (eI (b01 (il wh (st7 (D i9.toNat).A) (D i9.toNat).A (D i9.toNat).fl (D i9.toNat).dg))))
      first | rw [b01_t c_92] | rw [b01_f c_92]
  · refine e_tabIn F 101 dX3_ofDeal_7 (by decide) (by decide) (by decide) (by rfl) (by decide) ?_
    refine e_aload_n F dX3_ofDeal_101 rfl ?_
    refine e_callVN F u_X0_firstSet (by rfl) (c_X0_firstSet hD1) (by first | assumption | exact e_up_s | (rw [e_up_n (by first | assumption | omega)]; first | assumption | exact e_up_s | (rw [e_up_n (by first | assumption | omega)]; first | assumption | exact e_up_s | (rw [e_up_n (by first | assumption | omega)]; first | assumption | exact e_up_s))) | exact hD.1 | exact hD1.1 | exact hD2.1 | exact gD.1 | exact gD1.1 | exact gD2.1 | exact gQ.1 | exact hQ.1 | exact gS.1 | exact hS.1 | exact zD.1) rfl rfl w_mn_RX3_202 dX3_ofDeal_102 (by rfl) (Nat.le_of_ble_eq_true rfl) (by decide) (by omega) (fun _ _ _ h _ => False.elim h) (fun r_102 w_102 n_102 h_102 hn_102 => ?_)
    obtain ⟨rfl, ew_102, en_102⟩ := h_102
    rw [ew_102, en_102]
    have hf7 := fs7_rg (A := (D i9.toNat).A) hD1.2.2.2.2.1.1
    refine e_istore F dX3_ofDeal_105 (by decide) ?_
    refine e_iload F dX3_ofDeal_107 rfl ?_
    refine e_if_ne F 116 dX3_ofDeal_109 (by decide) (⟨by omega, by omega⟩) (fun c_109 => ?_) (fun c_109 => ?_)
    · refine e_aload_n F dX3_ofDeal_116 rfl ?_
      refine e_aload_n F dX3_ofDeal_117 rfl ?_
      refine e_iload F dX3_ofDeal_118 rfl ?_
      refine e_iconst F dX3_ofDeal_120 ?_
      refine e_callVV F u_X3_tell (by rfl) (c_X3_tell hX hF hwh hD1 (set := fs7 (D i9.toNat).A (D i9.toNat).dg) (pl := 0) (by omega) (by omega) (by decide)) hX rfl rfl w_ml_RX3_178 dX3_ofDeal_121 (by rfl) (Nat.le_of_ble_eq_true rfl) (by decide) (by omega) (fun _ _ _ h _ => False.elim h) (fun r_121 w_121 n_121 h_121 hn_121 => ?_)
      obtain ⟨rfl, ew_121, en_121⟩ := h_121
      rw [ew_121, en_121]
      refine e_iret F rfl (by omega) ?_ dX3_ofDeal_124
      refine ⟨⟨hi1, by decide⟩, ?_, rfl, hC0, FR.rf⟩
      show some (Value.int _) = some (Value.int (eI (if fs7 (D i9.toNat).A (D i9.toNat).dg = 0 then -1 else tl wh (fs7 (D i9.toNat).A (D i9.toNat).dg) (D i9.toNat).A 0)))
      first | rw [if_neg c_109] | rw [if_pos (by omega)]
    · refine e_iconst F dX3_ofDeal_112 ?_
      refine e_goto F 124 dX3_ofDeal_113 (by decide) ?_
      refine e_iret F rfl (by omega) ?_ dX3_ofDeal_124
      refine ⟨⟨hi1, by decide⟩, ?_, rfl, hC0, FR.rf⟩
      show some (Value.int _) = some (Value.int (eI (if fs7 (D i9.toNat).A (D i9.toNat).dg = 0 then -1 else tl wh (fs7 (D i9.toNat).A (D i9.toNat).dg) (D i9.toNat).A 0)))
      first | rw [if_neg c_109] | rw [if_pos (by omega)]
  · refine e_tabOut F 125 dX3_ofDeal_7 hc9 ho (by decide) ?_
    exact e_throwS (text := "what is not 0 to 5") F (by decide +kernel) w_cl_RX3_42 w_in_java_lang_IllegalArgumentException (by decide +kernel) hat_ia hgood_ia dX3_ofDeal_125 dX3_ofDeal_128 dX3_ofDeal_129 dX3_ofDeal_131 dX3_ofDeal_134 (Nat.le_of_ble_eq_true rfl) (by decide) (by omega) (fun n2 hn2 => ⟨Or.inr ⟨rfl, hi1, by omega⟩, rfl⟩)
set_option maxHeartbeats 4000000 in
set_option maxRecDepth 100000 in
theorem c_X3_ways {K : e_K} {l : Launch} {w : e_W} {n : Nat} {x wh : Nat} {kn : Int} {D : Nat → SD} (hC : CW w x wh kn D) {i9 : Int} (hi9 : e_r i9) {a9 : Int} (ha9 : e_r a9) {c9 : Int} (hc9 : e_r c9) : e_Met K l yX3_ways (Cond.code yX3_ways cX3_ways 6 (Option.some .int) :: e_TB) (7) (2) [.ref x, .int (eI i9), .int (eI a9), .int (eI c9)] w n (fun r w' n' => ((0 ≤ i9 ∧ i9 < 6) ∧ (1 ≤ a9 ∧ a9 ≤ fl wh)) ∧ r = some (.int (eI (wyV wh (D i9.toNat) a9 c9))) ∧ n' = n ∧ CW w' x wh (kn) (D) ∧ FR w w' x) (pxd w (¬ (0 ≤ i9 ∧ i9 < 6)) ((0 ≤ i9 ∧ i9 < 6) ∧ ¬ (1 ≤ a9 ∧ a9 ≤ fl wh))) := by
  refine e_ofV rfl (Nat.le_of_ble_eq_true rfl) ?_
  intro P9 E9 S9 M9 A9 B9 T9 C9 F hnm
  have hC0 := hC
  have hDA := hC.2.2.2.2.1
  obtain ⟨hX, hF, hwh, ⟨P0, hQ⟩, ⟨ga, hga, hgj⟩, hDs, s0, hS⟩ := hC
  have hp := pr_rg wh hwh
  have ho9 := ho_rg wh hwh
  have hg9 := gr_rg wh hwh
  have hf9 := fl_rg wh hwh
  refine e_aload_n F dX3_ways_0 rfl ?_
  refine e_iload_n F dX3_ways_1 rfl ?_
  refine e_callVV F u_X3_dealAt (by rfl) (c_X3_dealAt hX hDA (i := i9) hi9) hX rfl rfl w_ml_RX3_94 dX3_ways_2 (by rfl) (Nat.le_of_ble_eq_true rfl) (by decide) (by omega) (fun E w2 n2 h _ => ⟨Or.inl ⟨h.1, by have q := h.2.1; omega⟩, h.2.2⟩) (fun r_2 w_2 n_2 h_2 hn_2 => ?_)
  obtain ⟨hi1, rfl, ew_2, en_2⟩ := h_2
  rw [ew_2, en_2]
  obtain ⟨hD1, hW1⟩ := hDs i9.toNat (by omega)
  refine e_astore F dX3_ways_5 (by decide) ?_
  refine e_aload_n F dX3_ways_7 rfl ?_
  refine e_iload_n F dX3_ways_8 rfl ?_
  refine e_callVV F u_X3_requireSet (by rfl) (c_X3_requireSet hX hF hwh (s9 := a9) ha9) hX rfl rfl w_ml_RX3_80 dX3_ways_9 (by rfl) (Nat.le_of_ble_eq_true rfl) (by decide) (by omega) (fun E w2 n2 h _ => ⟨Or.inr ⟨h.1, by have q := h.2.1; omega⟩, h.2.2⟩) (fun r_9 w_9 n_9 h_9 hn_9 => ?_)
  obtain ⟨hrs, rfl, ew_9, en_9⟩ := h_9
  rw [ew_9, en_9]
  refine e_aload F dX3_ways_12 rfl ?_
  refine e_iload_n F dX3_ways_14 rfl ?_
  refine e_callVN F u_X0_isThere (by rfl) (c_X0_isThere hD1 (set := a9) (by omega) (by omega)) (by first | assumption | exact e_up_s | (rw [e_up_n (by first | assumption | omega)]; first | assumption | exact e_up_s | (rw [e_up_n (by first | assumption | omega)]; first | assumption | exact e_up_s | (rw [e_up_n (by first | assumption | omega)]; first | assumption | exact e_up_s))) | exact hD.1 | exact hD1.1 | exact hD2.1 | exact gD.1 | exact gD1.1 | exact gD2.1 | exact gQ.1 | exact hQ.1 | exact gS.1 | exact hS.1 | exact zD.1) rfl rfl w_mn_RX3_207 dX3_ways_15 (by rfl) (Nat.le_of_ble_eq_true rfl) (by decide) (by omega) (fun _ _ _ h _ => False.elim h) (fun r_15 w_15 n_15 h_15 hn_15 => ?_)
  obtain ⟨rfl, ew_15, en_15⟩ := h_15
  rw [ew_15, en_15]
  have hdg := hD1.2.2.2.2.1
  obtain ⟨k9, hk9⟩ : ∃ k : Nat, a9 = (k : Int) := ⟨a9.toNat, by omega⟩
  have hbc : 0 ≤ bc a9 ∧ bc a9 ≤ 7 := by unfold bc; omega
  refine e_if_eq F 35 dX3_ways_18 (by decide) (b01_r _) (fun c_18 => ?_) (fun c_18 => ?_)
  ·
    rw [b01_0] at c_18
    refine e_bipush F dX3_ways_35 (by decide) ?_
    refine e_iret F rfl (by omega) ?_ dX3_ways_37
    refine ⟨⟨hi1, hrs⟩, ?_, rfl, hC0, FR.rf⟩
    unfold wyV
    rw [if_neg (fun q => by first | exact c_18 q.1 | (have q2 := q.2; omega))]
  ·
    rw [b01_0, Classical.not_not] at c_18
    refine e_aload_n F dX3_ways_21 rfl ?_
    refine e_aload F dX3_ways_22 rfl ?_
    refine e_getN (ci := 0) (fi := 1) (q := (RX0, TX0, 5)) F (by first | assumption | exact e_up_s | (rw [e_up_n (by first | assumption | omega)]; first | assumption | exact e_up_s | (rw [e_up_n (by first | assumption | omega)]; first | assumption | exact e_up_s | (rw [e_up_n (by first | assumption | omega)]; first | assumption | exact e_up_s))) | exact hD.1 | exact hD1.1 | exact hD2.1 | exact gD.1 | exact gD1.1 | exact gD2.1 | exact gQ.1 | exact hQ.1 | exact gS.1 | exact hS.1 | exact zD.1) rfl (by decide) w_fn_RX3_113 (by rfl) dX3_ways_24 ?_
    refine e_callVV F u_X3_polysBeyond (by rfl) (c_X3_polysBeyond hX hF hwh (e9 := (D i9.toNat).dg) (by omega) (by omega)) hX rfl rfl w_ml_RX3_223 dX3_ways_27 (by rfl) (Nat.le_of_ble_eq_true rfl) (by decide) (by omega) (fun _ _ _ h _ => False.elim h) (fun r_27 w_27 n_27 h_27 hn_27 => ?_)
    obtain ⟨rfl, ew_27, en_27⟩ := h_27
    rw [ew_27, en_27]
    have hpb := pbK_rg (p := pr wh) (by omega) (by omega) (D i9.toNat).dg.toNat
    refine e_bipush F dX3_ways_30 (by decide) ?_
    refine e_icmp_le F 38 dX3_ways_32 (by decide) (⟨by omega, by omega⟩) (⟨by omega, by omega⟩) (fun c_32 => ?_) (fun c_32 => ?_)
    · refine e_aload F dX3_ways_38 rfl ?_
      refine e_getN (ci := 0) (fi := 1) (q := (RX0, TX0, 5)) F (by first | assumption | exact e_up_s | (rw [e_up_n (by first | assumption | omega)]; first | assumption | exact e_up_s | (rw [e_up_n (by first | assumption | omega)]; first | assumption | exact e_up_s | (rw [e_up_n (by first | assumption | omega)]; first | assumption | exact e_up_s))) | exact hD.1 | exact hD1.1 | exact hD2.1 | exact gD.1 | exact gD1.1 | exact gD2.1 | exact gQ.1 | exact hQ.1 | exact gS.1 | exact hS.1 | exact zD.1) rfl (by decide) w_fn_RX3_113 (by rfl) dX3_ways_40 ?_
      refine e_iload_n F dX3_ways_43 rfl ?_
      rw [hk9]
      refine e_callSS F u_J6_bitCount_0f7a4 (by rfl) (c_J6_bitCount_0f7a4 (k := k9) (by omega)) w_ml_RX3_226 dX3_ways_44 (by rfl) (Nat.le_of_ble_eq_true rfl) (by decide) (by omega) (fun _ _ _ h _ => False.elim h) (fun r_44 w_44 n_44 h_44 hn_44 => ?_)
      obtain ⟨rfl, ew_44, en_44⟩ := h_44
      rw [ew_44, en_44, ← hk9]
      refine e_isub F dX3_ways_47 ?_
      refine e_istore F dX3_ways_48 (by decide) ?_
      refine e_iload F dX3_ways_50 rfl ?_
      refine e_if_lt F 62 dX3_ways_52 (by decide) (⟨by omega, by omega⟩) (fun c_52 => ?_) (fun c_52 => ?_)
      · refine e_aload_n F dX3_ways_62 rfl ?_
        refine e_aload F dX3_ways_63 rfl ?_
        refine e_iload_n F dX3_ways_65 rfl ?_
        refine e_callVV F u_X3_isInLine (by rfl) (c_X3_isInLine hX hF hwh hQ hD1 (by omega) (set := a9) (by omega) (by omega)) hX rfl rfl w_ml_RX3_198 dX3_ways_66 (by rfl) (Nat.le_of_ble_eq_true rfl) (by decide) (by omega) (fun _ _ _ h _ => False.elim h) (fun r_66 w_66 n_66 h_66 hn_66 => ?_)
        obtain ⟨rfl, en_66, gP⟩ := h_66
        rw [en_66]
        have hres := hC0.px gP
        have gX := hres.1.1
        have gFO := hres.1.2.1
        have gD1 := (hres.1.2.2.2.2.2.1 i9.toNat (by omega)).1
        refine e_if_eq F 96 dX3_ways_69 (by decide) (b01_r _) (fun c_69 => ?_) (fun c_69 => ?_)
        ·
          rw [b01_0] at c_69
          refine e_iconst F dX3_ways_96 ?_
          refine e_iret F rfl (by omega) ?_ dX3_ways_97
          refine ⟨⟨hi1, hrs⟩, ?_, rfl, hres⟩
          unfold wyV
          rw [if_pos ⟨c_18, by omega⟩, if_neg (by omega)]
          first | rw [b01_t (And.intro c_69 c_89)] | rw [b01_f (fun q => by first | exact c_69 q.1 | exact c_89 q.2)]
        ·
          rw [b01_0, Classical.not_not] at c_69
          refine e_aload_n F dX3_ways_72 rfl ?_
          refine e_aload F dX3_ways_73 rfl ?_
          refine e_iload_n F dX3_ways_75 rfl ?_
          refine e_iconst F dX3_ways_76 ?_
          refine e_callVV F u_X3_tell (by rfl) (c_X3_tell gX gFO hwh gD1 (set := a9) (pl := 0) (by omega) (by omega) (by decide)) gX rfl rfl w_ml_RX3_178 dX3_ways_77 (by rfl) (Nat.le_of_ble_eq_true rfl) (by decide) (by omega) (fun _ _ _ h _ => False.elim h) (fun r_77 w_77 n_77 h_77 hn_77 => ?_)
          obtain ⟨rfl, ew_77, en_77⟩ := h_77
          rw [ew_77, en_77]
          have htl : 0 ≤ tl wh a9 (D i9.toNat).A 0 ∧ tl wh a9 (D i9.toNat).A 0 < pr wh := emod_rg _ hwh
          refine e_aload_n F dX3_ways_80 rfl ?_
          refine e_get (ci := 3) (fi := 0) (q := (RX3, TX3, 5)) F (by first | assumption | exact e_up_s | (rw [e_up_n (by first | assumption | omega)]; first | assumption | exact e_up_s | (rw [e_up_n (by first | assumption | omega)]; first | assumption | exact e_up_s | (rw [e_up_n (by first | assumption | omega)]; first | assumption | exact e_up_s))) | exact hD.1 | exact hD1.1 | exact hD2.1 | exact gD.1 | exact gD1.1 | exact gD2.1 | exact gQ.1 | exact hQ.1 | exact gS.1 | exact hS.1 | exact zD.1) rfl (by decide) w_fl_RX3_10 (by rfl) dX3_ways_81 ?_
          refine e_iload_n F dX3_ways_84 rfl ?_
          refine e_i2l F dX3_ways_85 (⟨by omega, by omega⟩) ?_
          refine e_callVN F u_X1_modPrime (by rfl) (c_X1_modPrime gFO hwh (v := c9) (by constructor <;> omega)) (by first | assumption | exact e_up_s | (rw [e_up_n (by first | assumption | omega)]; first | assumption | exact e_up_s | (rw [e_up_n (by first | assumption | omega)]; first | assumption | exact e_up_s | (rw [e_up_n (by first | assumption | omega)]; first | assumption | exact e_up_s))) | exact hD.1 | exact hD1.1 | exact hD2.1 | exact gD.1 | exact gD1.1 | exact gD2.1 | exact gQ.1 | exact hQ.1 | exact gS.1 | exact hS.1 | exact zD.1) rfl rfl w_mn_RX3_59 dX3_ways_86 (by rfl) (Nat.le_of_ble_eq_true rfl) (by decide) (by omega) (fun _ _ _ h _ => False.elim h) (fun r_86 w_86 n_86 h_86 hn_86 => ?_)
          obtain ⟨rfl, ew_86, en_86⟩ := h_86
          rw [ew_86, en_86]
          have hmc := emod_rg c9 hwh
          refine e_icmp_ne F 96 dX3_ways_89 (by decide) (⟨by omega, by omega⟩) (⟨by omega, by omega⟩) (fun c_89 => ?_) (fun c_89 => ?_)
          · refine e_iconst F dX3_ways_96 ?_
            refine e_iret F rfl (by omega) ?_ dX3_ways_97
            refine ⟨⟨hi1, hrs⟩, ?_, rfl, hres⟩
            unfold wyV
            rw [if_pos ⟨c_18, by omega⟩, if_neg (by omega)]
            first | rw [b01_t (And.intro c_69 c_89)] | rw [b01_f (fun q => by first | exact c_69 q.1 | exact c_89 q.2)]
          · refine e_iconst F dX3_ways_92 ?_
            refine e_goto F 97 dX3_ways_93 (by decide) ?_
            refine e_iret F rfl (by omega) ?_ dX3_ways_97
            refine ⟨⟨hi1, hrs⟩, ?_, rfl, hres⟩
            unfold wyV
            rw [if_pos ⟨c_18, by omega⟩, if_neg (by omega)]
            first | rw [b01_t (And.intro c_69 c_89)] | rw [b01_f (fun q => by first | exact c_69 q.1 | exact c_89 q.2)]
      · refine e_aload_n F dX3_ways_55 rfl ?_
        refine e_iload F dX3_ways_56 rfl ?_
        refine e_callVV F u_X3_polysBeyond (by rfl) (c_X3_polysBeyond hX hF hwh (e9 := (D i9.toNat).dg - bc a9) (by omega) (by omega)) hX rfl rfl w_ml_RX3_223 dX3_ways_58 (by rfl) (Nat.le_of_ble_eq_true rfl) (by decide) (by omega) (fun _ _ _ h _ => False.elim h) (fun r_58 w_58 n_58 h_58 hn_58 => ?_)
        obtain ⟨rfl, ew_58, en_58⟩ := h_58
        rw [ew_58, en_58]
        refine e_iret F rfl (by omega) ?_ dX3_ways_61
        refine ⟨⟨hi1, hrs⟩, ?_, rfl, hC0, FR.rf⟩
        unfold wyV
        rw [if_pos ⟨c_18, by omega⟩, if_pos (by omega)]
    · refine e_bipush F dX3_ways_35 (by decide) ?_
      refine e_iret F rfl (by omega) ?_ dX3_ways_37
      refine ⟨⟨hi1, hrs⟩, ?_, rfl, hC0, FR.rf⟩
      unfold wyV
      rw [if_neg (fun q => by first | exact c_18 q.1 | (have q2 := q.2; omega))]
set_option maxHeartbeats 4000000 in
set_option maxRecDepth 100000 in
theorem c_X3_total {K : e_K} {l : Launch} {w : e_W} {n : Nat} {x wh : Nat} {kn : Int} {D : Nat → SD} (hC : CW w x wh kn D) {i9 : Int} (hi9 : e_r i9) {a9 : Int} (ha9 : e_r a9) : e_Met K l yX3_total (Cond.code yX3_total cX3_total 6 (Option.some .int) :: e_TB) (7) (2) [.ref x, .int (eI i9), .int (eI a9)] w n (fun r w' n' => ((0 ≤ i9 ∧ i9 < 6) ∧ (1 ≤ a9 ∧ a9 ≤ fl wh)) ∧ r = some (.int (eI (if ((D i9.toNat).fl = 1 ∧ thr (D i9.toNat).A a9) then tsK a9 (D i9.toNat).A (ho wh).toNat else -9))) ∧ n' = n ∧ CW w' x wh (kn) (D) ∧ FR w w' x) (pxd w (¬ (0 ≤ i9 ∧ i9 < 6)) ((0 ≤ i9 ∧ i9 < 6) ∧ ¬ (1 ≤ a9 ∧ a9 ≤ fl wh))) := by
  refine e_ofV rfl (Nat.le_of_ble_eq_true rfl) ?_
  intro P9 E9 S9 M9 A9 B9 T9 C9 F hnm
  have hC0 := hC
  have hDA := hC.2.2.2.2.1
  obtain ⟨hX, hF, hwh, ⟨P0, hQ⟩, ⟨ga, hga, hgj⟩, hDs, s0, hS⟩ := hC
  have hp := pr_rg wh hwh
  have ho9 := ho_rg wh hwh
  have hg9 := gr_rg wh hwh
  have hf9 := fl_rg wh hwh
  refine e_aload_n F dX3_total_0 rfl ?_
  refine e_iload_n F dX3_total_1 rfl ?_
  refine e_callVV F u_X3_dealAt (by rfl) (c_X3_dealAt hX hDA (i := i9) hi9) hX rfl rfl w_ml_RX3_94 dX3_total_2 (by rfl) (Nat.le_of_ble_eq_true rfl) (by decide) (by omega) (fun E w2 n2 h _ => ⟨Or.inl ⟨h.1, by have q := h.2.1; omega⟩, h.2.2⟩) (fun r_2 w_2 n_2 h_2 hn_2 => ?_)
  obtain ⟨hi1, rfl, ew_2, en_2⟩ := h_2
  rw [ew_2, en_2]
  obtain ⟨hD1, hW1⟩ := hDs i9.toNat (by omega)
  refine e_astore_n F dX3_total_5 (by decide) ?_
  refine e_aload_n F dX3_total_6 rfl ?_
  refine e_iload_n F dX3_total_7 rfl ?_
  refine e_callVV F u_X3_requireSet (by rfl) (c_X3_requireSet hX hF hwh (s9 := a9) ha9) hX rfl rfl w_ml_RX3_80 dX3_total_8 (by rfl) (Nat.le_of_ble_eq_true rfl) (by decide) (by omega) (fun E w2 n2 h _ => ⟨Or.inr ⟨h.1, by have q := h.2.1; omega⟩, h.2.2⟩) (fun r_8 w_8 n_8 h_8 hn_8 => ?_)
  obtain ⟨hrs, rfl, ew_8, en_8⟩ := h_8
  rw [ew_8, en_8]
  refine e_aload_n F dX3_total_11 rfl ?_
  refine e_iload_n F dX3_total_12 rfl ?_
  refine e_callVN F u_X0_isThere (by rfl) (c_X0_isThere hD1 (set := a9) (by omega) (by omega)) (by first | assumption | exact e_up_s | (rw [e_up_n (by first | assumption | omega)]; first | assumption | exact e_up_s | (rw [e_up_n (by first | assumption | omega)]; first | assumption | exact e_up_s | (rw [e_up_n (by first | assumption | omega)]; first | assumption | exact e_up_s))) | exact hD.1 | exact hD1.1 | exact hD2.1 | exact gD.1 | exact gD1.1 | exact gD2.1 | exact gQ.1 | exact hQ.1 | exact gS.1 | exact hS.1 | exact zD.1) rfl rfl w_mn_RX3_207 dX3_total_13 (by rfl) (Nat.le_of_ble_eq_true rfl) (by decide) (by omega) (fun _ _ _ h _ => False.elim h) (fun r_13 w_13 n_13 h_13 hn_13 => ?_)
  obtain ⟨rfl, ew_13, en_13⟩ := h_13
  rw [ew_13, en_13]
  refine e_if_ne F 22 dX3_total_16 (by decide) (b01_r _) (fun c_16 => ?_) (fun c_16 => ?_)
  ·
    rw [ne_eq, b01_0, Classical.not_not] at c_16
    have lp : ∀ (N : Nat) (k : Nat), (7 - k) < N → (k : Int) ≤ ho wh → e_V K P9 l E9 (7) (2) S9 M9 A9 B9 T9 C9 6 (fun r w' n' => ((0 ≤ i9 ∧ i9 < 6) ∧ (1 ≤ a9 ∧ a9 ≤ fl wh)) ∧ r = some (.int (eI (if ((D i9.toNat).fl = 1 ∧ thr (D i9.toNat).A a9) then tsK a9 (D i9.toNat).A (ho wh).toNat else -9))) ∧ n' = n ∧ CW w' x wh (kn) (D) ∧ FR w w' x) (pxd w (¬ (0 ≤ i9 ∧ i9 < 6)) ((0 ≤ i9 ∧ i9 < 6) ∧ ¬ (1 ≤ a9 ∧ a9 ≤ fl wh))) 28 [(0, .ref x), (2, .int (eI a9)), (3, .ref (x + 6 + 3 * i9.toNat)), (4, .int (eI (tsK a9 (D i9.toNat).A k))), (5, .int (eI ((k : Int) + 1)))] [] w n ((0 + 1 + 1 + 0)) := by
      intro N
      induction N with
      | zero => intro k hN; exact absurd hN (Nat.not_lt_zero _)
      | succ N ih =>
        intro k hN hk
        refine e_iload F dX3_total_28 rfl ?_
        refine e_aload_n F dX3_total_30 rfl ?_
        refine e_get (ci := 3) (fi := 0) (q := (RX3, TX3, 5)) F (by first | assumption | exact e_up_s | (rw [e_up_n (by first | assumption | omega)]; first | assumption | exact e_up_s | (rw [e_up_n (by first | assumption | omega)]; first | assumption | exact e_up_s | (rw [e_up_n (by first | assumption | omega)]; first | assumption | exact e_up_s))) | exact hD.1 | exact hD1.1 | exact hD2.1 | exact gD.1 | exact gD1.1 | exact gD2.1 | exact gQ.1 | exact hQ.1 | exact gS.1 | exact hS.1 | exact zD.1) rfl (by decide) w_fl_RX3_10 (by rfl) dX3_total_31 ?_
        refine e_getN (ci := 1) (fi := 4) (q := (RX1, TX1, 5)) F (by first | assumption | exact e_up_s | (rw [e_up_n (by first | assumption | omega)]; first | assumption | exact e_up_s | (rw [e_up_n (by first | assumption | omega)]; first | assumption | exact e_up_s | (rw [e_up_n (by first | assumption | omega)]; first | assumption | exact e_up_s))) | exact hD.1 | exact hD1.1 | exact hD2.1 | exact gD.1 | exact gD1.1 | exact gD2.1 | exact gQ.1 | exact hQ.1 | exact gS.1 | exact hS.1 | exact zD.1) rfl (by decide) w_fn_RX3_116 (by rfl) dX3_total_34 ?_
        refine e_icmp_gt F 66 dX3_total_37 (by decide) (⟨by omega, by omega⟩) (⟨by omega, by omega⟩) (fun c_37 => ?_) (fun c_37 => ?_)
        ·
          obtain rfl : k = (ho wh).toNat := by omega
          refine e_iload F dX3_total_66 rfl ?_
          refine e_iret F rfl (by omega) ?_ dX3_total_68
          refine ⟨⟨hi1, hrs⟩, ?_, rfl, hC0, FR.rf⟩
          rw [if_pos c_16]
        · refine e_iload_n F dX3_total_40 rfl ?_
          refine e_iload F dX3_total_41 rfl ?_
          refine e_callSS F u_X3_isIn (by rfl) (c_X3_isIn (set := a9) (h := (k : Int) + 1) (by omega) (by omega) (by omega) (by omega)) w_ml_RX3_83 dX3_total_43 (by rfl) (Nat.le_of_ble_eq_true rfl) (by decide) (by omega) (fun _ _ _ h _ => False.elim h) (fun r_43 w_43 n_43 h_43 hn_43 => ?_)
          obtain ⟨rfl, ew_43, en_43⟩ := h_43
          rw [ew_43, en_43]
          refine e_if_eq F 60 dX3_total_46 (by decide) (b01_r _) (fun c_46 => ?_) (fun c_46 => ?_)
          ·
            rw [b01_0] at c_46
            have q1 : tsK a9 (D i9.toNat).A (k + 1) = tsK a9 (D i9.toNat).A k := if_neg c_46
            refine e_iinc F dX3_total_60 rfl (by decide) ?_
            refine e_goto F 28 dX3_total_63 (by decide) ?_
            refine e_go (ih (k + 1) (by omega) (by omega)) ?_
            rw [q1]
            exact (And.intro rfl (And.intro rfl (And.intro rfl (And.intro rfl (And.intro rfl (trivial))))))
          ·
            rw [b01_0, Classical.not_not] at c_46
            have q1 : tsK a9 (D i9.toNat).A (k + 1) = tsK a9 (D i9.toNat).A k + (D i9.toNat).A ((k : Int) + 1) := if_pos c_46
            refine e_iload F dX3_total_49 rfl ?_
            refine e_aload_n F dX3_total_51 rfl ?_
            refine e_iload F dX3_total_52 rfl ?_
            refine e_callVN F u_X0_shareAt (by rfl) (c_X0_shareAt hD1 (h := (k : Int) + 1) (by omega) (by omega)) (by first | assumption | exact e_up_s | (rw [e_up_n (by first | assumption | omega)]; first | assumption | exact e_up_s | (rw [e_up_n (by first | assumption | omega)]; first | assumption | exact e_up_s | (rw [e_up_n (by first | assumption | omega)]; first | assumption | exact e_up_s))) | exact hD.1 | exact hD1.1 | exact hD2.1 | exact gD.1 | exact gD1.1 | exact gD2.1 | exact gQ.1 | exact hQ.1 | exact gS.1 | exact hS.1 | exact zD.1) rfl rfl w_mn_RX3_123 dX3_total_54 (by rfl) (Nat.le_of_ble_eq_true rfl) (by decide) (by omega) (fun _ _ _ h _ => False.elim h) (fun r_54 w_54 n_54 h_54 hn_54 => ?_)
            obtain ⟨rfl, ew_54, en_54⟩ := h_54
            rw [ew_54, en_54]
            refine e_iadd F dX3_total_57 ?_
            refine e_istore F dX3_total_58 (by decide) ?_
            refine e_iinc F dX3_total_60 rfl (by decide) ?_
            refine e_goto F 28 dX3_total_63 (by decide) ?_
            refine e_go (ih (k + 1) (by omega) (by omega)) ?_
            rw [q1]
            exact (And.intro rfl (And.intro rfl (And.intro rfl (And.intro rfl (And.intro rfl (trivial))))))
    refine e_iconst F dX3_total_22 ?_
    refine e_istore F dX3_total_23 (by decide) ?_
    refine e_iconst F dX3_total_25 ?_
    refine e_istore F dX3_total_26 (by decide) ?_
    exact e_go (lp 8 0 (by omega) (by omega)) (And.intro rfl (And.intro rfl (And.intro rfl (And.intro rfl (And.intro rfl (trivial))))))
  ·
    rw [b01_0] at c_16
    refine e_bipush F dX3_total_19 (by decide) ?_
    refine e_iret F rfl (by omega) ?_ dX3_total_21
    refine ⟨⟨hi1, hrs⟩, ?_, rfl, hC0, FR.rf⟩
    rw [if_neg c_16]
set_option maxHeartbeats 4000000 in
set_option maxRecDepth 100000 in
theorem c_X3_most {K : e_K} {l : Launch} {w : e_W} {n : Nat} {x wh : Nat} {kn : Int} {D : Nat → SD} (hC : CW w x wh kn D) {i9 : Int} (hi9 : e_r i9) {b9 : Int} (hb : b9 = 0 ∨ b9 = 1) : e_Met K l yX3_most (Cond.code yX3_most cX3_most 9 (Option.some .int) :: e_TB) (7) (1) [.ref x, .int (eI i9), .int (eI b9)] w n (fun r w' n' => ((0 ≤ i9 ∧ i9 < 6)) ∧ r = some (.int (eI (if (D i9.toNat).fl = 0 then -9 else (msK b9 (D i9.toNat).A (ho wh).toNat).1))) ∧ n' = n ∧ CW w' x wh (kn) (D) ∧ FR w w' x) (pxd w (¬ (0 ≤ i9 ∧ i9 < 6)) False) := by
  refine e_ofV rfl (Nat.le_of_ble_eq_true rfl) ?_
  intro P9 E9 S9 M9 A9 B9 T9 C9 F hnm
  have hC0 := hC
  have hDA := hC.2.2.2.2.1
  obtain ⟨hX, hF, hwh, ⟨P0, hQ⟩, ⟨ga, hga, hgj⟩, hDs, s0, hS⟩ := hC
  have hp := pr_rg wh hwh
  have ho9 := ho_rg wh hwh
  have hg9 := gr_rg wh hwh
  have hf9 := fl_rg wh hwh
  refine e_aload_n F dX3_most_0 rfl ?_
  refine e_iload_n F dX3_most_1 rfl ?_
  refine e_callVV F u_X3_dealAt (by rfl) (c_X3_dealAt hX hDA (i := i9) hi9) hX rfl rfl w_ml_RX3_94 dX3_most_2 (by rfl) (Nat.le_of_ble_eq_true rfl) (by decide) (by omega) (fun E w2 n2 h _ => ⟨Or.inl ⟨h.1, by have q := h.2.1; omega⟩, h.2.2⟩) (fun r_2 w_2 n_2 h_2 hn_2 => ?_)
  obtain ⟨hi1, rfl, ew_2, en_2⟩ := h_2
  rw [ew_2, en_2]
  obtain ⟨hD1, hW1⟩ := hDs i9.toNat (by omega)
  refine e_astore_n F dX3_most_5 (by decide) ?_
  refine e_aload_n F dX3_most_6 rfl ?_
  refine e_callVN F u_X0_isEmpty (by rfl) (c_X0_isEmpty hD1) (by first | assumption | exact e_up_s | (rw [e_up_n (by first | assumption | omega)]; first | assumption | exact e_up_s | (rw [e_up_n (by first | assumption | omega)]; first | assumption | exact e_up_s | (rw [e_up_n (by first | assumption | omega)]; first | assumption | exact e_up_s))) | exact hD.1 | exact hD1.1 | exact hD2.1 | exact gD.1 | exact gD1.1 | exact gD2.1 | exact gQ.1 | exact hQ.1 | exact gS.1 | exact hS.1 | exact zD.1) rfl rfl w_mn_RX3_109 dX3_most_7 (by rfl) (Nat.le_of_ble_eq_true rfl) (by decide) (by omega) (fun _ _ _ h _ => False.elim h) (fun r_7 w_7 n_7 h_7 hn_7 => ?_)
  obtain ⟨rfl, ew_7, en_7⟩ := h_7
  rw [ew_7, en_7]
  refine e_if_eq F 16 dX3_most_10 (by decide) (b01_r _) (fun c_10 => ?_) (fun c_10 => ?_)
  ·
    rw [b01_0] at c_10
    have lp : ∀ (N k : Nat), 7 - k < N → (k : Int) ≤ ho wh → e_V K P9 l E9 (7) (1) S9 M9 A9 B9 T9 C9 9 (fun r w' n' => ((0 ≤ i9 ∧ i9 < 6)) ∧ r = some (.int (eI (if (D i9.toNat).fl = 0 then -9 else (msK b9 (D i9.toNat).A (ho wh).toNat).1))) ∧ n' = n ∧ CW w' x wh (kn) (D) ∧ FR w w' x) (pxd w (¬ (0 ≤ i9 ∧ i9 < 6)) False) 25 [(0, .ref x), (2, .int (eI b9)), (3, .ref (x + 6 + 3 * i9.toNat)), (4, .int (eI (msK b9 (D i9.toNat).A k).1)), (5, .int (eI (msK b9 (D i9.toNat).A k).2)), (6, .int (eI ((k : Int) + 1)))] [] w n ((0 + 1 + 0)) := by
      intro N
      induction N with
      | zero => intro k hN; exact absurd hN (Nat.not_lt_zero _)
      | succ N ih =>
        intro k hN hk
        have hms := msK_rg b9 hD1.2.2.2.2.2.2.1 k (by omega)
        have l76 : (k : Int) < ho wh → e_V K P9 l E9 (7) (1) S9 M9 A9 B9 T9 C9 9 (fun r w' n' => ((0 ≤ i9 ∧ i9 < 6)) ∧ r = some (.int (eI (if (D i9.toNat).fl = 0 then -9 else (msK b9 (D i9.toNat).A (ho wh).toNat).1))) ∧ n' = n ∧ CW w' x wh (kn) (D) ∧ FR w w' x) (pxd w (¬ (0 ≤ i9 ∧ i9 < 6)) False) 76 [(0, .ref x), (2, .int (eI b9)), (3, .ref (x + 6 + 3 * i9.toNat)), (4, .int (eI (msK b9 (D i9.toNat).A k).1)), (5, .int (eI (msK b9 (D i9.toNat).A k).2)), (6, .int (eI ((k : Int) + 1))), (7, .int (eI ((D i9.toNat).A ((k : Int) + 1))))] [.int (eI (b01 ((msK b9 (D i9.toNat).A k).1 = 0 ∨ (if b9 = 0 then (msK b9 (D i9.toNat).A k).2 < (D i9.toNat).A ((k : Int) + 1) else (D i9.toNat).A ((k : Int) + 1) < (msK b9 (D i9.toNat).A k).2))))] w n ((0 + 1 + 0)) := by
          intro hk2
          have hAk := hD1.2.2.2.2.2.2.1 ((k : Int) + 1) (by omega) (by omega)
          refine e_istore F dX3_most_76 (by decide) ?_
          refine e_iload F dX3_most_78 rfl ?_
          refine e_iconst F dX3_most_80 ?_
          refine e_icmp_eq F 97 dX3_most_81 (by decide) (⟨by omega, by omega⟩) (⟨by omega, by omega⟩) (fun c_81 => ?_) (fun c_81 => ?_)
          ·
            have q1 : msK b9 (D i9.toNat).A (k + 1) = (msK b9 (D i9.toNat).A k) := by rw [msK]; exact if_neg (fun q => q.1 c_81)
            refine e_iinc F dX3_most_97 rfl (by decide) ?_
            refine e_goto F 25 dX3_most_100 (by decide) ?_
            refine e_go (ih (k + 1) (by omega) (by omega)) ?_
            rw [q1]
            exact (And.intro rfl (And.intro rfl (And.intro rfl (And.intro rfl (And.intro rfl (And.intro rfl (trivial)))))))
          · refine e_iload F dX3_most_84 rfl ?_
            refine e_if_eq F 97 dX3_most_86 (by decide) (b01_r _) (fun c_86 => ?_) (fun c_86 => ?_)
            ·
              rw [b01_0] at c_86
              have q1 : msK b9 (D i9.toNat).A (k + 1) = (msK b9 (D i9.toNat).A k) := by rw [msK]; exact if_neg (fun q => c_86 q.2)
              refine e_iinc F dX3_most_97 rfl (by decide) ?_
              refine e_goto F 25 dX3_most_100 (by decide) ?_
              refine e_go (ih (k + 1) (by omega) (by omega)) ?_
              rw [q1]
              exact (And.intro rfl (And.intro rfl (And.intro rfl (And.intro rfl (And.intro rfl (And.intro rfl (trivial)))))))
            ·
              rw [b01_0, Classical.not_not] at c_86
              have q1 : msK b9 (D i9.toNat).A (k + 1) = ((k : Int) + 1, (D i9.toNat).A ((k : Int) + 1)) := by rw [msK]; exact if_pos ⟨c_81, c_86⟩
              refine e_iload F dX3_most_89 rfl ?_
              refine e_istore F dX3_most_91 (by decide) ?_
              refine e_iload F dX3_most_93 rfl ?_
              refine e_istore F dX3_most_95 (by decide) ?_
              refine e_iinc F dX3_most_97 rfl (by decide) ?_
              refine e_goto F 25 dX3_most_100 (by decide) ?_
              refine e_go (ih (k + 1) (by omega) (by omega)) ?_
              rw [q1]
              exact (And.intro rfl (And.intro rfl (And.intro rfl (And.intro rfl (And.intro rfl (And.intro rfl (trivial)))))))
        refine e_iload F dX3_most_25 rfl ?_
        refine e_aload_n F dX3_most_27 rfl ?_
        refine e_get (ci := 3) (fi := 0) (q := (RX3, TX3, 5)) F (by first | assumption | exact e_up_s | (rw [e_up_n (by first | assumption | omega)]; first | assumption | exact e_up_s | (rw [e_up_n (by first | assumption | omega)]; first | assumption | exact e_up_s | (rw [e_up_n (by first | assumption | omega)]; first | assumption | exact e_up_s))) | exact hD.1 | exact hD1.1 | exact hD2.1 | exact gD.1 | exact gD1.1 | exact gD2.1 | exact gQ.1 | exact hQ.1 | exact gS.1 | exact hS.1 | exact zD.1) rfl (by decide) w_fl_RX3_10 (by rfl) dX3_most_28 ?_
        refine e_getN (ci := 1) (fi := 4) (q := (RX1, TX1, 5)) F (by first | assumption | exact e_up_s | (rw [e_up_n (by first | assumption | omega)]; first | assumption | exact e_up_s | (rw [e_up_n (by first | assumption | omega)]; first | assumption | exact e_up_s | (rw [e_up_n (by first | assumption | omega)]; first | assumption | exact e_up_s))) | exact hD.1 | exact hD1.1 | exact hD2.1 | exact gD.1 | exact gD1.1 | exact gD2.1 | exact gQ.1 | exact hQ.1 | exact gS.1 | exact hS.1 | exact zD.1) rfl (by decide) w_fn_RX3_116 (by rfl) dX3_most_31 ?_
        refine e_icmp_gt F 103 dX3_most_34 (by decide) (⟨by omega, by omega⟩) (⟨by omega, by omega⟩) (fun c_34 => ?_) (fun c_34 => ?_)
        ·
          obtain rfl : k = (ho wh).toNat := by omega
          refine e_iload F dX3_most_103 rfl ?_
          refine e_iret F rfl (by omega) ?_ dX3_most_105
          refine ⟨hi1, ?_, rfl, hC0, FR.rf⟩
          rw [if_neg c_10]
        · refine e_aload_n F dX3_most_37 rfl ?_
          refine e_iload F dX3_most_38 rfl ?_
          refine e_callVN F u_X0_shareAt (by rfl) (c_X0_shareAt hD1 (h := (k : Int) + 1) (by omega) (by omega)) (by first | assumption | exact e_up_s | (rw [e_up_n (by first | assumption | omega)]; first | assumption | exact e_up_s | (rw [e_up_n (by first | assumption | omega)]; first | assumption | exact e_up_s | (rw [e_up_n (by first | assumption | omega)]; first | assumption | exact e_up_s))) | exact hD.1 | exact hD1.1 | exact hD2.1 | exact gD.1 | exact gD1.1 | exact gD2.1 | exact gQ.1 | exact hQ.1 | exact gS.1 | exact hS.1 | exact zD.1) rfl rfl w_mn_RX3_123 dX3_most_40 (by rfl) (Nat.le_of_ble_eq_true rfl) (by decide) (by omega) (fun _ _ _ h _ => False.elim h) (fun r_40 w_40 n_40 h_40 hn_40 => ?_)
          obtain ⟨rfl, ew_40, en_40⟩ := h_40
          rw [ew_40, en_40]
          have hAk := hD1.2.2.2.2.2.2.1 ((k : Int) + 1) (by omega) (by omega)
          refine e_istore F dX3_most_43 (by decide) ?_
          refine e_iload F dX3_most_45 rfl ?_
          refine e_if_eq F 71 dX3_most_47 (by decide) (⟨by omega, by omega⟩) (fun c_47 => ?_) (fun c_47 => ?_)
          · refine e_iconst F dX3_most_71 ?_
            refine e_goto F 76 dX3_most_72 (by decide) ?_
            have qb : ((msK b9 (D i9.toNat).A k).1 = 0 ∨ (if b9 = 0 then (msK b9 (D i9.toNat).A k).2 < (D i9.toNat).A ((k : Int) + 1) else (D i9.toNat).A ((k : Int) + 1) < (msK b9 (D i9.toNat).A k).2)) ∨ ¬ ((msK b9 (D i9.toNat).A k).1 = 0 ∨ (if b9 = 0 then (msK b9 (D i9.toNat).A k).2 < (D i9.toNat).A ((k : Int) + 1) else (D i9.toNat).A ((k : Int) + 1) < (msK b9 (D i9.toNat).A k).2)) := Classical.em _
            first
            | (have e5 : b01 ((msK b9 (D i9.toNat).A k).1 = 0 ∨ (if b9 = 0 then (msK b9 (D i9.toNat).A k).2 < (D i9.toNat).A ((k : Int) + 1) else (D i9.toNat).A ((k : Int) + 1) < (msK b9 (D i9.toNat).A k).2)) = 1 := b01_t (Or.inl c_47)
               have l9 := l76 (by omega)
               rw [e5] at l9
               exact e_go l9 (And.intro rfl (And.intro rfl (And.intro rfl (And.intro rfl (And.intro rfl (And.intro rfl (And.intro rfl (trivial)))))))))
            | (have e5 : b01 ((msK b9 (D i9.toNat).A k).1 = 0 ∨ (if b9 = 0 then (msK b9 (D i9.toNat).A k).2 < (D i9.toNat).A ((k : Int) + 1) else (D i9.toNat).A ((k : Int) + 1) < (msK b9 (D i9.toNat).A k).2)) = 1 := b01_t (Or.inr (by first | (rw [if_pos c_51]; omega) | (rw [if_neg c_51]; omega)))
               have l9 := l76 (by omega)
               rw [e5] at l9
               exact e_go l9 (And.intro rfl (And.intro rfl (And.intro rfl (And.intro rfl (And.intro rfl (And.intro rfl (And.intro rfl (trivial)))))))))
            | (have e5 : b01 ((msK b9 (D i9.toNat).A k).1 = 0 ∨ (if b9 = 0 then (msK b9 (D i9.toNat).A k).2 < (D i9.toNat).A ((k : Int) + 1) else (D i9.toNat).A ((k : Int) + 1) < (msK b9 (D i9.toNat).A k).2)) = 0 := b01_f (fun q => q.elim c_47 (fun q => by first | (rw [if_pos c_51] at q; omega) | (rw [if_neg c_51] at q; omega)))
               have l9 := l76 (by omega)
               rw [e5] at l9
               exact e_go l9 (And.intro rfl (And.intro rfl (And.intro rfl (And.intro rfl (And.intro rfl (And.intro rfl (And.intro rfl (trivial)))))))))
          · refine e_iload_n F dX3_most_50 rfl ?_
            refine e_if_eq F 64 dX3_most_51 (by decide) (by rcases hb with h | h <;> rw [h] <;> decide) (fun c_51 => ?_) (fun c_51 => ?_)
            · refine e_iload F dX3_most_64 rfl ?_
              refine e_iload F dX3_most_66 rfl ?_
              refine e_icmp_le F 75 dX3_most_68 (by decide) (⟨by omega, by omega⟩) (⟨by omega, by omega⟩) (fun c_68 => ?_) (fun c_68 => ?_)
              · refine e_iconst F dX3_most_75 ?_
                have qb : ((msK b9 (D i9.toNat).A k).1 = 0 ∨ (if b9 = 0 then (msK b9 (D i9.toNat).A k).2 < (D i9.toNat).A ((k : Int) + 1) else (D i9.toNat).A ((k : Int) + 1) < (msK b9 (D i9.toNat).A k).2)) ∨ ¬ ((msK b9 (D i9.toNat).A k).1 = 0 ∨ (if b9 = 0 then (msK b9 (D i9.toNat).A k).2 < (D i9.toNat).A ((k : Int) + 1) else (D i9.toNat).A ((k : Int) + 1) < (msK b9 (D i9.toNat).A k).2)) := Classical.em _
                first
                | (have e5 : b01 ((msK b9 (D i9.toNat).A k).1 = 0 ∨ (if b9 = 0 then (msK b9 (D i9.toNat).A k).2 < (D i9.toNat).A ((k : Int) + 1) else (D i9.toNat).A ((k : Int) + 1) < (msK b9 (D i9.toNat).A k).2)) = 1 := b01_t (Or.inl c_47)
                   have l9 := l76 (by omega)
                   rw [e5] at l9
                   exact e_go l9 (And.intro rfl (And.intro rfl (And.intro rfl (And.intro rfl (And.intro rfl (And.intro rfl (And.intro rfl (trivial)))))))))
                | (have e5 : b01 ((msK b9 (D i9.toNat).A k).1 = 0 ∨ (if b9 = 0 then (msK b9 (D i9.toNat).A k).2 < (D i9.toNat).A ((k : Int) + 1) else (D i9.toNat).A ((k : Int) + 1) < (msK b9 (D i9.toNat).A k).2)) = 1 := b01_t (Or.inr (by first | (rw [if_pos c_51]; omega) | (rw [if_neg c_51]; omega)))
                   have l9 := l76 (by omega)
                   rw [e5] at l9
                   exact e_go l9 (And.intro rfl (And.intro rfl (And.intro rfl (And.intro rfl (And.intro rfl (And.intro rfl (And.intro rfl (trivial)))))))))
                | (have e5 : b01 ((msK b9 (D i9.toNat).A k).1 = 0 ∨ (if b9 = 0 then (msK b9 (D i9.toNat).A k).2 < (D i9.toNat).A ((k : Int) + 1) else (D i9.toNat).A ((k : Int) + 1) < (msK b9 (D i9.toNat).A k).2)) = 0 := b01_f (fun q => q.elim c_47 (fun q => by first | (rw [if_pos c_51] at q; omega) | (rw [if_neg c_51] at q; omega)))
                   have l9 := l76 (by omega)
                   rw [e5] at l9
                   exact e_go l9 (And.intro rfl (And.intro rfl (And.intro rfl (And.intro rfl (And.intro rfl (And.intro rfl (And.intro rfl (trivial)))))))))
              · refine e_iconst F dX3_most_71 ?_
                refine e_goto F 76 dX3_most_72 (by decide) ?_
                have qb : ((msK b9 (D i9.toNat).A k).1 = 0 ∨ (if b9 = 0 then (msK b9 (D i9.toNat).A k).2 < (D i9.toNat).A ((k : Int) + 1) else (D i9.toNat).A ((k : Int) + 1) < (msK b9 (D i9.toNat).A k).2)) ∨ ¬ ((msK b9 (D i9.toNat).A k).1 = 0 ∨ (if b9 = 0 then (msK b9 (D i9.toNat).A k).2 < (D i9.toNat).A ((k : Int) + 1) else (D i9.toNat).A ((k : Int) + 1) < (msK b9 (D i9.toNat).A k).2)) := Classical.em _
                first
                | (have e5 : b01 ((msK b9 (D i9.toNat).A k).1 = 0 ∨ (if b9 = 0 then (msK b9 (D i9.toNat).A k).2 < (D i9.toNat).A ((k : Int) + 1) else (D i9.toNat).A ((k : Int) + 1) < (msK b9 (D i9.toNat).A k).2)) = 1 := b01_t (Or.inl c_47)
                   have l9 := l76 (by omega)
                   rw [e5] at l9
                   exact e_go l9 (And.intro rfl (And.intro rfl (And.intro rfl (And.intro rfl (And.intro rfl (And.intro rfl (And.intro rfl (trivial)))))))))
                | (have e5 : b01 ((msK b9 (D i9.toNat).A k).1 = 0 ∨ (if b9 = 0 then (msK b9 (D i9.toNat).A k).2 < (D i9.toNat).A ((k : Int) + 1) else (D i9.toNat).A ((k : Int) + 1) < (msK b9 (D i9.toNat).A k).2)) = 1 := b01_t (Or.inr (by first | (rw [if_pos c_51]; omega) | (rw [if_neg c_51]; omega)))
                   have l9 := l76 (by omega)
                   rw [e5] at l9
                   exact e_go l9 (And.intro rfl (And.intro rfl (And.intro rfl (And.intro rfl (And.intro rfl (And.intro rfl (And.intro rfl (trivial)))))))))
                | (have e5 : b01 ((msK b9 (D i9.toNat).A k).1 = 0 ∨ (if b9 = 0 then (msK b9 (D i9.toNat).A k).2 < (D i9.toNat).A ((k : Int) + 1) else (D i9.toNat).A ((k : Int) + 1) < (msK b9 (D i9.toNat).A k).2)) = 0 := b01_f (fun q => q.elim c_47 (fun q => by first | (rw [if_pos c_51] at q; omega) | (rw [if_neg c_51] at q; omega)))
                   have l9 := l76 (by omega)
                   rw [e5] at l9
                   exact e_go l9 (And.intro rfl (And.intro rfl (And.intro rfl (And.intro rfl (And.intro rfl (And.intro rfl (And.intro rfl (trivial)))))))))
            · refine e_iload F dX3_most_54 rfl ?_
              refine e_iload F dX3_most_56 rfl ?_
              refine e_icmp_ge F 75 dX3_most_58 (by decide) (⟨by omega, by omega⟩) (⟨by omega, by omega⟩) (fun c_58 => ?_) (fun c_58 => ?_)
              · refine e_iconst F dX3_most_75 ?_
                have qb : ((msK b9 (D i9.toNat).A k).1 = 0 ∨ (if b9 = 0 then (msK b9 (D i9.toNat).A k).2 < (D i9.toNat).A ((k : Int) + 1) else (D i9.toNat).A ((k : Int) + 1) < (msK b9 (D i9.toNat).A k).2)) ∨ ¬ ((msK b9 (D i9.toNat).A k).1 = 0 ∨ (if b9 = 0 then (msK b9 (D i9.toNat).A k).2 < (D i9.toNat).A ((k : Int) + 1) else (D i9.toNat).A ((k : Int) + 1) < (msK b9 (D i9.toNat).A k).2)) := Classical.em _
                first
                | (have e5 : b01 ((msK b9 (D i9.toNat).A k).1 = 0 ∨ (if b9 = 0 then (msK b9 (D i9.toNat).A k).2 < (D i9.toNat).A ((k : Int) + 1) else (D i9.toNat).A ((k : Int) + 1) < (msK b9 (D i9.toNat).A k).2)) = 1 := b01_t (Or.inl c_47)
                   have l9 := l76 (by omega)
                   rw [e5] at l9
                   exact e_go l9 (And.intro rfl (And.intro rfl (And.intro rfl (And.intro rfl (And.intro rfl (And.intro rfl (And.intro rfl (trivial)))))))))
                | (have e5 : b01 ((msK b9 (D i9.toNat).A k).1 = 0 ∨ (if b9 = 0 then (msK b9 (D i9.toNat).A k).2 < (D i9.toNat).A ((k : Int) + 1) else (D i9.toNat).A ((k : Int) + 1) < (msK b9 (D i9.toNat).A k).2)) = 1 := b01_t (Or.inr (by first | (rw [if_pos c_51]; omega) | (rw [if_neg c_51]; omega)))
                   have l9 := l76 (by omega)
                   rw [e5] at l9
                   exact e_go l9 (And.intro rfl (And.intro rfl (And.intro rfl (And.intro rfl (And.intro rfl (And.intro rfl (And.intro rfl (trivial)))))))))
                | (have e5 : b01 ((msK b9 (D i9.toNat).A k).1 = 0 ∨ (if b9 = 0 then (msK b9 (D i9.toNat).A k).2 < (D i9.toNat).A ((k : Int) + 1) else (D i9.toNat).A ((k : Int) + 1) < (msK b9 (D i9.toNat).A k).2)) = 0 := b01_f (fun q => q.elim c_47 (fun q => by first | (rw [if_pos c_51] at q; omega) | (rw [if_neg c_51] at q; omega)))
                   have l9 := l76 (by omega)
                   rw [e5] at l9
                   exact e_go l9 (And.intro rfl (And.intro rfl (And.intro rfl (And.intro rfl (And.intro rfl (And.intro rfl (And.intro rfl (trivial)))))))))
              · refine e_goto F 71 dX3_most_61 (by decide) ?_
                refine e_iconst F dX3_most_71 ?_
                refine e_goto F 76 dX3_most_72 (by decide) ?_
                have qb : ((msK b9 (D i9.toNat).A k).1 = 0 ∨ (if b9 = 0 then (msK b9 (D i9.toNat).A k).2 < (D i9.toNat).A ((k : Int) + 1) else (D i9.toNat).A ((k : Int) + 1) < (msK b9 (D i9.toNat).A k).2)) ∨ ¬ ((msK b9 (D i9.toNat).A k).1 = 0 ∨ (if b9 = 0 then (msK b9 (D i9.toNat).A k).2 < (D i9.toNat).A ((k : Int) + 1) else (D i9.toNat).A ((k : Int) + 1) < (msK b9 (D i9.toNat).A k).2)) := Classical.em _
                first
                | (have e5 : b01 ((msK b9 (D i9.toNat).A k).1 = 0 ∨ (if b9 = 0 then (msK b9 (D i9.toNat).A k).2 < (D i9.toNat).A ((k : Int) + 1) else (D i9.toNat).A ((k : Int) + 1) < (msK b9 (D i9.toNat).A k).2)) = 1 := b01_t (Or.inl c_47)
                   have l9 := l76 (by omega)
                   rw [e5] at l9
                   exact e_go l9 (And.intro rfl (And.intro rfl (And.intro rfl (And.intro rfl (And.intro rfl (And.intro rfl (And.intro rfl (trivial)))))))))
                | (have e5 : b01 ((msK b9 (D i9.toNat).A k).1 = 0 ∨ (if b9 = 0 then (msK b9 (D i9.toNat).A k).2 < (D i9.toNat).A ((k : Int) + 1) else (D i9.toNat).A ((k : Int) + 1) < (msK b9 (D i9.toNat).A k).2)) = 1 := b01_t (Or.inr (by first | (rw [if_pos c_51]; omega) | (rw [if_neg c_51]; omega)))
                   have l9 := l76 (by omega)
                   rw [e5] at l9
                   exact e_go l9 (And.intro rfl (And.intro rfl (And.intro rfl (And.intro rfl (And.intro rfl (And.intro rfl (And.intro rfl (trivial)))))))))
                | (have e5 : b01 ((msK b9 (D i9.toNat).A k).1 = 0 ∨ (if b9 = 0 then (msK b9 (D i9.toNat).A k).2 < (D i9.toNat).A ((k : Int) + 1) else (D i9.toNat).A ((k : Int) + 1) < (msK b9 (D i9.toNat).A k).2)) = 0 := b01_f (fun q => q.elim c_47 (fun q => by first | (rw [if_pos c_51] at q; omega) | (rw [if_neg c_51] at q; omega)))
                   have l9 := l76 (by omega)
                   rw [e5] at l9
                   exact e_go l9 (And.intro rfl (And.intro rfl (And.intro rfl (And.intro rfl (And.intro rfl (And.intro rfl (And.intro rfl (trivial)))))))))
    refine e_iconst F dX3_most_16 ?_
    refine e_istore F dX3_most_17 (by decide) ?_
    refine e_iconst F dX3_most_19 ?_
    refine e_istore F dX3_most_20 (by decide) ?_
    refine e_iconst F dX3_most_22 ?_
    refine e_istore F dX3_most_23 (by decide) ?_
    exact e_go (lp 8 0 (by omega) (by omega)) (And.intro rfl (And.intro rfl (And.intro rfl (And.intro rfl (And.intro rfl (And.intro rfl (trivial)))))))
  ·
    rw [b01_0, Classical.not_not] at c_10
    refine e_bipush F dX3_most_13 (by decide) ?_
    refine e_iret F rfl (by omega) ?_ dX3_most_15
    refine ⟨hi1, ?_, rfl, hC0, FR.rf⟩
    rw [if_pos c_10]
set_option maxHeartbeats 4000000 in
set_option maxRecDepth 100000 in
theorem c_X3_isSame {K : e_K} {l : Launch} {w : e_W} {n : Nat} {x wh : Nat} {kn : Int} {D : Nat → SD} (hC : CW w x wh kn D) {i9 : Int} (hi9 : e_r i9) {j9 : Int} (hj9 : e_r j9) : e_Met K l yX3_isSame (Cond.code yX3_isSame cX3_isSame 7 (Option.some .boolean) :: e_TB) (7) (2) [.ref x, .int (eI i9), .int (eI j9)] w n (fun r w' n' => ((0 ≤ i9 ∧ i9 < 6) ∧ (0 ≤ j9 ∧ j9 < 6)) ∧ r = some (.int (eI (smV wh (D i9.toNat) (D j9.toNat)))) ∧ n' = n ∧ CW w' x wh (kn) (D) ∧ FR w w' x) (pxd w (¬ ((0 ≤ i9 ∧ i9 < 6) ∧ (0 ≤ j9 ∧ j9 < 6))) False) := by
  refine e_ofV rfl (Nat.le_of_ble_eq_true rfl) ?_
  intro P9 E9 S9 M9 A9 B9 T9 C9 F hnm
  have hC0 := hC
  have hDA := hC.2.2.2.2.1
  obtain ⟨hX, hF, hwh, ⟨P0, hQ⟩, ⟨ga, hga, hgj⟩, hDs, s0, hS⟩ := hC
  have hp := pr_rg wh hwh
  have ho9 := ho_rg wh hwh
  have hg9 := gr_rg wh hwh
  have hf9 := fl_rg wh hwh
  refine e_aload_n F dX3_isSame_0 rfl ?_
  refine e_iload_n F dX3_isSame_1 rfl ?_
  refine e_callVV F u_X3_dealAt (by rfl) (c_X3_dealAt hX hDA (i := i9) hi9) hX rfl rfl w_ml_RX3_94 dX3_isSame_2 (by rfl) (Nat.le_of_ble_eq_true rfl) (by decide) (by omega) (fun E w2 n2 h _ => ⟨Or.inl ⟨h.1, by have q := h.2.1; omega⟩, h.2.2⟩) (fun r_2 w_2 n_2 h_2 hn_2 => ?_)
  obtain ⟨hi1, rfl, ew_2, en_2⟩ := h_2
  rw [ew_2, en_2]
  obtain ⟨hD1, hW1⟩ := hDs i9.toNat (by omega)
  refine e_astore_n F dX3_isSame_5 (by decide) ?_
  refine e_aload_n F dX3_isSame_6 rfl ?_
  refine e_iload_n F dX3_isSame_7 rfl ?_
  refine e_callVV F u_X3_dealAt (by rfl) (c_X3_dealAt hX hDA (i := j9) hj9) hX rfl rfl w_ml_RX3_94 dX3_isSame_8 (by rfl) (Nat.le_of_ble_eq_true rfl) (by decide) (by omega) (fun E w2 n2 h _ => ⟨Or.inl ⟨h.1, by have q := h.2.1; omega⟩, h.2.2⟩) (fun r_8 w_8 n_8 h_8 hn_8 => ?_)
  obtain ⟨hi2, rfl, ew_8, en_8⟩ := h_8
  rw [ew_8, en_8]
  obtain ⟨hD2, hW2⟩ := hDs j9.toNat (by omega)
  refine e_astore F dX3_isSame_11 (by decide) ?_
  refine e_aload_n F dX3_isSame_13 rfl ?_
  refine e_callVN F u_X0_isEmpty (by rfl) (c_X0_isEmpty hD1) hD1.1 rfl rfl w_mn_RX3_109 dX3_isSame_14 (by rfl) (Nat.le_of_ble_eq_true rfl) (by decide) (by omega) (fun _ _ _ h _ => False.elim h) (fun r_14 w_14 n_14 h_14 hn_14 => ?_)
  obtain ⟨rfl, ew_14, en_14⟩ := h_14
  rw [ew_14, en_14]
  refine e_if_ne F 28 dX3_isSame_17 (by decide) (b01_r _) (fun c_17 => ?_) (fun c_17 => ?_)
  ·
    rw [ne_eq, b01_0, Classical.not_not] at c_17
    refine e_aload_n F dX3_isSame_28 rfl ?_
    refine e_callVN F u_X0_isEmpty (by rfl) (c_X0_isEmpty hD1) hD1.1 rfl rfl w_mn_RX3_109 dX3_isSame_29 (by rfl) (Nat.le_of_ble_eq_true rfl) (by decide) (by omega) (fun _ _ _ h _ => False.elim h) (fun r_29 w_29 n_29 h_29 hn_29 => ?_)
    obtain ⟨rfl, ew_29, en_29⟩ := h_29
    rw [ew_29, en_29]
    refine e_if_eq F 47 dX3_isSame_32 (by decide) (b01_r _) (fun c_32 => ?_) (fun c_32 => ?_)
    ·
      rw [b01_0] at c_32
      refine e_iconst F dX3_isSame_47 ?_
      refine e_zret F rfl (by omega) (by omega) ?_ dX3_isSame_48
      refine ⟨⟨hi1, hi2⟩, ?_, rfl, hC0, FR.rf⟩
      unfold smV
      rw [if_pos (by first | exact Or.inl c_17 | exact Or.inr c_25)]
      first | rw [b01_t (And.intro c_32 c_40)] | rw [b01_f (fun q => by first | exact c_32 q.1 | exact c_40 q.2)]
    ·
      rw [b01_0, Classical.not_not] at c_32
      refine e_aload F dX3_isSame_35 rfl ?_
      refine e_callVN F u_X0_isEmpty (by rfl) (c_X0_isEmpty hD2) hD2.1 rfl rfl w_mn_RX3_109 dX3_isSame_37 (by rfl) (Nat.le_of_ble_eq_true rfl) (by decide) (by omega) (fun _ _ _ h _ => False.elim h) (fun r_37 w_37 n_37 h_37 hn_37 => ?_)
      obtain ⟨rfl, ew_37, en_37⟩ := h_37
      rw [ew_37, en_37]
      refine e_if_eq F 47 dX3_isSame_40 (by decide) (b01_r _) (fun c_40 => ?_) (fun c_40 => ?_)
      ·
        rw [b01_0] at c_40
        refine e_iconst F dX3_isSame_47 ?_
        refine e_zret F rfl (by omega) (by omega) ?_ dX3_isSame_48
        refine ⟨⟨hi1, hi2⟩, ?_, rfl, hC0, FR.rf⟩
        unfold smV
        rw [if_pos (by first | exact Or.inl c_17 | exact Or.inr c_25)]
        first | rw [b01_t (And.intro c_32 c_40)] | rw [b01_f (fun q => by first | exact c_32 q.1 | exact c_40 q.2)]
      ·
        rw [b01_0, Classical.not_not] at c_40
        refine e_iconst F dX3_isSame_43 ?_
        refine e_goto F 48 dX3_isSame_44 (by decide) ?_
        refine e_zret F rfl (by omega) (by omega) ?_ dX3_isSame_48
        refine ⟨⟨hi1, hi2⟩, ?_, rfl, hC0, FR.rf⟩
        unfold smV
        rw [if_pos (by first | exact Or.inl c_17 | exact Or.inr c_25)]
        first | rw [b01_t (And.intro c_32 c_40)] | rw [b01_f (fun q => by first | exact c_32 q.1 | exact c_40 q.2)]
  ·
    rw [b01_0] at c_17
    refine e_aload F dX3_isSame_20 rfl ?_
    refine e_callVN F u_X0_isEmpty (by rfl) (c_X0_isEmpty hD2) hD2.1 rfl rfl w_mn_RX3_109 dX3_isSame_22 (by rfl) (Nat.le_of_ble_eq_true rfl) (by decide) (by omega) (fun _ _ _ h _ => False.elim h) (fun r_22 w_22 n_22 h_22 hn_22 => ?_)
    obtain ⟨rfl, ew_22, en_22⟩ := h_22
    rw [ew_22, en_22]
    refine e_if_eq F 49 dX3_isSame_25 (by decide) (b01_r _) (fun c_25 => ?_) (fun c_25 => ?_)
    ·
      rw [b01_0] at c_25
      have lp : ∀ (N : Nat) (k : Nat), (7 - k) < N → (k : Int) ≤ ho wh → e_V K P9 l E9 (7) (2) S9 M9 A9 B9 T9 C9 7 (fun r w' n' => ((0 ≤ i9 ∧ i9 < 6) ∧ (0 ≤ j9 ∧ j9 < 6)) ∧ r = some (.int (eI (smV wh (D i9.toNat) (D j9.toNat)))) ∧ n' = n ∧ CW w' x wh (kn) (D) ∧ FR w w' x) (pxd w (¬ ((0 ≤ i9 ∧ i9 < 6) ∧ (0 ≤ j9 ∧ j9 < 6))) False) 71 [(0, .ref x), (3, .ref (x + 6 + 3 * i9.toNat)), (4, .ref (x + 6 + 3 * j9.toNat)), (5, .int (eI (b01 (smK (D i9.toNat) (D j9.toNat) k = true)))), (6, .int (eI ((k : Int) + 1)))] [] w n ((0 + 1 + 1 + 0 + 0)) := by
        intro N
        induction N with
        | zero => intro k hN; exact absurd hN (Nat.not_lt_zero _)
        | succ N ih =>
          intro k hN hk
          refine e_iload F dX3_isSame_71 rfl ?_
          refine e_aload_n F dX3_isSame_73 rfl ?_
          refine e_get (ci := 3) (fi := 0) (q := (RX3, TX3, 5)) F (by first | assumption | exact e_up_s | (rw [e_up_n (by first | assumption | omega)]; first | assumption | exact e_up_s | (rw [e_up_n (by first | assumption | omega)]; first | assumption | exact e_up_s | (rw [e_up_n (by first | assumption | omega)]; first | assumption | exact e_up_s))) | exact hD.1 | exact hD1.1 | exact hD2.1 | exact gD.1 | exact gD1.1 | exact gD2.1 | exact gQ.1 | exact hQ.1 | exact gS.1 | exact hS.1 | exact zD.1) rfl (by decide) w_fl_RX3_10 (by rfl) dX3_isSame_74 ?_
          refine e_getN (ci := 1) (fi := 4) (q := (RX1, TX1, 5)) F (by first | assumption | exact e_up_s | (rw [e_up_n (by first | assumption | omega)]; first | assumption | exact e_up_s | (rw [e_up_n (by first | assumption | omega)]; first | assumption | exact e_up_s | (rw [e_up_n (by first | assumption | omega)]; first | assumption | exact e_up_s))) | exact hD.1 | exact hD1.1 | exact hD2.1 | exact gD.1 | exact gD1.1 | exact gD2.1 | exact gQ.1 | exact hQ.1 | exact gS.1 | exact hS.1 | exact zD.1) rfl (by decide) w_fn_RX3_116 (by rfl) dX3_isSame_77 ?_
          refine e_icmp_gt F 117 dX3_isSame_80 (by decide) (⟨by omega, by omega⟩) (⟨by omega, by omega⟩) (fun c_80 => ?_) (fun c_80 => ?_)
          ·
            obtain rfl : k = (ho wh).toNat := by omega
            refine e_iload F dX3_isSame_117 rfl ?_
            refine e_zret F rfl (by omega) (b01_or _) ?_ dX3_isSame_119
            refine ⟨⟨hi1, hi2⟩, ?_, rfl, hC0, FR.rf⟩
            unfold smV
            rw [if_neg (fun q => q.elim c_17 c_25)]
          · refine e_iload F dX3_isSame_83 rfl ?_
            refine e_if_eq F 108 dX3_isSame_85 (by decide) (b01_r _) (fun c_85 => ?_) (fun c_85 => ?_)
            ·
              rw [b01_0] at c_85
              refine e_iconst F dX3_isSame_108 ?_
              refine e_istore F dX3_isSame_109 (by decide) ?_
              refine e_iinc F dX3_isSame_111 rfl (by decide) ?_
              refine e_goto F 71 dX3_isSame_114 (by decide) ?_
              have e6 : smK (D i9.toNat) (D j9.toNat) (k + 1) = (smK (D i9.toNat) (D j9.toNat) k && decide ((D i9.toNat).A ((k : Int) + 1) = (D j9.toNat).A ((k : Int) + 1))) := rfl
              first
              | (have e5 : b01 (smK (D i9.toNat) (D j9.toNat) (k + 1) = true) = 1 := b01_t (by rw [e6, c_85, c_101]; simp)
                 have l9 := ih (k + 1) (by omega) (by omega)
                 rw [e5] at l9
                 exact e_go l9 (And.intro rfl (And.intro rfl (And.intro rfl (And.intro rfl (And.intro rfl (trivial)))))))
              | (have q9 := c_101
                 have e5 : b01 (smK (D i9.toNat) (D j9.toNat) (k + 1) = true) = 0 := b01_f (by rw [e6]; simp [c_85, q9])
                 have l9 := ih (k + 1) (by omega) (by omega)
                 rw [e5] at l9
                 exact e_go l9 (And.intro rfl (And.intro rfl (And.intro rfl (And.intro rfl (And.intro rfl (trivial)))))))
              | (have e5 : b01 (smK (D i9.toNat) (D j9.toNat) (k + 1) = true) = 0 := b01_f (by rw [e6]; simp [c_85])
                 have l9 := ih (k + 1) (by omega) (by omega)
                 rw [e5] at l9
                 exact e_go l9 (And.intro rfl (And.intro rfl (And.intro rfl (And.intro rfl (And.intro rfl (trivial)))))))
            ·
              rw [b01_0, Classical.not_not] at c_85
              refine e_aload_n F dX3_isSame_88 rfl ?_
              refine e_iload F dX3_isSame_89 rfl ?_
              refine e_callVN F u_X0_shareAt (by rfl) (c_X0_shareAt hD1 (h := (k : Int) + 1) (by omega) (by omega)) hD1.1 rfl rfl w_mn_RX3_123 dX3_isSame_91 (by rfl) (Nat.le_of_ble_eq_true rfl) (by decide) (by omega) (fun _ _ _ h _ => False.elim h) (fun r_91 w_91 n_91 h_91 hn_91 => ?_)
              obtain ⟨rfl, ew_91, en_91⟩ := h_91
              rw [ew_91, en_91]
              have ra := hD1.2.2.2.2.2.2.1 ((k : Int) + 1) (by omega) (by omega)
              have rb := hD2.2.2.2.2.2.2.1 ((k : Int) + 1) (by omega) (by omega)
              refine e_aload F dX3_isSame_94 rfl ?_
              refine e_iload F dX3_isSame_96 rfl ?_
              refine e_callVN F u_X0_shareAt (by rfl) (c_X0_shareAt hD2 (h := (k : Int) + 1) (by omega) (by omega)) hD2.1 rfl rfl w_mn_RX3_123 dX3_isSame_98 (by rfl) (Nat.le_of_ble_eq_true rfl) (by decide) (by omega) (fun _ _ _ h _ => False.elim h) (fun r_98 w_98 n_98 h_98 hn_98 => ?_)
              obtain ⟨rfl, ew_98, en_98⟩ := h_98
              rw [ew_98, en_98]
              refine e_icmp_ne F 108 dX3_isSame_101 (by decide) (⟨by omega, by omega⟩) (⟨by omega, by omega⟩) (fun c_101 => ?_) (fun c_101 => ?_)
              · refine e_iconst F dX3_isSame_108 ?_
                refine e_istore F dX3_isSame_109 (by decide) ?_
                refine e_iinc F dX3_isSame_111 rfl (by decide) ?_
                refine e_goto F 71 dX3_isSame_114 (by decide) ?_
                have e6 : smK (D i9.toNat) (D j9.toNat) (k + 1) = (smK (D i9.toNat) (D j9.toNat) k && decide ((D i9.toNat).A ((k : Int) + 1) = (D j9.toNat).A ((k : Int) + 1))) := rfl
                first
                | (have e5 : b01 (smK (D i9.toNat) (D j9.toNat) (k + 1) = true) = 1 := b01_t (by rw [e6, c_85, c_101]; simp)
                   have l9 := ih (k + 1) (by omega) (by omega)
                   rw [e5] at l9
                   exact e_go l9 (And.intro rfl (And.intro rfl (And.intro rfl (And.intro rfl (And.intro rfl (trivial)))))))
                | (have q9 := c_101
                   have e5 : b01 (smK (D i9.toNat) (D j9.toNat) (k + 1) = true) = 0 := b01_f (by rw [e6]; simp [c_85, q9])
                   have l9 := ih (k + 1) (by omega) (by omega)
                   rw [e5] at l9
                   exact e_go l9 (And.intro rfl (And.intro rfl (And.intro rfl (And.intro rfl (And.intro rfl (trivial)))))))
                | (have e5 : b01 (smK (D i9.toNat) (D j9.toNat) (k + 1) = true) = 0 := b01_f (by rw [e6]; simp [c_85])
                   have l9 := ih (k + 1) (by omega) (by omega)
                   rw [e5] at l9
                   exact e_go l9 (And.intro rfl (And.intro rfl (And.intro rfl (And.intro rfl (And.intro rfl (trivial)))))))
              · refine e_iconst F dX3_isSame_104 ?_
                refine e_goto F 109 dX3_isSame_105 (by decide) ?_
                refine e_istore F dX3_isSame_109 (by decide) ?_
                refine e_iinc F dX3_isSame_111 rfl (by decide) ?_
                refine e_goto F 71 dX3_isSame_114 (by decide) ?_
                have e6 : smK (D i9.toNat) (D j9.toNat) (k + 1) = (smK (D i9.toNat) (D j9.toNat) k && decide ((D i9.toNat).A ((k : Int) + 1) = (D j9.toNat).A ((k : Int) + 1))) := rfl
                first
                | (have e5 : b01 (smK (D i9.toNat) (D j9.toNat) (k + 1) = true) = 1 := b01_t (by rw [e6, c_85, c_101]; simp)
                   have l9 := ih (k + 1) (by omega) (by omega)
                   rw [e5] at l9
                   exact e_go l9 (And.intro rfl (And.intro rfl (And.intro rfl (And.intro rfl (And.intro rfl (trivial)))))))
                | (have q9 := c_101
                   have e5 : b01 (smK (D i9.toNat) (D j9.toNat) (k + 1) = true) = 0 := b01_f (by rw [e6]; simp [c_85, q9])
                   have l9 := ih (k + 1) (by omega) (by omega)
                   rw [e5] at l9
                   exact e_go l9 (And.intro rfl (And.intro rfl (And.intro rfl (And.intro rfl (And.intro rfl (trivial)))))))
                | (have e5 : b01 (smK (D i9.toNat) (D j9.toNat) (k + 1) = true) = 0 := b01_f (by rw [e6]; simp [c_85])
                   have l9 := ih (k + 1) (by omega) (by omega)
                   rw [e5] at l9
                   exact e_go l9 (And.intro rfl (And.intro rfl (And.intro rfl (And.intro rfl (And.intro rfl (trivial)))))))
      refine e_aload_n F dX3_isSame_49 rfl ?_
      refine e_getN (ci := 0) (fi := 1) (q := (RX0, TX0, 5)) F hD1.1 rfl (by decide) w_fn_RX3_113 (by rfl) dX3_isSame_50 ?_
      refine e_aload F dX3_isSame_53 rfl ?_
      refine e_getN (ci := 0) (fi := 1) (q := (RX0, TX0, 5)) F hD2.1 rfl (by decide) w_fn_RX3_113 (by rfl) dX3_isSame_55 ?_
      refine e_icmp_ne F 65 dX3_isSame_58 (by decide) ((by have := hD1.2.2.2.2.1; constructor <;> omega)) ((by have := hD2.2.2.2.2.1; constructor <;> omega)) (fun c_58 => ?_) (fun c_58 => ?_)
      · refine e_iconst F dX3_isSame_65 ?_
        refine e_istore F dX3_isSame_66 (by decide) ?_
        refine e_iconst F dX3_isSame_68 ?_
        refine e_istore F dX3_isSame_69 (by decide) ?_
        first
        | (have e5 : b01 (smK (D i9.toNat) (D j9.toNat) 0 = true) = 1 := b01_t (decide_eq_true c_58)
           have l9 := lp 8 0 (by omega) (by omega)
           rw [e5] at l9
           exact e_go l9 (And.intro rfl (And.intro rfl (And.intro rfl (And.intro rfl (And.intro rfl (trivial)))))))
        | (have e5 : b01 (smK (D i9.toNat) (D j9.toNat) 0 = true) = 0 := b01_f (fun q => c_58 (of_decide_eq_true q))
           have l9 := lp 8 0 (by omega) (by omega)
           rw [e5] at l9
           exact e_go l9 (And.intro rfl (And.intro rfl (And.intro rfl (And.intro rfl (And.intro rfl (trivial)))))))
      · refine e_iconst F dX3_isSame_61 ?_
        refine e_goto F 66 dX3_isSame_62 (by decide) ?_
        refine e_istore F dX3_isSame_66 (by decide) ?_
        refine e_iconst F dX3_isSame_68 ?_
        refine e_istore F dX3_isSame_69 (by decide) ?_
        first
        | (have e5 : b01 (smK (D i9.toNat) (D j9.toNat) 0 = true) = 1 := b01_t (decide_eq_true c_58)
           have l9 := lp 8 0 (by omega) (by omega)
           rw [e5] at l9
           exact e_go l9 (And.intro rfl (And.intro rfl (And.intro rfl (And.intro rfl (And.intro rfl (trivial)))))))
        | (have e5 : b01 (smK (D i9.toNat) (D j9.toNat) 0 = true) = 0 := b01_f (fun q => c_58 (of_decide_eq_true q))
           have l9 := lp 8 0 (by omega) (by omega)
           rw [e5] at l9
           exact e_go l9 (And.intro rfl (And.intro rfl (And.intro rfl (And.intro rfl (And.intro rfl (trivial)))))))
    ·
      rw [b01_0, Classical.not_not] at c_25
      refine e_aload_n F dX3_isSame_28 rfl ?_
      refine e_callVN F u_X0_isEmpty (by rfl) (c_X0_isEmpty hD1) hD1.1 rfl rfl w_mn_RX3_109 dX3_isSame_29 (by rfl) (Nat.le_of_ble_eq_true rfl) (by decide) (by omega) (fun _ _ _ h _ => False.elim h) (fun r_29 w_29 n_29 h_29 hn_29 => ?_)
      obtain ⟨rfl, ew_29, en_29⟩ := h_29
      rw [ew_29, en_29]
      refine e_if_eq F 47 dX3_isSame_32 (by decide) (b01_r _) (fun c_32 => ?_) (fun c_32 => ?_)
      ·
        rw [b01_0] at c_32
        refine e_iconst F dX3_isSame_47 ?_
        refine e_zret F rfl (by omega) (by omega) ?_ dX3_isSame_48
        refine ⟨⟨hi1, hi2⟩, ?_, rfl, hC0, FR.rf⟩
        unfold smV
        rw [if_pos (by first | exact Or.inl c_17 | exact Or.inr c_25)]
        first | rw [b01_t (And.intro c_32 c_40)] | rw [b01_f (fun q => by first | exact c_32 q.1 | exact c_40 q.2)]
      ·
        rw [b01_0, Classical.not_not] at c_32
        refine e_aload F dX3_isSame_35 rfl ?_
        refine e_callVN F u_X0_isEmpty (by rfl) (c_X0_isEmpty hD2) hD2.1 rfl rfl w_mn_RX3_109 dX3_isSame_37 (by rfl) (Nat.le_of_ble_eq_true rfl) (by decide) (by omega) (fun _ _ _ h _ => False.elim h) (fun r_37 w_37 n_37 h_37 hn_37 => ?_)
        obtain ⟨rfl, ew_37, en_37⟩ := h_37
        rw [ew_37, en_37]
        refine e_if_eq F 47 dX3_isSame_40 (by decide) (b01_r _) (fun c_40 => ?_) (fun c_40 => ?_)
        ·
          rw [b01_0] at c_40
          refine e_iconst F dX3_isSame_47 ?_
          refine e_zret F rfl (by omega) (by omega) ?_ dX3_isSame_48
          refine ⟨⟨hi1, hi2⟩, ?_, rfl, hC0, FR.rf⟩
          unfold smV
          rw [if_pos (by first | exact Or.inl c_17 | exact Or.inr c_25)]
          first | rw [b01_t (And.intro c_32 c_40)] | rw [b01_f (fun q => by first | exact c_32 q.1 | exact c_40 q.2)]
        ·
          rw [b01_0, Classical.not_not] at c_40
          refine e_iconst F dX3_isSame_43 ?_
          refine e_goto F 48 dX3_isSame_44 (by decide) ?_
          refine e_zret F rfl (by omega) (by omega) ?_ dX3_isSame_48
          refine ⟨⟨hi1, hi2⟩, ?_, rfl, hC0, FR.rf⟩
          unfold smV
          rw [if_pos (by first | exact Or.inl c_17 | exact Or.inr c_25)]
          first | rw [b01_t (And.intro c_32 c_40)] | rw [b01_f (fun q => by first | exact c_32 q.1 | exact c_40 q.2)]
end
-- 31.house.lean.txt
section
/-! Secretshares: the house -/
set_option maxHeartbeats 4000000 in
set_option maxRecDepth 100000 in
theorem c_X3_house {K : e_K} {l : Launch} {w : e_W} {n : Nat} {x wh : Nat} {kn : Int} {D : Nat → SD} (hC : CW w x wh kn D) {c9 : Int} (hc9 : e_r c9) : e_Met K l yX3_house (Cond.code yX3_house cX3_house 2 (Option.some .int) :: e_TB) (7) (1) [.ref x, .int (eI c9)] w n (fun r w' n' => (0 ≤ c9 ∧ c9 ≤ 6) ∧ r = some (.int (eI (hsV wh kn D c9))) ∧ n' = n ∧ CW w' x wh (kn) (D) ∧ FR w w' x) (pxd w False (¬ (0 ≤ c9 ∧ c9 ≤ 6))) := by
  refine e_ofV rfl (Nat.le_of_ble_eq_true rfl) ?_
  intro P9 E9 S9 M9 A9 B9 T9 C9 F hnm
  have hC0 := hC
  have hDA := hC.2.2.2.2.1
  obtain ⟨hX, hF, hwh, ⟨P0, hQ⟩, ⟨ga, hga, hgj⟩, hDs, s0, hS⟩ := hC
  have hp := pr_rg wh hwh
  have ho9 := ho_rg wh hwh
  have hg9 := gr_rg wh hwh
  have hf9 := fl_rg wh hwh
  refine e_iload_n F dX3_house_0 rfl ?_
  rcases (show c9 = 0 ∨ c9 = 1 ∨ c9 = 2 ∨ c9 = 3 ∨ c9 = 4 ∨ c9 = 5 ∨ c9 = 6 ∨ (c9 < 0 ∨ 6 < c9) by omega) with rfl | rfl | rfl | rfl | rfl | rfl | rfl | ho
  · refine e_tabIn F 44 dX3_house_1 (by decide) (by decide) (by decide) (by rfl) (by decide) ?_
    refine e_aload_n F dX3_house_44 rfl ?_
    refine e_get (ci := 3) (fi := 0) (q := (RX3, TX3, 5)) F (by first | assumption | exact e_up_s | (rw [e_up_n (by first | assumption | omega)]; first | assumption | exact e_up_s | (rw [e_up_n (by first | assumption | omega)]; first | assumption | exact e_up_s | (rw [e_up_n (by first | assumption | omega)]; first | assumption | exact e_up_s))) | exact hD.1 | exact hD1.1 | exact hD2.1 | exact gD.1 | exact gD1.1 | exact gD2.1 | exact gQ.1 | exact hQ.1 | exact gS.1 | exact hS.1 | exact zD.1) rfl (by decide) w_fl_RX3_10 (by rfl) dX3_house_45 ?_
    refine e_getN (ci := 1) (fi := 0) (q := (RX1, TX1, 5)) F (by first | assumption | exact e_up_s | (rw [e_up_n (by first | assumption | omega)]; first | assumption | exact e_up_s | (rw [e_up_n (by first | assumption | omega)]; first | assumption | exact e_up_s | (rw [e_up_n (by first | assumption | omega)]; first | assumption | exact e_up_s))) | exact hD.1 | exact hD1.1 | exact hD2.1 | exact gD.1 | exact gD1.1 | exact gD2.1 | exact gQ.1 | exact hQ.1 | exact gS.1 | exact hS.1 | exact zD.1) rfl (by decide) w_fn_RX3_248 (by rfl) dX3_house_48 ?_
    refine e_iret F rfl (by omega) ?_ dX3_house_51
    exact ⟨by decide, rfl, rfl, hC0, FR.rf⟩
  · refine e_tabIn F 52 dX3_house_1 (by decide) (by decide) (by decide) (by rfl) (by decide) ?_
    refine e_aload_n F dX3_house_52 rfl ?_
    refine e_get (ci := 3) (fi := 0) (q := (RX3, TX3, 5)) F (by first | assumption | exact e_up_s | (rw [e_up_n (by first | assumption | omega)]; first | assumption | exact e_up_s | (rw [e_up_n (by first | assumption | omega)]; first | assumption | exact e_up_s | (rw [e_up_n (by first | assumption | omega)]; first | assumption | exact e_up_s))) | exact hD.1 | exact hD1.1 | exact hD2.1 | exact gD.1 | exact gD1.1 | exact gD2.1 | exact gQ.1 | exact hQ.1 | exact gS.1 | exact hS.1 | exact zD.1) rfl (by decide) w_fl_RX3_10 (by rfl) dX3_house_53 ?_
    refine e_getN (ci := 1) (fi := 1) (q := (RX1, TX1, 5)) F (by first | assumption | exact e_up_s | (rw [e_up_n (by first | assumption | omega)]; first | assumption | exact e_up_s | (rw [e_up_n (by first | assumption | omega)]; first | assumption | exact e_up_s | (rw [e_up_n (by first | assumption | omega)]; first | assumption | exact e_up_s))) | exact hD.1 | exact hD1.1 | exact hD2.1 | exact gD.1 | exact gD1.1 | exact gD2.1 | exact gQ.1 | exact hQ.1 | exact gS.1 | exact hS.1 | exact zD.1) rfl (by decide) w_fn_RX3_49 (by rfl) dX3_house_56 ?_
    refine e_iret F rfl (by omega) ?_ dX3_house_59
    exact ⟨by decide, rfl, rfl, hC0, FR.rf⟩
  · refine e_tabIn F 60 dX3_house_1 (by decide) (by decide) (by decide) (by rfl) (by decide) ?_
    refine e_aload_n F dX3_house_60 rfl ?_
    refine e_get (ci := 3) (fi := 0) (q := (RX3, TX3, 5)) F (by first | assumption | exact e_up_s | (rw [e_up_n (by first | assumption | omega)]; first | assumption | exact e_up_s | (rw [e_up_n (by first | assumption | omega)]; first | assumption | exact e_up_s | (rw [e_up_n (by first | assumption | omega)]; first | assumption | exact e_up_s))) | exact hD.1 | exact hD1.1 | exact hD2.1 | exact gD.1 | exact gD1.1 | exact gD2.1 | exact gQ.1 | exact hQ.1 | exact gS.1 | exact hS.1 | exact zD.1) rfl (by decide) w_fl_RX3_10 (by rfl) dX3_house_61 ?_
    refine e_getN (ci := 1) (fi := 2) (q := (RX1, TX1, 5)) F (by first | assumption | exact e_up_s | (rw [e_up_n (by first | assumption | omega)]; first | assumption | exact e_up_s | (rw [e_up_n (by first | assumption | omega)]; first | assumption | exact e_up_s | (rw [e_up_n (by first | assumption | omega)]; first | assumption | exact e_up_s))) | exact hD.1 | exact hD1.1 | exact hD2.1 | exact gD.1 | exact gD1.1 | exact gD2.1 | exact gQ.1 | exact hQ.1 | exact gS.1 | exact hS.1 | exact zD.1) rfl (by decide) w_fn_RX3_164 (by rfl) dX3_house_64 ?_
    refine e_iret F rfl (by omega) ?_ dX3_house_67
    exact ⟨by decide, rfl, rfl, hC0, FR.rf⟩
  · refine e_tabIn F 68 dX3_house_1 (by decide) (by decide) (by decide) (by rfl) (by decide) ?_
    refine e_aload_n F dX3_house_68 rfl ?_
    refine e_get (ci := 3) (fi := 0) (q := (RX3, TX3, 5)) F (by first | assumption | exact e_up_s | (rw [e_up_n (by first | assumption | omega)]; first | assumption | exact e_up_s | (rw [e_up_n (by first | assumption | omega)]; first | assumption | exact e_up_s | (rw [e_up_n (by first | assumption | omega)]; first | assumption | exact e_up_s))) | exact hD.1 | exact hD1.1 | exact hD2.1 | exact gD.1 | exact gD1.1 | exact gD2.1 | exact gQ.1 | exact hQ.1 | exact gS.1 | exact hS.1 | exact zD.1) rfl (by decide) w_fl_RX3_10 (by rfl) dX3_house_69 ?_
    refine e_getN (ci := 1) (fi := 3) (q := (RX1, TX1, 5)) F (by first | assumption | exact e_up_s | (rw [e_up_n (by first | assumption | omega)]; first | assumption | exact e_up_s | (rw [e_up_n (by first | assumption | omega)]; first | assumption | exact e_up_s | (rw [e_up_n (by first | assumption | omega)]; first | assumption | exact e_up_s))) | exact hD.1 | exact hD1.1 | exact hD2.1 | exact gD.1 | exact gD1.1 | exact gD2.1 | exact gQ.1 | exact hQ.1 | exact gS.1 | exact hS.1 | exact zD.1) rfl (by decide) w_fn_RX3_251 (by rfl) dX3_house_72 ?_
    refine e_iret F rfl (by omega) ?_ dX3_house_75
    exact ⟨by decide, rfl, rfl, hC0, FR.rf⟩
  · refine e_tabIn F 76 dX3_house_1 (by decide) (by decide) (by decide) (by rfl) (by decide) ?_
    refine e_aload_n F dX3_house_76 rfl ?_
    refine e_get (ci := 3) (fi := 0) (q := (RX3, TX3, 5)) F (by first | assumption | exact e_up_s | (rw [e_up_n (by first | assumption | omega)]; first | assumption | exact e_up_s | (rw [e_up_n (by first | assumption | omega)]; first | assumption | exact e_up_s | (rw [e_up_n (by first | assumption | omega)]; first | assumption | exact e_up_s))) | exact hD.1 | exact hD1.1 | exact hD2.1 | exact gD.1 | exact gD1.1 | exact gD2.1 | exact gQ.1 | exact hQ.1 | exact gS.1 | exact hS.1 | exact zD.1) rfl (by decide) w_fl_RX3_10 (by rfl) dX3_house_77 ?_
    refine e_getN (ci := 1) (fi := 4) (q := (RX1, TX1, 5)) F (by first | assumption | exact e_up_s | (rw [e_up_n (by first | assumption | omega)]; first | assumption | exact e_up_s | (rw [e_up_n (by first | assumption | omega)]; first | assumption | exact e_up_s | (rw [e_up_n (by first | assumption | omega)]; first | assumption | exact e_up_s))) | exact hD.1 | exact hD1.1 | exact hD2.1 | exact gD.1 | exact gD1.1 | exact gD2.1 | exact gQ.1 | exact hQ.1 | exact gS.1 | exact hS.1 | exact zD.1) rfl (by decide) w_fn_RX3_116 (by rfl) dX3_house_80 ?_
    refine e_iret F rfl (by omega) ?_ dX3_house_83
    exact ⟨by decide, rfl, rfl, hC0, FR.rf⟩
  · refine e_tabIn F 84 dX3_house_1 (by decide) (by decide) (by decide) (by rfl) (by decide) ?_
    refine e_aload_n F dX3_house_84 rfl ?_
    refine e_callVV F u_X3_filledDeals (by rfl) (c_X3_filledDeals hC0) hX rfl rfl w_ml_RX3_254 dX3_house_85 (by rfl) (Nat.le_of_ble_eq_true rfl) (by decide) (by omega) (fun _ _ _ h _ => False.elim h) (fun r_85 w_85 n_85 h_85 hn_85 => ?_)
    obtain ⟨rfl, ew_85, en_85⟩ := h_85
    rw [ew_85, en_85]
    refine e_iret F rfl (by omega) ?_ dX3_house_88
    exact ⟨by decide, rfl, rfl, hC0, FR.rf⟩
  · refine e_tabIn F 89 dX3_house_1 (by decide) (by decide) (by decide) (by rfl) (by decide) ?_
    refine e_aload_n F dX3_house_89 rfl ?_
    refine e_get (ci := 3) (fi := 4) (q := (RX3, TX3, 5)) F (by first | assumption | exact e_up_s | (rw [e_up_n (by first | assumption | omega)]; first | assumption | exact e_up_s | (rw [e_up_n (by first | assumption | omega)]; first | assumption | exact e_up_s | (rw [e_up_n (by first | assumption | omega)]; first | assumption | exact e_up_s))) | exact hD.1 | exact hD1.1 | exact hD2.1 | exact gD.1 | exact gD1.1 | exact gD2.1 | exact gQ.1 | exact hQ.1 | exact gS.1 | exact hS.1 | exact zD.1) rfl (by decide) w_fl_RX3_34 (by rfl) dX3_house_90 ?_
    refine e_iret F rfl (by omega) ?_ dX3_house_93
    exact ⟨by decide, rfl, rfl, hC0, FR.rf⟩
  · refine e_tabOut F 94 dX3_house_1 hc9 ho (by decide) ?_
    exact e_throwSW (text := "what is not 0 to 6") F (by decide +kernel) w_cl_RX3_42 w_in_java_lang_IllegalArgumentException (by decide +kernel) hat_ia hgood_ia dX3_house_94 dX3_house_97 dX3_house_98 dX3_house_101 dX3_house_104 (Nat.le_of_ble_eq_true rfl) (by decide) (by omega) (fun n2 hn2 => ⟨Or.inr ⟨rfl, by omega⟩, rfl⟩)
set_option maxHeartbeats 4000000 in
set_option maxRecDepth 100000 in
theorem c_X3_isSound {K : e_K} {l : Launch} {w : e_W} {n : Nat} {x wh : Nat} {kn : Int} {D : Nat → SD} (hC : CW w x wh kn D) : e_Met K l yX3_isSound (Cond.code yX3_isSound cX3_isSound 2 (Option.some .boolean) :: e_TB) (5) (0) [.ref x] w n (fun r w' n' => r = some (.int (eI (snV wh D))) ∧ n' = n ∧ CW w' x wh (kn) (D) ∧ FR w w' x) (e_px0) := by
  refine e_ofV rfl (Nat.le_of_ble_eq_true rfl) ?_
  intro P9 E9 S9 M9 A9 B9 T9 C9 F hnm
  have hC0 := hC
  have hDA := hC.2.2.2.2.1
  obtain ⟨hX, hF, hwh, ⟨P0, hQ⟩, ⟨ga, hga, hgj⟩, hDs, s0, hS⟩ := hC
  have hp := pr_rg wh hwh
  have ho9 := ho_rg wh hwh
  have hg9 := gr_rg wh hwh
  have hf9 := fl_rg wh hwh
  have lp : ∀ (N : Nat) (k : Nat), (6 - k) < N → k ≤ 6 → e_V K P9 l E9 (5) (0) S9 M9 A9 B9 T9 C9 2 (fun r w' n' => r = some (.int (eI (snV wh D))) ∧ n' = n ∧ CW w' x wh (kn) (D) ∧ FR w w' x) (e_px0) 2 [(0, .ref x), (1, .int (eI (k : Int)))] [] w n (0) := by
    intro N
    induction N with
    | zero => intro k hN; exact absurd hN (Nat.not_lt_zero _)
    | succ N ih =>
      intro k hN hk
      refine e_iload_n F dX3_isSound_2 rfl ?_
      refine e_aload_n F dX3_isSound_3 rfl ?_
      refine e_get (ci := 3) (fi := 2) (q := (RX3, TX3, 5)) F (by first | assumption | exact e_up_s | (rw [e_up_n (by first | assumption | omega)]; first | assumption | exact e_up_s | (rw [e_up_n (by first | assumption | omega)]; first | assumption | exact e_up_s | (rw [e_up_n (by first | assumption | omega)]; first | assumption | exact e_up_s))) | exact hD.1 | exact hD1.1 | exact hD2.1 | exact gD.1 | exact gD1.1 | exact gD2.1 | exact gQ.1 | exact hQ.1 | exact gS.1 | exact hS.1 | exact zD.1) rfl (by decide) w_fl_RX3_25 (by rfl) dX3_isSound_4 ?_
      refine e_alen9 F (by first | assumption | exact e_up_s | (rw [e_up_n (by first | assumption | omega)]; first | assumption | exact e_up_s | (rw [e_up_n (by first | assumption | omega)]; first | assumption | exact e_up_s | (rw [e_up_n (by first | assumption | omega)]; first | assumption | exact e_up_s))) | exact hD.1 | exact hD1.1 | exact hD2.1 | exact gD.1 | exact gD1.1 | exact gD2.1 | exact gQ.1 | exact hQ.1 | exact gS.1 | exact hS.1 | exact zD.1) dX3_isSound_7 ?_
      refine e_icmp_ge F 45 dX3_isSound_8 (by decide) (⟨by omega, by omega⟩) (⟨by omega, by omega⟩) (fun c_8 => ?_) (fun c_8 => ?_)
      ·
        obtain rfl : k = 6 := by omega
        refine e_aload_n F dX3_isSound_45 rfl ?_
        refine e_aload_n F dX3_isSound_46 rfl ?_
        refine e_callVV F u_X3_allHolders (by rfl) (c_X3_allHolders hX hF hwh) hX rfl rfl w_ml_RX3_266 dX3_isSound_47 (by rfl) (Nat.le_of_ble_eq_true rfl) (by decide) (by omega) (fun _ _ _ h _ => False.elim h) (fun r_47 w_47 n_47 h_47 hn_47 => ?_)
        obtain ⟨rfl, ew_47, en_47⟩ := h_47
        rw [ew_47, en_47]
        refine e_iconst F dX3_isSound_50 ?_
        refine e_callVV F u_X3_weightSum (by rfl) (c_X3_weightSum hX hF hwh (set := fl wh) (pl := 0) (by omega) (by omega) (by decide)) hX rfl rfl w_ml_RX3_91 dX3_isSound_51 (by rfl) (Nat.le_of_ble_eq_true rfl) (by decide) (by omega) (fun _ _ _ h _ => False.elim h) (fun r_51 w_51 n_51 h_51 hn_51 => ?_)
        obtain ⟨rfl, ew_51, en_51⟩ := h_51
        rw [ew_51, en_51]
        have htl : 0 ≤ tl wh (fl wh) (fun _ => 1) 0 ∧ tl wh (fl wh) (fun _ => 1) 0 < pr wh := emod_rg _ hwh
        refine e_iconst F dX3_isSound_54 ?_
        refine e_icmp_ne F 69 dX3_isSound_55 (by decide) (⟨by omega, by omega⟩) (⟨by omega, by omega⟩) (fun c_55 => ?_) (fun c_55 => ?_)
        · refine e_iconst F dX3_isSound_69 ?_
          refine e_zret F rfl (by omega) (by omega) ?_ dX3_isSound_70
          refine ⟨?_, rfl, hC0, FR.rf⟩
          unfold snV
          first | rw [b01_t (And.intro c_55 c_62)] | rw [b01_f (fun q => by first | exact c_55 q.1 | exact c_62 q.2)]
        · refine e_aload_n F dX3_isSound_58 rfl ?_
          refine e_callVV F u_X3_isFirstSealSound (by rfl) (c_X3_isFirstSealSound hC0) hX rfl rfl w_ml_RX3_269 dX3_isSound_59 (by rfl) (Nat.le_of_ble_eq_true rfl) (by decide) (by omega) (fun _ _ _ h _ => False.elim h) (fun r_59 w_59 n_59 h_59 hn_59 => ?_)
          obtain ⟨rfl, ew_59, en_59⟩ := h_59
          rw [ew_59, en_59]
          refine e_if_eq F 69 dX3_isSound_62 (by decide) (b01_r _) (fun c_62 => ?_) (fun c_62 => ?_)
          ·
            rw [b01_0] at c_62
            refine e_iconst F dX3_isSound_69 ?_
            refine e_zret F rfl (by omega) (by omega) ?_ dX3_isSound_70
            refine ⟨?_, rfl, hC0, FR.rf⟩
            unfold snV
            first | rw [b01_t (And.intro c_55 c_62)] | rw [b01_f (fun q => by first | exact c_55 q.1 | exact c_62 q.2)]
          ·
            rw [b01_0, Classical.not_not] at c_62
            refine e_iconst F dX3_isSound_65 ?_
            refine e_goto F 70 dX3_isSound_66 (by decide) ?_
            refine e_zret F rfl (by omega) (by omega) ?_ dX3_isSound_70
            refine ⟨?_, rfl, hC0, FR.rf⟩
            unfold snV
            first | rw [b01_t (And.intro c_55 c_62)] | rw [b01_f (fun q => by first | exact c_55 q.1 | exact c_62 q.2)]
      · refine e_aload_n F dX3_isSound_11 rfl ?_
        refine e_aload_n F dX3_isSound_12 rfl ?_
        refine e_get (ci := 3) (fi := 2) (q := (RX3, TX3, 5)) F (by first | assumption | exact e_up_s | (rw [e_up_n (by first | assumption | omega)]; first | assumption | exact e_up_s | (rw [e_up_n (by first | assumption | omega)]; first | assumption | exact e_up_s | (rw [e_up_n (by first | assumption | omega)]; first | assumption | exact e_up_s))) | exact hD.1 | exact hD1.1 | exact hD2.1 | exact gD.1 | exact gD1.1 | exact gD2.1 | exact gQ.1 | exact hQ.1 | exact gS.1 | exact hS.1 | exact zD.1) rfl (by decide) w_fl_RX3_25 (by rfl) dX3_isSound_13 ?_
        refine e_iload_n F dX3_isSound_16 rfl ?_
        refine e_aald9 F hga (by omega) (by omega) (by decide) (hgj k (by omega)) dX3_isSound_17 ?_
        refine e_callVV F u_X3_areSharesSound (by rfl) (c_X3_areSharesSound hC0 (i1 := k) (by omega)) hX rfl rfl w_ml_RX3_259 dX3_isSound_18 (by rfl) (Nat.le_of_ble_eq_true rfl) (by decide) (by omega) (fun _ _ _ h _ => False.elim h) (fun r_18 w_18 n_18 h_18 hn_18 => ?_)
        obtain ⟨rfl, ew_18, en_18⟩ := h_18
        rw [ew_18, en_18]
        refine e_if_eq F 37 dX3_isSound_21 (by decide) (by decide) (fun c_21 => ?_) (fun c_21 => ?_)
        · exact absurd c_21 (by decide)
        · refine e_aload_n F dX3_isSound_24 rfl ?_
          refine e_aload_n F dX3_isSound_25 rfl ?_
          refine e_get (ci := 3) (fi := 2) (q := (RX3, TX3, 5)) F (by first | assumption | exact e_up_s | (rw [e_up_n (by first | assumption | omega)]; first | assumption | exact e_up_s | (rw [e_up_n (by first | assumption | omega)]; first | assumption | exact e_up_s | (rw [e_up_n (by first | assumption | omega)]; first | assumption | exact e_up_s))) | exact hD.1 | exact hD1.1 | exact hD2.1 | exact gD.1 | exact gD1.1 | exact gD2.1 | exact gQ.1 | exact hQ.1 | exact gS.1 | exact hS.1 | exact zD.1) rfl (by decide) w_fl_RX3_25 (by rfl) dX3_isSound_26 ?_
          refine e_iload_n F dX3_isSound_29 rfl ?_
          refine e_aald9 F hga (by omega) (by omega) (by decide) (hgj k (by omega)) dX3_isSound_30 ?_
          refine e_callVV F u_X3_areSealsSound (by rfl) (c_X3_areSealsSound hC0 (i1 := k) (by omega)) hX rfl rfl w_ml_RX3_263 dX3_isSound_31 (by rfl) (Nat.le_of_ble_eq_true rfl) (by decide) (by omega) (fun _ _ _ h _ => False.elim h) (fun r_31 w_31 n_31 h_31 hn_31 => ?_)
          obtain ⟨rfl, ew_31, en_31⟩ := h_31
          rw [ew_31, en_31]
          refine e_if_ne F 39 dX3_isSound_34 (by decide) (by decide) (fun c_34 => ?_) (fun c_34 => ?_)
          · refine e_iinc F dX3_isSound_39 rfl (by decide) ?_
            refine e_goto F 2 dX3_isSound_42 (by decide) ?_
            exact e_go (ih (k + 1) (by omega) (by omega)) (And.intro rfl (And.intro rfl (trivial)))
          · exact absurd c_34 (by decide)
  refine e_iconst F dX3_isSound_0 ?_
  refine e_istore_n F dX3_isSound_1 (by decide) ?_
  exact e_go (lp 7 0 (by omega) (by omega)) (And.intro rfl (And.intro rfl (trivial)))
theorem bc_rg {v : Int} (h0 : 0 ≤ v) (h1 : v < 128) : 0 ≤ bc v ∧ bc v ≤ 7 := by unfold bc; omega
theorem odV_rg {wh : Nat} (hwh : wh < 7) {w : e_W} {d : Nat} {s : SD} (hD : DS w d s) (c : Int) : -1 ≤ odV wh s c ∧ odV wh s c < 1000003 := by
  have hp := pr_rg wh hwh
  have hst := st7_rg s.A
  have hb := bc_rg hst.1 hst.2
  have hdg := hD.2.2.2.2.1
  have ht := emod_rg (tlK wh (fs7 s.A s.dg) s.A 0 (ho wh).toNat) hwh
  have h3 := b01_or (0 < s.sc)
  have h4 := b01_or (il wh (st7 s.A) s.A s.fl s.dg)
  unfold odV tl
  split
  · split <;> omega
  · split
    · omega
    · split
      · omega
      · split
        · omega
        · split
          · omega
          · split <;> omega
theorem hsV_rg {wh : Nat} (hwh : wh < 7) {kn : Int} (hkn : e_r kn) {D : Nat → SD} (c : Int) : e_r (hsV wh kn D c) := by
  have hp := pr_rg wh hwh
  have hg := gr_rg wh hwh
  have hb := bs_rg wh hwh
  have hho := ho_rg wh hwh
  have hfd := fdK_rg D 6
  unfold hsV
  have : (wh : Int) < 7 := by omega
  split
  · constructor <;> omega
  · split
    · constructor <;> omega
    · split
      · constructor <;> omega
      · split
        · constructor <;> omega
        · split
          · constructor <;> omega
          · split
            · constructor <;> omega
            · exact hkn
set_option maxHeartbeats 4000000 in
set_option maxRecDepth 100000 in
theorem c_X3_digest {K : e_K} {l : Launch} {w : e_W} {n : Nat} {x wh : Nat} {kn : Int} {D : Nat → SD} (hC : CW w x wh kn D) (hkn : e_r kn) : e_Met K l yX3_digest (Cond.code yX3_digest cX3_digest 5 (Option.some .long) :: e_TB) (8) (187) [.ref x] w n (fun r w' n' => r = some (.long (eJ (dgV wh kn D))) ∧ n' = n ∧ CW w' x wh kn D ∧ FR w w' x) (e_px0) := by
  refine e_ofV rfl (Nat.le_of_ble_eq_true rfl) ?_
  intro P9 E9 S9 M9 A9 B9 T9 C9 F hnm
  have hC0 := hC
  have hDA := hC.2.2.2.2.1
  obtain ⟨hX, hF, hwh, ⟨P0, hQ⟩, ⟨ga, hga, hgj⟩, hDs, s0, hS⟩ := hC
  have hp := pr_rg wh hwh
  have ho9 := ho_rg wh hwh
  have hg9 := gr_rg wh hwh
  have hf9 := fl_rg wh hwh
  have lo : ∀ (M i : Nat) (wl : e_W), 6 - i < M → (i ≤ 6 ∧ CW wl x wh kn D ∧ FR w wl x) → e_V K P9 l E9 (8) (187) S9 M9 A9 B9 T9 C9 5 (fun r w' n' => r = some (.long (eJ (dgV wh kn D))) ∧ n' = n ∧ CW w' x wh kn D ∧ FR w w' x) (e_px0) 33 [(0, .ref x), (1, .long (eJ (dgI wh kn D i))), (3, .int (eI (i : Int)))] [] wl n ((7 + 30 * i)) := by
    intro M
    induction M with
    | zero => intro i wl hM; exact absurd hM (Nat.not_lt_zero _)
    | succ M ihM =>
      intro i wl0 hM ⟨hi, gC0, gF0⟩
      have gX0 := gC0.1
      have itn : (((i : Nat) : Int)).toNat = i := rfl
      have hi6 : i < 6 → True := fun _ => trivial
      by_cases h6 : i < 6
      ·
        have l3 : ∀ (N k : Nat) (wl : e_W), 8 - k < N → (k ≤ 4 ∧ CW wl x wh kn D ∧ FR w wl x) → e_V K P9 l E9 (8) (187) S9 M9 A9 B9 T9 C9 5 (fun r w' n' => r = some (.long (eJ (dgV wh kn D))) ∧ n' = n ∧ CW w' x wh kn D ∧ FR w w' x) (e_px0) 108 [(0, .ref x), (1, .long (eJ (dg3 wh (D i) (dgI wh kn D i) k))), (3, .int (eI (i : Int))), (4, .int (eI (k : Int)))] [] wl n ((7 + 30 * i + 22 + 2 * k)) := by
          intro N
          induction N with
          | zero => intro k wl hN; exact absurd hN (Nat.not_lt_zero _)
          | succ N ih =>
            intro k wl hN ⟨hk, gC, gF⟩
            have gX := gC.1
            have gFO := gC.2.1
            refine e_iload F dX3_digest_108 rfl ?_
            refine e_iconst F dX3_digest_110 ?_
            refine e_icmp_gt F 135 dX3_digest_111 (by decide) (⟨by omega, by omega⟩) (⟨by omega, by omega⟩) (fun c_111 => ?_) (fun c_111 => ?_)
            ·
              obtain rfl : k = 4 := by omega
              refine e_iinc F dX3_digest_135 rfl (by decide) ?_
              refine e_goto F 33 dX3_digest_138 (by decide) ?_
              exact e_wid (by omega) (e_go (ihM (i + 1) wl (by omega) ⟨by omega, gC, gF⟩) (And.intro rfl (And.intro rfl (And.intro rfl (trivial)))))
            · refine e_lload_n F dX3_digest_114 rfl ?_
              refine e_ldc2 F dX3_digest_115 w_kl_RX3_274 ?_
              refine e_lmul F dX3_digest_118 ?_
              refine e_aload_n F dX3_digest_119 rfl ?_
              refine e_iload_n F dX3_digest_120 rfl ?_
              refine e_iload F dX3_digest_121 rfl ?_
              refine e_callVV F u_X3_seal (by rfl) (c_X3_seal gC (i := (i : Int)) (c := (k : Int)) ⟨by omega, by omega⟩ ⟨by omega, by omega⟩) gX rfl rfl w_ml_RX3_285 dX3_digest_123 (by rfl) (Nat.le_of_ble_eq_true rfl) (by decide) (by omega) (fun _ _ _ h _ => by rcases h.1 with q | q <;> first | exact False.elim q.2 | (have q2 := q.2; omega)) (fun r_123 w_123 n_123 h_123 hn_123 => ?_)
              obtain ⟨_, rfl, en_123, zC, zF⟩ := h_123
              rw [en_123]
              have q1 : dg3 wh (D i) (dgI wh kn D i) (k + 1) = dg3 wh (D i) (dgI wh kn D i) k * 31 + (if 0 ≤ (k : Int) ∧ (k : Int) < (D i).sc then (D i).B (k : Int) else -1) := by
                show dg3 wh (D i) (dgI wh kn D i) k * 31 + (if (k : Int) < (D i).sc then (D i).B (k : Int) else -1) = _
                by_cases q : (k : Int) < (D i).sc
                · rw [if_pos q, if_pos ⟨by omega, q⟩]
                · rw [if_neg q, if_neg (fun z => q z.2)]
              have sg := (gC.2.2.2.2.2.1 i h6).1.2.2.2.2.2.2.2 (k : Int)
              have sr : -1 ≤ (if 0 ≤ (k : Int) ∧ (k : Int) < (D i).sc then (D i).B (k : Int) else -1) ∧ (if 0 ≤ (k : Int) ∧ (k : Int) < (D i).sc then (D i).B (k : Int) else -1) < 36000109 := by
                split
                · rename_i q; have := sg q.1 q.2; omega
                · omega
              refine e_i2l F dX3_digest_126 (⟨by have := sr.1; show -2147483648 ≤ (if 0 ≤ (k : Int) ∧ (k : Int) < (D i).sc then (D i).B (k : Int) else -1); omega, by have := sr.2; show (if 0 ≤ (k : Int) ∧ (k : Int) < (D i).sc then (D i).B (k : Int) else -1) < 2147483648; omega⟩) ?_
              refine e_ladd F dX3_digest_127 ?_
              refine e_lstore_n F dX3_digest_128 (by decide) ?_
              refine e_iinc F dX3_digest_129 rfl (by decide) ?_
              refine e_goto F 108 dX3_digest_132 (by decide) ?_
              refine e_wid (by omega) (e_go (ih (k + 1) w_123 (by omega) ⟨by omega, zC, gF.tr zF⟩) ?_)
              rw [q1]
              exact (And.intro rfl (And.intro rfl (And.intro rfl (And.intro rfl (trivial)))))
        have l2 : ∀ (N k : Nat) (wl : e_W), 8 - k < N → ((k : Int) ≤ ho wh ∧ CW wl x wh kn D ∧ FR w wl x) → e_V K P9 l E9 (8) (187) S9 M9 A9 B9 T9 C9 5 (fun r w' n' => r = some (.long (eJ (dgV wh kn D))) ∧ n' = n ∧ CW w' x wh kn D ∧ FR w w' x) (e_px0) 72 [(0, .ref x), (1, .long (eJ (dg2 wh (D i) (dgI wh kn D i) k))), (3, .int (eI (i : Int))), (4, .int (eI ((k : Int) + 1)))] [] wl n ((7 + 30 * i + 8 + 2 * k)) := by
          intro N
          induction N with
          | zero => intro k wl hN; exact absurd hN (Nat.not_lt_zero _)
          | succ N ih =>
            intro k wl hN ⟨hk, gC, gF⟩
            have gX := gC.1
            have gFO := gC.2.1
            refine e_iload F dX3_digest_72 rfl ?_
            refine e_aload_n F dX3_digest_74 rfl ?_
            refine e_get (ci := 3) (fi := 0) (q := (RX3, TX3, 5)) F (by first | assumption | exact e_up_s | (rw [e_up_n (by first | assumption | omega)]; first | assumption | exact e_up_s | (rw [e_up_n (by first | assumption | omega)]; first | assumption | exact e_up_s | (rw [e_up_n (by first | assumption | omega)]; first | assumption | exact e_up_s))) | exact hD.1 | exact hD1.1 | exact hD2.1 | exact gD.1 | exact gD1.1 | exact gD2.1 | exact gQ.1 | exact hQ.1 | exact gS.1 | exact hS.1 | exact zD.1) rfl (by decide) w_fl_RX3_10 (by rfl) dX3_digest_75 ?_
            refine e_getN (ci := 1) (fi := 4) (q := (RX1, TX1, 5)) F (by first | assumption | exact e_up_s | (rw [e_up_n (by first | assumption | omega)]; first | assumption | exact e_up_s | (rw [e_up_n (by first | assumption | omega)]; first | assumption | exact e_up_s | (rw [e_up_n (by first | assumption | omega)]; first | assumption | exact e_up_s))) | exact hD.1 | exact hD1.1 | exact hD2.1 | exact gD.1 | exact gD1.1 | exact gD2.1 | exact gQ.1 | exact hQ.1 | exact gS.1 | exact hS.1 | exact zD.1) rfl (by decide) w_fn_RX3_116 (by rfl) dX3_digest_78 ?_
            refine e_icmp_gt F 105 dX3_digest_81 (by decide) (⟨by omega, by omega⟩) (⟨by omega, by omega⟩) (fun c_81 => ?_) (fun c_81 => ?_)
            ·
              obtain rfl : k = (ho wh).toNat := by omega
              refine e_iconst F dX3_digest_105 ?_
              refine e_istore F dX3_digest_106 (by decide) ?_
              exact e_wid (by omega) (e_go (l3 9 0 wl (by omega) ⟨by omega, gC, gF⟩) (And.intro rfl (And.intro rfl (And.intro rfl (And.intro rfl (trivial))))))
            · refine e_lload_n F dX3_digest_84 rfl ?_
              refine e_ldc2 F dX3_digest_85 w_kl_RX3_274 ?_
              refine e_lmul F dX3_digest_88 ?_
              refine e_aload_n F dX3_digest_89 rfl ?_
              refine e_iload_n F dX3_digest_90 rfl ?_
              refine e_iload F dX3_digest_91 rfl ?_
              refine e_callVV F u_X3_share (by rfl) (c_X3_share gC (i := (i : Int)) (h := (k : Int) + 1) ⟨by omega, by omega⟩ ⟨by omega, by omega⟩) gX rfl rfl w_ml_RX3_282 dX3_digest_93 (by rfl) (Nat.le_of_ble_eq_true rfl) (by decide) (by omega) (fun _ _ _ h _ => by rcases h.1 with q | q <;> first | exact False.elim q.2 | (have q2 := q.2; omega)) (fun r_93 w_93 n_93 h_93 hn_93 => ?_)
              obtain ⟨_, rfl, en_93, zC, zF⟩ := h_93
              rw [en_93]
              have sr := (gC.2.2.2.2.2.1 i h6).1.2.2.2.2.2.2.1 ((k : Int) + 1) (by omega) (by omega)
              refine e_i2l F dX3_digest_96 (⟨by have := sr.1; show -2147483648 ≤ (D i).A ((k : Int) + 1); omega, by have := sr.2; show (D i).A ((k : Int) + 1) < 2147483648; omega⟩) ?_
              refine e_ladd F dX3_digest_97 ?_
              refine e_lstore_n F dX3_digest_98 (by decide) ?_
              refine e_iinc F dX3_digest_99 rfl (by decide) ?_
              refine e_goto F 72 dX3_digest_102 (by decide) ?_
              refine e_wid (by omega) (e_go (ih (k + 1) w_93 (by omega) ⟨by omega, zC, gF.tr zF⟩) ?_)
              exact (And.intro rfl (And.intro rfl (And.intro rfl (And.intro rfl (trivial)))))
        have l1 : ∀ (N k : Nat) (wl : e_W), 8 - k < N → (k ≤ 4 ∧ CW wl x wh kn D ∧ FR w wl x) → e_V K P9 l E9 (8) (187) S9 M9 A9 B9 T9 C9 5 (fun r w' n' => r = some (.long (eJ (dgV wh kn D))) ∧ n' = n ∧ CW w' x wh kn D ∧ FR w w' x) (e_px0) 42 [(0, .ref x), (1, .long (eJ (dg1 wh (D i) (dgI wh kn D i) k))), (3, .int (eI (i : Int))), (4, .int (eI (k : Int)))] [] wl n ((7 + 30 * i + 2 * k)) := by
          intro N
          induction N with
          | zero => intro k wl hN; exact absurd hN (Nat.not_lt_zero _)
          | succ N ih =>
            intro k wl hN ⟨hk, gC, gF⟩
            have gX := gC.1
            have gFO := gC.2.1
            refine e_iload F dX3_digest_42 rfl ?_
            refine e_iconst F dX3_digest_44 ?_
            refine e_icmp_gt F 69 dX3_digest_45 (by decide) (⟨by omega, by omega⟩) (⟨by omega, by omega⟩) (fun c_45 => ?_) (fun c_45 => ?_)
            ·
              obtain rfl : k = 4 := by omega
              refine e_iconst F dX3_digest_69 ?_
              refine e_istore F dX3_digest_70 (by decide) ?_
              exact e_wid (by omega) (e_go (l2 9 0 wl (by omega) ⟨by omega, gC, gF⟩) (And.intro rfl (And.intro rfl (And.intro rfl (And.intro rfl (trivial))))))
            · refine e_lload_n F dX3_digest_48 rfl ?_
              refine e_ldc2 F dX3_digest_49 w_kl_RX3_274 ?_
              refine e_lmul F dX3_digest_52 ?_
              refine e_aload_n F dX3_digest_53 rfl ?_
              refine e_iload_n F dX3_digest_54 rfl ?_
              refine e_iload F dX3_digest_55 rfl ?_
              refine e_callVV F u_X3_ofDeal (by rfl) (c_X3_ofDeal gC (i9 := (i : Int)) (c9 := (k : Int)) ⟨by omega, by omega⟩ ⟨by omega, by omega⟩) gX rfl rfl w_ml_RX3_279 dX3_digest_57 (by rfl) (Nat.le_of_ble_eq_true rfl) (by decide) (by omega) (fun _ _ _ h _ => by rcases h.1 with q | q <;> first | exact False.elim q.2 | (have q2 := q.2; omega)) (fun r_57 w_57 n_57 h_57 hn_57 => ?_)
              obtain ⟨_, rfl, en_57, zC, zF⟩ := h_57
              rw [en_57]
              have sr := odV_rg hwh (gC.2.2.2.2.2.1 i h6).1 (k : Int)
              refine e_i2l F dX3_digest_60 (⟨by have := sr.1; show -2147483648 ≤ odV wh (D i) (k : Int); omega, by have := sr.2; show odV wh (D i) (k : Int) < 2147483648; omega⟩) ?_
              refine e_ladd F dX3_digest_61 ?_
              refine e_lstore_n F dX3_digest_62 (by decide) ?_
              refine e_iinc F dX3_digest_63 rfl (by decide) ?_
              refine e_goto F 42 dX3_digest_66 (by decide) ?_
              refine e_wid (by omega) (e_go (ih (k + 1) w_57 (by omega) ⟨by omega, zC, gF.tr zF⟩) ?_)
              exact (And.intro rfl (And.intro rfl (And.intro rfl (And.intro rfl (trivial)))))
        refine e_iload_n F dX3_digest_33 rfl ?_
        refine e_bipush F dX3_digest_34 (by decide) ?_
        refine e_icmp_ge F 141 dX3_digest_36 (by decide) (⟨by omega, by omega⟩) (⟨by omega, by omega⟩) (fun c_36 => ?_) (fun c_36 => ?_)
        · exact absurd c_36 (by omega)
        · refine e_iconst F dX3_digest_39 ?_
          refine e_istore F dX3_digest_40 (by decide) ?_
          exact e_wid (by omega) (e_go (l1 9 0 wl0 (by omega) ⟨by omega, gC0, gF0⟩) (And.intro rfl (And.intro rfl (And.intro rfl (And.intro rfl (trivial))))))
      · obtain rfl : i = 6 := by omega
        refine e_iload_n F dX3_digest_33 rfl ?_
        refine e_bipush F dX3_digest_34 (by decide) ?_
        refine e_icmp_ge F 141 dX3_digest_36 (by decide) (⟨by omega, by omega⟩) (⟨by omega, by omega⟩) (fun c_36 => ?_) (fun c_36 => ?_)
        · refine e_lload_n F dX3_digest_141 rfl ?_
          refine e_ldc2 F dX3_digest_142 w_kl_RX3_274 ?_
          refine e_lmul F dX3_digest_145 ?_
          refine e_aload_n F dX3_digest_146 rfl ?_
          refine e_callVV F u_X3_isSound (by rfl) (c_X3_isSound gC0) gX0 rfl rfl w_ml_RX3_288 dX3_digest_147 (by rfl) (Nat.le_of_ble_eq_true rfl) (by decide) (by omega) (fun _ _ _ h _ => False.elim h) (fun r_147 w_147 n_147 h_147 hn_147 => ?_)
          obtain ⟨rfl, en_147, zC, zF⟩ := h_147
          rw [en_147]
          refine e_if_eq F 157 dX3_digest_150 (by decide) (b01_r _) (fun c_150 => ?_) (fun c_150 => ?_)
          ·
            have e5 : snV wh D = 0 := c_150
            refine e_iconst F dX3_digest_157 ?_
            refine e_i2l F dX3_digest_158 (by decide) ?_
            refine e_ladd F dX3_digest_159 ?_
            refine e_lret F rfl (by omega) ?_ dX3_digest_160
            refine ⟨?_, rfl, zC, gF0.tr zF⟩
            show _ = some (Value.long (eJ (dgI wh kn D 6 * 31 + snV wh D)))
            rw [e5]
          ·
            have e5 : snV wh D = 1 := (b01_or (tl wh (fl wh) (fun _ => 1) 0 = 1 ∧ fss wh D 6 = true)).resolve_left c_150
            refine e_iconst F dX3_digest_153 ?_
            refine e_goto F 158 dX3_digest_154 (by decide) ?_
            refine e_i2l F dX3_digest_158 (by decide) ?_
            refine e_ladd F dX3_digest_159 ?_
            refine e_lret F rfl (by omega) ?_ dX3_digest_160
            refine ⟨?_, rfl, zC, gF0.tr zF⟩
            show _ = some (Value.long (eJ (dgI wh kn D 6 * 31 + snV wh D)))
            rw [e5]
        · exact absurd c_36 (by omega)
  have lh : ∀ (N k : Nat) (wl : e_W), 8 - k < N → (k ≤ 7 ∧ CW wl x wh kn D ∧ FR w wl x) → e_V K P9 l E9 (8) (187) S9 M9 A9 B9 T9 C9 5 (fun r w' n' => r = some (.long (eJ (dgV wh kn D))) ∧ n' = n ∧ CW w' x wh kn D ∧ FR w w' x) (e_px0) 6 [(0, .ref x), (1, .long (eJ (itF (fun c => hsV wh kn D c) 7977 k))), (3, .int (eI (k : Int)))] [] wl n ((k)) := by
    intro N
    induction N with
    | zero => intro k wl hN; exact absurd hN (Nat.not_lt_zero _)
    | succ N ih =>
      intro k wl hN ⟨hk, gC, gF⟩
      have gX := gC.1
      refine e_iload_n F dX3_digest_6 rfl ?_
      refine e_bipush F dX3_digest_7 (by decide) ?_
      refine e_icmp_gt F 31 dX3_digest_9 (by decide) (⟨by omega, by omega⟩) (⟨by omega, by omega⟩) (fun c_9 => ?_) (fun c_9 => ?_)
      ·
        obtain rfl : k = 7 := by omega
        refine e_iconst F dX3_digest_31 ?_
        refine e_istore_n F dX3_digest_32 (by decide) ?_
        exact e_wid (by omega) (e_go (lo 7 0 wl (by omega) ⟨by omega, gC, gF⟩) (And.intro rfl (And.intro rfl (And.intro rfl (trivial)))))
      · refine e_lload_n F dX3_digest_12 rfl ?_
        refine e_ldc2 F dX3_digest_13 w_kl_RX3_274 ?_
        refine e_lmul F dX3_digest_16 ?_
        refine e_aload_n F dX3_digest_17 rfl ?_
        refine e_iload_n F dX3_digest_18 rfl ?_
        refine e_callVV F u_X3_house (by rfl) (c_X3_house gC (c9 := (k : Int)) ⟨by omega, by omega⟩) gX rfl rfl w_ml_RX3_276 dX3_digest_19 (by rfl) (Nat.le_of_ble_eq_true rfl) (by decide) (by omega) (fun _ _ _ h _ => by rcases h.1 with q | q <;> first | exact False.elim q.2 | (have q2 := q.2; omega)) (fun r_19 w_19 n_19 h_19 hn_19 => ?_)
        obtain ⟨_, rfl, en_19, zC, zF⟩ := h_19
        rw [en_19]
        have sr := hsV_rg hwh hkn (D := D) (k : Int)
        refine e_i2l F dX3_digest_22 (⟨sr.1, sr.2⟩) ?_
        refine e_ladd F dX3_digest_23 ?_
        refine e_lstore_n F dX3_digest_24 (by decide) ?_
        refine e_iinc F dX3_digest_25 rfl (by decide) ?_
        refine e_goto F 6 dX3_digest_28 (by decide) ?_
        refine e_wid (by omega) (e_go (ih (k + 1) w_19 (by omega) ⟨by omega, zC, gF.tr zF⟩) ?_)
        exact (And.intro rfl (And.intro rfl (And.intro rfl (trivial))))
  refine e_ldc2 F dX3_digest_0 w_kl_RX3_272 ?_
  refine e_lstore_n F dX3_digest_3 (by decide) ?_
  refine e_iconst F dX3_digest_4 ?_
  refine e_istore_n F dX3_digest_5 (by decide) ?_
  exact e_go (lh 9 0 w (by omega) ⟨by omega, hC0, FR.rf⟩) (And.intro rfl (And.intro rfl (And.intro rfl (trivial))))
end
