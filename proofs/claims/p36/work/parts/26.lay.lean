/-! Secretshares: methods that lay -/
theorem FR.tr {w w1 w2 : e_W} {x : Nat} (h1 : FR w w1 x) (h2 : FR w1 w2 x) : FR w w2 x := fun q hq => by rw [h2 q hq, h1 q hq]
theorem CW.sp2 {w wl : e_W} {x wh : Nat} {kn : Int} {D : Nat → SD} {s2 : SD} (h : CW w x wh kn D) (hS : DS wl (x + 24) s2) (hf : DF w wl (x + 24)) : CW wl x wh kn D ∧ FR w wl x := by
  obtain ⟨a1, a2, a3, a4, a5⟩ := h.spare hf
  exact ⟨⟨a1, a2, h.2.2.1, a3, a4, fun j hj => ⟨a5 j hj, (h.2.2.2.2.2.1 j hj).2⟩, s2, hS⟩, fun q hq => hf q (by omega) (by omega) (by omega)⟩
theorem CW.deal {w w' : e_W} {x wh i : Nat} {kn : Int} {D : Nat → SD} {s : SD} (h : CW w x wh kn D) (hi : i < 6) (hd : DS w' (x + 6 + 3 * i) s) (hs : SW wh s) (hf : DF w w' (x + 6 + 3 * i)) : CW w' x wh kn (upD D i s) ∧ FR w w' x := by
  obtain ⟨P, hP⟩ := h.2.2.2.1
  obtain ⟨s2, hS⟩ := h.2.2.2.2.2.2
  exact CW.lay h hi ⟨P, hP.fr (hf _ (by omega) (by omega) (by omega)) (hf _ (by omega) (by omega) (by omega)) (hf _ (by omega) (by omega) (by omega))⟩ hd hs ⟨s2, hS.fr (hf _ (by omega) (by omega) (by omega)) (hf _ (by omega) (by omega) (by omega)) (hf _ (by omega) (by omega) (by omega))⟩ (fun q a1 a2 a3 a4 => hf q (by omega) (by omega) (by omega))
theorem CW.to {w : e_W} {x wh : Nat} {kn : Int} {D D2 : Nat → SD} (h : CW w x wh kn D) (hd : ∀ j, j < 6 → DS w (x + 6 + 3 * j) (D2 j) ∧ SW wh (D2 j)) : CW w x wh kn D2 := ⟨h.1, h.2.1, h.2.2.1, h.2.2.2.1, h.2.2.2.2.1, hd, h.2.2.2.2.2.2⟩
def lpS (wh : Nat) (g : Int) (P : Int → Int) : SD := (1, g, g + 1, lpA wh P, fun k => sl wh (P k))
theorem lpS_SW {wh : Nat} (hwh : wh < 7) (g : Int) (P : Int → Int) : SW wh (lpS wh g P) := by
  have hp := pr_rg wh hwh
  refine ⟨fun j _ _ => ?_, fun j _ _ => ⟨sl_rg hwh, un_sl hwh _⟩, Or.inr rfl, fun q => absurd q (show ¬ ((1 : Int) = 0) by decide)⟩
  show lpA wh P j = -1 ∨ (0 ≤ lpA wh P j ∧ lpA wh P j < pr wh ∧ j ≤ ho wh)
  unfold lpA
  split
  · have := hz_rg (p := pr wh) (x := j) (P := P) (by omega) 7
    exact Or.inr ⟨this.1, this.2, by omega⟩
  · exact Or.inl rfl
/-- a share put -/
def puS (s : SD) (h v : Int) : SD := (s.fl, s.dg, s.sc, e_fu s.A h v, s.B)
theorem puS_SW {wh : Nat} {s : SD} (hs : SW wh s) {h v : Int} (hv : v = -1 ∨ (0 ≤ v ∧ v < pr wh ∧ h ≤ ho wh)) (hf : s.fl ≠ 0 ∨ v = -1) : SW wh (puS s h v) := by
  refine ⟨fun j j0 j1 => ?_, hs.2.1, hs.2.2.1, fun q => ?_⟩
  · show e_fu s.A h v j = -1 ∨ _
    show e_fu s.A h v j = -1 ∨ (0 ≤ e_fu s.A h v j ∧ e_fu s.A h v j < pr wh ∧ j ≤ ho wh)
    unfold e_fu
    split
    · rename_i e; rw [e]; exact hv
    · exact hs.1 j j0 j1
  · have h9 := hs.2.2.2 q
    refine ⟨h9.1, h9.2.1, fun j j0 j1 => ?_⟩
    show e_fu s.A h v j = -1
    unfold e_fu
    split
    · rcases hf with hf | hf
      · exact absurd q hf
      · exact hf
    · exact h9.2.2 j j0 j1
def lsQ (D : Nat → SD) (i : Nat) (h : Int) : Int × (Nat → SD) := if (D i).A h = -1 then (-9, D) else ((D i).A h, upD D i (puS (D i) h (-1)))
def giQ (wh : Nat) (D : Nat → SD) (i : Nat) (h v : Int) : Int × (Nat → SD) := if (D i).fl = 0 then (-9, D) else ((D i).A h, upD D i (puS (D i) h (v % pr wh)))
def rgQ (wh : Nat) (D : Nat → SD) (i : Nat) (h a : Int) : Int × (Nat → SD) := if ((D i).fl = 1 ∧ thr (D i).A a) ∧ (D i).dg < bc a then (tl wh a (D i).A h, upD D i (puS (D i) h (tl wh a (D i).A h))) else (-9, D)
def poS (wh : Nat) (s : SD) (P : Int → Int) : SD := (s.fl, s.dg, s.sc, fun h => if s.A h = -1 then -1 else (s.A h + hz (pr wh) h P 7) % pr wh, fun k => s.B k * sl wh (P k) % gr wh)
theorem poS_SW {wh : Nat} (hwh : wh < 7) {s : SD} (hs : SW wh s) (P : Int → Int) : SW wh (poS wh s P) := by
  have hg9 := gr_rg wh hwh
  refine ⟨fun j j0 j1 => ?_, fun j j0 j1 => ⟨⟨Int.emod_nonneg _ (by omega), Int.emod_lt_of_pos _ (by omega)⟩, un_mul (hs.2.1 j j0 j1).2 (un_sl hwh _)⟩, hs.2.2.1, fun q => ?_⟩
  · show (if s.A j = -1 then -1 else (s.A j + hz (pr wh) j P 7) % pr wh) = -1 ∨ (0 ≤ (if s.A j = -1 then -1 else (s.A j + hz (pr wh) j P 7) % pr wh) ∧ (if s.A j = -1 then -1 else (s.A j + hz (pr wh) j P 7) % pr wh) < pr wh ∧ j ≤ ho wh)
    split
    · exact Or.inl rfl
    · rename_i e
      have h1 := emod_rg (s.A j + hz (pr wh) j P 7) hwh
      rcases hs.1 j j0 j1 with h | h
      · exact absurd h e
      · exact Or.inr ⟨h1.1, h1.2, h.2.2⟩
  · have h9 := hs.2.2.2 q
    exact ⟨h9.1, h9.2.1, fun j j0 j1 => if_pos (h9.2.2 j j0 j1)⟩
def poQ (wh : Nat) (D : Nat → SD) (i : Nat) (a b c d : Int) : Int × (Nat → SD) := if (D i).fl = 0 then (-9, D) else (bc (st7 (poS wh (D i) (bcm (pr wh) (D i).dg a b c d)).A), upD D i (poS wh (D i) (bcm (pr wh) (D i).dg a b c d)))
def tiA (wh : Nat) (A1 A2 : Int → Int) : Int → Int := fun h => if (1 ≤ h ∧ h ≤ ho wh) ∧ A1 h ≠ -1 ∧ A2 h ≠ -1 then A1 h * A2 h % pr wh else -1
def tiS (wh : Nat) (s1 s2 : SD) : SD := (1, s1.dg + s2.dg, 0, tiA wh s1.A s2.A, fun _ => 0)
theorem tiS_SW {wh : Nat} (hwh : wh < 7) (s1 s2 : SD) : SW wh (tiS wh s1 s2) := by
  refine ⟨fun j j0 j1 => ?_, fun j j0 j1 => absurd j1 (show ¬ j < 0 by omega), Or.inl rfl, fun q => absurd q (show ¬ ((1 : Int) = 0) by decide)⟩
  show tiA wh s1.A s2.A j = -1 ∨ (0 ≤ tiA wh s1.A s2.A j ∧ tiA wh s1.A s2.A j < pr wh ∧ j ≤ ho wh)
  unfold tiA
  split
  · rename_i q
    have h1 := emod_rg (s1.A j * s2.A j) hwh
    exact Or.inr ⟨h1.1, h1.2, q.1.2⟩
  · exact Or.inl rfl
def tiQ (wh : Nat) (D : Nat → SD) (i j t : Nat) : Int × (Nat → SD) := if (D i).fl = 0 ∨ (D j).fl = 0 ∨ 6 < (D i).dg + (D j).dg then (-9, D) else (bc (st7 (tiA wh (D i).A (D j).A)), upD D t (tiS wh (D i) (D j)))
def scS (wh : Nat) (s : SD) (f : Int) : SD := (1, s.dg, s.sc, fun h => if s.A h = -1 then -1 else s.A h * f % pr wh, fun k => e_pw (s.B k) f.toNat (gr wh))
theorem scS_SW {wh : Nat} (hwh : wh < 7) {s : SD} (hs : SW wh s) (f : Int) : SW wh (scS wh s f) := by
  have hg9 := gr_rg wh hwh
  refine ⟨fun j j0 j1 => ?_, fun j j0 j1 => ⟨e_pw_rg (by omega), un_pow hwh (hs.2.1 j j0 j1).2 _⟩, hs.2.2.1, fun q => absurd q (show ¬ ((1 : Int) = 0) by decide)⟩
  show (if s.A j = -1 then -1 else s.A j * f % pr wh) = -1 ∨ (0 ≤ (if s.A j = -1 then -1 else s.A j * f % pr wh) ∧ (if s.A j = -1 then -1 else s.A j * f % pr wh) < pr wh ∧ j ≤ ho wh)
  split
  · exact Or.inl rfl
  · rename_i e
    have h1 := emod_rg (s.A j * f) hwh
    rcases hs.1 j j0 j1 with h | h
    · exact absurd h e
    · exact Or.inr ⟨h1.1, h1.2, h.2.2⟩
def scQ (wh : Nat) (D : Nat → SD) (i : Nat) (b : Int) (t : Nat) : Int × (Nat → SD) := if (D i).fl = 0 then (-9, D) else (bc (st7 (scS wh (D i) (b % pr wh)).A), upD D t (scS wh (D i) (b % pr wh)))
def hoK (wh : Nat) (set : Int) (A : Int → Int) (a b c : Int) : Nat → Int
  | 0 => 0
  | k + 1 => if hs set ((k : Int) + 1) then (hoK wh set A a b c k + wgt wh set ((k : Int) + 1) 0 * (if c = 0 then A ((k : Int) + 1) else (a * ((k : Int) + 1) + b * c) % pr wh)) % pr wh else hoK wh set A a b c k
def hoP (wh : Nat) (set : Int) (A : Int → Int) (g a b : Int) (k : Nat) : Int → Int := fun c => if c ≤ g then hoK wh set A a b c k else 0
def haQ (wh : Nat) (D : Nat → SD) (i : Nat) (set : Int) (t : Nat) (g a b : Int) : Int × (Nat → SD) := if ((D i).fl = 1 ∧ thr (D i).A set) ∧ (D i).dg < bc set then (bc (st7 (lpA wh (hoP wh set (D i).A g a b (ho wh).toNat))), upD D t (lpS wh g (hoP wh set (D i).A g a b (ho wh).toNat))) else (-9, D)
set_option maxHeartbeats 4000000 in
set_option maxRecDepth 100000 in
theorem c_X3_hide {K : e_K} {l : Launch} {w : e_W} {n : Nat} {x wh : Nat} {kn : Int} {D : Nat → SD} (hC : CW w x wh kn D) {i : Int} (hi : e_r i) {g : Int} (hg : e_r g) {a : Int} (ha : e_r a) {b : Int} (hb : e_r b) {c : Int} (hc : e_r c) {d : Int} (hd : e_r d) : e_Met K l yX3_hide (Cond.code yX3_hide cX3_hide 8 (Option.some .int) :: e_TB) (7) (2) [.ref x, .int (eI i), .int (eI g), .int (eI a), .int (eI b), .int (eI c), .int (eI d)] w n (fun r w' n' => ((0 ≤ i ∧ i < 6) ∧ (0 ≤ g ∧ g ≤ 3)) ∧ r = some (.int (eI (bc (st7 (lpA wh (bcm (pr wh) g a b c d)))))) ∧ n' = n ∧ CW w' x wh (kn) (upD D i.toNat (lpS wh g (bcm (pr wh) g a b c d))) ∧ FR w w' x) (pxd w (¬ (0 ≤ i ∧ i < 6)) ((0 ≤ i ∧ i < 6) ∧ ¬ (0 ≤ g ∧ g ≤ 3))) := by
  refine e_ofV rfl (Nat.le_of_ble_eq_true rfl) ?_
  intro P9 E9 S9 M9 A9 B9 T9 C9 F hnm
  have hC0 := hC
  have hDA := hC.2.2.2.2.1
  obtain ⟨hX, hF, hwh, ⟨P0, hQ⟩, ⟨ga, hga, hgj⟩, hDs, s0, hS⟩ := hC
  have hp := pr_rg wh hwh
  have ho9 := ho_rg wh hwh
  have hg9 := gr_rg wh hwh
  have hf9 := fl_rg wh hwh
  refine e_aload_n F dX3_hide_0 rfl ?_
  refine e_iload_n F dX3_hide_1 rfl ?_
  refine e_callVV F u_X3_dealAt (by rfl) (c_X3_dealAt hX hDA (i := i) hi) hX rfl rfl w_ml_RX3_94 dX3_hide_2 (by rfl) (Nat.le_of_ble_eq_true rfl) (by decide) (by omega) (fun E w2 n2 h _ => ⟨Or.inl ⟨h.1, by have q := h.2.1; omega⟩, h.2.2⟩) (fun r_2 w_2 n_2 h_2 hn_2 => ?_)
  obtain ⟨hi1, rfl, ew_2, en_2⟩ := h_2
  rw [ew_2, en_2]
  obtain ⟨hD1, hW1⟩ := hDs i.toNat (by omega)
  refine e_astore F dX3_hide_5 (by decide) ?_
  refine e_iload_n F dX3_hide_7 rfl ?_
  refine e_callSS F u_X3_requireToldDegree (by rfl) (c_X3_requireToldDegree (g := g) hg) w_ml_RX3_98 dX3_hide_8 (by rfl) (Nat.le_of_ble_eq_true rfl) (by decide) (by omega) (fun E w2 n2 h _ => ⟨Or.inr ⟨h.1, by have q := h.2.1; omega⟩, h.2.2⟩) (fun r_8 w_8 n_8 h_8 hn_8 => ?_)
  obtain ⟨hrd, rfl, ew_8, en_8⟩ := h_8
  rw [ew_8, en_8]
  refine e_aload_n F dX3_hide_11 rfl ?_
  refine e_get (ci := 3) (fi := 1) (q := (RX3, TX3, 5)) F (by first | assumption | exact e_up_s | (rw [e_up_n (by first | assumption | omega)]; first | assumption | exact e_up_s | (rw [e_up_n (by first | assumption | omega)]; first | assumption | exact e_up_s | (rw [e_up_n (by first | assumption | omega)]; first | assumption | exact e_up_s))) | exact hD.1 | exact hD1.1 | exact hD2.1 | exact gD.1 | exact gD1.1 | exact gD2.1 | exact gQ.1 | exact hQ.1 | exact gS.1 | exact hS.1 | exact zD.1) rfl (by decide) w_fl_RX3_19 (by rfl) dX3_hide_12 ?_
  refine e_aload_n F dX3_hide_15 rfl ?_
  refine e_get (ci := 3) (fi := 0) (q := (RX3, TX3, 5)) F (by first | assumption | exact e_up_s | (rw [e_up_n (by first | assumption | omega)]; first | assumption | exact e_up_s | (rw [e_up_n (by first | assumption | omega)]; first | assumption | exact e_up_s | (rw [e_up_n (by first | assumption | omega)]; first | assumption | exact e_up_s))) | exact hD.1 | exact hD1.1 | exact hD2.1 | exact gD.1 | exact gD1.1 | exact gD2.1 | exact gQ.1 | exact hQ.1 | exact gS.1 | exact hS.1 | exact zD.1) rfl (by decide) w_fl_RX3_10 (by rfl) dX3_hide_16 ?_
  refine e_iload_n F dX3_hide_19 rfl ?_
  refine e_iload_n F dX3_hide_20 rfl ?_
  refine e_iload F dX3_hide_21 rfl ?_
  refine e_iload F dX3_hide_23 rfl ?_
  refine e_iload F dX3_hide_25 rfl ?_
  refine e_callVN F u_X2_become (by rfl) (c_X2_become hQ hF hwh (dg := g) (by omega) ha hb hc hd) (by first | assumption | exact e_up_s | (rw [e_up_n (by first | assumption | omega)]; first | assumption | exact e_up_s | (rw [e_up_n (by first | assumption | omega)]; first | assumption | exact e_up_s | (rw [e_up_n (by first | assumption | omega)]; first | assumption | exact e_up_s))) | exact hD.1 | exact hD1.1 | exact hD2.1 | exact gD.1 | exact gD1.1 | exact gD2.1 | exact gQ.1 | exact hQ.1 | exact gS.1 | exact hS.1 | exact zD.1) rfl rfl w_mn_RX3_101 dX3_hide_27 (by rfl) (Nat.le_of_ble_eq_true rfl) (by decide) (by omega) (fun _ _ _ h _ => False.elim h) (fun r_27 w_27 n_27 h_27 hn_27 => ?_)
  obtain ⟨rfl, en_27, gQ, gF⟩ := h_27
  rw [en_27]
  have hres := hC0.px ⟨⟨_, gQ⟩, gF⟩
  have gX := hres.1.1
  have gFO := hres.1.2.1
  have gD1 := (hres.1.2.2.2.2.2.1 i.toNat (by omega)).1
  refine e_aload_n F dX3_hide_30 rfl ?_
  refine e_aload F dX3_hide_31 rfl ?_
  refine e_iload_n F dX3_hide_33 rfl ?_
  refine e_callVV F u_X3_layPoly (by rfl) (c_X3_layPoly gX gFO hwh gQ gD1 (by omega) (g := g) (by omega)) gX rfl rfl w_ml_RX3_105 dX3_hide_34 (by rfl) (Nat.le_of_ble_eq_true rfl) (by decide) (by omega) (fun _ _ _ h _ => False.elim h) (fun r_34 w_34 n_34 h_34 hn_34 => ?_)
  obtain ⟨rfl, en_34, zD, zF⟩ := h_34
  rw [en_34]
  have hr2 := hres.1.deal (by omega) (s := lpS wh g (bcm (pr wh) g a b c d)) zD (lpS_SW hwh g _) zF
  refine e_iret F rfl (by omega) ?_ dX3_hide_37
  exact ⟨⟨hi1, hrd⟩, rfl, rfl, hr2.1, hres.2.tr hr2.2⟩
set_option maxHeartbeats 4000000 in
set_option maxRecDepth 100000 in
theorem c_X3_lose {K : e_K} {l : Launch} {w : e_W} {n : Nat} {x wh : Nat} {kn : Int} {D : Nat → SD} (hC : CW w x wh kn D) {i : Int} (hi : e_r i) {h : Int} (hh : e_r h) : e_Met K l yX3_lose (Cond.code yX3_lose cX3_lose 5 (Option.some .int) :: e_TB) (7) (2) [.ref x, .int (eI i), .int (eI h)] w n (fun r w' n' => ((0 ≤ i ∧ i < 6) ∧ (1 ≤ h ∧ h ≤ ho wh)) ∧ r = some (.int (eI ((lsQ D i.toNat h).1))) ∧ n' = n ∧ CW w' x wh (kn) ((lsQ D i.toNat h).2) ∧ FR w w' x) (pxd w (¬ ((0 ≤ i ∧ i < 6) ∧ (1 ≤ h ∧ h ≤ ho wh))) False) := by
  refine e_ofV rfl (Nat.le_of_ble_eq_true rfl) ?_
  intro P9 E9 S9 M9 A9 B9 T9 C9 F hnm
  have hC0 := hC
  have hDA := hC.2.2.2.2.1
  obtain ⟨hX, hF, hwh, ⟨P0, hQ⟩, ⟨ga, hga, hgj⟩, hDs, s0, hS⟩ := hC
  have hp := pr_rg wh hwh
  have ho9 := ho_rg wh hwh
  have hg9 := gr_rg wh hwh
  have hf9 := fl_rg wh hwh
  refine e_aload_n F dX3_lose_0 rfl ?_
  refine e_iload_n F dX3_lose_1 rfl ?_
  refine e_callVV F u_X3_dealAt (by rfl) (c_X3_dealAt hX hDA (i := i) hi) hX rfl rfl w_ml_RX3_94 dX3_lose_2 (by rfl) (Nat.le_of_ble_eq_true rfl) (by decide) (by omega) (fun E w2 n2 h _ => ⟨Or.inl ⟨h.1, by have q := h.2.1; omega⟩, h.2.2⟩) (fun r_2 w_2 n_2 h_2 hn_2 => ?_)
  obtain ⟨hi1, rfl, ew_2, en_2⟩ := h_2
  rw [ew_2, en_2]
  obtain ⟨hD1, hW1⟩ := hDs i.toNat (by omega)
  refine e_astore_n F dX3_lose_5 (by decide) ?_
  refine e_aload_n F dX3_lose_6 rfl ?_
  refine e_iload_n F dX3_lose_7 rfl ?_
  refine e_callVV F u_X3_requireHolder (by rfl) (c_X3_requireHolder hX hF hwh (h := h) hh) hX rfl rfl w_ml_RX3_77 dX3_lose_8 (by rfl) (Nat.le_of_ble_eq_true rfl) (by decide) (by omega) (fun E w2 n2 h _ => ⟨Or.inl ⟨h.1, by have q := h.2.1; omega⟩, h.2.2⟩) (fun r_8 w_8 n_8 h_8 hn_8 => ?_)
  obtain ⟨hrh, rfl, ew_8, en_8⟩ := h_8
  rw [ew_8, en_8]
  refine e_aload_n F dX3_lose_11 rfl ?_
  refine e_iload_n F dX3_lose_12 rfl ?_
  refine e_callVN F u_X0_hasShare (by rfl) (c_X0_hasShare hD1 (h := h) (by omega) (by omega)) (by first | assumption | exact e_up_s | (rw [e_up_n (by first | assumption | omega)]; first | assumption | exact e_up_s | (rw [e_up_n (by first | assumption | omega)]; first | assumption | exact e_up_s | (rw [e_up_n (by first | assumption | omega)]; first | assumption | exact e_up_s))) | exact hD.1 | exact hD1.1 | exact hD2.1 | exact gD.1 | exact gD1.1 | exact gD2.1 | exact gQ.1 | exact hQ.1 | exact gS.1 | exact hS.1 | exact zD.1) rfl rfl w_mn_RX3_119 dX3_lose_13 (by rfl) (Nat.le_of_ble_eq_true rfl) (by decide) (by omega) (fun _ _ _ h _ => False.elim h) (fun r_13 w_13 n_13 h_13 hn_13 => ?_)
  obtain ⟨rfl, ew_13, en_13⟩ := h_13
  rw [ew_13, en_13]
  refine e_if_ne F 22 dX3_lose_16 (by decide) (b01_r _) (fun c_16 => ?_) (fun c_16 => ?_)
  ·
    rw [ne_eq, b01_0, Classical.not_not] at c_16
    refine e_aload_n F dX3_lose_22 rfl ?_
    refine e_iload_n F dX3_lose_23 rfl ?_
    refine e_callVN F u_X0_shareAt (by rfl) (c_X0_shareAt hD1 (h := h) (by omega) (by omega)) (by first | assumption | exact e_up_s | (rw [e_up_n (by first | assumption | omega)]; first | assumption | exact e_up_s | (rw [e_up_n (by first | assumption | omega)]; first | assumption | exact e_up_s | (rw [e_up_n (by first | assumption | omega)]; first | assumption | exact e_up_s))) | exact hD.1 | exact hD1.1 | exact hD2.1 | exact gD.1 | exact gD1.1 | exact gD2.1 | exact gQ.1 | exact hQ.1 | exact gS.1 | exact hS.1 | exact zD.1) rfl rfl w_mn_RX3_123 dX3_lose_24 (by rfl) (Nat.le_of_ble_eq_true rfl) (by decide) (by omega) (fun _ _ _ h _ => False.elim h) (fun r_24 w_24 n_24 h_24 hn_24 => ?_)
    obtain ⟨rfl, ew_24, en_24⟩ := h_24
    rw [ew_24, en_24]
    refine e_istore F dX3_lose_27 (by decide) ?_
    refine e_aload_n F dX3_lose_29 rfl ?_
    refine e_iload_n F dX3_lose_30 rfl ?_
    refine e_iconst F dX3_lose_31 ?_
    refine e_callVN F u_X0_setShare (by rfl) (c_X0_setShare hD1 (h := h) (v := -1) (by omega) (by omega) (by omega) (by omega)) (by first | assumption | exact e_up_s | (rw [e_up_n (by first | assumption | omega)]; first | assumption | exact e_up_s | (rw [e_up_n (by first | assumption | omega)]; first | assumption | exact e_up_s | (rw [e_up_n (by first | assumption | omega)]; first | assumption | exact e_up_s))) | exact hD.1 | exact hD1.1 | exact hD2.1 | exact gD.1 | exact gD1.1 | exact gD2.1 | exact gQ.1 | exact hQ.1 | exact gS.1 | exact hS.1 | exact zD.1) rfl rfl w_mn_RX3_130 dX3_lose_32 (by rfl) (Nat.le_of_ble_eq_true rfl) (by decide) (by omega) (fun _ _ _ h _ => False.elim h) (fun r_32 w_32 n_32 h_32 hn_32 => ?_)
    obtain ⟨rfl, en_32, zD, zF⟩ := h_32
    rw [en_32]
    refine e_iload F dX3_lose_35 rfl ?_
    refine e_iret F rfl (by omega) ?_ dX3_lose_37
    refine ⟨⟨hi1, hrh⟩, ?_⟩
    unfold lsQ
    rw [if_neg (by omega)]
    exact ⟨rfl, rfl, hC0.deal (by omega) (s := puS (D i.toNat) h (-1)) zD (puS_SW hW1 (Or.inl rfl) (Or.inr rfl)) zF⟩
  ·
    rw [b01_0] at c_16
    refine e_bipush F dX3_lose_19 (by decide) ?_
    refine e_iret F rfl (by omega) ?_ dX3_lose_21
    refine ⟨⟨hi1, hrh⟩, ?_⟩
    unfold lsQ
    rw [if_pos (by omega)]
    exact ⟨rfl, rfl, hC0, FR.rf⟩
set_option maxHeartbeats 4000000 in
set_option maxRecDepth 100000 in
theorem c_X3_give {K : e_K} {l : Launch} {w : e_W} {n : Nat} {x wh : Nat} {kn : Int} {D : Nat → SD} (hC : CW w x wh kn D) {i : Int} (hi : e_r i) {h : Int} (hh : e_r h) {v : Int} (hv : e_r v) : e_Met K l yX3_give (Cond.code yX3_give cX3_give 6 (Option.some .int) :: e_TB) (7) (2) [.ref x, .int (eI i), .int (eI h), .int (eI v)] w n (fun r w' n' => ((0 ≤ i ∧ i < 6) ∧ (1 ≤ h ∧ h ≤ ho wh)) ∧ r = some (.int (eI ((giQ wh D i.toNat h v).1))) ∧ n' = n ∧ CW w' x wh (kn) ((giQ wh D i.toNat h v).2) ∧ FR w w' x) (pxd w (¬ ((0 ≤ i ∧ i < 6) ∧ (1 ≤ h ∧ h ≤ ho wh))) False) := by
  refine e_ofV rfl (Nat.le_of_ble_eq_true rfl) ?_
  intro P9 E9 S9 M9 A9 B9 T9 C9 F hnm
  have hC0 := hC
  have hDA := hC.2.2.2.2.1
  obtain ⟨hX, hF, hwh, ⟨P0, hQ⟩, ⟨ga, hga, hgj⟩, hDs, s0, hS⟩ := hC
  have hp := pr_rg wh hwh
  have ho9 := ho_rg wh hwh
  have hg9 := gr_rg wh hwh
  have hf9 := fl_rg wh hwh
  have hm := emod_rg v hwh
  refine e_aload_n F dX3_give_0 rfl ?_
  refine e_iload_n F dX3_give_1 rfl ?_
  refine e_callVV F u_X3_dealAt (by rfl) (c_X3_dealAt hX hDA (i := i) hi) hX rfl rfl w_ml_RX3_94 dX3_give_2 (by rfl) (Nat.le_of_ble_eq_true rfl) (by decide) (by omega) (fun E w2 n2 h _ => ⟨Or.inl ⟨h.1, by have q := h.2.1; omega⟩, h.2.2⟩) (fun r_2 w_2 n_2 h_2 hn_2 => ?_)
  obtain ⟨hi1, rfl, ew_2, en_2⟩ := h_2
  rw [ew_2, en_2]
  obtain ⟨hD1, hW1⟩ := hDs i.toNat (by omega)
  refine e_astore F dX3_give_5 (by decide) ?_
  refine e_aload_n F dX3_give_7 rfl ?_
  refine e_iload_n F dX3_give_8 rfl ?_
  refine e_callVV F u_X3_requireHolder (by rfl) (c_X3_requireHolder hX hF hwh (h := h) hh) hX rfl rfl w_ml_RX3_77 dX3_give_9 (by rfl) (Nat.le_of_ble_eq_true rfl) (by decide) (by omega) (fun E w2 n2 h _ => ⟨Or.inl ⟨h.1, by have q := h.2.1; omega⟩, h.2.2⟩) (fun r_9 w_9 n_9 h_9 hn_9 => ?_)
  obtain ⟨hrh, rfl, ew_9, en_9⟩ := h_9
  rw [ew_9, en_9]
  refine e_aload F dX3_give_12 rfl ?_
  refine e_callVN F u_X0_isEmpty (by rfl) (c_X0_isEmpty hD1) (by first | assumption | exact e_up_s | (rw [e_up_n (by first | assumption | omega)]; first | assumption | exact e_up_s | (rw [e_up_n (by first | assumption | omega)]; first | assumption | exact e_up_s | (rw [e_up_n (by first | assumption | omega)]; first | assumption | exact e_up_s))) | exact hD.1 | exact hD1.1 | exact hD2.1 | exact gD.1 | exact gD1.1 | exact gD2.1 | exact gQ.1 | exact hQ.1 | exact gS.1 | exact hS.1 | exact zD.1) rfl rfl w_mn_RX3_109 dX3_give_14 (by rfl) (Nat.le_of_ble_eq_true rfl) (by decide) (by omega) (fun _ _ _ h _ => False.elim h) (fun r_14 w_14 n_14 h_14 hn_14 => ?_)
  obtain ⟨rfl, ew_14, en_14⟩ := h_14
  rw [ew_14, en_14]
  refine e_if_eq F 23 dX3_give_17 (by decide) (b01_r _) (fun c_17 => ?_) (fun c_17 => ?_)
  ·
    rw [b01_0] at c_17
    refine e_aload F dX3_give_23 rfl ?_
    refine e_iload_n F dX3_give_25 rfl ?_
    refine e_callVN F u_X0_shareAt (by rfl) (c_X0_shareAt hD1 (h := h) (by omega) (by omega)) (by first | assumption | exact e_up_s | (rw [e_up_n (by first | assumption | omega)]; first | assumption | exact e_up_s | (rw [e_up_n (by first | assumption | omega)]; first | assumption | exact e_up_s | (rw [e_up_n (by first | assumption | omega)]; first | assumption | exact e_up_s))) | exact hD.1 | exact hD1.1 | exact hD2.1 | exact gD.1 | exact gD1.1 | exact gD2.1 | exact gQ.1 | exact hQ.1 | exact gS.1 | exact hS.1 | exact zD.1) rfl rfl w_mn_RX3_123 dX3_give_26 (by rfl) (Nat.le_of_ble_eq_true rfl) (by decide) (by omega) (fun _ _ _ h _ => False.elim h) (fun r_26 w_26 n_26 h_26 hn_26 => ?_)
    obtain ⟨rfl, ew_26, en_26⟩ := h_26
    rw [ew_26, en_26]
    refine e_istore F dX3_give_29 (by decide) ?_
    refine e_aload F dX3_give_31 rfl ?_
    refine e_iload_n F dX3_give_33 rfl ?_
    refine e_aload_n F dX3_give_34 rfl ?_
    refine e_get (ci := 3) (fi := 0) (q := (RX3, TX3, 5)) F (by first | assumption | exact e_up_s | (rw [e_up_n (by first | assumption | omega)]; first | assumption | exact e_up_s | (rw [e_up_n (by first | assumption | omega)]; first | assumption | exact e_up_s | (rw [e_up_n (by first | assumption | omega)]; first | assumption | exact e_up_s))) | exact hD.1 | exact hD1.1 | exact hD2.1 | exact gD.1 | exact gD1.1 | exact gD2.1 | exact gQ.1 | exact hQ.1 | exact gS.1 | exact hS.1 | exact zD.1) rfl (by decide) w_fl_RX3_10 (by rfl) dX3_give_35 ?_
    refine e_iload_n F dX3_give_38 rfl ?_
    refine e_i2l F dX3_give_39 (⟨by omega, by omega⟩) ?_
    refine e_callVN F u_X1_modPrime (by rfl) (c_X1_modPrime hF hwh (v := v) (by constructor <;> omega)) (by first | assumption | exact e_up_s | (rw [e_up_n (by first | assumption | omega)]; first | assumption | exact e_up_s | (rw [e_up_n (by first | assumption | omega)]; first | assumption | exact e_up_s | (rw [e_up_n (by first | assumption | omega)]; first | assumption | exact e_up_s))) | exact hD.1 | exact hD1.1 | exact hD2.1 | exact gD.1 | exact gD1.1 | exact gD2.1 | exact gQ.1 | exact hQ.1 | exact gS.1 | exact hS.1 | exact zD.1) rfl rfl w_mn_RX3_59 dX3_give_40 (by rfl) (Nat.le_of_ble_eq_true rfl) (by decide) (by omega) (fun _ _ _ h _ => False.elim h) (fun r_40 w_40 n_40 h_40 hn_40 => ?_)
    obtain ⟨rfl, ew_40, en_40⟩ := h_40
    rw [ew_40, en_40]
    refine e_callVN F u_X0_setShare (by rfl) (c_X0_setShare hD1 (h := h) (v := v % pr wh) (by omega) (by omega) (by omega) (by omega)) (by first | assumption | exact e_up_s | (rw [e_up_n (by first | assumption | omega)]; first | assumption | exact e_up_s | (rw [e_up_n (by first | assumption | omega)]; first | assumption | exact e_up_s | (rw [e_up_n (by first | assumption | omega)]; first | assumption | exact e_up_s))) | exact hD.1 | exact hD1.1 | exact hD2.1 | exact gD.1 | exact gD1.1 | exact gD2.1 | exact gQ.1 | exact hQ.1 | exact gS.1 | exact hS.1 | exact zD.1) rfl rfl w_mn_RX3_130 dX3_give_43 (by rfl) (Nat.le_of_ble_eq_true rfl) (by decide) (by omega) (fun _ _ _ h _ => False.elim h) (fun r_43 w_43 n_43 h_43 hn_43 => ?_)
    obtain ⟨rfl, en_43, zD, zF⟩ := h_43
    rw [en_43]
    refine e_iload F dX3_give_46 rfl ?_
    refine e_iret F rfl (by omega) ?_ dX3_give_48
    refine ⟨⟨hi1, hrh⟩, ?_⟩
    unfold giQ
    rw [if_neg c_17]
    exact ⟨rfl, rfl, hC0.deal (by omega) (s := puS (D i.toNat) h (v % pr wh)) zD (puS_SW hW1 (Or.inr ⟨hm.1, hm.2, hrh.2⟩) (Or.inl c_17)) zF⟩
  ·
    rw [b01_0, Classical.not_not] at c_17
    refine e_bipush F dX3_give_20 (by decide) ?_
    refine e_iret F rfl (by omega) ?_ dX3_give_22
    refine ⟨⟨hi1, hrh⟩, ?_⟩
    unfold giQ
    rw [if_pos c_17]
    exact ⟨rfl, rfl, hC0, FR.rf⟩
set_option maxHeartbeats 4000000 in
set_option maxRecDepth 100000 in
theorem c_X3_regain {K : e_K} {l : Launch} {w : e_W} {n : Nat} {x wh : Nat} {kn : Int} {D : Nat → SD} (hC : CW w x wh kn D) {i : Int} (hi : e_r i) {h : Int} (hh : e_r h) {a : Int} (ha : e_r a) : e_Met K l yX3_regain (Cond.code yX3_regain cX3_regain 6 (Option.some .int) :: e_TB) (7) (3) [.ref x, .int (eI i), .int (eI h), .int (eI a)] w n (fun r w' n' => ((0 ≤ i ∧ i < 6) ∧ (1 ≤ h ∧ h ≤ ho wh) ∧ (1 ≤ a ∧ a ≤ fl wh)) ∧ r = some (.int (eI ((rgQ wh D i.toNat h a).1))) ∧ n' = n ∧ CW w' x wh (kn) ((rgQ wh D i.toNat h a).2) ∧ FR w w' x) (pxd w (¬ ((0 ≤ i ∧ i < 6) ∧ (1 ≤ h ∧ h ≤ ho wh))) (((0 ≤ i ∧ i < 6) ∧ (1 ≤ h ∧ h ≤ ho wh)) ∧ ¬ (1 ≤ a ∧ a ≤ fl wh))) := by
  refine e_ofV rfl (Nat.le_of_ble_eq_true rfl) ?_
  intro P9 E9 S9 M9 A9 B9 T9 C9 F hnm
  have hC0 := hC
  have hDA := hC.2.2.2.2.1
  obtain ⟨hX, hF, hwh, ⟨P0, hQ⟩, ⟨ga, hga, hgj⟩, hDs, s0, hS⟩ := hC
  have hp := pr_rg wh hwh
  have ho9 := ho_rg wh hwh
  have hg9 := gr_rg wh hwh
  have hf9 := fl_rg wh hwh
  refine e_aload_n F dX3_regain_0 rfl ?_
  refine e_iload_n F dX3_regain_1 rfl ?_
  refine e_callVV F u_X3_dealAt (by rfl) (c_X3_dealAt hX hDA (i := i) hi) hX rfl rfl w_ml_RX3_94 dX3_regain_2 (by rfl) (Nat.le_of_ble_eq_true rfl) (by decide) (by omega) (fun E w2 n2 h _ => ⟨Or.inl ⟨h.1, by have q := h.2.1; omega⟩, h.2.2⟩) (fun r_2 w_2 n_2 h_2 hn_2 => ?_)
  obtain ⟨hi1, rfl, ew_2, en_2⟩ := h_2
  rw [ew_2, en_2]
  obtain ⟨hD1, hW1⟩ := hDs i.toNat (by omega)
  refine e_astore F dX3_regain_5 (by decide) ?_
  refine e_aload_n F dX3_regain_7 rfl ?_
  refine e_iload_n F dX3_regain_8 rfl ?_
  refine e_callVV F u_X3_requireHolder (by rfl) (c_X3_requireHolder hX hF hwh (h := h) hh) hX rfl rfl w_ml_RX3_77 dX3_regain_9 (by rfl) (Nat.le_of_ble_eq_true rfl) (by decide) (by omega) (fun E w2 n2 h _ => ⟨Or.inl ⟨h.1, by have q := h.2.1; omega⟩, h.2.2⟩) (fun r_9 w_9 n_9 h_9 hn_9 => ?_)
  obtain ⟨hrh, rfl, ew_9, en_9⟩ := h_9
  rw [ew_9, en_9]
  refine e_aload_n F dX3_regain_12 rfl ?_
  refine e_iload_n F dX3_regain_13 rfl ?_
  refine e_callVV F u_X3_requireSet (by rfl) (c_X3_requireSet hX hF hwh (s9 := a) ha) hX rfl rfl w_ml_RX3_80 dX3_regain_14 (by rfl) (Nat.le_of_ble_eq_true rfl) (by decide) (by omega) (fun E w2 n2 h _ => ⟨Or.inr ⟨h.1, by have q := h.2.1; omega⟩, h.2.2⟩) (fun r_14 w_14 n_14 h_14 hn_14 => ?_)
  obtain ⟨hrs, rfl, ew_14, en_14⟩ := h_14
  rw [ew_14, en_14]
  refine e_aload F dX3_regain_17 rfl ?_
  refine e_iload_n F dX3_regain_19 rfl ?_
  refine e_callVN F u_X0_isEnough (by rfl) (c_X0_isEnough hD1 (set := a) (by omega) (by omega)) (by first | assumption | exact e_up_s | (rw [e_up_n (by first | assumption | omega)]; first | assumption | exact e_up_s | (rw [e_up_n (by first | assumption | omega)]; first | assumption | exact e_up_s | (rw [e_up_n (by first | assumption | omega)]; first | assumption | exact e_up_s))) | exact hD.1 | exact hD1.1 | exact hD2.1 | exact gD.1 | exact gD1.1 | exact gD2.1 | exact gQ.1 | exact hQ.1 | exact gS.1 | exact hS.1 | exact zD.1) rfl rfl w_mn_RX3_170 dX3_regain_20 (by rfl) (Nat.le_of_ble_eq_true rfl) (by decide) (by omega) (fun _ _ _ h _ => False.elim h) (fun r_20 w_20 n_20 h_20 hn_20 => ?_)
  obtain ⟨rfl, ew_20, en_20⟩ := h_20
  rw [ew_20, en_20]
  refine e_if_ne F 29 dX3_regain_23 (by decide) (b01_r _) (fun c_23 => ?_) (fun c_23 => ?_)
  ·
    rw [ne_eq, b01_0, Classical.not_not] at c_23
    refine e_aload_n F dX3_regain_29 rfl ?_
    refine e_aload F dX3_regain_30 rfl ?_
    refine e_iload_n F dX3_regain_32 rfl ?_
    refine e_iload_n F dX3_regain_33 rfl ?_
    refine e_callVV F u_X3_tell (by rfl) (c_X3_tell hX hF hwh hD1 (set := a) (pl := h) (by omega) (by omega) hh) hX rfl rfl w_ml_RX3_178 dX3_regain_34 (by rfl) (Nat.le_of_ble_eq_true rfl) (by decide) (by omega) (fun _ _ _ h _ => False.elim h) (fun r_34 w_34 n_34 h_34 hn_34 => ?_)
    obtain ⟨rfl, ew_34, en_34⟩ := h_34
    rw [ew_34, en_34]
    have htl : 0 ≤ tl wh a (D i.toNat).A h ∧ tl wh a (D i.toNat).A h < pr wh := emod_rg _ hwh
    refine e_istore F dX3_regain_37 (by decide) ?_
    refine e_aload F dX3_regain_39 rfl ?_
    refine e_iload_n F dX3_regain_41 rfl ?_
    refine e_iload F dX3_regain_42 rfl ?_
    refine e_callVN F u_X0_setShare (by rfl) (c_X0_setShare hD1 (h := h) (v := tl wh a (D i.toNat).A h) (by omega) (by omega) (by omega) (by omega)) (by first | assumption | exact e_up_s | (rw [e_up_n (by first | assumption | omega)]; first | assumption | exact e_up_s | (rw [e_up_n (by first | assumption | omega)]; first | assumption | exact e_up_s | (rw [e_up_n (by first | assumption | omega)]; first | assumption | exact e_up_s))) | exact hD.1 | exact hD1.1 | exact hD2.1 | exact gD.1 | exact gD1.1 | exact gD2.1 | exact gQ.1 | exact hQ.1 | exact gS.1 | exact hS.1 | exact zD.1) rfl rfl w_mn_RX3_130 dX3_regain_44 (by rfl) (Nat.le_of_ble_eq_true rfl) (by decide) (by omega) (fun _ _ _ h _ => False.elim h) (fun r_44 w_44 n_44 h_44 hn_44 => ?_)
    obtain ⟨rfl, en_44, zD, zF⟩ := h_44
    rw [en_44]
    refine e_iload F dX3_regain_47 rfl ?_
    refine e_iret F rfl (by omega) ?_ dX3_regain_49
    refine ⟨⟨hi1, hrh, hrs⟩, ?_⟩
    unfold rgQ
    rw [if_pos c_23]
    exact ⟨rfl, rfl, hC0.deal (by omega) (s := puS (D i.toNat) h (tl wh a (D i.toNat).A h)) zD (puS_SW hW1 (Or.inr ⟨htl.1, htl.2, hrh.2⟩) (Or.inl (by rw [c_23.1.1]; decide))) zF⟩
  ·
    rw [b01_0] at c_23
    refine e_bipush F dX3_regain_26 (by decide) ?_
    refine e_iret F rfl (by omega) ?_ dX3_regain_28
    refine ⟨⟨hi1, hrh, hrs⟩, ?_⟩
    unfold rgQ
    rw [if_neg c_23]
    exact ⟨rfl, rfl, hC0, FR.rf⟩
set_option maxHeartbeats 4000000 in
set_option maxRecDepth 100000 in
theorem c_X3_copy {K : e_K} {l : Launch} {w : e_W} {n : Nat} {x wh : Nat} {kn : Int} {D : Nat → SD} (hC : CW w x wh kn D) {i : Int} (hi : e_r i) {j : Int} (hj : e_r j) : e_Met K l yX3_copy (Cond.code yX3_copy cX3_copy 5 (Option.some .int) :: e_TB) (7) (2) [.ref x, .int (eI i), .int (eI j)] w n (fun r w' n' => ((0 ≤ i ∧ i < 6) ∧ (0 ≤ j ∧ j < 6)) ∧ r = some (.int (eI (bc (st7 (D i.toNat).A)))) ∧ n' = n ∧ CW w' x wh (kn) (upD D j.toNat (D i.toNat)) ∧ FR w w' x) (pxd w (¬ ((0 ≤ i ∧ i < 6) ∧ (0 ≤ j ∧ j < 6))) False) := by
  refine e_ofV rfl (Nat.le_of_ble_eq_true rfl) ?_
  intro P9 E9 S9 M9 A9 B9 T9 C9 F hnm
  have hC0 := hC
  have hDA := hC.2.2.2.2.1
  obtain ⟨hX, hF, hwh, ⟨P0, hQ⟩, ⟨ga, hga, hgj⟩, hDs, s0, hS⟩ := hC
  have hp := pr_rg wh hwh
  have ho9 := ho_rg wh hwh
  have hg9 := gr_rg wh hwh
  have hf9 := fl_rg wh hwh
  refine e_aload_n F dX3_copy_0 rfl ?_
  refine e_iload_n F dX3_copy_1 rfl ?_
  refine e_callVV F u_X3_dealAt (by rfl) (c_X3_dealAt hX hDA (i := i) hi) hX rfl rfl w_ml_RX3_94 dX3_copy_2 (by rfl) (Nat.le_of_ble_eq_true rfl) (by decide) (by omega) (fun E w2 n2 h _ => ⟨Or.inl ⟨h.1, by have q := h.2.1; omega⟩, h.2.2⟩) (fun r_2 w_2 n_2 h_2 hn_2 => ?_)
  obtain ⟨hi1, rfl, ew_2, en_2⟩ := h_2
  rw [ew_2, en_2]
  obtain ⟨hD1, hW1⟩ := hDs i.toNat (by omega)
  refine e_astore_n F dX3_copy_5 (by decide) ?_
  refine e_aload_n F dX3_copy_6 rfl ?_
  refine e_iload_n F dX3_copy_7 rfl ?_
  refine e_callVV F u_X3_dealAt (by rfl) (c_X3_dealAt hX hDA (i := j) hj) hX rfl rfl w_ml_RX3_94 dX3_copy_8 (by rfl) (Nat.le_of_ble_eq_true rfl) (by decide) (by omega) (fun E w2 n2 h _ => ⟨Or.inl ⟨h.1, by have q := h.2.1; omega⟩, h.2.2⟩) (fun r_8 w_8 n_8 h_8 hn_8 => ?_)
  obtain ⟨hi2, rfl, ew_8, en_8⟩ := h_8
  rw [ew_8, en_8]
  obtain ⟨hD2, hW2⟩ := hDs j.toNat (by omega)
  refine e_astore F dX3_copy_11 (by decide) ?_
  refine e_aload F dX3_copy_13 rfl ?_
  refine e_aload_n F dX3_copy_15 rfl ?_
  have htk : e_Met K l yX0_take (Cond.code yX0_take cX0_take 3 none :: e_TB) (1) (0) [.ref (x + 6 + 3 * j.toNat), .ref (x + 6 + 3 * i.toNat)] w n (fun r w' n' => r = none ∧ n' = n ∧ DS w' (x + 6 + 3 * j.toNat) (D i.toNat) ∧ DF w w' (x + 6 + 3 * j.toNat)) (e_px0) := by
    by_cases e : i.toNat = j.toNat
    · rw [e]; exact c_X0_takeS hD2
    · exact c_X0_take hD2 hD1 (by omega)
  refine e_callVN F u_X0_take (by rfl) htk hD2.1 rfl rfl w_mn_RX3_191 dX3_copy_16 (by rfl) (Nat.le_of_ble_eq_true rfl) (by decide) (by omega) (fun _ _ _ h _ => False.elim h) (fun r_16 w_16 n_16 h_16 hn_16 => ?_)
  obtain ⟨rfl, en_16, zD, zF⟩ := h_16
  rw [en_16]
  refine e_aload F dX3_copy_19 rfl ?_
  refine e_callVN F u_X0_shareCount (by rfl) (c_X0_shareCount zD) zD.1 rfl rfl w_mn_RX3_149 dX3_copy_21 (by rfl) (Nat.le_of_ble_eq_true rfl) (by decide) (by omega) (fun _ _ _ h _ => False.elim h) (fun r_21 w_21 n_21 h_21 hn_21 => ?_)
  obtain ⟨rfl, ew_21, en_21⟩ := h_21
  rw [ew_21, en_21]
  refine e_iret F rfl (by omega) ?_ dX3_copy_24
  exact ⟨⟨hi1, hi2⟩, rfl, rfl, hC0.deal (by omega) zD hW1 zF⟩
set_option maxHeartbeats 4000000 in
set_option maxRecDepth 100000 in
theorem c_X3_drop {K : e_K} {l : Launch} {w : e_W} {n : Nat} {x wh : Nat} {kn : Int} {D : Nat → SD} (hC : CW w x wh kn D) {i : Int} (hi : e_r i) : e_Met K l yX3_drop (Cond.code yX3_drop cX3_drop 4 (Option.some .int) :: e_TB) (7) (1) [.ref x, .int (eI i)] w n (fun r w' n' => ((0 ≤ i ∧ i < 6)) ∧ r = some (.int (eI (bc (st7 (D i.toNat).A)))) ∧ n' = n ∧ CW w' x wh (kn) (upD D i.toNat SD0) ∧ FR w w' x) (pxd w (¬ (0 ≤ i ∧ i < 6)) False) := by
  refine e_ofV rfl (Nat.le_of_ble_eq_true rfl) ?_
  intro P9 E9 S9 M9 A9 B9 T9 C9 F hnm
  have hC0 := hC
  have hDA := hC.2.2.2.2.1
  obtain ⟨hX, hF, hwh, ⟨P0, hQ⟩, ⟨ga, hga, hgj⟩, hDs, s0, hS⟩ := hC
  have hp := pr_rg wh hwh
  have ho9 := ho_rg wh hwh
  have hg9 := gr_rg wh hwh
  have hf9 := fl_rg wh hwh
  refine e_aload_n F dX3_drop_0 rfl ?_
  refine e_iload_n F dX3_drop_1 rfl ?_
  refine e_callVV F u_X3_dealAt (by rfl) (c_X3_dealAt hX hDA (i := i) hi) hX rfl rfl w_ml_RX3_94 dX3_drop_2 (by rfl) (Nat.le_of_ble_eq_true rfl) (by decide) (by omega) (fun E w2 n2 h _ => ⟨Or.inl ⟨h.1, by have q := h.2.1; omega⟩, h.2.2⟩) (fun r_2 w_2 n_2 h_2 hn_2 => ?_)
  obtain ⟨hi1, rfl, ew_2, en_2⟩ := h_2
  rw [ew_2, en_2]
  obtain ⟨hD1, hW1⟩ := hDs i.toNat (by omega)
  refine e_astore_n F dX3_drop_5 (by decide) ?_
  refine e_aload_n F dX3_drop_6 rfl ?_
  refine e_callVN F u_X0_shareCount (by rfl) (c_X0_shareCount hD1) (by first | assumption | exact e_up_s | (rw [e_up_n (by first | assumption | omega)]; first | assumption | exact e_up_s | (rw [e_up_n (by first | assumption | omega)]; first | assumption | exact e_up_s | (rw [e_up_n (by first | assumption | omega)]; first | assumption | exact e_up_s))) | exact hD.1 | exact hD1.1 | exact hD2.1 | exact gD.1 | exact gD1.1 | exact gD2.1 | exact gQ.1 | exact hQ.1 | exact gS.1 | exact hS.1 | exact zD.1) rfl rfl w_mn_RX3_149 dX3_drop_7 (by rfl) (Nat.le_of_ble_eq_true rfl) (by decide) (by omega) (fun _ _ _ h _ => False.elim h) (fun r_7 w_7 n_7 h_7 hn_7 => ?_)
  obtain ⟨rfl, ew_7, en_7⟩ := h_7
  rw [ew_7, en_7]
  refine e_istore_n F dX3_drop_10 (by decide) ?_
  refine e_aload_n F dX3_drop_11 rfl ?_
  obtain ⟨q0, ⟨qf, qf1, qf2⟩, ⟨qg, qg1, qg2⟩, qw⟩ := hD1
  refine e_callVN F u_X0_clear (by rfl) (c_X0_clear q0 qf1) q0 rfl rfl w_mn_RX3_56 dX3_drop_12 (by rfl) (Nat.le_of_ble_eq_true rfl) (by decide) (by omega) (fun _ _ _ h _ => False.elim h) (fun r_12 w_12 n_12 h_12 hn_12 => ?_)
  obtain ⟨rfl, en_12, z0, ⟨zf, z1, z2⟩, zF⟩ := h_12
  rw [en_12]
  have zD : DS w_12 (x + 6 + 3 * i.toNat) SD0 := ⟨z0, ⟨zf, z1, fun j j0 j1 => z2 j (by omega) j1⟩, ⟨qg, by rw [zF _ (by omega) (by omega)]; exact qg1, fun j j0 j1 => absurd j1 (show ¬ j < 0 by omega)⟩, Or.inl rfl, by decide, by decide, fun j _ _ => by show -1 ≤ (-1 : Int) ∧ (-1 : Int) < 1000003; decide, fun j j0 j1 => absurd j1 (show ¬ j < 0 by omega)⟩
  refine e_iload_n F dX3_drop_15 rfl ?_
  refine e_iret F rfl (by omega) ?_ dX3_drop_16
  exact ⟨hi1, rfl, rfl, hC0.deal (by omega) zD (SD0_SW wh) (fun q a1 a2 _ => zF q a1 a2)⟩
set_option maxHeartbeats 4000000 in
set_option maxRecDepth 100000 in
theorem c_X3_plus {K : e_K} {l : Launch} {w : e_W} {n : Nat} {x wh : Nat} {kn : Int} {D : Nat → SD} (hC : CW w x wh kn D) {i : Int} (hi : e_r i) {j : Int} (hj : e_r j) {t : Int} (ht : e_r t) : e_Met K l yX3_plus (Cond.code yX3_plus cX3_plus 4 (Option.some .int) :: e_TB) (7) (3) [.ref x, .int (eI i), .int (eI j), .int (eI t)] w n (fun r w' n' => ((0 ≤ i ∧ i < 6) ∧ (0 ≤ j ∧ j < 6) ∧ (0 ≤ t ∧ t < 6)) ∧ r = some (.int (eI ((auQ wh 0 D i.toNat j.toNat t.toNat).1))) ∧ n' = n ∧ CW w' x wh (kn) ((auQ wh 0 D i.toNat j.toNat t.toNat).2) ∧ FR w w' x) (pxd w (¬ ((0 ≤ i ∧ i < 6) ∧ (0 ≤ j ∧ j < 6) ∧ (0 ≤ t ∧ t < 6))) False) := by
  refine e_ofV rfl (Nat.le_of_ble_eq_true rfl) ?_
  intro P9 E9 S9 M9 A9 B9 T9 C9 F hnm
  have hC0 := hC
  have hDA := hC.2.2.2.2.1
  obtain ⟨hX, hF, hwh, ⟨P0, hQ⟩, ⟨ga, hga, hgj⟩, hDs, s0, hS⟩ := hC
  have hp := pr_rg wh hwh
  have ho9 := ho_rg wh hwh
  have hg9 := gr_rg wh hwh
  have hf9 := fl_rg wh hwh
  refine e_aload_n F dX3_plus_0 rfl ?_
  refine e_aload_n F dX3_plus_1 rfl ?_
  refine e_iload_n F dX3_plus_2 rfl ?_
  refine e_callVV F u_X3_dealAt (by rfl) (c_X3_dealAt hX hDA (i := i) hi) hX rfl rfl w_ml_RX3_94 dX3_plus_3 (by rfl) (Nat.le_of_ble_eq_true rfl) (by decide) (by omega) (fun E w2 n2 h _ => ⟨Or.inl ⟨h.1, by have q := h.2.1; omega⟩, h.2.2⟩) (fun r_3 w_3 n_3 h_3 hn_3 => ?_)
  obtain ⟨hi1, rfl, ew_3, en_3⟩ := h_3
  rw [ew_3, en_3]
  obtain ⟨hD1, hW1⟩ := hDs i.toNat (by omega)
  refine e_aload_n F dX3_plus_6 rfl ?_
  refine e_iload_n F dX3_plus_7 rfl ?_
  refine e_callVV F u_X3_dealAt (by rfl) (c_X3_dealAt hX hDA (i := j) hj) hX rfl rfl w_ml_RX3_94 dX3_plus_8 (by rfl) (Nat.le_of_ble_eq_true rfl) (by decide) (by omega) (fun E w2 n2 h _ => ⟨Or.inl ⟨h.1, by have q := h.2.1; omega⟩, h.2.2⟩) (fun r_8 w_8 n_8 h_8 hn_8 => ?_)
  obtain ⟨hi2, rfl, ew_8, en_8⟩ := h_8
  rw [ew_8, en_8]
  obtain ⟨hD2, hW2⟩ := hDs j.toNat (by omega)
  refine e_aload_n F dX3_plus_11 rfl ?_
  refine e_iload_n F dX3_plus_12 rfl ?_
  refine e_callVV F u_X3_dealAt (by rfl) (c_X3_dealAt hX hDA (i := t) ht) hX rfl rfl w_ml_RX3_94 dX3_plus_13 (by rfl) (Nat.le_of_ble_eq_true rfl) (by decide) (by omega) (fun E w2 n2 h _ => ⟨Or.inl ⟨h.1, by have q := h.2.1; omega⟩, h.2.2⟩) (fun r_13 w_13 n_13 h_13 hn_13 => ?_)
  obtain ⟨hi3, rfl, ew_13, en_13⟩ := h_13
  rw [ew_13, en_13]
  obtain ⟨hD3, hW3⟩ := hDs t.toNat (by omega)
  refine e_iconst F dX3_plus_16 ?_
  refine e_callVV F u_X3_addUp (by rfl) (c_X3_addUp hC0 (i1 := i.toNat) (i2 := j.toNat) (i3 := t.toNat) (b := 0) (by omega) (by omega) (by omega) (by decide)) hX rfl rfl w_ml_RX3_153 dX3_plus_17 (by rfl) (Nat.le_of_ble_eq_true rfl) (by decide) (by omega) (fun _ _ _ h _ => False.elim h) (fun r_17 w_17 n_17 h_17 hn_17 => ?_)
  obtain ⟨rfl, en_17, hres⟩ := h_17
  rw [en_17]
  refine e_iret F rfl (by omega) ?_ dX3_plus_20
  exact ⟨⟨hi1, hi2, hi3⟩, rfl, rfl, hres⟩
set_option maxHeartbeats 4000000 in
set_option maxRecDepth 100000 in
theorem c_X3_less {K : e_K} {l : Launch} {w : e_W} {n : Nat} {x wh : Nat} {kn : Int} {D : Nat → SD} (hC : CW w x wh kn D) {i : Int} (hi : e_r i) {j : Int} (hj : e_r j) {t : Int} (ht : e_r t) : e_Met K l yX3_less (Cond.code yX3_less cX3_less 4 (Option.some .int) :: e_TB) (7) (3) [.ref x, .int (eI i), .int (eI j), .int (eI t)] w n (fun r w' n' => ((0 ≤ i ∧ i < 6) ∧ (0 ≤ j ∧ j < 6) ∧ (0 ≤ t ∧ t < 6)) ∧ r = some (.int (eI ((auQ wh 1 D i.toNat j.toNat t.toNat).1))) ∧ n' = n ∧ CW w' x wh (kn) ((auQ wh 1 D i.toNat j.toNat t.toNat).2) ∧ FR w w' x) (pxd w (¬ ((0 ≤ i ∧ i < 6) ∧ (0 ≤ j ∧ j < 6) ∧ (0 ≤ t ∧ t < 6))) False) := by
  refine e_ofV rfl (Nat.le_of_ble_eq_true rfl) ?_
  intro P9 E9 S9 M9 A9 B9 T9 C9 F hnm
  have hC0 := hC
  have hDA := hC.2.2.2.2.1
  obtain ⟨hX, hF, hwh, ⟨P0, hQ⟩, ⟨ga, hga, hgj⟩, hDs, s0, hS⟩ := hC
  have hp := pr_rg wh hwh
  have ho9 := ho_rg wh hwh
  have hg9 := gr_rg wh hwh
  have hf9 := fl_rg wh hwh
  refine e_aload_n F dX3_less_0 rfl ?_
  refine e_aload_n F dX3_less_1 rfl ?_
  refine e_iload_n F dX3_less_2 rfl ?_
  refine e_callVV F u_X3_dealAt (by rfl) (c_X3_dealAt hX hDA (i := i) hi) hX rfl rfl w_ml_RX3_94 dX3_less_3 (by rfl) (Nat.le_of_ble_eq_true rfl) (by decide) (by omega) (fun E w2 n2 h _ => ⟨Or.inl ⟨h.1, by have q := h.2.1; omega⟩, h.2.2⟩) (fun r_3 w_3 n_3 h_3 hn_3 => ?_)
  obtain ⟨hi1, rfl, ew_3, en_3⟩ := h_3
  rw [ew_3, en_3]
  obtain ⟨hD1, hW1⟩ := hDs i.toNat (by omega)
  refine e_aload_n F dX3_less_6 rfl ?_
  refine e_iload_n F dX3_less_7 rfl ?_
  refine e_callVV F u_X3_dealAt (by rfl) (c_X3_dealAt hX hDA (i := j) hj) hX rfl rfl w_ml_RX3_94 dX3_less_8 (by rfl) (Nat.le_of_ble_eq_true rfl) (by decide) (by omega) (fun E w2 n2 h _ => ⟨Or.inl ⟨h.1, by have q := h.2.1; omega⟩, h.2.2⟩) (fun r_8 w_8 n_8 h_8 hn_8 => ?_)
  obtain ⟨hi2, rfl, ew_8, en_8⟩ := h_8
  rw [ew_8, en_8]
  obtain ⟨hD2, hW2⟩ := hDs j.toNat (by omega)
  refine e_aload_n F dX3_less_11 rfl ?_
  refine e_iload_n F dX3_less_12 rfl ?_
  refine e_callVV F u_X3_dealAt (by rfl) (c_X3_dealAt hX hDA (i := t) ht) hX rfl rfl w_ml_RX3_94 dX3_less_13 (by rfl) (Nat.le_of_ble_eq_true rfl) (by decide) (by omega) (fun E w2 n2 h _ => ⟨Or.inl ⟨h.1, by have q := h.2.1; omega⟩, h.2.2⟩) (fun r_13 w_13 n_13 h_13 hn_13 => ?_)
  obtain ⟨hi3, rfl, ew_13, en_13⟩ := h_13
  rw [ew_13, en_13]
  obtain ⟨hD3, hW3⟩ := hDs t.toNat (by omega)
  refine e_iconst F dX3_less_16 ?_
  refine e_callVV F u_X3_addUp (by rfl) (c_X3_addUp hC0 (i1 := i.toNat) (i2 := j.toNat) (i3 := t.toNat) (b := 1) (by omega) (by omega) (by omega) (by decide)) hX rfl rfl w_ml_RX3_153 dX3_less_17 (by rfl) (Nat.le_of_ble_eq_true rfl) (by decide) (by omega) (fun _ _ _ h _ => False.elim h) (fun r_17 w_17 n_17 h_17 hn_17 => ?_)
  obtain ⟨rfl, en_17, hres⟩ := h_17
  rw [en_17]
  refine e_iret F rfl (by omega) ?_ dX3_less_20
  exact ⟨⟨hi1, hi2, hi3⟩, rfl, rfl, hres⟩
set_option maxHeartbeats 4000000 in
set_option maxRecDepth 100000 in
theorem c_X3_pour {K : e_K} {l : Launch} {w : e_W} {n : Nat} {x wh : Nat} {kn : Int} {D : Nat → SD} (hC : CW w x wh kn D) {i : Int} (hi : e_r i) {a : Int} (ha : e_r a) {b : Int} (hb : e_r b) {c : Int} (hc : e_r c) {d : Int} (hd : e_r d) : e_Met K l yX3_pour (Cond.code yX3_pour cX3_pour 10 (Option.some .int) :: e_TB) (7) (1) [.ref x, .int (eI i), .int (eI a), .int (eI b), .int (eI c), .int (eI d)] w n (fun r w' n' => ((0 ≤ i ∧ i < 6)) ∧ r = some (.int (eI ((poQ wh D i.toNat a b c d).1))) ∧ n' = n ∧ CW w' x wh (kn) ((poQ wh D i.toNat a b c d).2) ∧ FR w w' x) (pxd w (¬ (0 ≤ i ∧ i < 6)) False) := by
  refine e_ofV rfl (Nat.le_of_ble_eq_true rfl) ?_
  intro P9 E9 S9 M9 A9 B9 T9 C9 F hnm
  have hC0 := hC
  have hDA := hC.2.2.2.2.1
  obtain ⟨hX, hF, hwh, ⟨P0, hQ⟩, ⟨ga, hga, hgj⟩, hDs, s0, hS⟩ := hC
  have hp := pr_rg wh hwh
  have ho9 := ho_rg wh hwh
  have hg9 := gr_rg wh hwh
  have hf9 := fl_rg wh hwh
  have hres9 : True := trivial
  refine e_aload_n F dX3_pour_0 rfl ?_
  refine e_iload_n F dX3_pour_1 rfl ?_
  refine e_callVV F u_X3_dealAt (by rfl) (c_X3_dealAt hX hDA (i := i) hi) hX rfl rfl w_ml_RX3_94 dX3_pour_2 (by rfl) (Nat.le_of_ble_eq_true rfl) (by decide) (by omega) (fun E w2 n2 h _ => ⟨Or.inl ⟨h.1, by have q := h.2.1; omega⟩, h.2.2⟩) (fun r_2 w_2 n_2 h_2 hn_2 => ?_)
  obtain ⟨hi1, rfl, ew_2, en_2⟩ := h_2
  rw [ew_2, en_2]
  obtain ⟨hD1, hW1⟩ := hDs i.toNat (by omega)
  refine e_astore F dX3_pour_5 (by decide) ?_
  refine e_aload F dX3_pour_7 rfl ?_
  refine e_callVN F u_X0_isEmpty (by rfl) (c_X0_isEmpty hD1) (by first | assumption | exact e_up_s | (rw [e_up_n (by first | assumption | omega)]; first | assumption | exact e_up_s | (rw [e_up_n (by first | assumption | omega)]; first | assumption | exact e_up_s | (rw [e_up_n (by first | assumption | omega)]; first | assumption | exact e_up_s))) | exact hD.1 | exact hD1.1 | exact hD2.1 | exact gD.1 | exact gD1.1 | exact gD2.1 | exact gQ.1 | exact hQ.1 | exact gS.1 | exact hS.1 | exact zD.1) rfl rfl w_mn_RX3_109 dX3_pour_9 (by rfl) (Nat.le_of_ble_eq_true rfl) (by decide) (by omega) (fun _ _ _ h _ => False.elim h) (fun r_9 w_9 n_9 h_9 hn_9 => ?_)
  obtain ⟨rfl, ew_9, en_9⟩ := h_9
  rw [ew_9, en_9]
  refine e_if_eq F 18 dX3_pour_12 (by decide) (b01_r _) (fun c_12 => ?_) (fun c_12 => ?_)
  ·
    rw [b01_0] at c_12
    refine e_aload_n F dX3_pour_18 rfl ?_
    refine e_get (ci := 3) (fi := 1) (q := (RX3, TX3, 5)) F (by first | assumption | exact e_up_s | (rw [e_up_n (by first | assumption | omega)]; first | assumption | exact e_up_s | (rw [e_up_n (by first | assumption | omega)]; first | assumption | exact e_up_s | (rw [e_up_n (by first | assumption | omega)]; first | assumption | exact e_up_s))) | exact hD.1 | exact hD1.1 | exact hD2.1 | exact gD.1 | exact gD1.1 | exact gD2.1 | exact gQ.1 | exact hQ.1 | exact gS.1 | exact hS.1 | exact zD.1) rfl (by decide) w_fl_RX3_19 (by rfl) dX3_pour_19 ?_
    refine e_aload_n F dX3_pour_22 rfl ?_
    refine e_get (ci := 3) (fi := 0) (q := (RX3, TX3, 5)) F (by first | assumption | exact e_up_s | (rw [e_up_n (by first | assumption | omega)]; first | assumption | exact e_up_s | (rw [e_up_n (by first | assumption | omega)]; first | assumption | exact e_up_s | (rw [e_up_n (by first | assumption | omega)]; first | assumption | exact e_up_s))) | exact hD.1 | exact hD1.1 | exact hD2.1 | exact gD.1 | exact gD1.1 | exact gD2.1 | exact gQ.1 | exact hQ.1 | exact gS.1 | exact hS.1 | exact zD.1) rfl (by decide) w_fl_RX3_10 (by rfl) dX3_pour_23 ?_
    refine e_aload F dX3_pour_26 rfl ?_
    refine e_getN (ci := 0) (fi := 1) (q := (RX0, TX0, 5)) F hD1.1 rfl (by decide) w_fn_RX3_113 (by rfl) dX3_pour_28 ?_
    refine e_iload_n F dX3_pour_31 rfl ?_
    refine e_iload_n F dX3_pour_32 rfl ?_
    refine e_iload F dX3_pour_33 rfl ?_
    refine e_iload F dX3_pour_35 rfl ?_
    have hdg := hD1.2.2.2.2.1
    have hsc := hD1.2.2.2.2.2.1
    have hA1 := hD1.2.2.2.2.2.2.1
    refine e_callVN F u_X2_become (by rfl) (c_X2_become hQ hF hwh (dg := (D i.toNat).dg) (by omega) ha hb hc hd) (by first | assumption | exact e_up_s | (rw [e_up_n (by first | assumption | omega)]; first | assumption | exact e_up_s | (rw [e_up_n (by first | assumption | omega)]; first | assumption | exact e_up_s | (rw [e_up_n (by first | assumption | omega)]; first | assumption | exact e_up_s))) | exact hD.1 | exact hD1.1 | exact hD2.1 | exact gD.1 | exact gD1.1 | exact gD2.1 | exact gQ.1 | exact hQ.1 | exact gS.1 | exact hS.1 | exact zD.1) rfl rfl w_mn_RX3_101 dX3_pour_37 (by rfl) (Nat.le_of_ble_eq_true rfl) (by decide) (by omega) (fun _ _ _ h _ => False.elim h) (fun r_37 w_37 n_37 h_37 hn_37 => ?_)
    obtain ⟨rfl, en_37, gQ, gF0⟩ := h_37
    rw [en_37]
    have hres := hC0.px ⟨⟨_, gQ⟩, gF0⟩
    have hh : ∀ wl : e_W, DF w_37 wl (x + 6 + 3 * i.toNat) → wl x = some (SO x kn) ∧ wl (x + 1) = some (FO wh) ∧ PL wl (x + 2) (bcm (pr wh) (D i.toNat).dg a b c d) := fun wl gF => ⟨by rw [gF x (by omega) (by omega) (by omega)]; exact hres.1.1, by rw [gF _ (by omega) (by omega) (by omega)]; exact hres.1.2.1, gQ.fr (gF _ (by omega) (by omega) (by omega)) (gF _ (by omega) (by omega) (by omega)) (gF _ (by omega) (by omega) (by omega))⟩
    have hPR := gQ.2.2.2
    have lq : ∀ (N : Nat) (j : Int) (wl : e_W), (9 - j).toNat < N → (0 ≤ j ∧ j ≤ (D i.toNat).sc ∧ DL wl (x + 6 + 3 * i.toNat) (D i.toNat).fl (D i.toNat).dg (D i.toNat).sc (poS wh (D i.toNat) (bcm (pr wh) (D i.toNat).dg a b c d)).A (fun k => if k < j then (poS wh (D i.toNat) (bcm (pr wh) (D i.toNat).dg a b c d)).B k else (D i.toNat).B k) ∧ DF w_37 wl (x + 6 + 3 * i.toNat)) → e_V K P9 l E9 (7) (1) S9 M9 A9 B9 T9 C9 10 (fun r w' n' => ((0 ≤ i ∧ i < 6)) ∧ r = some (.int (eI ((poQ wh D i.toNat a b c d).1))) ∧ n' = n ∧ CW w' x wh (kn) ((poQ wh D i.toNat a b c d).2) ∧ FR w w' x) (pxd w (¬ (0 ≤ i ∧ i < 6)) False) 115 [(0, .ref x), (6, .ref (x + 6 + 3 * i.toNat)), (7, .int (eI j))] [] wl n ((0 + 1 + 0 + 0)) := by
      intro N
      induction N with
      | zero => intro j wl hN; exact absurd hN (Nat.not_lt_zero _)
      | succ N ih =>
        intro j wl hN ⟨k1, k2, gD, gF⟩
        obtain ⟨gX, gFO, gP⟩ := hh wl gF
        refine e_iload F dX3_pour_115 rfl ?_
        refine e_aload F dX3_pour_117 rfl ?_
        refine e_getN (ci := 0) (fi := 2) (q := (RX0, TX0, 5)) F gD.1 rfl (by decide) w_fn_RX3_134 (by rfl) dX3_pour_119 ?_
        refine e_icmp_ge F 168 dX3_pour_122 (by decide) (⟨by omega, by omega⟩) (⟨by omega, by omega⟩) (fun c_122 => ?_) (fun c_122 => ?_)
        ·
          obtain rfl : j = (D i.toNat).sc := by omega
          have zD : DS wl (x + 6 + 3 * i.toNat) (poS wh (D i.toNat) (bcm (pr wh) (D i.toNat).dg a b c d)) := gD.to (fun _ _ _ => rfl) (fun k k0 k1 => if_pos k1)
          have hr2 := hres.1.deal (by omega) (s := poS wh (D i.toNat) (bcm (pr wh) (D i.toNat).dg a b c d)) zD (poS_SW hwh hW1 _) gF
          refine e_aload F dX3_pour_168 rfl ?_
          refine e_callVN F u_X0_shareCount (by rfl) (c_X0_shareCount zD) zD.1 rfl rfl w_mn_RX3_149 dX3_pour_170 (by rfl) (Nat.le_of_ble_eq_true rfl) (by decide) (by omega) (fun _ _ _ h _ => False.elim h) (fun r_170 w_170 n_170 h_170 hn_170 => ?_)
          obtain ⟨rfl, ew_170, en_170⟩ := h_170
          rw [ew_170, en_170]
          refine e_iret F rfl (by omega) ?_ dX3_pour_173
          refine ⟨hi1, ?_⟩
          unfold poQ
          rw [if_neg c_12]
          exact ⟨rfl, rfl, hr2.1, hres.2.tr hr2.2⟩
        · refine e_aload F dX3_pour_125 rfl ?_
          refine e_iload F dX3_pour_127 rfl ?_
          refine e_aload_n F dX3_pour_129 rfl ?_
          refine e_get (ci := 3) (fi := 0) (q := (RX3, TX3, 5)) F (by first | assumption | exact e_up_s | (rw [e_up_n (by first | assumption | omega)]; first | assumption | exact e_up_s | (rw [e_up_n (by first | assumption | omega)]; first | assumption | exact e_up_s | (rw [e_up_n (by first | assumption | omega)]; first | assumption | exact e_up_s))) | exact hD.1 | exact hD1.1 | exact hD2.1 | exact gD.1 | exact gD1.1 | exact gD2.1 | exact gQ.1 | exact hQ.1 | exact gS.1 | exact hS.1 | exact zD.1) rfl (by decide) w_fl_RX3_10 (by rfl) dX3_pour_130 ?_
          refine e_aload F dX3_pour_133 rfl ?_
          refine e_iload F dX3_pour_135 rfl ?_
          refine e_callVN F u_X0_sealAt (by rfl) (c_X0_sealAt gD (h := j) ⟨by omega, by omega⟩) gD.1 rfl rfl w_mn_RX3_137 dX3_pour_137 (by rfl) (Nat.le_of_ble_eq_true rfl) (by decide) (by omega) (fun _ _ _ h _ => False.elim h) (fun r_137 w_137 n_137 h_137 hn_137 => ?_)
          obtain ⟨rfl, ew_137, en_137⟩ := h_137
          rw [ew_137, en_137, if_pos (show 0 ≤ j ∧ j < (D i.toNat).sc from ⟨by omega, by omega⟩), if_neg (show ¬ j < j by omega)]
          have hPj := hPR j (by omega) (by omega)
          have hBj := (hW1.2.1 j (by omega) (by omega)).1
          refine e_aload_n F dX3_pour_140 rfl ?_
          refine e_get (ci := 3) (fi := 0) (q := (RX3, TX3, 5)) F (by first | assumption | exact e_up_s | (rw [e_up_n (by first | assumption | omega)]; first | assumption | exact e_up_s | (rw [e_up_n (by first | assumption | omega)]; first | assumption | exact e_up_s | (rw [e_up_n (by first | assumption | omega)]; first | assumption | exact e_up_s))) | exact hD.1 | exact hD1.1 | exact hD2.1 | exact gD.1 | exact gD1.1 | exact gD2.1 | exact gQ.1 | exact hQ.1 | exact gS.1 | exact hS.1 | exact zD.1) rfl (by decide) w_fl_RX3_10 (by rfl) dX3_pour_141 ?_
          refine e_aload_n F dX3_pour_144 rfl ?_
          refine e_get (ci := 3) (fi := 1) (q := (RX3, TX3, 5)) F (by first | assumption | exact e_up_s | (rw [e_up_n (by first | assumption | omega)]; first | assumption | exact e_up_s | (rw [e_up_n (by first | assumption | omega)]; first | assumption | exact e_up_s | (rw [e_up_n (by first | assumption | omega)]; first | assumption | exact e_up_s))) | exact hD.1 | exact hD1.1 | exact hD2.1 | exact gD.1 | exact gD1.1 | exact gD2.1 | exact gQ.1 | exact hQ.1 | exact gS.1 | exact hS.1 | exact zD.1) rfl (by decide) w_fl_RX3_19 (by rfl) dX3_pour_145 ?_
          refine e_iload F dX3_pour_148 rfl ?_
          refine e_callVN F u_X2_at (by rfl) (c_X2_at gP (h := j) ⟨by omega, by omega⟩) gP.1 rfl rfl w_mn_RX3_140 dX3_pour_150 (by rfl) (Nat.le_of_ble_eq_true rfl) (by decide) (by omega) (fun _ _ _ h _ => False.elim h) (fun r_150 w_150 n_150 h_150 hn_150 => ?_)
          obtain ⟨rfl, ew_150, en_150⟩ := h_150
          rw [ew_150, en_150, if_pos (show 0 ≤ j ∧ j < 7 from ⟨by omega, by omega⟩)]
          refine e_callVN F u_X1_sealFor (by rfl) (c_X1_sealFor gFO hwh (v := (bcm (pr wh) (D i.toNat).dg a b c d) j) ⟨by omega, by omega⟩) (by first | assumption | exact e_up_s | (rw [e_up_n (by first | assumption | omega)]; first | assumption | exact e_up_s | (rw [e_up_n (by first | assumption | omega)]; first | assumption | exact e_up_s | (rw [e_up_n (by first | assumption | omega)]; first | assumption | exact e_up_s))) | exact hD.1 | exact hD1.1 | exact hD2.1 | exact gD.1 | exact gD1.1 | exact gD2.1 | exact gQ.1 | exact hQ.1 | exact gS.1 | exact hS.1 | exact zD.1) rfl rfl w_mn_RX3_73 dX3_pour_153 (by rfl) (Nat.le_of_ble_eq_true rfl) (by decide) (by omega) (fun _ _ _ h _ => False.elim h) (fun r_153 w_153 n_153 h_153 hn_153 => ?_)
          obtain ⟨rfl, ew_153, en_153⟩ := h_153
          rw [ew_153, en_153]
          have hsl := sl_rg (v := (bcm (pr wh) (D i.toNat).dg a b c d) j) hwh
          refine e_callVN F u_X1_sealProduct (by rfl) (c_X1_sealProduct gFO hwh hBj.1 hBj.2 hsl.1 hsl.2) (by first | assumption | exact e_up_s | (rw [e_up_n (by first | assumption | omega)]; first | assumption | exact e_up_s | (rw [e_up_n (by first | assumption | omega)]; first | assumption | exact e_up_s | (rw [e_up_n (by first | assumption | omega)]; first | assumption | exact e_up_s))) | exact hD.1 | exact hD1.1 | exact hD2.1 | exact gD.1 | exact gD1.1 | exact gD2.1 | exact gQ.1 | exact hQ.1 | exact gS.1 | exact hS.1 | exact zD.1) rfl rfl w_mn_RX3_143 dX3_pour_156 (by rfl) (Nat.le_of_ble_eq_true rfl) (by decide) (by omega) (fun _ _ _ h _ => False.elim h) (fun r_156 w_156 n_156 h_156 hn_156 => ?_)
          obtain ⟨rfl, ew_156, en_156⟩ := h_156
          rw [ew_156, en_156]
          refine e_callVN F u_X0_setSeal (by rfl) (c_X0_setSeal gD (h := j) (v := (D i.toNat).B j * sl wh ((bcm (pr wh) (D i.toNat).dg a b c d) j) % gr wh) (by omega) (by omega) (Int.emod_nonneg _ (by omega)) (Int.lt_of_lt_of_le (Int.emod_lt_of_pos _ (by omega)) hg9.2)) gD.1 rfl rfl w_mn_RX3_146 dX3_pour_159 (by rfl) (Nat.le_of_ble_eq_true rfl) (by decide) (by omega) (fun _ _ _ h _ => False.elim h) (fun r_159 w_159 n_159 h_159 hn_159 => ?_)
          
          refine e_iinc F dX3_pour_162 rfl (by decide) ?_
          refine e_goto F 115 dX3_pour_165 (by decide) ?_
          obtain ⟨rfl, en_159, zD, zF⟩ := h_159
          rw [en_159]
          refine e_go (ih (j + 1) w_159 (by omega) ⟨by omega, by omega, zD.to (fun _ _ _ => rfl) (fun k k0 k1 => ?_), fun q a1 a2 a3 => by rw [zF q a1 a2 a3, gF q a1 a2 a3]⟩) (And.intro rfl (And.intro rfl (And.intro rfl (trivial))))
          unfold e_fu
          try dsimp only
          by_cases e9 : k = j
          · rw [if_pos e9, if_pos (show k < j + 1 by omega), e9]; rfl
          · rw [if_neg e9]
            by_cases e8 : k < j
            · rw [if_pos e8, if_pos (show k < j + 1 by omega)]
            · rw [if_neg e8, if_neg (show ¬ k < j + 1 by omega)]
    have lp : ∀ (N : Nat) (j : Int) (wl : e_W), (9 - j).toNat < N → (1 ≤ j ∧ j ≤ ho wh + 1 ∧ DL wl (x + 6 + 3 * i.toNat) (D i.toNat).fl (D i.toNat).dg (D i.toNat).sc (fun h => if h < j then (poS wh (D i.toNat) (bcm (pr wh) (D i.toNat).dg a b c d)).A h else (D i.toNat).A h) (D i.toNat).B ∧ DF w_37 wl (x + 6 + 3 * i.toNat)) → e_V K P9 l E9 (7) (1) S9 M9 A9 B9 T9 C9 10 (fun r w' n' => ((0 ≤ i ∧ i < 6)) ∧ r = some (.int (eI ((poQ wh D i.toNat a b c d).1))) ∧ n' = n ∧ CW w' x wh (kn) ((poQ wh D i.toNat a b c d).2) ∧ FR w w' x) (pxd w (¬ (0 ≤ i ∧ i < 6)) False) 43 [(0, .ref x), (6, .ref (x + 6 + 3 * i.toNat)), (7, .int (eI j))] [] wl n ((0 + 1 + 0 + 0)) := by
      intro N
      induction N with
      | zero => intro j wl hN; exact absurd hN (Nat.not_lt_zero _)
      | succ N ih =>
        intro j wl hN ⟨k1, k2, gD, gF⟩
        obtain ⟨gX, gFO, gP⟩ := hh wl gF
        refine e_iload F dX3_pour_43 rfl ?_
        refine e_aload_n F dX3_pour_45 rfl ?_
        refine e_get (ci := 3) (fi := 0) (q := (RX3, TX3, 5)) F (by first | assumption | exact e_up_s | (rw [e_up_n (by first | assumption | omega)]; first | assumption | exact e_up_s | (rw [e_up_n (by first | assumption | omega)]; first | assumption | exact e_up_s | (rw [e_up_n (by first | assumption | omega)]; first | assumption | exact e_up_s))) | exact hD.1 | exact hD1.1 | exact hD2.1 | exact gD.1 | exact gD1.1 | exact gD2.1 | exact gQ.1 | exact hQ.1 | exact gS.1 | exact hS.1 | exact zD.1) rfl (by decide) w_fl_RX3_10 (by rfl) dX3_pour_46 ?_
        refine e_getN (ci := 1) (fi := 4) (q := (RX1, TX1, 5)) F (by first | assumption | exact e_up_s | (rw [e_up_n (by first | assumption | omega)]; first | assumption | exact e_up_s | (rw [e_up_n (by first | assumption | omega)]; first | assumption | exact e_up_s | (rw [e_up_n (by first | assumption | omega)]; first | assumption | exact e_up_s))) | exact hD.1 | exact hD1.1 | exact hD2.1 | exact gD.1 | exact gD1.1 | exact gD2.1 | exact gQ.1 | exact hQ.1 | exact gS.1 | exact hS.1 | exact zD.1) rfl (by decide) w_fn_RX3_116 (by rfl) dX3_pour_49 ?_
        refine e_icmp_gt F 112 dX3_pour_52 (by decide) (⟨by omega, by omega⟩) (⟨by omega, by omega⟩) (fun c_52 => ?_) (fun c_52 => ?_)
        · refine e_iconst F dX3_pour_112 ?_
          refine e_istore F dX3_pour_113 (by decide) ?_
          obtain rfl : j = ho wh + 1 := by omega
          refine e_go (lq 10 0 wl (by omega) ⟨by omega, by omega, gD.to (fun k k0 k1 => ?_) (fun k k0 k1 => by rw [if_neg (show ¬ k < 0 by omega)]), gF⟩) (And.intro rfl (And.intro rfl (And.intro rfl (trivial))))
          try dsimp only
          by_cases e8 : k < ho wh + 1
          · rw [if_pos e8]
          · rw [if_neg e8]
            show _ = (if (D i.toNat).A k = -1 then -1 else _)
            have hk9 := hW1.1 k k0 k1
            rw [if_pos (by omega)]; omega
        · refine e_aload F dX3_pour_55 rfl ?_
          refine e_iload F dX3_pour_57 rfl ?_
          refine e_callVN F u_X0_hasShare (by rfl) (c_X0_hasShare gD (h := j) (by omega) (by omega)) gD.1 rfl rfl w_mn_RX3_119 dX3_pour_59 (by rfl) (Nat.le_of_ble_eq_true rfl) (by decide) (by omega) (fun _ _ _ h _ => False.elim h) (fun r_59 w_59 n_59 h_59 hn_59 => ?_)
          obtain ⟨rfl, ew_59, en_59⟩ := h_59
          rw [ew_59, en_59, if_neg (show ¬ j < j by omega)]
          refine e_if_eq F 106 dX3_pour_62 (by decide) (b01_r _) (fun c_62 => ?_) (fun c_62 => ?_)
          ·
            rw [b01_0] at c_62
            refine e_iinc F dX3_pour_106 rfl (by decide) ?_
            refine e_goto F 43 dX3_pour_109 (by decide) ?_
            first
            | (obtain ⟨rfl, en_103, zD, zF⟩ := h_103
               rw [en_103]
               refine e_go (ih (j + 1) w_103 (by omega) ⟨by omega, by omega, zD.to (fun k k0 k1 => ?_) (fun _ _ _ => rfl), fun q a1 a2 a3 => by rw [zF q a1 a2 a3, gF q a1 a2 a3]⟩) (And.intro rfl (And.intro rfl (And.intro rfl (trivial))))
               unfold e_fu
               try dsimp only
               by_cases e9 : k = j
               · rw [if_pos e9, if_pos (show k < j + 1 by omega), e9]
                 show _ = (if (D i.toNat).A j = -1 then -1 else _)
                 rw [if_neg c_62]
               · rw [if_neg e9]
                 by_cases e8 : k < j
                 · rw [if_pos e8, if_pos (show k < j + 1 by omega)]
                 · rw [if_neg e8, if_neg (show ¬ k < j + 1 by omega)])
            | (refine e_go (ih (j + 1) wl (by omega) ⟨by omega, by omega, gD.to (fun k k0 k1 => ?_) (fun _ _ _ => rfl), gF⟩) (And.intro rfl (And.intro rfl (And.intro rfl (trivial))))
               try dsimp only
               by_cases e9 : k = j
               · rw [if_neg (show ¬ k < j by omega), if_pos (show k < j + 1 by omega), e9]
                 show _ = (if (D i.toNat).A j = -1 then -1 else _)
                 rw [if_pos (by omega)]; omega
               · by_cases e8 : k < j
                 · rw [if_pos e8, if_pos (show k < j + 1 by omega)]
                 · rw [if_neg e8, if_neg (show ¬ k < j + 1 by omega)])
          ·
            rw [b01_0, Classical.not_not] at c_62
            have hA1j := hA1 j (by omega) (by omega)
            refine e_aload F dX3_pour_65 rfl ?_
            refine e_iload F dX3_pour_67 rfl ?_
            refine e_callVN F u_X0_shareAt (by rfl) (c_X0_shareAt gD (h := j) (by omega) (by omega)) gD.1 rfl rfl w_mn_RX3_123 dX3_pour_69 (by rfl) (Nat.le_of_ble_eq_true rfl) (by decide) (by omega) (fun _ _ _ h _ => False.elim h) (fun r_69 w_69 n_69 h_69 hn_69 => ?_)
            obtain ⟨rfl, ew_69, en_69⟩ := h_69
            rw [ew_69, en_69, if_neg (show ¬ j < j by omega)]
            refine e_i2l F dX3_pour_72 (⟨by omega, by omega⟩) ?_
            refine e_aload_n F dX3_pour_73 rfl ?_
            refine e_get (ci := 3) (fi := 1) (q := (RX3, TX3, 5)) F (by first | assumption | exact e_up_s | (rw [e_up_n (by first | assumption | omega)]; first | assumption | exact e_up_s | (rw [e_up_n (by first | assumption | omega)]; first | assumption | exact e_up_s | (rw [e_up_n (by first | assumption | omega)]; first | assumption | exact e_up_s))) | exact hD.1 | exact hD1.1 | exact hD2.1 | exact gD.1 | exact gD1.1 | exact gD2.1 | exact gQ.1 | exact hQ.1 | exact gS.1 | exact hS.1 | exact zD.1) rfl (by decide) w_fl_RX3_19 (by rfl) dX3_pour_74 ?_
            refine e_aload_n F dX3_pour_77 rfl ?_
            refine e_get (ci := 3) (fi := 0) (q := (RX3, TX3, 5)) F (by first | assumption | exact e_up_s | (rw [e_up_n (by first | assumption | omega)]; first | assumption | exact e_up_s | (rw [e_up_n (by first | assumption | omega)]; first | assumption | exact e_up_s | (rw [e_up_n (by first | assumption | omega)]; first | assumption | exact e_up_s))) | exact hD.1 | exact hD1.1 | exact hD2.1 | exact gD.1 | exact gD1.1 | exact gD2.1 | exact gQ.1 | exact hQ.1 | exact gS.1 | exact hS.1 | exact zD.1) rfl (by decide) w_fl_RX3_10 (by rfl) dX3_pour_78 ?_
            refine e_iload F dX3_pour_81 rfl ?_
            refine e_callVN F u_X2_valueAt (by rfl) (c_X2_valueAt gP gFO hwh (x := j) ⟨by omega, by omega⟩) gP.1 rfl rfl w_mn_RX3_126 dX3_pour_83 (by rfl) (Nat.le_of_ble_eq_true rfl) (by decide) (by omega) (fun _ _ _ h _ => False.elim h) (fun r_83 w_83 n_83 h_83 hn_83 => ?_)
            obtain ⟨rfl, ew_83, en_83⟩ := h_83
            rw [ew_83, en_83]
            have hz9 := hz_rg (p := pr wh) (x := j) (P := (bcm (pr wh) (D i.toNat).dg a b c d)) (by omega) 7
            have hm9 := emod_rg ((D i.toNat).A j + hz (pr wh) j (bcm (pr wh) (D i.toNat).dg a b c d) 7) hwh
            refine e_i2l F dX3_pour_86 (⟨by omega, by omega⟩) ?_
            refine e_ladd F dX3_pour_87 ?_
            refine e_lstore F dX3_pour_88 (by decide) ?_
            refine e_aload F dX3_pour_90 rfl ?_
            refine e_iload F dX3_pour_92 rfl ?_
            refine e_aload_n F dX3_pour_94 rfl ?_
            refine e_get (ci := 3) (fi := 0) (q := (RX3, TX3, 5)) F (by first | assumption | exact e_up_s | (rw [e_up_n (by first | assumption | omega)]; first | assumption | exact e_up_s | (rw [e_up_n (by first | assumption | omega)]; first | assumption | exact e_up_s | (rw [e_up_n (by first | assumption | omega)]; first | assumption | exact e_up_s))) | exact hD.1 | exact hD1.1 | exact hD2.1 | exact gD.1 | exact gD1.1 | exact gD2.1 | exact gQ.1 | exact hQ.1 | exact gS.1 | exact hS.1 | exact zD.1) rfl (by decide) w_fl_RX3_10 (by rfl) dX3_pour_95 ?_
            refine e_lload F dX3_pour_98 rfl ?_
            refine e_callVN F u_X1_modPrime (by rfl) (c_X1_modPrime gFO hwh (by constructor <;> omega)) (by first | assumption | exact e_up_s | (rw [e_up_n (by first | assumption | omega)]; first | assumption | exact e_up_s | (rw [e_up_n (by first | assumption | omega)]; first | assumption | exact e_up_s | (rw [e_up_n (by first | assumption | omega)]; first | assumption | exact e_up_s))) | exact hD.1 | exact hD1.1 | exact hD2.1 | exact gD.1 | exact gD1.1 | exact gD2.1 | exact gQ.1 | exact hQ.1 | exact gS.1 | exact hS.1 | exact zD.1) rfl rfl w_mn_RX3_59 dX3_pour_100 (by rfl) (Nat.le_of_ble_eq_true rfl) (by decide) (by omega) (fun _ _ _ h _ => False.elim h) (fun r_100 w_100 n_100 h_100 hn_100 => ?_)
            obtain ⟨rfl, ew_100, en_100⟩ := h_100
            rw [ew_100, en_100]
            refine e_callVN F u_X0_setShare (by rfl) (c_X0_setShare gD (h := j) (v := ((D i.toNat).A j + hz (pr wh) j (bcm (pr wh) (D i.toNat).dg a b c d) 7) % pr wh) (by omega) (by omega) (by omega) (by omega)) gD.1 rfl rfl w_mn_RX3_130 dX3_pour_103 (by rfl) (Nat.le_of_ble_eq_true rfl) (by decide) (by omega) (fun _ _ _ h _ => False.elim h) (fun r_103 w_103 n_103 h_103 hn_103 => ?_)
            
            refine e_iinc F dX3_pour_106 rfl (by decide) ?_
            refine e_goto F 43 dX3_pour_109 (by decide) ?_
            first
            | (obtain ⟨rfl, en_103, zD, zF⟩ := h_103
               rw [en_103]
               refine e_go (ih (j + 1) w_103 (by omega) ⟨by omega, by omega, zD.to (fun k k0 k1 => ?_) (fun _ _ _ => rfl), fun q a1 a2 a3 => by rw [zF q a1 a2 a3, gF q a1 a2 a3]⟩) (And.intro rfl (And.intro rfl (And.intro rfl (trivial))))
               unfold e_fu
               try dsimp only
               by_cases e9 : k = j
               · rw [if_pos e9, if_pos (show k < j + 1 by omega), e9]
                 show _ = (if (D i.toNat).A j = -1 then -1 else _)
                 rw [if_neg c_62]
               · rw [if_neg e9]
                 by_cases e8 : k < j
                 · rw [if_pos e8, if_pos (show k < j + 1 by omega)]
                 · rw [if_neg e8, if_neg (show ¬ k < j + 1 by omega)])
            | (refine e_go (ih (j + 1) wl (by omega) ⟨by omega, by omega, gD.to (fun k k0 k1 => ?_) (fun _ _ _ => rfl), gF⟩) (And.intro rfl (And.intro rfl (And.intro rfl (trivial))))
               try dsimp only
               by_cases e9 : k = j
               · rw [if_neg (show ¬ k < j by omega), if_pos (show k < j + 1 by omega), e9]
                 show _ = (if (D i.toNat).A j = -1 then -1 else _)
                 rw [if_pos (by omega)]; omega
               · by_cases e8 : k < j
                 · rw [if_pos e8, if_pos (show k < j + 1 by omega)]
                 · rw [if_neg e8, if_neg (show ¬ k < j + 1 by omega)])
    refine e_iconst F dX3_pour_40 ?_
    refine e_istore F dX3_pour_41 (by decide) ?_
    refine e_go (lp 9 1 w_37 (by omega) ⟨by omega, by omega, (hres.1.2.2.2.2.2.1 i.toNat (by omega)).1.to (fun k k0 k1 => by rw [if_neg (show ¬ k < 1 by omega)]) (fun _ _ _ => rfl), fun q _ _ _ => rfl⟩) (And.intro rfl (And.intro rfl (And.intro rfl (trivial))))
  ·
    rw [b01_0, Classical.not_not] at c_12
    refine e_bipush F dX3_pour_15 (by decide) ?_
    refine e_iret F rfl (by omega) ?_ dX3_pour_17
    refine ⟨hi1, ?_⟩
    unfold poQ
    rw [if_pos c_12]
    exact ⟨rfl, rfl, hC0, FR.rf⟩
