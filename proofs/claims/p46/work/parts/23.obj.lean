/-! Secretshares: the whole object -/
/-- a deal: filled, degree, number of seals, shares, seals -/
abbrev SD : Type := Int × Int × Int × (Int → Int) × (Int → Int)
abbrev SD.fl (s : SD) : Int := s.1
abbrev SD.dg (s : SD) : Int := s.2.1
abbrev SD.sc (s : SD) : Int := s.2.2.1
abbrev SD.A (s : SD) : Int → Int := s.2.2.2.1
abbrev SD.B (s : SD) : Int → Int := s.2.2.2.2
abbrev DS (w : e_W) (d : Nat) (s : SD) : Prop := DL w d s.fl s.dg s.sc s.A s.B
/-- a unit mod the great prime -/
def UN (wh : Nat) (b : Int) : Prop := ∃ u, b * u % gr wh = 1
def SW (wh : Nat) (s : SD) : Prop := (∀ j, 1 ≤ j → j < 8 → s.A j = -1 ∨ (0 ≤ s.A j ∧ s.A j < pr wh ∧ j ≤ ho wh)) ∧ (∀ j, 0 ≤ j → j < s.sc → (0 ≤ s.B j ∧ s.B j < gr wh) ∧ UN wh (s.B j)) ∧ (s.sc = 0 ∨ s.sc = s.dg + 1) ∧ (s.fl = 0 → s.dg = 0 ∧ s.sc = 0 ∧ ∀ j, 1 ≤ j → j < 8 → s.A j = -1)
def CW (w : e_W) (x wh : Nat) (kn : Int) (D : Nat → SD) : Prop := w x = some (SO x kn) ∧ w (x + 1) = some (FO wh) ∧ wh < 7 ∧ (∃ P, PL w (x + 2) P) ∧ DA w x ∧ (∀ j, j < 6 → DS w (x + 6 + 3 * j) (D j) ∧ SW wh (D j)) ∧ ∃ s, DS w (x + 24) s
def FR (w w' : e_W) (x : Nat) : Prop := ∀ q, q < x ∨ x + 27 ≤ q → w' q = w q
def upD (D : Nat → SD) (i : Nat) (s : SD) : Nat → SD := fun j => if j = i then s else D j
/-- changed: the poly's rows, deal i, the spare one -/
def FC (w w' : e_W) (x i : Nat) : Prop := ∀ q, q ≠ x + 3 → q ≠ x + 4 → (q < x + 6 + 3 * i ∨ x + 9 + 3 * i ≤ q) → (q < x + 24 ∨ x + 27 ≤ q) → w' q = w q
theorem CW.lay {w w' : e_W} {x wh i : Nat} {kn : Int} {D : Nat → SD} {s : SD} (h : CW w x wh kn D) (hi : i < 6) (hP : ∃ P, PL w' (x + 2) P) (hd : DS w' (x + 6 + 3 * i) s) (hs : SW wh s) (hS : ∃ s2, DS w' (x + 24) s2) (hf : FC w w' x i) : CW w' x wh kn (upD D i s) ∧ FR w w' x := by
  obtain ⟨hX, hF, hwh, _, ⟨g, hg, hgj⟩, hDs, _⟩ := h
  refine ⟨⟨by rw [hf x (by omega) (by omega) (by omega) (by omega)]; exact hX, by rw [hf _ (by omega) (by omega) (by omega) (by omega)]; exact hF, hwh, hP, ⟨g, by rw [hf _ (by omega) (by omega) (by omega) (by omega)]; exact hg, hgj⟩, fun j hj => ?_, hS⟩, fun q hq => hf q (by omega) (by omega) (by omega) (by omega)⟩
  unfold upD
  by_cases e : j = i
  · rw [if_pos e, e]; exact ⟨hd, hs⟩
  · rw [if_neg e]
    exact ⟨(hDs j hj).1.fr (hf _ (by omega) (by omega) (by omega) (by omega)) (hf _ (by omega) (by omega) (by omega) (by omega)) (hf _ (by omega) (by omega) (by omega) (by omega)), (hDs j hj).2⟩
theorem CW.px {w w' : e_W} {x wh : Nat} {kn : Int} {D : Nat → SD} (h : CW w x wh kn D) (hp : PX w w' x) : CW w' x wh kn D ∧ FR w w' x := by
  obtain ⟨hX, hF, hwh, _, ⟨g, hg, hgj⟩, hDs, s, hS⟩ := h
  obtain ⟨hP, hf⟩ := hp
  exact ⟨⟨by rw [hf x (by omega) (by omega)]; exact hX, by rw [hf _ (by omega) (by omega)]; exact hF, hwh, hP, ⟨g, by rw [hf _ (by omega) (by omega)]; exact hg, hgj⟩, fun j hj => ⟨(hDs j hj).1.fr (hf _ (by omega) (by omega)) (hf _ (by omega) (by omega)) (hf _ (by omega) (by omega)), (hDs j hj).2⟩, s, hS.fr (hf _ (by omega) (by omega)) (hf _ (by omega) (by omega)) (hf _ (by omega) (by omega))⟩, fun q hq => hf q (by omega) (by omega)⟩
theorem FR.rf {w : e_W} {x : Nat} : FR w w x := fun _ _ => rfl
theorem CW.spare {w wl : e_W} {x wh : Nat} {kn : Int} {D : Nat → SD} (h : CW w x wh kn D) (hf : DF w wl (x + 24)) : wl x = some (SO x kn) ∧ wl (x + 1) = some (FO wh) ∧ (∃ P, PL wl (x + 2) P) ∧ DA wl x ∧ ∀ j, j < 6 → DS wl (x + 6 + 3 * j) (D j) := by
  obtain ⟨hX, hF, hwh, ⟨P, hP⟩, ⟨g, hg, hgj⟩, hDs, _⟩ := h
  have hf2 : ∀ q, q < x + 24 → wl q = w q := fun q hq => hf q (by omega) (by omega) (by omega)
  exact ⟨by rw [hf2 x (by omega)]; exact hX, by rw [hf2 _ (by omega)]; exact hF, ⟨P, hP.fr (hf2 _ (by omega)) (hf2 _ (by omega)) (hf2 _ (by omega))⟩, ⟨g, by rw [hf2 _ (by omega)]; exact hg, hgj⟩, fun j hj => (hDs j hj).1.fr (hf2 _ (by omega)) (hf2 _ (by omega)) (hf2 _ (by omega))⟩
/-! units -/
theorem un_ne {wh : Nat} (hwh : wh < 7) {b : Int} (h : UN wh b) (h0 : 0 ≤ b) : 1 ≤ b := by
  obtain ⟨u, hu⟩ := h
  have hg := gr_rg wh hwh
  apply Classical.byContradiction
  intro q
  have e : b = 0 := by omega
  rw [e, Int.zero_mul, Int.zero_emod] at hu
  exact absurd hu (by decide)
theorem un_mul {wh : Nat} {a b : Int} (h1 : UN wh a) (h2 : UN wh b) : UN wh (a * b % gr wh) := by
  obtain ⟨u, hu⟩ := h1
  obtain ⟨v, hv⟩ := h2
  refine ⟨u * v, ?_⟩
  rw [emod_mul_l, show a * b * (u * v) = (a * u) * (b * v) by rw [Int.mul_assoc, Int.mul_assoc, Int.mul_left_comm b u v], ← emod_mul_l, hu, Int.one_mul, hv]
theorem un_one {wh : Nat} (hwh : wh < 7) : UN wh 1 := ⟨1, by have := gr_rg wh hwh; rw [Int.one_mul]; exact Int.emod_eq_of_lt (by omega) (by omega)⟩
theorem un_pow {wh : Nat} (hwh : wh < 7) {a : Int} (h : UN wh a) (k : Nat) : UN wh (e_pw a k (gr wh)) := by
  have hg := gr_rg wh hwh
  induction k with
  | zero =>
    refine ⟨1, ?_⟩
    unfold e_pw
    rw [Int.pow_zero, Int.mul_one, Int.emod_emod_of_dvd _ (Int.dvd_refl _)]
    exact Int.emod_eq_of_lt (by omega) (by omega)
  | succ k ih =>
    have := un_mul ih h
    unfold e_pw at this ⊢
    rw [emod_mul_l] at this
    rw [Int.pow_succ]
    exact this
theorem un_bs : ∀ wh, wh < 7 → UN wh (bs wh) := wh_cases ⟨4, by decide⟩ ⟨25, by decide⟩ ⟨12, by decide⟩ ⟨16, by decide⟩ ⟨347, by decide⟩ ⟨183504, by decide⟩ ⟨14684255, by decide⟩
theorem un_sl {wh : Nat} (hwh : wh < 7) (v : Int) : UN wh (sl wh v) := un_pow hwh (un_bs wh hwh) _
theorem un_ivq {wh : Nat} (hwh : wh < 7) {v : Int} (h : UN wh v) : UN wh (ivq wh v) := un_pow hwh h _
theorem un_auS {wh : Nat} (hwh : wh < 7) {b s1 s2 : Int} {B1 B2 : Int → Int} {k : Int} (h1 : k < s1 → UN wh (B1 k)) (h2 : k < s2 → UN wh (B2 k)) : UN wh (auS wh b s1 B1 s2 B2 k) := by
  unfold auS
  have a1 : UN wh (if k < s1 then B1 k else 1) := by
    split
    · exact h1 (by assumption)
    · exact un_one hwh
  have a2 : UN wh (if k < s2 then B2 k else 1) := by
    split
    · exact h2 (by assumption)
    · exact un_one hwh
  apply un_mul a1
  split
  · exact a2
  · exact un_ivq hwh a2
def auR (wh : Nat) (b : Int) (s1 s2 : SD) : SD := ⟨1, if s1.dg < s2.dg then s2.dg else s1.dg, if 0 < s1.sc ∧ 0 < s2.sc then (if s1.dg < s2.dg then s2.dg else s1.dg) + 1 else 0, auA wh b s1.A s2.A, auS wh b s1.sc s1.B s2.sc s2.B⟩
def auQ (wh : Nat) (b : Int) (D : Nat → SD) (i1 i2 i3 : Nat) : Int × (Nat → SD) := if (D i1).fl = 0 ∨ (D i2).fl = 0 then (-9, D) else (bc (st7 (auA wh b (D i1).A (D i2).A)), upD D i3 (auR wh b (D i1) (D i2)))
theorem auA_rg {wh : Nat} (hwh : wh < 7) (b : Int) (A1 A2 : Int → Int) (j : Int) : auA wh b A1 A2 j = -1 ∨ (0 ≤ auA wh b A1 A2 j ∧ auA wh b A1 A2 j < pr wh ∧ j ≤ ho wh) := by
  unfold auA
  split
  · rename_i q
    have := emod_rg (A1 j + (if b = 0 then A2 j else -A2 j)) hwh
    exact Or.inr ⟨this.1, this.2, q.1.2⟩
  · exact Or.inl rfl
theorem auR_SW {wh : Nat} (hwh : wh < 7) {b : Int} {s1 s2 : SD} (h1 : SW wh s1) (h2 : SW wh s2) : SW wh (auR wh b s1 s2) := by
  refine ⟨fun j _ _ => auA_rg hwh b _ _ j, fun j j0 _ => ⟨auS_rg hwh j, un_auS hwh (fun q => (h1.2.1 j j0 q).2) (fun q => (h2.2.1 j j0 q).2)⟩, ?_, fun q => absurd q (show ¬ ((1 : Int) = 0) by decide)⟩
  show (if 0 < s1.sc ∧ 0 < s2.sc then (if s1.dg < s2.dg then s2.dg else s1.dg) + 1 else 0) = 0 ∨ (if 0 < s1.sc ∧ 0 < s2.sc then (if s1.dg < s2.dg then s2.dg else s1.dg) + 1 else 0) = (if s1.dg < s2.dg then s2.dg else s1.dg) + 1
  split
  · exact Or.inr rfl
  · exact Or.inl rfl
set_option maxHeartbeats 4000000 in
set_option maxRecDepth 100000 in
theorem c_X3_addUp {K : e_K} {l : Launch} {w : e_W} {n : Nat} {x wh : Nat} {kn : Int} {D : Nat → SD} (hC : CW w x wh kn D) {i1 i2 i3 : Nat} {b : Int} (h1 : i1 < 6) (h2 : i2 < 6) (h3 : i3 < 6) (hb : b = 0 ∨ b = 1) : e_Met K l yX3_addUp (Cond.code yX3_addUp cX3_addUp 8 (Option.some .int) :: e_TB) (4) (0) [.ref x, .ref (x + 6 + 3 * i1), .ref (x + 6 + 3 * i2), .ref (x + 6 + 3 * i3), .int (eI b)] w n (fun r w' n' => r = some (.int (eI (auQ wh b D i1 i2 i3).1)) ∧ n' = n ∧ CW w' x wh kn (auQ wh b D i1 i2 i3).2 ∧ FR w w' x) (e_px0) := by
  refine e_ofV rfl (Nat.le_of_ble_eq_true rfl) ?_
  intro P9 E9 S9 M9 A9 B9 T9 C9 F hnm
  have hC0 := hC
  obtain ⟨hX, hF, hwh, ⟨P0, hQ⟩, hDA, hDs, s0, hS⟩ := hC
  have hp := pr_rg wh hwh
  have ho9 := ho_rg wh hwh
  have hg9 := gr_rg wh hwh
  obtain ⟨hD1, hW1⟩ := hDs i1 h1
  obtain ⟨hD2, hW2⟩ := hDs i2 h2
  obtain ⟨hD3, hW3⟩ := hDs i3 h3
  have hdg1 := hD1.2.2.2.2.1
  have hdg2 := hD2.2.2.2.2.1
  have hA1 := hD1.2.2.2.2.2.2.1
  have hA2 := hD2.2.2.2.2.2.2.1
  have l147 : ¬ ((D i1).fl = 0 ∨ (D i2).fl = 0) → ∀ wl : e_W, DS wl (x + 24) (auR wh b (D i1) (D i2)) → DF w wl (x + 24) → e_V K P9 l E9 (4) (0) S9 M9 A9 B9 T9 C9 8 (fun r w' n' => r = some (.int (eI (auQ wh b D i1 i2 i3).1)) ∧ n' = n ∧ CW w' x wh kn (auQ wh b D i1 i2 i3).2 ∧ FR w w' x) (e_px0) 147 [(0, .ref x), (1, .ref (x + 6 + 3 * i1)), (2, .ref (x + 6 + 3 * i2)), (3, .ref (x + 6 + 3 * i3)), (4, .int (eI b))] [] wl n (0) := by
    intro hne wl gS gF
    obtain ⟨gX, gFO, ⟨P2, gQ⟩, gDA, gDs⟩ := hC0.spare gF
    refine e_aload_n F dX3_addUp_147 rfl ?_
    refine e_aload_n F dX3_addUp_148 rfl ?_
    refine e_callVV F u_X3_laySpare (by rfl) (c_X3_laySpare gX (gDs i3 h3) gS (by omega)) gX rfl rfl w_ml_RX3_160 dX3_addUp_149 (by rfl) (Nat.le_of_ble_eq_true rfl) (by decide) (by omega) (fun _ _ _ h _ => False.elim h) (fun r_149 w_149 n_149 h_149 hn_149 => ?_)
    obtain ⟨rfl, en149, zD, zF⟩ := h_149
    rw [en149]
    refine e_iret F rfl (by omega) ?_ dX3_addUp_152
    have hres := CW.lay hC0 h3 ⟨P2, gQ.fr (zF _ (by omega) (by omega) (by omega)) (zF _ (by omega) (by omega) (by omega)) (zF _ (by omega) (by omega) (by omega))⟩ (s := auR wh b (D i1) (D i2)) zD (auR_SW hwh hW1 hW2) ⟨auR wh b (D i1) (D i2), gS.fr (zF _ (by omega) (by omega) (by omega)) (zF _ (by omega) (by omega) (by omega)) (zF _ (by omega) (by omega) (by omega))⟩ (fun q a1 a2 a3 a4 => by rw [zF q (by omega) (by omega) (by omega), gF q (by omega) (by omega) (by omega)])
    unfold auQ
    rw [if_neg hne]
    exact ⟨rfl, rfl, hres.1, hres.2⟩
  have lp : ¬ ((D i1).fl = 0 ∨ (D i2).fl = 0) → True := fun _ => trivial
  have lp2 : ¬ ((D i1).fl = 0 ∨ (D i2).fl = 0) → ∀ (N : Nat) (i : Int) (wl : e_W), (9 - i).toNat < N → (1 ≤ i ∧ i ≤ ho wh + 1 ∧ DL wl (x + 24) 1 (if (D i1).dg < (D i2).dg then (D i2).dg else (D i1).dg) 0 (fun h => if h < i then auA wh b (D i1).A (D i2).A h else -1) s0.B ∧ DF w wl (x + 24)) → e_V K P9 l E9 (4) (0) S9 M9 A9 B9 T9 C9 8 (fun r w' n' => r = some (.int (eI (auQ wh b D i1 i2 i3).1)) ∧ n' = n ∧ CW w' x wh kn (auQ wh b D i1 i2 i3).2 ∧ FR w w' x) (e_px0) 38 [(0, .ref x), (1, .ref (x + 6 + 3 * i1)), (2, .ref (x + 6 + 3 * i2)), (3, .ref (x + 6 + 3 * i3)), (4, .int (eI b)), (5, .int (eI i))] [] wl n (0) := by
    intro hne N
    induction N with
    | zero => intro i wl hN; exact absurd hN (Nat.not_lt_zero _)
    | succ N ih =>
      intro i wl hN ⟨k1, k2, gS, gF⟩
      obtain ⟨gX, gFO, ⟨P2, gQ⟩, gDA, gDs⟩ := hC0.spare gF
      have gD1 := gDs i1 h1
      have gD2 := gDs i2 h2
      have l91 : i ≤ ho wh → (D i1).A i ≠ -1 → (D i2).A i ≠ -1 → e_V K P9 l E9 (4) (0) S9 M9 A9 B9 T9 C9 8 (fun r w' n' => r = some (.int (eI (auQ wh b D i1 i2 i3).1)) ∧ n' = n ∧ CW w' x wh kn (auQ wh b D i1 i2 i3).2 ∧ FR w w' x) (e_px0) 91 [(0, .ref x), (1, .ref (x + 6 + 3 * i1)), (2, .ref (x + 6 + 3 * i2)), (3, .ref (x + 6 + 3 * i3)), (4, .int (eI b)), (5, .int (eI i))] [.long (eJ (if b = 0 then (D i2).A i else -(D i2).A i))] wl n (0) := by
        intro hi c_56 c_65
        have hA1i := hA1 i (by omega) (by omega)
        have hA2i := hA2 i (by omega) (by omega)
        have hadd : -1000003 ≤ (if b = 0 then (D i2).A i else -(D i2).A i) ∧ (if b = 0 then (D i2).A i else -(D i2).A i) ≤ 1000003 := by split <;> omega
        have hm9 := emod_rg ((D i1).A i + (if b = 0 then (D i2).A i else -(D i2).A i)) hwh
        refine e_lstore F dX3_addUp_91 (by decide) ?_
        refine e_aload_n F dX3_addUp_93 rfl ?_
        refine e_get (ci := 3) (fi := 3) (q := (RX3, TX3, 5)) F (by first | assumption | exact e_up_s | (rw [e_up_n (by first | assumption | omega)]; first | assumption | exact e_up_s | (rw [e_up_n (by first | assumption | omega)]; first | assumption | exact e_up_s | (rw [e_up_n (by first | assumption | omega)]; first | assumption | exact e_up_s))) | exact hD.1 | exact hD1.1 | exact hD2.1 | exact gD.1 | exact gD1.1 | exact gD2.1 | exact gQ.1 | exact hQ.1 | exact gS.1 | exact hS.1 | exact zD.1) rfl (by decide) w_fl_RX3_30 (by rfl) dX3_addUp_94 ?_
        refine e_iload F dX3_addUp_97 rfl ?_
        refine e_aload_n F dX3_addUp_99 rfl ?_
        refine e_get (ci := 3) (fi := 0) (q := (RX3, TX3, 5)) F (by first | assumption | exact e_up_s | (rw [e_up_n (by first | assumption | omega)]; first | assumption | exact e_up_s | (rw [e_up_n (by first | assumption | omega)]; first | assumption | exact e_up_s | (rw [e_up_n (by first | assumption | omega)]; first | assumption | exact e_up_s))) | exact hD.1 | exact hD1.1 | exact hD2.1 | exact gD.1 | exact gD1.1 | exact gD2.1 | exact gQ.1 | exact hQ.1 | exact gS.1 | exact hS.1 | exact zD.1) rfl (by decide) w_fl_RX3_10 (by rfl) dX3_addUp_100 ?_
        refine e_aload_n F dX3_addUp_103 rfl ?_
        refine e_iload F dX3_addUp_104 rfl ?_
        refine e_callVN F u_X0_shareAt (by rfl) (c_X0_shareAt gD1 (h := i) (by omega) (by omega)) gD1.1 rfl rfl w_mn_RX3_123 dX3_addUp_106 (by rfl) (Nat.le_of_ble_eq_true rfl) (by decide) (by omega) (fun _ _ _ h _ => False.elim h) (fun r_106 w_106 n_106 h_106 hn_106 => ?_)
        obtain ⟨rfl, ew_106, en_106⟩ := h_106
        rw [ew_106, en_106]
        refine e_i2l F dX3_addUp_109 (⟨by omega, by omega⟩) ?_
        refine e_lload F dX3_addUp_110 rfl ?_
        refine e_ladd F dX3_addUp_112 ?_
        refine e_callVN F u_X1_modPrime (by rfl) (c_X1_modPrime gFO hwh (by constructor <;> omega)) (by first | assumption | exact e_up_s | (rw [e_up_n (by first | assumption | omega)]; first | assumption | exact e_up_s | (rw [e_up_n (by first | assumption | omega)]; first | assumption | exact e_up_s | (rw [e_up_n (by first | assumption | omega)]; first | assumption | exact e_up_s))) | exact hD.1 | exact hD1.1 | exact hD2.1 | exact gD.1 | exact gD1.1 | exact gD2.1 | exact gQ.1 | exact hQ.1 | exact gS.1 | exact hS.1 | exact zD.1) rfl rfl w_mn_RX3_59 dX3_addUp_113 (by rfl) (Nat.le_of_ble_eq_true rfl) (by decide) (by omega) (fun _ _ _ h _ => False.elim h) (fun r_113 w_113 n_113 h_113 hn_113 => ?_)
        obtain ⟨rfl, ew_113, en_113⟩ := h_113
        rw [ew_113, en_113]
        refine e_callVN F u_X0_setShare (by rfl) (c_X0_setShare gS (h := i) (by omega) (by omega) (v := ((D i1).A i + (if b = 0 then (D i2).A i else -(D i2).A i)) % pr wh) (by omega) (by omega)) gS.1 rfl rfl w_mn_RX3_130 dX3_addUp_116 (by rfl) (Nat.le_of_ble_eq_true rfl) (by decide) (by omega) (fun _ _ _ h _ => False.elim h) (fun r_116 w_116 n_116 h_116 hn_116 => ?_)
        
        refine e_iinc F dX3_addUp_119 rfl (by decide) ?_
        refine e_goto F 38 dX3_addUp_122 (by decide) ?_
        obtain ⟨rfl, en116, zD, zF⟩ := h_116
        rw [en116]
        refine e_go (ih (i + 1) w_116 (by omega) ⟨by omega, by omega, zD.to (fun j j0 j1 => ?_) (fun _ _ _ => rfl), fun q a1 a2 a3 => by rw [zF q a1 a2 a3, gF q a1 a2 a3]⟩) (And.intro rfl (And.intro rfl (And.intro rfl (And.intro rfl (And.intro rfl (And.intro rfl (trivial)))))))
        unfold e_fu
        try dsimp only
        by_cases e9 : j = i
        · rw [if_pos e9, if_pos (show j < i + 1 by omega), e9]
          unfold auA
          rw [if_pos (show (1 ≤ i ∧ i ≤ ho wh) ∧ (D i1).A i ≠ -1 ∧ (D i2).A i ≠ -1 from ⟨⟨by omega, by omega⟩, c_56, c_65⟩)]
        · rw [if_neg e9]
          by_cases e8 : j < i
          · rw [if_pos e8, if_pos (show j < i + 1 by omega)]
          · rw [if_neg e8, if_neg (show ¬ j < i + 1 by omega)]
      refine e_iload F dX3_addUp_38 rfl ?_
      refine e_aload_n F dX3_addUp_40 rfl ?_
      refine e_get (ci := 3) (fi := 0) (q := (RX3, TX3, 5)) F (by first | assumption | exact e_up_s | (rw [e_up_n (by first | assumption | omega)]; first | assumption | exact e_up_s | (rw [e_up_n (by first | assumption | omega)]; first | assumption | exact e_up_s | (rw [e_up_n (by first | assumption | omega)]; first | assumption | exact e_up_s))) | exact hD.1 | exact hD1.1 | exact hD2.1 | exact gD.1 | exact gD1.1 | exact gD2.1 | exact gQ.1 | exact hQ.1 | exact gS.1 | exact hS.1 | exact zD.1) rfl (by decide) w_fl_RX3_10 (by rfl) dX3_addUp_41 ?_
      refine e_getN (ci := 1) (fi := 4) (q := (RX1, TX1, 5)) F (by first | assumption | exact e_up_s | (rw [e_up_n (by first | assumption | omega)]; first | assumption | exact e_up_s | (rw [e_up_n (by first | assumption | omega)]; first | assumption | exact e_up_s | (rw [e_up_n (by first | assumption | omega)]; first | assumption | exact e_up_s))) | exact hD.1 | exact hD1.1 | exact hD2.1 | exact gD.1 | exact gD1.1 | exact gD2.1 | exact gQ.1 | exact hQ.1 | exact gS.1 | exact hS.1 | exact zD.1) rfl (by decide) w_fn_RX3_116 (by rfl) dX3_addUp_44 ?_
      refine e_icmp_gt F 125 dX3_addUp_47 (by decide) (⟨by omega, by omega⟩) (⟨by omega, by omega⟩) (fun c_47 => ?_) (fun c_47 => ?_)
      ·
        obtain rfl : i = ho wh + 1 := by omega
        have gS0 : DL wl (x + 24) 1 (if (D i1).dg < (D i2).dg then (D i2).dg else (D i1).dg) 0 (auA wh b (D i1).A (D i2).A) s0.B := gS.to (fun j j0 j1 => by
            try dsimp only
            by_cases e8 : j < ho wh + 1
            · rw [if_pos e8]
            · rw [if_neg e8]
              unfold auA
              rw [if_neg (fun q => by omega)]) (fun _ _ _ => rfl)
        refine e_aload_n F dX3_addUp_125 rfl ?_
        refine e_callVN F u_X0_hasSeals (by rfl) (c_X0_hasSeals gD1) gD1.1 rfl rfl w_mn_RX3_195 dX3_addUp_126 (by rfl) (Nat.le_of_ble_eq_true rfl) (by decide) (by omega) (fun _ _ _ h _ => False.elim h) (fun r_126 w_126 n_126 h_126 hn_126 => ?_)
        obtain ⟨rfl, ew_126, en_126⟩ := h_126
        rw [ew_126, en_126]
        refine e_if_eq F 147 dX3_addUp_129 (by decide) (b01_r _) (fun c_129 => ?_) (fun c_129 => ?_)
        ·
          have hns : ¬ (0 < (D i1).sc ∧ 0 < (D i2).sc) := fun q => (b01_0.mp c_129) q.1
          first
          | (refine e_go (l147 hne w_144 ?_ (fun q a1 a2 a3 => by rw [zF q a1 a2 a3, gF q a1 a2 a3])) (And.intro rfl (And.intro rfl (And.intro rfl (And.intro rfl (And.intro rfl (trivial))))))
             show DL _ _ 1 _ (if 0 < (D i1).sc ∧ 0 < (D i2).sc then _ else 0) _ _
             rw [if_pos ⟨c_129, c_136⟩]
             exact zS)
          | (refine e_go (l147 hne wl ?_ gF) (And.intro rfl (And.intro rfl (And.intro rfl (And.intro rfl (And.intro rfl (trivial))))))
             show DL _ _ 1 _ (if 0 < (D i1).sc ∧ 0 < (D i2).sc then _ else 0) _ _
             rw [if_neg hns]
             exact gS0.to (fun _ _ _ => rfl) (fun j j0 j1 => by omega))
        ·
          rw [b01_0, Classical.not_not] at c_129
          refine e_aload_n F dX3_addUp_132 rfl ?_
          refine e_callVN F u_X0_hasSeals (by rfl) (c_X0_hasSeals gD2) gD2.1 rfl rfl w_mn_RX3_195 dX3_addUp_133 (by rfl) (Nat.le_of_ble_eq_true rfl) (by decide) (by omega) (fun _ _ _ h _ => False.elim h) (fun r_133 w_133 n_133 h_133 hn_133 => ?_)
          obtain ⟨rfl, ew_133, en_133⟩ := h_133
          rw [ew_133, en_133]
          refine e_if_eq F 147 dX3_addUp_136 (by decide) (b01_r _) (fun c_136 => ?_) (fun c_136 => ?_)
          ·
            have hns : ¬ (0 < (D i1).sc ∧ 0 < (D i2).sc) := fun q => (b01_0.mp c_136) q.2
            first
            | (refine e_go (l147 hne w_144 ?_ (fun q a1 a2 a3 => by rw [zF q a1 a2 a3, gF q a1 a2 a3])) (And.intro rfl (And.intro rfl (And.intro rfl (And.intro rfl (And.intro rfl (trivial))))))
               show DL _ _ 1 _ (if 0 < (D i1).sc ∧ 0 < (D i2).sc then _ else 0) _ _
               rw [if_pos ⟨c_129, c_136⟩]
               exact zS)
            | (refine e_go (l147 hne wl ?_ gF) (And.intro rfl (And.intro rfl (And.intro rfl (And.intro rfl (And.intro rfl (trivial))))))
               show DL _ _ 1 _ (if 0 < (D i1).sc ∧ 0 < (D i2).sc then _ else 0) _ _
               rw [if_neg hns]
               exact gS0.to (fun _ _ _ => rfl) (fun j j0 j1 => by omega))
          ·
            rw [b01_0, Classical.not_not] at c_136
            refine e_aload_n F dX3_addUp_139 rfl ?_
            refine e_aload_n F dX3_addUp_140 rfl ?_
            refine e_aload_n F dX3_addUp_141 rfl ?_
            refine e_iload F dX3_addUp_142 rfl ?_
            refine e_callVV F u_X3_addUpSeals (by rfl) (c_X3_addUpSeals gX gFO hwh gD1 gD2 gS0 (by omega) (by omega) (by split <;> omega) hb (fun j a1 a2 => (hW1.2.1 j a1 a2).1) (fun j a1 a2 => (hW2.2.1 j a1 a2).1)) gX rfl rfl w_ml_RX3_312 dX3_addUp_144 (by rfl) (Nat.le_of_ble_eq_true rfl) (by decide) (by omega) (fun _ _ _ h _ => False.elim h) (fun r_144 w_144 n_144 h_144 hn_144 => ?_)
            obtain ⟨rfl, en144, zS, zF⟩ := h_144
            rw [en144]
            first
            | (refine e_go (l147 hne w_144 ?_ (fun q a1 a2 a3 => by rw [zF q a1 a2 a3, gF q a1 a2 a3])) (And.intro rfl (And.intro rfl (And.intro rfl (And.intro rfl (And.intro rfl (trivial))))))
               show DL _ _ 1 _ (if 0 < (D i1).sc ∧ 0 < (D i2).sc then _ else 0) _ _
               rw [if_pos ⟨c_129, c_136⟩]
               exact zS)
            | (refine e_go (l147 hne wl ?_ gF) (And.intro rfl (And.intro rfl (And.intro rfl (And.intro rfl (And.intro rfl (trivial))))))
               show DL _ _ 1 _ (if 0 < (D i1).sc ∧ 0 < (D i2).sc then _ else 0) _ _
               rw [if_neg hns]
               exact gS0.to (fun _ _ _ => rfl) (fun j j0 j1 => by omega))
      · refine e_aload_n F dX3_addUp_50 rfl ?_
        refine e_iload F dX3_addUp_51 rfl ?_
        refine e_callVN F u_X0_hasShare (by rfl) (c_X0_hasShare gD1 (h := i) (by omega) (by omega)) gD1.1 rfl rfl w_mn_RX3_119 dX3_addUp_53 (by rfl) (Nat.le_of_ble_eq_true rfl) (by decide) (by omega) (fun _ _ _ h _ => False.elim h) (fun r_53 w_53 n_53 h_53 hn_53 => ?_)
        obtain ⟨rfl, ew_53, en_53⟩ := h_53
        rw [ew_53, en_53]
        refine e_if_eq F 119 dX3_addUp_56 (by decide) (b01_r _) (fun c_56 => ?_) (fun c_56 => ?_)
        ·
          have hno : ¬ ((D i1).A i ≠ -1 ∧ (D i2).A i ≠ -1) := fun q => (b01_0.mp c_56) q.1
          refine e_iinc F dX3_addUp_119 rfl (by decide) ?_
          refine e_goto F 38 dX3_addUp_122 (by decide) ?_
          refine e_go (ih (i + 1) wl (by omega) ⟨by omega, by omega, gS.to (fun j j0 j1 => ?_) (fun _ _ _ => rfl), gF⟩) (And.intro rfl (And.intro rfl (And.intro rfl (And.intro rfl (And.intro rfl (And.intro rfl (trivial)))))))
          try dsimp only
          by_cases e9 : j = i
          · rw [if_neg (show ¬ j < i by omega), if_pos (show j < i + 1 by omega), e9]
            unfold auA
            rw [if_neg (fun q => hno ⟨q.2.1, q.2.2⟩)]
          · by_cases e8 : j < i
            · rw [if_pos e8, if_pos (show j < i + 1 by omega)]
            · rw [if_neg e8, if_neg (show ¬ j < i + 1 by omega)]
        ·
          rw [b01_0, Classical.not_not] at c_56
          refine e_aload_n F dX3_addUp_59 rfl ?_
          refine e_iload F dX3_addUp_60 rfl ?_
          refine e_callVN F u_X0_hasShare (by rfl) (c_X0_hasShare gD2 (h := i) (by omega) (by omega)) gD2.1 rfl rfl w_mn_RX3_119 dX3_addUp_62 (by rfl) (Nat.le_of_ble_eq_true rfl) (by decide) (by omega) (fun _ _ _ h _ => False.elim h) (fun r_62 w_62 n_62 h_62 hn_62 => ?_)
          obtain ⟨rfl, ew_62, en_62⟩ := h_62
          rw [ew_62, en_62]
          refine e_if_eq F 119 dX3_addUp_65 (by decide) (b01_r _) (fun c_65 => ?_) (fun c_65 => ?_)
          ·
            have hno : ¬ ((D i1).A i ≠ -1 ∧ (D i2).A i ≠ -1) := fun q => (b01_0.mp c_65) q.2
            refine e_iinc F dX3_addUp_119 rfl (by decide) ?_
            refine e_goto F 38 dX3_addUp_122 (by decide) ?_
            refine e_go (ih (i + 1) wl (by omega) ⟨by omega, by omega, gS.to (fun j j0 j1 => ?_) (fun _ _ _ => rfl), gF⟩) (And.intro rfl (And.intro rfl (And.intro rfl (And.intro rfl (And.intro rfl (And.intro rfl (trivial)))))))
            try dsimp only
            by_cases e9 : j = i
            · rw [if_neg (show ¬ j < i by omega), if_pos (show j < i + 1 by omega), e9]
              unfold auA
              rw [if_neg (fun q => hno ⟨q.2.1, q.2.2⟩)]
            · by_cases e8 : j < i
              · rw [if_pos e8, if_pos (show j < i + 1 by omega)]
              · rw [if_neg e8, if_neg (show ¬ j < i + 1 by omega)]
          ·
            rw [b01_0, Classical.not_not] at c_65
            have hA2i := hA2 i (by omega) (by omega)
            refine e_iload F dX3_addUp_68 rfl ?_
            refine e_if_eq F 84 dX3_addUp_70 (by decide) (by rcases hb with h | h <;> rw [h] <;> decide) (fun c_70 => ?_) (fun c_70 => ?_)
            ·
              have e5 : (if b = 0 then (D i2).A i else -(D i2).A i) = (D i2).A i := if_pos c_70
              rw [e5] at l91
              refine e_aload_n F dX3_addUp_84 rfl ?_
              refine e_iload F dX3_addUp_85 rfl ?_
              refine e_callVN F u_X0_shareAt (by rfl) (c_X0_shareAt gD2 (h := i) (by omega) (by omega)) gD2.1 rfl rfl w_mn_RX3_123 dX3_addUp_87 (by rfl) (Nat.le_of_ble_eq_true rfl) (by decide) (by omega) (fun _ _ _ h _ => False.elim h) (fun r_87 w_87 n_87 h_87 hn_87 => ?_)
              obtain ⟨rfl, ew_87, en_87⟩ := h_87
              rw [ew_87, en_87]
              refine e_i2l F dX3_addUp_90 (⟨by omega, by omega⟩) ?_
              exact e_go (l91 (by omega) c_56 c_65) (And.intro rfl (And.intro rfl (And.intro rfl (And.intro rfl (And.intro rfl (And.intro rfl (trivial)))))))
            ·
              have e5 : (if b = 0 then (D i2).A i else -(D i2).A i) = -(D i2).A i := if_neg c_70
              rw [e5] at l91
              refine e_aload_n F dX3_addUp_73 rfl ?_
              refine e_iload F dX3_addUp_74 rfl ?_
              refine e_callVN F u_X0_shareAt (by rfl) (c_X0_shareAt gD2 (h := i) (by omega) (by omega)) gD2.1 rfl rfl w_mn_RX3_123 dX3_addUp_76 (by rfl) (Nat.le_of_ble_eq_true rfl) (by decide) (by omega) (fun _ _ _ h _ => False.elim h) (fun r_76 w_76 n_76 h_76 hn_76 => ?_)
              obtain ⟨rfl, ew_76, en_76⟩ := h_76
              rw [ew_76, en_76]
              refine e_i2l F dX3_addUp_79 (⟨by omega, by omega⟩) ?_
              refine e_lneg F dX3_addUp_80 ?_
              refine e_goto F 91 dX3_addUp_81 (by decide) ?_
              exact e_go (l91 (by omega) c_56 c_65) (And.intro rfl (And.intro rfl (And.intro rfl (And.intro rfl (And.intro rfl (And.intro rfl (trivial)))))))
  refine e_aload_n F dX3_addUp_0 rfl ?_
  refine e_callVN F u_X0_isEmpty (by rfl) (c_X0_isEmpty hD1) hD1.1 rfl rfl w_mn_RX3_109 dX3_addUp_1 (by rfl) (Nat.le_of_ble_eq_true rfl) (by decide) (by omega) (fun _ _ _ h _ => False.elim h) (fun r_1 w_1 n_1 h_1 hn_1 => ?_)
  obtain ⟨rfl, ew_1, en_1⟩ := h_1
  rw [ew_1, en_1]
  refine e_if_ne F 14 dX3_addUp_4 (by decide) (b01_r _) (fun c_4 => ?_) (fun c_4 => ?_)
  ·
    rw [ne_eq, b01_0, Classical.not_not] at c_4
    refine e_bipush F dX3_addUp_14 (by decide) ?_
    refine e_iret F rfl (by omega) ?_ dX3_addUp_16
    have q9 : (D i1).fl = 0 ∨ (D i2).fl = 0 := by first | exact Or.inl c_4 | exact Or.inr c_11
    unfold auQ
    rw [if_pos q9]
    exact ⟨rfl, rfl, hC0, FR.rf⟩
  ·
    rw [b01_0] at c_4
    refine e_aload_n F dX3_addUp_7 rfl ?_
    refine e_callVN F u_X0_isEmpty (by rfl) (c_X0_isEmpty hD2) hD2.1 rfl rfl w_mn_RX3_109 dX3_addUp_8 (by rfl) (Nat.le_of_ble_eq_true rfl) (by decide) (by omega) (fun _ _ _ h _ => False.elim h) (fun r_8 w_8 n_8 h_8 hn_8 => ?_)
    obtain ⟨rfl, ew_8, en_8⟩ := h_8
    rw [ew_8, en_8]
    refine e_if_eq F 17 dX3_addUp_11 (by decide) (b01_r _) (fun c_11 => ?_) (fun c_11 => ?_)
    ·
      rw [b01_0] at c_11
      refine e_aload_n F dX3_addUp_17 rfl ?_
      refine e_get (ci := 3) (fi := 3) (q := (RX3, TX3, 5)) F (by first | assumption | exact e_up_s | (rw [e_up_n (by first | assumption | omega)]; first | assumption | exact e_up_s | (rw [e_up_n (by first | assumption | omega)]; first | assumption | exact e_up_s | (rw [e_up_n (by first | assumption | omega)]; first | assumption | exact e_up_s))) | exact hD.1 | exact hD1.1 | exact hD2.1 | exact gD.1 | exact gD1.1 | exact gD2.1 | exact gQ.1 | exact hQ.1 | exact gS.1 | exact hS.1 | exact zD.1) rfl (by decide) w_fl_RX3_30 (by rfl) dX3_addUp_18 ?_
      refine e_aload_n F dX3_addUp_21 rfl ?_
      refine e_getN (ci := 0) (fi := 1) (q := (RX0, TX0, 5)) F (by first | assumption | exact e_up_s | (rw [e_up_n (by first | assumption | omega)]; first | assumption | exact e_up_s | (rw [e_up_n (by first | assumption | omega)]; first | assumption | exact e_up_s | (rw [e_up_n (by first | assumption | omega)]; first | assumption | exact e_up_s))) | exact hD.1 | exact hD1.1 | exact hD2.1 | exact gD.1 | exact gD1.1 | exact gD2.1 | exact gQ.1 | exact hQ.1 | exact gS.1 | exact hS.1 | exact zD.1) rfl (by decide) w_fn_RX3_113 (by rfl) dX3_addUp_22 ?_
      refine e_aload_n F dX3_addUp_25 rfl ?_
      refine e_getN (ci := 0) (fi := 1) (q := (RX0, TX0, 5)) F (by first | assumption | exact e_up_s | (rw [e_up_n (by first | assumption | omega)]; first | assumption | exact e_up_s | (rw [e_up_n (by first | assumption | omega)]; first | assumption | exact e_up_s | (rw [e_up_n (by first | assumption | omega)]; first | assumption | exact e_up_s))) | exact hD.1 | exact hD1.1 | exact hD2.1 | exact gD.1 | exact gD1.1 | exact gD2.1 | exact gQ.1 | exact hQ.1 | exact gS.1 | exact hS.1 | exact zD.1) rfl (by decide) w_fn_RX3_113 (by rfl) dX3_addUp_26 ?_
      refine e_mmax F ⟨by omega, by omega⟩ ⟨by omega, by omega⟩ w_ml_RX3_307 w_sm_J9_max_7cf53 w_in_RJ9 w_co_J9_max_7cf53 dX3_addUp_29 (Nat.le_of_ble_eq_true rfl) (by decide) (by omega) ?_
      refine e_callVN F u_X0_start (by rfl) (c_X0_start hS (t := (if (D i1).dg < (D i2).dg then (D i2).dg else (D i1).dg)) (by split <;> omega)) hS.1 rfl rfl w_mn_RX3_157 dX3_addUp_32 (by rfl) (Nat.le_of_ble_eq_true rfl) (by decide) (by omega) (fun _ _ _ h _ => False.elim h) (fun r_32 w_32 n_32 h_32 hn_32 => ?_)
      obtain ⟨rfl, en32, gS, gF⟩ := h_32
      rw [en32]
      refine e_iconst F dX3_addUp_35 ?_
      refine e_istore F dX3_addUp_36 (by decide) ?_
      refine e_go (lp2 (fun q => q.elim c_4 c_11) 9 1 w_32 (by omega) ⟨by omega, by omega, gS.to (fun j j0 j1 => by rw [if_neg (show ¬ j < 1 by omega)]) (fun j _ _ => by omega), gF⟩) (And.intro rfl (And.intro rfl (And.intro rfl (And.intro rfl (And.intro rfl (And.intro rfl (trivial)))))))
    ·
      rw [b01_0, Classical.not_not] at c_11
      refine e_bipush F dX3_addUp_14 (by decide) ?_
      refine e_iret F rfl (by omega) ?_ dX3_addUp_16
      have q9 : (D i1).fl = 0 ∨ (D i2).fl = 0 := by first | exact Or.inl c_4 | exact Or.inr c_11
      unfold auQ
      rw [if_pos q9]
      exact ⟨rfl, rfl, hC0, FR.rf⟩
