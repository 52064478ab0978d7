/-! Secretshares: what is laid into deals -/
theorem PL.fr {w w' : e_W} {a : Nat} {P : Int → Int} (h : PL w a P) (h0 : w' a = w a) (h1 : w' (a + 1) = w (a + 1)) (h2 : w' (a + 2) = w (a + 2)) : PL w' a P :=
  ⟨by rw [h0]; exact h.1, h.2.1.fr h1, by rw [h2]; exact h.2.2.1, h.2.2.2⟩
def lpA (wh : Nat) (P : Int → Int) : Int → Int := fun h => if 1 ≤ h ∧ h ≤ ho wh then hz (pr wh) h P 7 else -1
theorem DF.hi {w w' : e_W} {d x : Nat} (h : DF w w' d) (hd : x + 5 ≤ d) : ∀ q, q < x + 5 → w' q = w q := fun q hq => h q (by omega) (by omega) (by omega)
def auS (wh : Nat) (b : Int) (s1 : Int) (B1 : Int → Int) (s2 : Int) (B2 : Int → Int) : Int → Int := fun k => (if k < s1 then B1 k else 1) * (if b = 0 then (if k < s2 then B2 k else 1) else ivq wh (if k < s2 then B2 k else 1)) % gr wh
theorem auS_rg {wh : Nat} (hwh : wh < 7) {b s1 s2 : Int} {B1 B2 : Int → Int} (k : Int) : 0 ≤ auS wh b s1 B1 s2 B2 k ∧ auS wh b s1 B1 s2 B2 k < gr wh := by
  have hg := gr_rg wh hwh
  exact ⟨Int.emod_nonneg _ (by omega), Int.emod_lt_of_pos _ (by omega)⟩
def auA (wh : Nat) (b : Int) (A1 A2 : Int → Int) : Int → Int := fun h => if (1 ≤ h ∧ h ≤ ho wh) ∧ A1 h ≠ -1 ∧ A2 h ≠ -1 then (A1 h + (if b = 0 then A2 h else -A2 h)) % pr wh else -1
/-- the rows of a deal at d, of the spare one at s and of the poly alone changed -/
def F2 (w w' : e_W) (d s : Nat) : Prop := ∀ q, q ≠ d → q ≠ d + 1 → q ≠ d + 2 → q ≠ s → q ≠ s + 1 → q ≠ s + 2 → w' q = w q
set_option maxHeartbeats 4000000 in
set_option maxRecDepth 100000 in
theorem c_X3_layPoly {K : e_K} {l : Launch} {w : e_W} {n : Nat} {x wh : Nat} {kn : Int} (hX : w x = some (SO x kn)) (hF : w (x + 1) = some (FO wh)) (hwh : wh < 7) {P : Int → Int} (hQ : PL w (x + 2) P) {d : Nat} {fl9 dg sc : Int} {A B : Int → Int} (hD : DL w d fl9 dg sc A B) (hd : x + 5 ≤ d) {g : Int} (hg : 0 ≤ g ∧ g ≤ 6) : e_Met K l yX3_layPoly (Cond.code yX3_layPoly cX3_layPoly 4 (Option.some .int) :: e_TB) (3) (0) [.ref x, .ref d, .int (eI g)] w n (fun r w' n' => r = some (.int (eI (bc (st7 (lpA wh P))))) ∧ n' = n ∧ DL w' d 1 g (g + 1) (lpA wh P) (fun k => sl wh (P k)) ∧ DF w w' d) (e_px0) := by
  refine e_ofV rfl (Nat.le_of_ble_eq_true rfl) ?_
  intro P9 E9 S9 M9 A9 B9 T9 C9 F hnm
  have hp := pr_rg wh hwh
  have ho9 := ho_rg wh hwh
  have hg9 := gr_rg wh hwh
  have hPR := hQ.2.2.2
  have lq : ∀ (N : Nat) (i : Int) (wl : e_W), (8 - i).toNat < N → (0 ≤ i ∧ i ≤ g + 1 ∧ DL wl d 1 g i (lpA wh P) (fun k => sl wh (P k)) ∧ DF w wl d) → e_V K P9 l E9 (3) (0) S9 M9 A9 B9 T9 C9 4 (fun r w' n' => r = some (.int (eI (bc (st7 (lpA wh P))))) ∧ n' = n ∧ DL w' d 1 g (g + 1) (lpA wh P) (fun k => sl wh (P k)) ∧ DF w w' d) (e_px0) 43 [(0, .ref x), (1, .ref d), (2, .int (eI g)), (3, .int (eI i))] [] wl n (0) := by
    intro N
    induction N with
    | zero => intro i wl hN; exact absurd hN (Nat.not_lt_zero _)
    | succ N ih =>
      intro i wl hN ⟨h1, h2, gD, gF⟩
      have hfr := DF.hi gF hd
      have gX : wl x = some (SO x kn) := by rw [hfr x (by omega)]; exact hX
      have gFO : wl (x + 1) = some (FO wh) := by rw [hfr _ (by omega)]; exact hF
      have gQ : PL wl (x + 2) P := hQ.fr (hfr _ (by omega)) (hfr _ (by omega)) (hfr _ (by omega))
      refine e_iload_n F dX3_layPoly_43 rfl ?_
      refine e_iload_n F dX3_layPoly_44 rfl ?_
      refine e_icmp_gt F 73 dX3_layPoly_45 (by decide) (⟨by omega, by omega⟩) (⟨by omega, by omega⟩) (fun c_45 => ?_) (fun c_45 => ?_)
      ·
        obtain rfl : i = g + 1 := by omega
        refine e_aload_n F dX3_layPoly_73 rfl ?_
        refine e_callVN F u_X0_shareCount (by rfl) (c_X0_shareCount gD) gD.1 rfl rfl w_mn_RX3_149 dX3_layPoly_74 (by rfl) (Nat.le_of_ble_eq_true rfl) (by decide) (by omega) (fun _ _ _ h _ => False.elim h) (fun r_74 w_74 n_74 h_74 hn_74 => ?_)
        obtain ⟨rfl, ew_74, en_74⟩ := h_74
        rw [ew_74, en_74]
        refine e_iret F rfl (by omega) ?_ dX3_layPoly_77
        exact ⟨rfl, rfl, gD, gF⟩
      · refine e_aload_n F dX3_layPoly_48 rfl ?_
        refine e_aload_n F dX3_layPoly_49 rfl ?_
        refine e_get (ci := 3) (fi := 0) (q := (RX3, TX3, 5)) F (by first | assumption | exact e_up_s | (rw [e_up_n (by first | assumption | omega)]; first | assumption | exact e_up_s | (rw [e_up_n (by first | assumption | omega)]; first | assumption | exact e_up_s | (rw [e_up_n (by first | assumption | omega)]; first | assumption | exact e_up_s))) | exact hD.1 | exact hD1.1 | exact hD2.1 | exact gD.1 | exact gD1.1 | exact gD2.1 | exact gQ.1 | exact hQ.1 | exact gS.1 | exact hS.1 | exact zD.1) rfl (by decide) w_fl_RX3_10 (by rfl) dX3_layPoly_50 ?_
        refine e_aload_n F dX3_layPoly_53 rfl ?_
        refine e_get (ci := 3) (fi := 1) (q := (RX3, TX3, 5)) F (by first | assumption | exact e_up_s | (rw [e_up_n (by first | assumption | omega)]; first | assumption | exact e_up_s | (rw [e_up_n (by first | assumption | omega)]; first | assumption | exact e_up_s | (rw [e_up_n (by first | assumption | omega)]; first | assumption | exact e_up_s))) | exact hD.1 | exact hD1.1 | exact hD2.1 | exact gD.1 | exact gD1.1 | exact gD2.1 | exact gQ.1 | exact hQ.1 | exact gS.1 | exact hS.1 | exact zD.1) rfl (by decide) w_fl_RX3_19 (by rfl) dX3_layPoly_54 ?_
        refine e_iload_n F dX3_layPoly_57 rfl ?_
        refine e_callVN F u_X2_at (by rfl) (c_X2_at gQ (h := i) ⟨by omega, by omega⟩) gQ.1 rfl rfl w_mn_RX3_140 dX3_layPoly_58 (by rfl) (Nat.le_of_ble_eq_true rfl) (by decide) (by omega) (fun _ _ _ h _ => False.elim h) (fun r_58 w_58 n_58 h_58 hn_58 => ?_)
        obtain ⟨rfl, ew_58, en_58⟩ := h_58
        rw [ew_58, en_58, if_pos (show 0 ≤ i ∧ i < 7 from ⟨by omega, by omega⟩)]
        have hPi := hPR i (by omega) (by omega)
        refine e_callVN F u_X1_sealFor (by rfl) (c_X1_sealFor gFO hwh ⟨by omega, by omega⟩) (by first | assumption | exact e_up_s | (rw [e_up_n (by first | assumption | omega)]; first | assumption | exact e_up_s | (rw [e_up_n (by first | assumption | omega)]; first | assumption | exact e_up_s | (rw [e_up_n (by first | assumption | omega)]; first | assumption | exact e_up_s))) | exact hD.1 | exact hD1.1 | exact hD2.1 | exact gD.1 | exact gD1.1 | exact gD2.1 | exact gQ.1 | exact hQ.1 | exact gS.1 | exact hS.1 | exact zD.1) rfl rfl w_mn_RX3_73 dX3_layPoly_61 (by rfl) (Nat.le_of_ble_eq_true rfl) (by decide) (by omega) (fun _ _ _ h _ => False.elim h) (fun r_61 w_61 n_61 h_61 hn_61 => ?_)
        obtain ⟨rfl, ew_61, en_61⟩ := h_61
        rw [ew_61, en_61]
        have hsl := sl_rg (v := P i) hwh
        refine e_callVN F u_X0_addSeal (by rfl) (c_X0_addSeal gD (v := sl wh (P i)) (by omega) (by omega) (by omega)) gD.1 rfl rfl w_mn_RX3_167 dX3_layPoly_64 (by rfl) (Nat.le_of_ble_eq_true rfl) (by decide) (by omega) (fun _ _ _ h _ => False.elim h) (fun r_64 w_64 n_64 h_64 hn_64 => ?_)
        
        refine e_iinc F dX3_layPoly_67 rfl (by decide) ?_
        refine e_goto F 43 dX3_layPoly_70 (by decide) ?_
        obtain rfl : r_64 = none := h_64.1
        obtain ⟨_, en64, zD, zF⟩ := h_64
        rw [en64]
        refine e_go (ih (i + 1) w_64 (by omega) ⟨by omega, by omega, zD.to (fun _ _ _ => rfl) (fu_ite rfl (fun _ _ _ => rfl)), fun q a1 a2 a3 => by rw [zF q a1 a2 a3, gF q a1 a2 a3]⟩) (And.intro rfl (And.intro rfl (And.intro rfl (And.intro rfl (trivial)))))
  have lp : ∀ (N : Nat) (i : Int) (wl : e_W), (9 - i).toNat < N → (1 ≤ i ∧ i ≤ ho wh + 1 ∧ DL wl d 1 g 0 (fun h => if 1 ≤ h ∧ h < i then hz (pr wh) h P 7 else -1) B ∧ DF w wl d) → e_V K P9 l E9 (3) (0) S9 M9 A9 B9 T9 C9 4 (fun r w' n' => r = some (.int (eI (bc (st7 (lpA wh P))))) ∧ n' = n ∧ DL w' d 1 g (g + 1) (lpA wh P) (fun k => sl wh (P k)) ∧ DF w w' d) (e_px0) 7 [(0, .ref x), (1, .ref d), (2, .int (eI g)), (3, .int (eI i))] [] wl n (0) := by
    intro N
    induction N with
    | zero => intro i wl hN; exact absurd hN (Nat.not_lt_zero _)
    | succ N ih =>
      intro i wl hN ⟨h1, h2, gD, gF⟩
      have hfr := DF.hi gF hd
      have gX : wl x = some (SO x kn) := by rw [hfr x (by omega)]; exact hX
      have gFO : wl (x + 1) = some (FO wh) := by rw [hfr _ (by omega)]; exact hF
      have gQ : PL wl (x + 2) P := hQ.fr (hfr _ (by omega)) (hfr _ (by omega)) (hfr _ (by omega))
      refine e_iload_n F dX3_layPoly_7 rfl ?_
      refine e_aload_n F dX3_layPoly_8 rfl ?_
      refine e_get (ci := 3) (fi := 0) (q := (RX3, TX3, 5)) F (by first | assumption | exact e_up_s | (rw [e_up_n (by first | assumption | omega)]; first | assumption | exact e_up_s | (rw [e_up_n (by first | assumption | omega)]; first | assumption | exact e_up_s | (rw [e_up_n (by first | assumption | omega)]; first | assumption | exact e_up_s))) | exact hD.1 | exact hD1.1 | exact hD2.1 | exact gD.1 | exact gD1.1 | exact gD2.1 | exact gQ.1 | exact hQ.1 | exact gS.1 | exact hS.1 | exact zD.1) rfl (by decide) w_fl_RX3_10 (by rfl) dX3_layPoly_9 ?_
      refine e_getN (ci := 1) (fi := 4) (q := (RX1, TX1, 5)) F (by first | assumption | exact e_up_s | (rw [e_up_n (by first | assumption | omega)]; first | assumption | exact e_up_s | (rw [e_up_n (by first | assumption | omega)]; first | assumption | exact e_up_s | (rw [e_up_n (by first | assumption | omega)]; first | assumption | exact e_up_s))) | exact hD.1 | exact hD1.1 | exact hD2.1 | exact gD.1 | exact gD1.1 | exact gD2.1 | exact gQ.1 | exact hQ.1 | exact gS.1 | exact hS.1 | exact zD.1) rfl (by decide) w_fn_RX3_116 (by rfl) dX3_layPoly_12 ?_
      refine e_icmp_gt F 41 dX3_layPoly_15 (by decide) (⟨by omega, by omega⟩) (⟨by omega, by omega⟩) (fun c_15 => ?_) (fun c_15 => ?_)
      · refine e_iconst F dX3_layPoly_41 ?_
        refine e_istore_n F dX3_layPoly_42 (by decide) ?_
        obtain rfl : i = ho wh + 1 := by omega
        refine e_go (lq 9 0 wl (by omega) ⟨by omega, by omega, gD.to (fun j j0 j1 => ?_) (fun j j0 j1 => by omega), gF⟩) (And.intro rfl (And.intro rfl (And.intro rfl (And.intro rfl (trivial)))))
        unfold lpA
        by_cases e8 : 1 ≤ j ∧ j ≤ ho wh
        · rw [if_pos e8, if_pos ⟨by omega, by omega⟩]
        · rw [if_neg e8, if_neg (by omega)]
      · refine e_aload_n F dX3_layPoly_18 rfl ?_
        refine e_iload_n F dX3_layPoly_19 rfl ?_
        refine e_aload_n F dX3_layPoly_20 rfl ?_
        refine e_get (ci := 3) (fi := 1) (q := (RX3, TX3, 5)) F (by first | assumption | exact e_up_s | (rw [e_up_n (by first | assumption | omega)]; first | assumption | exact e_up_s | (rw [e_up_n (by first | assumption | omega)]; first | assumption | exact e_up_s | (rw [e_up_n (by first | assumption | omega)]; first | assumption | exact e_up_s))) | exact hD.1 | exact hD1.1 | exact hD2.1 | exact gD.1 | exact gD1.1 | exact gD2.1 | exact gQ.1 | exact hQ.1 | exact gS.1 | exact hS.1 | exact zD.1) rfl (by decide) w_fl_RX3_19 (by rfl) dX3_layPoly_21 ?_
        refine e_aload_n F dX3_layPoly_24 rfl ?_
        refine e_get (ci := 3) (fi := 0) (q := (RX3, TX3, 5)) F (by first | assumption | exact e_up_s | (rw [e_up_n (by first | assumption | omega)]; first | assumption | exact e_up_s | (rw [e_up_n (by first | assumption | omega)]; first | assumption | exact e_up_s | (rw [e_up_n (by first | assumption | omega)]; first | assumption | exact e_up_s))) | exact hD.1 | exact hD1.1 | exact hD2.1 | exact gD.1 | exact gD1.1 | exact gD2.1 | exact gQ.1 | exact hQ.1 | exact gS.1 | exact hS.1 | exact zD.1) rfl (by decide) w_fl_RX3_10 (by rfl) dX3_layPoly_25 ?_
        refine e_iload_n F dX3_layPoly_28 rfl ?_
        refine e_callVN F u_X2_valueAt (by rfl) (c_X2_valueAt gQ gFO hwh (x := i) ⟨by omega, by omega⟩) gQ.1 rfl rfl w_mn_RX3_126 dX3_layPoly_29 (by rfl) (Nat.le_of_ble_eq_true rfl) (by decide) (by omega) (fun _ _ _ h _ => False.elim h) (fun r_29 w_29 n_29 h_29 hn_29 => ?_)
        obtain ⟨rfl, ew_29, en_29⟩ := h_29
        rw [ew_29, en_29]
        have hz9 := hz_rg (p := pr wh) (x := i) (P := P) (by omega) 7
        refine e_callVN F u_X0_setShare (by rfl) (c_X0_setShare gD (h := i) (v := hz (pr wh) i P 7) (by omega) (by omega) (by omega) (by omega)) gD.1 rfl rfl w_mn_RX3_130 dX3_layPoly_32 (by rfl) (Nat.le_of_ble_eq_true rfl) (by decide) (by omega) (fun _ _ _ h _ => False.elim h) (fun r_32 w_32 n_32 h_32 hn_32 => ?_)
        
        refine e_iinc F dX3_layPoly_35 rfl (by decide) ?_
        refine e_goto F 7 dX3_layPoly_38 (by decide) ?_
        obtain rfl : r_32 = none := h_32.1
        obtain ⟨_, en32, zD, zF⟩ := h_32
        rw [en32]
        refine e_go (ih (i + 1) w_32 (by omega) ⟨by omega, by omega, zD.to (fun j j0 j1 => ?_) (fun _ _ _ => rfl), fun q a1 a2 a3 => by rw [zF q a1 a2 a3, gF q a1 a2 a3]⟩) (And.intro rfl (And.intro rfl (And.intro rfl (And.intro rfl (trivial)))))
        unfold e_fu
        dsimp only
        by_cases e9 : j = i
        · rw [if_pos e9, e9, if_pos ⟨by omega, by omega⟩]
        · rw [if_neg e9]
          by_cases e8 : 1 ≤ j ∧ j < i
          · rw [if_pos e8, if_pos ⟨by omega, by omega⟩]
          · rw [if_neg e8, if_neg (by omega)]
  refine e_aload_n F dX3_layPoly_0 rfl ?_
  refine e_iload_n F dX3_layPoly_1 rfl ?_
  refine e_callVN F u_X0_start (by rfl) (c_X0_start hD (t := g) ⟨by omega, by omega⟩) hD.1 rfl rfl w_mn_RX3_157 dX3_layPoly_2 (by rfl) (Nat.le_of_ble_eq_true rfl) (by decide) (by omega) (fun _ _ _ h _ => False.elim h) (fun r_2 w_2 n_2 h_2 hn_2 => ?_)
  obtain ⟨rfl, en2, gD, gF⟩ := h_2
  rw [en2]
  refine e_iconst F dX3_layPoly_5 ?_
  refine e_istore_n F dX3_layPoly_6 (by decide) ?_
  refine e_go (lp 9 1 w_2 (by omega) ⟨by omega, by omega, gD.to (fun j j0 j1 => by rw [if_neg (by omega)]) (fun _ _ _ => rfl), gF⟩) (And.intro rfl (And.intro rfl (And.intro rfl (And.intro rfl (trivial)))))
set_option maxHeartbeats 4000000 in
set_option maxRecDepth 100000 in
theorem c_X3_laySpare {K : e_K} {l : Launch} {w : e_W} {n : Nat} {x : Nat} {kn : Int} (hX : w x = some (SO x kn)) {d : Nat} {fl9 dg sc : Int} {A B : Int → Int} (hD : DL w d fl9 dg sc A B) {fl2 dg2 sc2 : Int} {A2 B2 : Int → Int} (hS : DL w (x + 24) fl2 dg2 sc2 A2 B2) (hd2 : d + 3 ≤ x + 24) : e_Met K l yX3_laySpare (Cond.code yX3_laySpare cX3_laySpare 2 (Option.some .int) :: e_TB) (3) (0) [.ref x, .ref d] w n (fun r w' n' => r = some (.int (eI (bc (st7 A2)))) ∧ n' = n ∧ DL w' d fl2 dg2 sc2 A2 B2 ∧ DF w w' d) (e_px0) := by
  refine e_ofV rfl (Nat.le_of_ble_eq_true rfl) ?_
  intro P9 E9 S9 M9 A9 B9 T9 C9 F hnm
  refine e_aload_n F dX3_laySpare_0 rfl ?_
  refine e_aload_n F dX3_laySpare_1 rfl ?_
  refine e_get (ci := 3) (fi := 3) (q := (RX3, TX3, 5)) F (by first | assumption | exact e_up_s | (rw [e_up_n (by first | assumption | omega)]; first | assumption | exact e_up_s | (rw [e_up_n (by first | assumption | omega)]; first | assumption | exact e_up_s | (rw [e_up_n (by first | assumption | omega)]; first | assumption | exact e_up_s))) | exact hD.1 | exact hD1.1 | exact hD2.1 | exact gD.1 | exact gD1.1 | exact gD2.1 | exact gQ.1 | exact hQ.1 | exact gS.1 | exact hS.1 | exact zD.1) rfl (by decide) w_fl_RX3_30 (by rfl) dX3_laySpare_2 ?_
  refine e_callVN F u_X0_take (by rfl) (c_X0_take hD hS (Or.inr hd2)) hD.1 rfl rfl w_mn_RX3_191 dX3_laySpare_5 (by rfl) (Nat.le_of_ble_eq_true rfl) (by decide) (by omega) (fun _ _ _ h _ => False.elim h) (fun r_5 w_5 n_5 h_5 hn_5 => ?_)
  obtain ⟨rfl, en5, gD, gF⟩ := h_5
  rw [en5]
  refine e_aload_n F dX3_laySpare_8 rfl ?_
  refine e_callVN F u_X0_shareCount (by rfl) (c_X0_shareCount gD) gD.1 rfl rfl w_mn_RX3_149 dX3_laySpare_9 (by rfl) (Nat.le_of_ble_eq_true rfl) (by decide) (by omega) (fun _ _ _ h _ => False.elim h) (fun r_9 w_9 n_9 h_9 hn_9 => ?_)
  obtain ⟨rfl, ew_9, en_9⟩ := h_9
  rw [ew_9, en_9]
  refine e_iret F rfl (by omega) ?_ dX3_laySpare_12
  exact ⟨rfl, rfl, gD, gF⟩
set_option maxHeartbeats 4000000 in
set_option maxRecDepth 100000 in
theorem c_X3_addUpSeals {K : e_K} {l : Launch} {w : e_W} {n : Nat} {x wh : Nat} {kn : Int} (hX : w x = some (SO x kn)) (hF : w (x + 1) = some (FO wh)) (hwh : wh < 7) {d1 d2 : Nat} {fl1 dg1 sc1 fl2 dg2 sc2 g b : Int} {A A1 A2 B B1 B2 : Int → Int} (hD1 : DL w d1 fl1 dg1 sc1 A1 B1) (hD2 : DL w d2 fl2 dg2 sc2 A2 B2) (hS : DL w (x + 24) 1 g 0 A B) (hd1 : d1 + 3 ≤ x + 24) (hd2 : d2 + 3 ≤ x + 24) (hg : 0 ≤ g ∧ g ≤ 6) (hb : b = 0 ∨ b = 1) (hB1 : ∀ j, 0 ≤ j → j < sc1 → 0 ≤ B1 j ∧ B1 j < gr wh) (hB2 : ∀ j, 0 ≤ j → j < sc2 → 0 ≤ B2 j ∧ B2 j < gr wh) : e_Met K l yX3_addUpSeals (Cond.code yX3_addUpSeals cX3_addUpSeals 7 none :: e_TB) (3) (0) [.ref x, .ref d1, .ref d2, .int (eI b)] w n (fun r w' n' => r = none ∧ n' = n ∧ DL w' (x + 24) 1 g (g + 1) A (auS wh b sc1 B1 sc2 B2) ∧ DF w w' (x + 24)) (e_px0) := by
  refine e_ofV rfl (Nat.le_of_ble_eq_true rfl) ?_
  intro P9 E9 S9 M9 A9 B9 T9 C9 F hnm
  have hp := pr_rg wh hwh
  have ho9 := ho_rg wh hwh
  have hg9 := gr_rg wh hwh
  have lp : ∀ (N : Nat) (i : Int) (wl : e_W), (8 - i).toNat < N → (0 ≤ i ∧ i ≤ g + 1 ∧ DL wl (x + 24) 1 g i A (auS wh b sc1 B1 sc2 B2) ∧ DF w wl (x + 24)) → e_V K P9 l E9 (3) (0) S9 M9 A9 B9 T9 C9 7 (fun r w' n' => r = none ∧ n' = n ∧ DL w' (x + 24) 1 g (g + 1) A (auS wh b sc1 B1 sc2 B2) ∧ DF w w' (x + 24)) (e_px0) 3 [(0, .ref x), (1, .ref d1), (2, .ref d2), (3, .int (eI b)), (4, .int (eI i))] [] wl n (0) := by
    intro N
    induction N with
    | zero => intro i wl hN; exact absurd hN (Nat.not_lt_zero _)
    | succ N ih =>
      intro i wl hN ⟨h1, h2, gS, gF⟩
      have gX : wl x = some (SO x kn) := by rw [gF x (by omega) (by omega) (by omega)]; exact hX
      have gFO : wl (x + 1) = some (FO wh) := by rw [gF _ (by omega) (by omega) (by omega)]; exact hF
      have g1 : DL wl d1 fl1 dg1 sc1 A1 B1 := hD1.fr (gF _ (by omega) (by omega) (by omega)) (gF _ (by omega) (by omega) (by omega)) (gF _ (by omega) (by omega) (by omega))
      have g2 : DL wl d2 fl2 dg2 sc2 A2 B2 := hD2.fr (gF _ (by omega) (by omega) (by omega)) (gF _ (by omega) (by omega) (by omega)) (gF _ (by omega) (by omega) (by omega))
      have hs1 := hD1.2.2.2.2.2.1
      have hs2 := hD2.2.2.2.2.2.1
      have hlr : 0 ≤ (if i < sc1 then B1 i else 1) ∧ (if i < sc1 then B1 i else 1) < gr wh := by
        split
        · exact hB1 i (by omega) (by omega)
        · omega
      have hrr : 0 ≤ (if i < sc2 then B2 i else 1) ∧ (if i < sc2 then B2 i else 1) < gr wh := by
        split
        · exact hB2 i (by omega) (by omega)
        · omega
      have l57 : i ≤ g → e_V K P9 l E9 (3) (0) S9 M9 A9 B9 T9 C9 7 (fun r w' n' => r = none ∧ n' = n ∧ DL w' (x + 24) 1 g (g + 1) A (auS wh b sc1 B1 sc2 B2) ∧ DF w w' (x + 24)) (e_px0) 57 [(0, .ref x), (1, .ref d1), (2, .ref d2), (3, .int (eI b)), (4, .int (eI i)), (5, .int (eI (if i < sc1 then B1 i else 1))), (6, .int (eI (if i < sc2 then B2 i else 1)))] [] wl n (0) := by
        intro hig
        refine e_aload_n F dX3_addUpSeals_57 rfl ?_
        refine e_get (ci := 3) (fi := 3) (q := (RX3, TX3, 5)) F (by first | assumption | exact e_up_s | (rw [e_up_n (by first | assumption | omega)]; first | assumption | exact e_up_s | (rw [e_up_n (by first | assumption | omega)]; first | assumption | exact e_up_s | (rw [e_up_n (by first | assumption | omega)]; first | assumption | exact e_up_s))) | exact hD.1 | exact hD1.1 | exact hD2.1 | exact gD.1 | exact gD1.1 | exact gD2.1 | exact gQ.1 | exact hQ.1 | exact gS.1 | exact hS.1 | exact zD.1) rfl (by decide) w_fl_RX3_30 (by rfl) dX3_addUpSeals_58 ?_
        refine e_aload_n F dX3_addUpSeals_61 rfl ?_
        refine e_get (ci := 3) (fi := 0) (q := (RX3, TX3, 5)) F (by first | assumption | exact e_up_s | (rw [e_up_n (by first | assumption | omega)]; first | assumption | exact e_up_s | (rw [e_up_n (by first | assumption | omega)]; first | assumption | exact e_up_s | (rw [e_up_n (by first | assumption | omega)]; first | assumption | exact e_up_s))) | exact hD.1 | exact hD1.1 | exact hD2.1 | exact gD.1 | exact gD1.1 | exact gD2.1 | exact gQ.1 | exact hQ.1 | exact gS.1 | exact hS.1 | exact zD.1) rfl (by decide) w_fl_RX3_10 (by rfl) dX3_addUpSeals_62 ?_
        refine e_iload F dX3_addUpSeals_65 rfl ?_
        refine e_iload_n F dX3_addUpSeals_67 rfl ?_
        refine e_if_eq F 83 dX3_addUpSeals_68 (by decide) (by rcases hb with h | h <;> rw [h] <;> decide) (fun c_68 => ?_) (fun c_68 => ?_)
        ·
          have hv9 := hrr
          refine e_iload F dX3_addUpSeals_83 rfl ?_
          refine e_callVN F u_X1_sealProduct (by rfl) (c_X1_sealProduct gFO hwh hlr.1 hlr.2 hv9.1 hv9.2) (by first | assumption | exact e_up_s | (rw [e_up_n (by first | assumption | omega)]; first | assumption | exact e_up_s | (rw [e_up_n (by first | assumption | omega)]; first | assumption | exact e_up_s | (rw [e_up_n (by first | assumption | omega)]; first | assumption | exact e_up_s))) | exact hD.1 | exact hD1.1 | exact hD2.1 | exact gD.1 | exact gD1.1 | exact gD2.1 | exact gQ.1 | exact hQ.1 | exact gS.1 | exact hS.1 | exact zD.1) rfl rfl w_mn_RX3_143 dX3_addUpSeals_85 (by rfl) (Nat.le_of_ble_eq_true rfl) (by decide) (by omega) (fun _ _ _ h _ => False.elim h) (fun r_85 w_85 n_85 h_85 hn_85 => ?_)
          obtain ⟨rfl, ew_85, en_85⟩ := h_85
          rw [ew_85, en_85]
          refine e_callVN F u_X0_addSeal (by rfl) (c_X0_addSeal gS (by omega) (Int.emod_nonneg _ (by omega)) (Int.lt_of_lt_of_le (Int.emod_lt_of_pos _ (by omega)) hg9.2)) gS.1 rfl rfl w_mn_RX3_167 dX3_addUpSeals_88 (by rfl) (Nat.le_of_ble_eq_true rfl) (by decide) (by omega) (fun _ _ _ h _ => False.elim h) (fun r_88 w_88 n_88 h_88 hn_88 => ?_)
          
          refine e_iinc F dX3_addUpSeals_91 rfl (by decide) ?_
          refine e_goto F 3 dX3_addUpSeals_94 (by decide) ?_
          obtain ⟨rfl, en88, zD, zF⟩ := h_88
          rw [en88]
          refine e_go (ih (i + 1) w_88 (by omega) ⟨by omega, by omega, zD.to (fun _ _ _ => rfl) (fu_ite ?_ (fun _ _ _ => rfl)), fun q a1 a2 a3 => by rw [zF q a1 a2 a3, gF q a1 a2 a3]⟩) (And.intro rfl (And.intro rfl (And.intro rfl (And.intro rfl (And.intro rfl (trivial))))))
          unfold auS
          first | rw [if_pos c_68] | rw [if_neg c_68]
        ·
          have hv9 := ivq_rg (v := if i < sc2 then B2 i else 1) hwh
          refine e_aload_n F dX3_addUpSeals_71 rfl ?_
          refine e_get (ci := 3) (fi := 0) (q := (RX3, TX3, 5)) F (by first | assumption | exact e_up_s | (rw [e_up_n (by first | assumption | omega)]; first | assumption | exact e_up_s | (rw [e_up_n (by first | assumption | omega)]; first | assumption | exact e_up_s | (rw [e_up_n (by first | assumption | omega)]; first | assumption | exact e_up_s))) | exact hD.1 | exact hD1.1 | exact hD2.1 | exact gD.1 | exact gD1.1 | exact gD2.1 | exact gQ.1 | exact hQ.1 | exact gS.1 | exact hS.1 | exact zD.1) rfl (by decide) w_fl_RX3_10 (by rfl) dX3_addUpSeals_72 ?_
          refine e_iload F dX3_addUpSeals_75 rfl ?_
          refine e_callVN F u_X1_inverseSeal (by rfl) (c_X1_inverseSeal gFO hwh hrr.1 hrr.2) (by first | assumption | exact e_up_s | (rw [e_up_n (by first | assumption | omega)]; first | assumption | exact e_up_s | (rw [e_up_n (by first | assumption | omega)]; first | assumption | exact e_up_s | (rw [e_up_n (by first | assumption | omega)]; first | assumption | exact e_up_s))) | exact hD.1 | exact hD1.1 | exact hD2.1 | exact gD.1 | exact gD1.1 | exact gD2.1 | exact gQ.1 | exact hQ.1 | exact gS.1 | exact hS.1 | exact zD.1) rfl rfl w_mn_RX3_316 dX3_addUpSeals_77 (by rfl) (Nat.le_of_ble_eq_true rfl) (by decide) (by omega) (fun _ _ _ h _ => False.elim h) (fun r_77 w_77 n_77 h_77 hn_77 => ?_)
          obtain ⟨rfl, ew_77, en_77⟩ := h_77
          rw [ew_77, en_77]
          refine e_goto F 85 dX3_addUpSeals_80 (by decide) ?_
          refine e_callVN F u_X1_sealProduct (by rfl) (c_X1_sealProduct gFO hwh hlr.1 hlr.2 hv9.1 hv9.2) (by first | assumption | exact e_up_s | (rw [e_up_n (by first | assumption | omega)]; first | assumption | exact e_up_s | (rw [e_up_n (by first | assumption | omega)]; first | assumption | exact e_up_s | (rw [e_up_n (by first | assumption | omega)]; first | assumption | exact e_up_s))) | exact hD.1 | exact hD1.1 | exact hD2.1 | exact gD.1 | exact gD1.1 | exact gD2.1 | exact gQ.1 | exact hQ.1 | exact gS.1 | exact hS.1 | exact zD.1) rfl rfl w_mn_RX3_143 dX3_addUpSeals_85 (by rfl) (Nat.le_of_ble_eq_true rfl) (by decide) (by omega) (fun _ _ _ h _ => False.elim h) (fun r_85 w_85 n_85 h_85 hn_85 => ?_)
          obtain ⟨rfl, ew_85, en_85⟩ := h_85
          rw [ew_85, en_85]
          refine e_callVN F u_X0_addSeal (by rfl) (c_X0_addSeal gS (by omega) (Int.emod_nonneg _ (by omega)) (Int.lt_of_lt_of_le (Int.emod_lt_of_pos _ (by omega)) hg9.2)) gS.1 rfl rfl w_mn_RX3_167 dX3_addUpSeals_88 (by rfl) (Nat.le_of_ble_eq_true rfl) (by decide) (by omega) (fun _ _ _ h _ => False.elim h) (fun r_88 w_88 n_88 h_88 hn_88 => ?_)
          
          refine e_iinc F dX3_addUpSeals_91 rfl (by decide) ?_
          refine e_goto F 3 dX3_addUpSeals_94 (by decide) ?_
          obtain ⟨rfl, en88, zD, zF⟩ := h_88
          rw [en88]
          refine e_go (ih (i + 1) w_88 (by omega) ⟨by omega, by omega, zD.to (fun _ _ _ => rfl) (fu_ite ?_ (fun _ _ _ => rfl)), fun q a1 a2 a3 => by rw [zF q a1 a2 a3, gF q a1 a2 a3]⟩) (And.intro rfl (And.intro rfl (And.intro rfl (And.intro rfl (And.intro rfl (trivial))))))
          unfold auS
          first | rw [if_pos c_68] | rw [if_neg c_68]
      have l36 : i ≤ g → e_V K P9 l E9 (3) (0) S9 M9 A9 B9 T9 C9 7 (fun r w' n' => r = none ∧ n' = n ∧ DL w' (x + 24) 1 g (g + 1) A (auS wh b sc1 B1 sc2 B2) ∧ DF w w' (x + 24)) (e_px0) 36 [(0, .ref x), (1, .ref d1), (2, .ref d2), (3, .int (eI b)), (4, .int (eI i)), (5, .int (eI (if i < sc1 then B1 i else 1)))] [] wl n (0) := by
        intro hig
        refine e_iload F dX3_addUpSeals_36 rfl ?_
        refine e_aload_n F dX3_addUpSeals_38 rfl ?_
        refine e_getN (ci := 0) (fi := 2) (q := (RX0, TX0, 5)) F g2.1 rfl (by decide) w_fn_RX3_134 (by rfl) dX3_addUpSeals_39 ?_
        refine e_icmp_ge F 54 dX3_addUpSeals_42 (by decide) (⟨by omega, by omega⟩) (⟨by omega, by omega⟩) (fun c_42 => ?_) (fun c_42 => ?_)
        ·
          have e9 : (if i < sc2 then B2 i else 1) = 1 := if_neg (by omega)
          rw [e9] at l57
          refine e_iconst F dX3_addUpSeals_54 ?_
          refine e_istore F dX3_addUpSeals_55 (by decide) ?_
          exact e_go (l57 hig) (And.intro rfl (And.intro rfl (And.intro rfl (And.intro rfl (And.intro rfl (And.intro rfl (And.intro rfl (trivial))))))))
        ·
          have e9 : (if i < sc2 then B2 i else 1) = B2 i := if_pos (by omega)
          rw [e9] at l57
          refine e_aload_n F dX3_addUpSeals_45 rfl ?_
          refine e_iload F dX3_addUpSeals_46 rfl ?_
          refine e_callVN F u_X0_sealAt (by rfl) (c_X0_sealAt g2 (h := i) ⟨by omega, by omega⟩) g2.1 rfl rfl w_mn_RX3_137 dX3_addUpSeals_48 (by rfl) (Nat.le_of_ble_eq_true rfl) (by decide) (by omega) (fun _ _ _ h _ => False.elim h) (fun r_48 w_48 n_48 h_48 hn_48 => ?_)
          obtain ⟨rfl, ew_48, en_48⟩ := h_48
          rw [ew_48, en_48, if_pos (show 0 ≤ i ∧ i < sc2 from ⟨by omega, by omega⟩)]
          refine e_goto F 55 dX3_addUpSeals_51 (by decide) ?_
          refine e_istore F dX3_addUpSeals_55 (by decide) ?_
          exact e_go (l57 hig) (And.intro rfl (And.intro rfl (And.intro rfl (And.intro rfl (And.intro rfl (And.intro rfl (And.intro rfl (trivial))))))))
      refine e_iload F dX3_addUpSeals_3 rfl ?_
      refine e_aload_n F dX3_addUpSeals_5 rfl ?_
      refine e_get (ci := 3) (fi := 3) (q := (RX3, TX3, 5)) F (by first | assumption | exact e_up_s | (rw [e_up_n (by first | assumption | omega)]; first | assumption | exact e_up_s | (rw [e_up_n (by first | assumption | omega)]; first | assumption | exact e_up_s | (rw [e_up_n (by first | assumption | omega)]; first | assumption | exact e_up_s))) | exact hD.1 | exact hD1.1 | exact hD2.1 | exact gD.1 | exact gD1.1 | exact gD2.1 | exact gQ.1 | exact hQ.1 | exact gS.1 | exact hS.1 | exact zD.1) rfl (by decide) w_fl_RX3_30 (by rfl) dX3_addUpSeals_6 ?_
      refine e_getN (ci := 0) (fi := 1) (q := (RX0, TX0, 5)) F gS.1 rfl (by decide) w_fn_RX3_113 (by rfl) dX3_addUpSeals_9 ?_
      refine e_icmp_gt F 97 dX3_addUpSeals_12 (by decide) (⟨by omega, by omega⟩) (⟨by omega, by omega⟩) (fun c_12 => ?_) (fun c_12 => ?_)
      ·
        obtain rfl : i = g + 1 := by omega
        refine e_vret F rfl (by omega) ?_ dX3_addUpSeals_97
        exact ⟨rfl, rfl, gS, gF⟩
      · refine e_iload F dX3_addUpSeals_15 rfl ?_
        refine e_aload_n F dX3_addUpSeals_17 rfl ?_
        refine e_getN (ci := 0) (fi := 2) (q := (RX0, TX0, 5)) F g1.1 rfl (by decide) w_fn_RX3_134 (by rfl) dX3_addUpSeals_18 ?_
        refine e_icmp_ge F 33 dX3_addUpSeals_21 (by decide) (⟨by omega, by omega⟩) (⟨by omega, by omega⟩) (fun c_21 => ?_) (fun c_21 => ?_)
        ·
          have e9 : (if i < sc1 then B1 i else 1) = 1 := if_neg (by omega)
          rw [e9] at l36
          refine e_iconst F dX3_addUpSeals_33 ?_
          refine e_istore F dX3_addUpSeals_34 (by decide) ?_
          exact e_go (l36 (by omega)) (And.intro rfl (And.intro rfl (And.intro rfl (And.intro rfl (And.intro rfl (And.intro rfl (trivial)))))))
        ·
          have e9 : (if i < sc1 then B1 i else 1) = B1 i := if_pos (by omega)
          rw [e9] at l36
          refine e_aload_n F dX3_addUpSeals_24 rfl ?_
          refine e_iload F dX3_addUpSeals_25 rfl ?_
          refine e_callVN F u_X0_sealAt (by rfl) (c_X0_sealAt g1 (h := i) ⟨by omega, by omega⟩) g1.1 rfl rfl w_mn_RX3_137 dX3_addUpSeals_27 (by rfl) (Nat.le_of_ble_eq_true rfl) (by decide) (by omega) (fun _ _ _ h _ => False.elim h) (fun r_27 w_27 n_27 h_27 hn_27 => ?_)
          obtain ⟨rfl, ew_27, en_27⟩ := h_27
          rw [ew_27, en_27, if_pos (show 0 ≤ i ∧ i < sc1 from ⟨by omega, by omega⟩)]
          refine e_goto F 34 dX3_addUpSeals_30 (by decide) ?_
          refine e_istore F dX3_addUpSeals_34 (by decide) ?_
          exact e_go (l36 (by omega)) (And.intro rfl (And.intro rfl (And.intro rfl (And.intro rfl (And.intro rfl (And.intro rfl (trivial)))))))
  refine e_iconst F dX3_addUpSeals_0 ?_
  refine e_istore F dX3_addUpSeals_1 (by decide) ?_
  exact e_go (lp 9 0 w (by omega) ⟨by omega, by omega, hS.to (fun _ _ _ => rfl) (fun j j0 j1 => by omega), fun q _ _ _ => rfl⟩) (And.intro rfl (And.intro rfl (And.intro rfl (And.intro rfl (And.intro rfl (trivial))))))
