/-! Secretshares: the house -/
set_option maxHeartbeats 4000000 in
set_option maxRecDepth 100000 in
theorem c_X3_house {K : e_K} {l : Launch} {w : e_W} {n : Nat} {x wh : Nat} {kn : Int} {D : Nat → SD} (hC : CW w x wh kn D) {c9 : Int} (hc9 : e_r c9) : e_Met K l yX3_house (Cond.code yX3_house cX3_house 2 (Option.some .int) :: e_TB) (7) (1) [.ref x, .int (eI c9)] w n (fun r w' n' => (0 ≤ c9 ∧ c9 ≤ 6) ∧ r = some (.int (eI (hsV wh kn D c9))) ∧ n' = n ∧ CW w' x wh (kn) (D) ∧ FR w w' x) (pxd w False (¬ (0 ≤ c9 ∧ c9 ≤ 6))) := by
  refine e_ofV rfl (Nat.le_of_ble_eq_true rfl) ?_
  intro P9 E9 S9 M9 A9 B9 T9 C9 F hnm
  have hC0 := hC
  have hDA := hC.2.2.2.2.1
  obtain ⟨hX, hF, hwh, ⟨P0, hQ⟩, ⟨ga, hga, hgj⟩, hDs, s0, hS⟩ := hC
  have hp := pr_rg wh hwh
  have ho9 := ho_rg wh hwh
  have hg9 := gr_rg wh hwh
  have hf9 := fl_rg wh hwh
  refine e_iload_n F dX3_house_0 rfl ?_
  rcases (show c9 = 0 ∨ c9 = 1 ∨ c9 = 2 ∨ c9 = 3 ∨ c9 = 4 ∨ c9 = 5 ∨ c9 = 6 ∨ (c9 < 0 ∨ 6 < c9) by omega) with rfl | rfl | rfl | rfl | rfl | rfl | rfl | ho
  · refine e_tabIn F 44 dX3_house_1 (by decide) (by decide) (by decide) (by rfl) (by decide) ?_
    refine e_aload_n F dX3_house_44 rfl ?_
    refine e_get (ci := 3) (fi := 0) (q := (RX3, TX3, 5)) F (by first | assumption | exact e_up_s | (rw [e_up_n (by first | assumption | omega)]; first | assumption | exact e_up_s | (rw [e_up_n (by first | assumption | omega)]; first | assumption | exact e_up_s | (rw [e_up_n (by first | assumption | omega)]; first | assumption | exact e_up_s))) | exact hD.1 | exact hD1.1 | exact hD2.1 | exact gD.1 | exact gD1.1 | exact gD2.1 | exact gQ.1 | exact hQ.1 | exact gS.1 | exact hS.1 | exact zD.1) rfl (by decide) w_fl_RX3_10 (by rfl) dX3_house_45 ?_
    refine e_getN (ci := 1) (fi := 0) (q := (RX1, TX1, 5)) F (by first | assumption | exact e_up_s | (rw [e_up_n (by first | assumption | omega)]; first | assumption | exact e_up_s | (rw [e_up_n (by first | assumption | omega)]; first | assumption | exact e_up_s | (rw [e_up_n (by first | assumption | omega)]; first | assumption | exact e_up_s))) | exact hD.1 | exact hD1.1 | exact hD2.1 | exact gD.1 | exact gD1.1 | exact gD2.1 | exact gQ.1 | exact hQ.1 | exact gS.1 | exact hS.1 | exact zD.1) rfl (by decide) w_fn_RX3_248 (by rfl) dX3_house_48 ?_
    refine e_iret F rfl (by omega) ?_ dX3_house_51
    exact ⟨by decide, rfl, rfl, hC0, FR.rf⟩
  · refine e_tabIn F 52 dX3_house_1 (by decide) (by decide) (by decide) (by rfl) (by decide) ?_
    refine e_aload_n F dX3_house_52 rfl ?_
    refine e_get (ci := 3) (fi := 0) (q := (RX3, TX3, 5)) F (by first | assumption | exact e_up_s | (rw [e_up_n (by first | assumption | omega)]; first | assumption | exact e_up_s | (rw [e_up_n (by first | assumption | omega)]; first | assumption | exact e_up_s | (rw [e_up_n (by first | assumption | omega)]; first | assumption | exact e_up_s))) | exact hD.1 | exact hD1.1 | exact hD2.1 | exact gD.1 | exact gD1.1 | exact gD2.1 | exact gQ.1 | exact hQ.1 | exact gS.1 | exact hS.1 | exact zD.1) rfl (by decide) w_fl_RX3_10 (by rfl) dX3_house_53 ?_
    refine e_getN (ci := 1) (fi := 1) (q := (RX1, TX1, 5)) F (by first | assumption | exact e_up_s | (rw [e_up_n (by first | assumption | omega)]; first | assumption | exact e_up_s | (rw [e_up_n (by first | assumption | omega)]; first | assumption | exact e_up_s | (rw [e_up_n (by first | assumption | omega)]; first | assumption | exact e_up_s))) | exact hD.1 | exact hD1.1 | exact hD2.1 | exact gD.1 | exact gD1.1 | exact gD2.1 | exact gQ.1 | exact hQ.1 | exact gS.1 | exact hS.1 | exact zD.1) rfl (by decide) w_fn_RX3_49 (by rfl) dX3_house_56 ?_
    refine e_iret F rfl (by omega) ?_ dX3_house_59
    exact ⟨by decide, rfl, rfl, hC0, FR.rf⟩
  · refine e_tabIn F 60 dX3_house_1 (by decide) (by decide) (by decide) (by rfl) (by decide) ?_
    refine e_aload_n F dX3_house_60 rfl ?_
    refine e_get (ci := 3) (fi := 0) (q := (RX3, TX3, 5)) F (by first | assumption | exact e_up_s | (rw [e_up_n (by first | assumption | omega)]; first | assumption | exact e_up_s | (rw [e_up_n (by first | assumption | omega)]; first | assumption | exact e_up_s | (rw [e_up_n (by first | assumption | omega)]; first | assumption | exact e_up_s))) | exact hD.1 | exact hD1.1 | exact hD2.1 | exact gD.1 | exact gD1.1 | exact gD2.1 | exact gQ.1 | exact hQ.1 | exact gS.1 | exact hS.1 | exact zD.1) rfl (by decide) w_fl_RX3_10 (by rfl) dX3_house_61 ?_
    refine e_getN (ci := 1) (fi := 2) (q := (RX1, TX1, 5)) F (by first | assumption | exact e_up_s | (rw [e_up_n (by first | assumption | omega)]; first | assumption | exact e_up_s | (rw [e_up_n (by first | assumption | omega)]; first | assumption | exact e_up_s | (rw [e_up_n (by first | assumption | omega)]; first | assumption | exact e_up_s))) | exact hD.1 | exact hD1.1 | exact hD2.1 | exact gD.1 | exact gD1.1 | exact gD2.1 | exact gQ.1 | exact hQ.1 | exact gS.1 | exact hS.1 | exact zD.1) rfl (by decide) w_fn_RX3_164 (by rfl) dX3_house_64 ?_
    refine e_iret F rfl (by omega) ?_ dX3_house_67
    exact ⟨by decide, rfl, rfl, hC0, FR.rf⟩
  · refine e_tabIn F 68 dX3_house_1 (by decide) (by decide) (by decide) (by rfl) (by decide) ?_
    refine e_aload_n F dX3_house_68 rfl ?_
    refine e_get (ci := 3) (fi := 0) (q := (RX3, TX3, 5)) F (by first | assumption | exact e_up_s | (rw [e_up_n (by first | assumption | omega)]; first | assumption | exact e_up_s | (rw [e_up_n (by first | assumption | omega)]; first | assumption | exact e_up_s | (rw [e_up_n (by first | assumption | omega)]; first | assumption | exact e_up_s))) | exact hD.1 | exact hD1.1 | exact hD2.1 | exact gD.1 | exact gD1.1 | exact gD2.1 | exact gQ.1 | exact hQ.1 | exact gS.1 | exact hS.1 | exact zD.1) rfl (by decide) w_fl_RX3_10 (by rfl) dX3_house_69 ?_
    refine e_getN (ci := 1) (fi := 3) (q := (RX1, TX1, 5)) F (by first | assumption | exact e_up_s | (rw [e_up_n (by first | assumption | omega)]; first | assumption | exact e_up_s | (rw [e_up_n (by first | assumption | omega)]; first | assumption | exact e_up_s | (rw [e_up_n (by first | assumption | omega)]; first | assumption | exact e_up_s))) | exact hD.1 | exact hD1.1 | exact hD2.1 | exact gD.1 | exact gD1.1 | exact gD2.1 | exact gQ.1 | exact hQ.1 | exact gS.1 | exact hS.1 | exact zD.1) rfl (by decide) w_fn_RX3_251 (by rfl) dX3_house_72 ?_
    refine e_iret F rfl (by omega) ?_ dX3_house_75
    exact ⟨by decide, rfl, rfl, hC0, FR.rf⟩
  · refine e_tabIn F 76 dX3_house_1 (by decide) (by decide) (by decide) (by rfl) (by decide) ?_
    refine e_aload_n F dX3_house_76 rfl ?_
    refine e_get (ci := 3) (fi := 0) (q := (RX3, TX3, 5)) F (by first | assumption | exact e_up_s | (rw [e_up_n (by first | assumption | omega)]; first | assumption | exact e_up_s | (rw [e_up_n (by first | assumption | omega)]; first | assumption | exact e_up_s | (rw [e_up_n (by first | assumption | omega)]; first | assumption | exact e_up_s))) | exact hD.1 | exact hD1.1 | exact hD2.1 | exact gD.1 | exact gD1.1 | exact gD2.1 | exact gQ.1 | exact hQ.1 | exact gS.1 | exact hS.1 | exact zD.1) rfl (by decide) w_fl_RX3_10 (by rfl) dX3_house_77 ?_
    refine e_getN (ci := 1) (fi := 4) (q := (RX1, TX1, 5)) F (by first | assumption | exact e_up_s | (rw [e_up_n (by first | assumption | omega)]; first | assumption | exact e_up_s | (rw [e_up_n (by first | assumption | omega)]; first | assumption | exact e_up_s | (rw [e_up_n (by first | assumption | omega)]; first | assumption | exact e_up_s))) | exact hD.1 | exact hD1.1 | exact hD2.1 | exact gD.1 | exact gD1.1 | exact gD2.1 | exact gQ.1 | exact hQ.1 | exact gS.1 | exact hS.1 | exact zD.1) rfl (by decide) w_fn_RX3_116 (by rfl) dX3_house_80 ?_
    refine e_iret F rfl (by omega) ?_ dX3_house_83
    exact ⟨by decide, rfl, rfl, hC0, FR.rf⟩
  · refine e_tabIn F 84 dX3_house_1 (by decide) (by decide) (by decide) (by rfl) (by decide) ?_
    refine e_aload_n F dX3_house_84 rfl ?_
    refine e_callVV F u_X3_filledDeals (by rfl) (c_X3_filledDeals hC0) hX rfl rfl w_ml_RX3_254 dX3_house_85 (by rfl) (Nat.le_of_ble_eq_true rfl) (by decide) (by omega) (fun _ _ _ h _ => False.elim h) (fun r_85 w_85 n_85 h_85 hn_85 => ?_)
    obtain ⟨rfl, ew_85, en_85⟩ := h_85
    rw [ew_85, en_85]
    refine e_iret F rfl (by omega) ?_ dX3_house_88
    exact ⟨by decide, rfl, rfl, hC0, FR.rf⟩
  · refine e_tabIn F 89 dX3_house_1 (by decide) (by decide) (by decide) (by rfl) (by decide) ?_
    refine e_aload_n F dX3_house_89 rfl ?_
    refine e_get (ci := 3) (fi := 4) (q := (RX3, TX3, 5)) F (by first | assumption | exact e_up_s | (rw [e_up_n (by first | assumption | omega)]; first | assumption | exact e_up_s | (rw [e_up_n (by first | assumption | omega)]; first | assumption | exact e_up_s | (rw [e_up_n (by first | assumption | omega)]; first | assumption | exact e_up_s))) | exact hD.1 | exact hD1.1 | exact hD2.1 | exact gD.1 | exact gD1.1 | exact gD2.1 | exact gQ.1 | exact hQ.1 | exact gS.1 | exact hS.1 | exact zD.1) rfl (by decide) w_fl_RX3_34 (by rfl) dX3_house_90 ?_
    refine e_iret F rfl (by omega) ?_ dX3_house_93
    exact ⟨by decide, rfl, rfl, hC0, FR.rf⟩
  · refine e_tabOut F 94 dX3_house_1 hc9 ho (by decide) ?_
    exact e_throwSW (text := "what is not 0 to 6") F (by decide +kernel) w_cl_RX3_42 w_in_java_lang_IllegalArgumentException (by decide +kernel) hat_ia hgood_ia dX3_house_94 dX3_house_97 dX3_house_98 dX3_house_101 dX3_house_104 (Nat.le_of_ble_eq_true rfl) (by decide) (by omega) (fun n2 hn2 => ⟨Or.inr ⟨rfl, by omega⟩, rfl⟩)
set_option maxHeartbeats 4000000 in
set_option maxRecDepth 100000 in
theorem c_X3_isSound {K : e_K} {l : Launch} {w : e_W} {n : Nat} {x wh : Nat} {kn : Int} {D : Nat → SD} (hC : CW w x wh kn D) : e_Met K l yX3_isSound (Cond.code yX3_isSound cX3_isSound 2 (Option.some .boolean) :: e_TB) (5) (0) [.ref x] w n (fun r w' n' => r = some (.int (eI (snV wh D))) ∧ n' = n ∧ CW w' x wh (kn) (D) ∧ FR w w' x) (e_px0) := by
  refine e_ofV rfl (Nat.le_of_ble_eq_true rfl) ?_
  intro P9 E9 S9 M9 A9 B9 T9 C9 F hnm
  have hC0 := hC
  have hDA := hC.2.2.2.2.1
  obtain ⟨hX, hF, hwh, ⟨P0, hQ⟩, ⟨ga, hga, hgj⟩, hDs, s0, hS⟩ := hC
  have hp := pr_rg wh hwh
  have ho9 := ho_rg wh hwh
  have hg9 := gr_rg wh hwh
  have hf9 := fl_rg wh hwh
  have lp : ∀ (N : Nat) (k : Nat), (6 - k) < N → k ≤ 6 → e_V K P9 l E9 (5) (0) S9 M9 A9 B9 T9 C9 2 (fun r w' n' => r = some (.int (eI (snV wh D))) ∧ n' = n ∧ CW w' x wh (kn) (D) ∧ FR w w' x) (e_px0) 2 [(0, .ref x), (1, .int (eI (k : Int)))] [] w n (0) := by
    intro N
    induction N with
    | zero => intro k hN; exact absurd hN (Nat.not_lt_zero _)
    | succ N ih =>
      intro k hN hk
      refine e_iload_n F dX3_isSound_2 rfl ?_
      refine e_aload_n F dX3_isSound_3 rfl ?_
      refine e_get (ci := 3) (fi := 2) (q := (RX3, TX3, 5)) F (by first | assumption | exact e_up_s | (rw [e_up_n (by first | assumption | omega)]; first | assumption | exact e_up_s | (rw [e_up_n (by first | assumption | omega)]; first | assumption | exact e_up_s | (rw [e_up_n (by first | assumption | omega)]; first | assumption | exact e_up_s))) | exact hD.1 | exact hD1.1 | exact hD2.1 | exact gD.1 | exact gD1.1 | exact gD2.1 | exact gQ.1 | exact hQ.1 | exact gS.1 | exact hS.1 | exact zD.1) rfl (by decide) w_fl_RX3_25 (by rfl) dX3_isSound_4 ?_
      refine e_alen9 F (by first | assumption | exact e_up_s | (rw [e_up_n (by first | assumption | omega)]; first | assumption | exact e_up_s | (rw [e_up_n (by first | assumption | omega)]; first | assumption | exact e_up_s | (rw [e_up_n (by first | assumption | omega)]; first | assumption | exact e_up_s))) | exact hD.1 | exact hD1.1 | exact hD2.1 | exact gD.1 | exact gD1.1 | exact gD2.1 | exact gQ.1 | exact hQ.1 | exact gS.1 | exact hS.1 | exact zD.1) dX3_isSound_7 ?_
      refine e_icmp_ge F 45 dX3_isSound_8 (by decide) (⟨by omega, by omega⟩) (⟨by omega, by omega⟩) (fun c_8 => ?_) (fun c_8 => ?_)
      ·
        obtain rfl : k = 6 := by omega
        refine e_aload_n F dX3_isSound_45 rfl ?_
        refine e_aload_n F dX3_isSound_46 rfl ?_
        refine e_callVV F u_X3_allHolders (by rfl) (c_X3_allHolders hX hF hwh) hX rfl rfl w_ml_RX3_266 dX3_isSound_47 (by rfl) (Nat.le_of_ble_eq_true rfl) (by decide) (by omega) (fun _ _ _ h _ => False.elim h) (fun r_47 w_47 n_47 h_47 hn_47 => ?_)
        obtain ⟨rfl, ew_47, en_47⟩ := h_47
        rw [ew_47, en_47]
        refine e_iconst F dX3_isSound_50 ?_
        refine e_callVV F u_X3_weightSum (by rfl) (c_X3_weightSum hX hF hwh (set := fl wh) (pl := 0) (by omega) (by omega) (by decide)) hX rfl rfl w_ml_RX3_91 dX3_isSound_51 (by rfl) (Nat.le_of_ble_eq_true rfl) (by decide) (by omega) (fun _ _ _ h _ => False.elim h) (fun r_51 w_51 n_51 h_51 hn_51 => ?_)
        obtain ⟨rfl, ew_51, en_51⟩ := h_51
        rw [ew_51, en_51]
        have htl : 0 ≤ tl wh (fl wh) (fun _ => 1) 0 ∧ tl wh (fl wh) (fun _ => 1) 0 < pr wh := emod_rg _ hwh
        refine e_iconst F dX3_isSound_54 ?_
        refine e_icmp_ne F 69 dX3_isSound_55 (by decide) (⟨by omega, by omega⟩) (⟨by omega, by omega⟩) (fun c_55 => ?_) (fun c_55 => ?_)
        · refine e_iconst F dX3_isSound_69 ?_
          refine e_zret F rfl (by omega) (by omega) ?_ dX3_isSound_70
          refine ⟨?_, rfl, hC0, FR.rf⟩
          unfold snV
          first | rw [b01_t (And.intro c_55 c_62)] | rw [b01_f (fun q => by first | exact c_55 q.1 | exact c_62 q.2)]
        · refine e_aload_n F dX3_isSound_58 rfl ?_
          refine e_callVV F u_X3_isFirstSealSound (by rfl) (c_X3_isFirstSealSound hC0) hX rfl rfl w_ml_RX3_269 dX3_isSound_59 (by rfl) (Nat.le_of_ble_eq_true rfl) (by decide) (by omega) (fun _ _ _ h _ => False.elim h) (fun r_59 w_59 n_59 h_59 hn_59 => ?_)
          obtain ⟨rfl, ew_59, en_59⟩ := h_59
          rw [ew_59, en_59]
          refine e_if_eq F 69 dX3_isSound_62 (by decide) (b01_r _) (fun c_62 => ?_) (fun c_62 => ?_)
          ·
            rw [b01_0] at c_62
            refine e_iconst F dX3_isSound_69 ?_
            refine e_zret F rfl (by omega) (by omega) ?_ dX3_isSound_70
            refine ⟨?_, rfl, hC0, FR.rf⟩
            unfold snV
            first | rw [b01_t (And.intro c_55 c_62)] | rw [b01_f (fun q => by first | exact c_55 q.1 | exact c_62 q.2)]
          ·
            rw [b01_0, Classical.not_not] at c_62
            refine e_iconst F dX3_isSound_65 ?_
            refine e_goto F 70 dX3_isSound_66 (by decide) ?_
            refine e_zret F rfl (by omega) (by omega) ?_ dX3_isSound_70
            refine ⟨?_, rfl, hC0, FR.rf⟩
            unfold snV
            first | rw [b01_t (And.intro c_55 c_62)] | rw [b01_f (fun q => by first | exact c_55 q.1 | exact c_62 q.2)]
      · refine e_aload_n F dX3_isSound_11 rfl ?_
        refine e_aload_n F dX3_isSound_12 rfl ?_
        refine e_get (ci := 3) (fi := 2) (q := (RX3, TX3, 5)) F (by first | assumption | exact e_up_s | (rw [e_up_n (by first | assumption | omega)]; first | assumption | exact e_up_s | (rw [e_up_n (by first | assumption | omega)]; first | assumption | exact e_up_s | (rw [e_up_n (by first | assumption | omega)]; first | assumption | exact e_up_s))) | exact hD.1 | exact hD1.1 | exact hD2.1 | exact gD.1 | exact gD1.1 | exact gD2.1 | exact gQ.1 | exact hQ.1 | exact gS.1 | exact hS.1 | exact zD.1) rfl (by decide) w_fl_RX3_25 (by rfl) dX3_isSound_13 ?_
        refine e_iload_n F dX3_isSound_16 rfl ?_
        refine e_aald9 F hga (by omega) (by omega) (by decide) (hgj k (by omega)) dX3_isSound_17 ?_
        refine e_callVV F u_X3_areSharesSound (by rfl) (c_X3_areSharesSound hC0 (i1 := k) (by omega)) hX rfl rfl w_ml_RX3_259 dX3_isSound_18 (by rfl) (Nat.le_of_ble_eq_true rfl) (by decide) (by omega) (fun _ _ _ h _ => False.elim h) (fun r_18 w_18 n_18 h_18 hn_18 => ?_)
        obtain ⟨rfl, ew_18, en_18⟩ := h_18
        rw [ew_18, en_18]
        refine e_if_eq F 37 dX3_isSound_21 (by decide) (by decide) (fun c_21 => ?_) (fun c_21 => ?_)
        · exact absurd c_21 (by decide)
        · refine e_aload_n F dX3_isSound_24 rfl ?_
          refine e_aload_n F dX3_isSound_25 rfl ?_
          refine e_get (ci := 3) (fi := 2) (q := (RX3, TX3, 5)) F (by first | assumption | exact e_up_s | (rw [e_up_n (by first | assumption | omega)]; first | assumption | exact e_up_s | (rw [e_up_n (by first | assumption | omega)]; first | assumption | exact e_up_s | (rw [e_up_n (by first | assumption | omega)]; first | assumption | exact e_up_s))) | exact hD.1 | exact hD1.1 | exact hD2.1 | exact gD.1 | exact gD1.1 | exact gD2.1 | exact gQ.1 | exact hQ.1 | exact gS.1 | exact hS.1 | exact zD.1) rfl (by decide) w_fl_RX3_25 (by rfl) dX3_isSound_26 ?_
          refine e_iload_n F dX3_isSound_29 rfl ?_
          refine e_aald9 F hga (by omega) (by omega) (by decide) (hgj k (by omega)) dX3_isSound_30 ?_
          refine e_callVV F u_X3_areSealsSound (by rfl) (c_X3_areSealsSound hC0 (i1 := k) (by omega)) hX rfl rfl w_ml_RX3_263 dX3_isSound_31 (by rfl) (Nat.le_of_ble_eq_true rfl) (by decide) (by omega) (fun _ _ _ h _ => False.elim h) (fun r_31 w_31 n_31 h_31 hn_31 => ?_)
          obtain ⟨rfl, ew_31, en_31⟩ := h_31
          rw [ew_31, en_31]
          refine e_if_ne F 39 dX3_isSound_34 (by decide) (by decide) (fun c_34 => ?_) (fun c_34 => ?_)
          · refine e_iinc F dX3_isSound_39 rfl (by decide) ?_
            refine e_goto F 2 dX3_isSound_42 (by decide) ?_
            exact e_go (ih (k + 1) (by omega) (by omega)) (And.intro rfl (And.intro rfl (trivial)))
          · exact absurd c_34 (by decide)
  refine e_iconst F dX3_isSound_0 ?_
  refine e_istore_n F dX3_isSound_1 (by decide) ?_
  exact e_go (lp 7 0 (by omega) (by omega)) (And.intro rfl (And.intro rfl (trivial)))
theorem bc_rg {v : Int} (h0 : 0 ≤ v) (h1 : v < 128) : 0 ≤ bc v ∧ bc v ≤ 7 := by unfold bc; omega
theorem odV_rg {wh : Nat} (hwh : wh < 7) {w : e_W} {d : Nat} {s : SD} (hD : DS w d s) (c : Int) : -1 ≤ odV wh s c ∧ odV wh s c < 1000003 := by
  have hp := pr_rg wh hwh
  have hst := st7_rg s.A
  have hb := bc_rg hst.1 hst.2
  have hdg := hD.2.2.2.2.1
  have ht := emod_rg (tlK wh (fs7 s.A s.dg) s.A 0 (ho wh).toNat) hwh
  have h3 := b01_or (0 < s.sc)
  have h4 := b01_or (il wh (st7 s.A) s.A s.fl s.dg)
  unfold odV tl
  split
  · split <;> omega
  · split
    · omega
    · split
      · omega
      · split
        · omega
        · split
          · omega
          · split <;> omega
theorem hsV_rg {wh : Nat} (hwh : wh < 7) {kn : Int} (hkn : e_r kn) {D : Nat → SD} (c : Int) : e_r (hsV wh kn D c) := by
  have hp := pr_rg wh hwh
  have hg := gr_rg wh hwh
  have hb := bs_rg wh hwh
  have hho := ho_rg wh hwh
  have hfd := fdK_rg D 6
  unfold hsV
  have : (wh : Int) < 7 := by omega
  split
  · constructor <;> omega
  · split
    · constructor <;> omega
    · split
      · constructor <;> omega
      · split
        · constructor <;> omega
        · split
          · constructor <;> omega
          · split
            · constructor <;> omega
            · exact hkn
set_option maxHeartbeats 4000000 in
set_option maxRecDepth 100000 in
theorem c_X3_digest {K : e_K} {l : Launch} {w : e_W} {n : Nat} {x wh : Nat} {kn : Int} {D : Nat → SD} (hC : CW w x wh kn D) (hkn : e_r kn) : e_Met K l yX3_digest (Cond.code yX3_digest cX3_digest 5 (Option.some .long) :: e_TB) (8) (187) [.ref x] w n (fun r w' n' => r = some (.long (eJ (dgV wh kn D))) ∧ n' = n ∧ CW w' x wh kn D ∧ FR w w' x) (e_px0) := by
  refine e_ofV rfl (Nat.le_of_ble_eq_true rfl) ?_
  intro P9 E9 S9 M9 A9 B9 T9 C9 F hnm
  have hC0 := hC
  have hDA := hC.2.2.2.2.1
  obtain ⟨hX, hF, hwh, ⟨P0, hQ⟩, ⟨ga, hga, hgj⟩, hDs, s0, hS⟩ := hC
  have hp := pr_rg wh hwh
  have ho9 := ho_rg wh hwh
  have hg9 := gr_rg wh hwh
  have hf9 := fl_rg wh hwh
  have lo : ∀ (M i : Nat) (wl : e_W), 6 - i < M → (i ≤ 6 ∧ CW wl x wh kn D ∧ FR w wl x) → e_V K P9 l E9 (8) (187) S9 M9 A9 B9 T9 C9 5 (fun r w' n' => r = some (.long (eJ (dgV wh kn D))) ∧ n' = n ∧ CW w' x wh kn D ∧ FR w w' x) (e_px0) 33 [(0, .ref x), (1, .long (eJ (dgI wh kn D i))), (3, .int (eI (i : Int)))] [] wl n ((7 + 30 * i)) := by
    intro M
    induction M with
    | zero => intro i wl hM; exact absurd hM (Nat.not_lt_zero _)
    | succ M ihM =>
      intro i wl0 hM ⟨hi, gC0, gF0⟩
      have gX0 := gC0.1
      have itn : (((i : Nat) : Int)).toNat = i := rfl
      have hi6 : i < 6 → True := fun _ => trivial
      by_cases h6 : i < 6
      ·
        have l3 : ∀ (N k : Nat) (wl : e_W), 8 - k < N → (k ≤ 4 ∧ CW wl x wh kn D ∧ FR w wl x) → e_V K P9 l E9 (8) (187) S9 M9 A9 B9 T9 C9 5 (fun r w' n' => r = some (.long (eJ (dgV wh kn D))) ∧ n' = n ∧ CW w' x wh kn D ∧ FR w w' x) (e_px0) 108 [(0, .ref x), (1, .long (eJ (dg3 wh (D i) (dgI wh kn D i) k))), (3, .int (eI (i : Int))), (4, .int (eI (k : Int)))] [] wl n ((7 + 30 * i + 22 + 2 * k)) := by
          intro N
          induction N with
          | zero => intro k wl hN; exact absurd hN (Nat.not_lt_zero _)
          | succ N ih =>
            intro k wl hN ⟨hk, gC, gF⟩
            have gX := gC.1
            have gFO := gC.2.1
            refine e_iload F dX3_digest_108 rfl ?_
            refine e_iconst F dX3_digest_110 ?_
            refine e_icmp_gt F 135 dX3_digest_111 (by decide) (⟨by omega, by omega⟩) (⟨by omega, by omega⟩) (fun c_111 => ?_) (fun c_111 => ?_)
            ·
              obtain rfl : k = 4 := by omega
              refine e_iinc F dX3_digest_135 rfl (by decide) ?_
              refine e_goto F 33 dX3_digest_138 (by decide) ?_
              exact e_wid (by omega) (e_go (ihM (i + 1) wl (by omega) ⟨by omega, gC, gF⟩) (And.intro rfl (And.intro rfl (And.intro rfl (trivial)))))
            · refine e_lload_n F dX3_digest_114 rfl ?_
              refine e_ldc2 F dX3_digest_115 w_kl_RX3_274 ?_
              refine e_lmul F dX3_digest_118 ?_
              refine e_aload_n F dX3_digest_119 rfl ?_
              refine e_iload_n F dX3_digest_120 rfl ?_
              refine e_iload F dX3_digest_121 rfl ?_
              refine e_callVV F u_X3_seal (by rfl) (c_X3_seal gC (i := (i : Int)) (c := (k : Int)) ⟨by omega, by omega⟩ ⟨by omega, by omega⟩) gX rfl rfl w_ml_RX3_285 dX3_digest_123 (by rfl) (Nat.le_of_ble_eq_true rfl) (by decide) (by omega) (fun _ _ _ h _ => by rcases h.1 with q | q <;> first | exact False.elim q.2 | (have q2 := q.2; omega)) (fun r_123 w_123 n_123 h_123 hn_123 => ?_)
              obtain ⟨_, rfl, en_123, zC, zF⟩ := h_123
              rw [en_123]
              have q1 : dg3 wh (D i) (dgI wh kn D i) (k + 1) = dg3 wh (D i) (dgI wh kn D i) k * 31 + (if 0 ≤ (k : Int) ∧ (k : Int) < (D i).sc then (D i).B (k : Int) else -1) := by
                show dg3 wh (D i) (dgI wh kn D i) k * 31 + (if (k : Int) < (D i).sc then (D i).B (k : Int) else -1) = _
                by_cases q : (k : Int) < (D i).sc
                · rw [if_pos q, if_pos ⟨by omega, q⟩]
                · rw [if_neg q, if_neg (fun z => q z.2)]
              have sg := (gC.2.2.2.2.2.1 i h6).1.2.2.2.2.2.2.2 (k : Int)
              have sr : -1 ≤ (if 0 ≤ (k : Int) ∧ (k : Int) < (D i).sc then (D i).B (k : Int) else -1) ∧ (if 0 ≤ (k : Int) ∧ (k : Int) < (D i).sc then (D i).B (k : Int) else -1) < 36000109 := by
                split
                · rename_i q; have := sg q.1 q.2; omega
                · omega
              refine e_i2l F dX3_digest_126 (⟨by have := sr.1; show -2147483648 ≤ (if 0 ≤ (k : Int) ∧ (k : Int) < (D i).sc then (D i).B (k : Int) else -1); omega, by have := sr.2; show (if 0 ≤ (k : Int) ∧ (k : Int) < (D i).sc then (D i).B (k : Int) else -1) < 2147483648; omega⟩) ?_
              refine e_ladd F dX3_digest_127 ?_
              refine e_lstore_n F dX3_digest_128 (by decide) ?_
              refine e_iinc F dX3_digest_129 rfl (by decide) ?_
              refine e_goto F 108 dX3_digest_132 (by decide) ?_
              refine e_wid (by omega) (e_go (ih (k + 1) w_123 (by omega) ⟨by omega, zC, gF.tr zF⟩) ?_)
              rw [q1]
              exact (And.intro rfl (And.intro rfl (And.intro rfl (And.intro rfl (trivial)))))
        have l2 : ∀ (N k : Nat) (wl : e_W), 8 - k < N → ((k : Int) ≤ ho wh ∧ CW wl x wh kn D ∧ FR w wl x) → e_V K P9 l E9 (8) (187) S9 M9 A9 B9 T9 C9 5 (fun r w' n' => r = some (.long (eJ (dgV wh kn D))) ∧ n' = n ∧ CW w' x wh kn D ∧ FR w w' x) (e_px0) 72 [(0, .ref x), (1, .long (eJ (dg2 wh (D i) (dgI wh kn D i) k))), (3, .int (eI (i : Int))), (4, .int (eI ((k : Int) + 1)))] [] wl n ((7 + 30 * i + 8 + 2 * k)) := by
          intro N
          induction N with
          | zero => intro k wl hN; exact absurd hN (Nat.not_lt_zero _)
          | succ N ih =>
            intro k wl hN ⟨hk, gC, gF⟩
            have gX := gC.1
            have gFO := gC.2.1
            refine e_iload F dX3_digest_72 rfl ?_
            refine e_aload_n F dX3_digest_74 rfl ?_
            refine e_get (ci := 3) (fi := 0) (q := (RX3, TX3, 5)) F (by first | assumption | exact e_up_s | (rw [e_up_n (by first | assumption | omega)]; first | assumption | exact e_up_s | (rw [e_up_n (by first | assumption | omega)]; first | assumption | exact e_up_s | (rw [e_up_n (by first | assumption | omega)]; first | assumption | exact e_up_s))) | exact hD.1 | exact hD1.1 | exact hD2.1 | exact gD.1 | exact gD1.1 | exact gD2.1 | exact gQ.1 | exact hQ.1 | exact gS.1 | exact hS.1 | exact zD.1) rfl (by decide) w_fl_RX3_10 (by rfl) dX3_digest_75 ?_
            refine e_getN (ci := 1) (fi := 4) (q := (RX1, TX1, 5)) F (by first | assumption | exact e_up_s | (rw [e_up_n (by first | assumption | omega)]; first | assumption | exact e_up_s | (rw [e_up_n (by first | assumption | omega)]; first | assumption | exact e_up_s | (rw [e_up_n (by first | assumption | omega)]; first | assumption | exact e_up_s))) | exact hD.1 | exact hD1.1 | exact hD2.1 | exact gD.1 | exact gD1.1 | exact gD2.1 | exact gQ.1 | exact hQ.1 | exact gS.1 | exact hS.1 | exact zD.1) rfl (by decide) w_fn_RX3_116 (by rfl) dX3_digest_78 ?_
            refine e_icmp_gt F 105 dX3_digest_81 (by decide) (⟨by omega, by omega⟩) (⟨by omega, by omega⟩) (fun c_81 => ?_) (fun c_81 => ?_)
            ·
              obtain rfl : k = (ho wh).toNat := by omega
              refine e_iconst F dX3_digest_105 ?_
              refine e_istore F dX3_digest_106 (by decide) ?_
              exact e_wid (by omega) (e_go (l3 9 0 wl (by omega) ⟨by omega, gC, gF⟩) (And.intro rfl (And.intro rfl (And.intro rfl (And.intro rfl (trivial))))))
            · refine e_lload_n F dX3_digest_84 rfl ?_
              refine e_ldc2 F dX3_digest_85 w_kl_RX3_274 ?_
              refine e_lmul F dX3_digest_88 ?_
              refine e_aload_n F dX3_digest_89 rfl ?_
              refine e_iload_n F dX3_digest_90 rfl ?_
              refine e_iload F dX3_digest_91 rfl ?_
              refine e_callVV F u_X3_share (by rfl) (c_X3_share gC (i := (i : Int)) (h := (k : Int) + 1) ⟨by omega, by omega⟩ ⟨by omega, by omega⟩) gX rfl rfl w_ml_RX3_282 dX3_digest_93 (by rfl) (Nat.le_of_ble_eq_true rfl) (by decide) (by omega) (fun _ _ _ h _ => by rcases h.1 with q | q <;> first | exact False.elim q.2 | (have q2 := q.2; omega)) (fun r_93 w_93 n_93 h_93 hn_93 => ?_)
              obtain ⟨_, rfl, en_93, zC, zF⟩ := h_93
              rw [en_93]
              have sr := (gC.2.2.2.2.2.1 i h6).1.2.2.2.2.2.2.1 ((k : Int) + 1) (by omega) (by omega)
              refine e_i2l F dX3_digest_96 (⟨by have := sr.1; show -2147483648 ≤ (D i).A ((k : Int) + 1); omega, by have := sr.2; show (D i).A ((k : Int) + 1) < 2147483648; omega⟩) ?_
              refine e_ladd F dX3_digest_97 ?_
              refine e_lstore_n F dX3_digest_98 (by decide) ?_
              refine e_iinc F dX3_digest_99 rfl (by decide) ?_
              refine e_goto F 72 dX3_digest_102 (by decide) ?_
              refine e_wid (by omega) (e_go (ih (k + 1) w_93 (by omega) ⟨by omega, zC, gF.tr zF⟩) ?_)
              exact (And.intro rfl (And.intro rfl (And.intro rfl (And.intro rfl (trivial)))))
        have l1 : ∀ (N k : Nat) (wl : e_W), 8 - k < N → (k ≤ 4 ∧ CW wl x wh kn D ∧ FR w wl x) → e_V K P9 l E9 (8) (187) S9 M9 A9 B9 T9 C9 5 (fun r w' n' => r = some (.long (eJ (dgV wh kn D))) ∧ n' = n ∧ CW w' x wh kn D ∧ FR w w' x) (e_px0) 42 [(0, .ref x), (1, .long (eJ (dg1 wh (D i) (dgI wh kn D i) k))), (3, .int (eI (i : Int))), (4, .int (eI (k : Int)))] [] wl n ((7 + 30 * i + 2 * k)) := by
          intro N
          induction N with
          | zero => intro k wl hN; exact absurd hN (Nat.not_lt_zero _)
          | succ N ih =>
            intro k wl hN ⟨hk, gC, gF⟩
            have gX := gC.1
            have gFO := gC.2.1
            refine e_iload F dX3_digest_42 rfl ?_
            refine e_iconst F dX3_digest_44 ?_
            refine e_icmp_gt F 69 dX3_digest_45 (by decide) (⟨by omega, by omega⟩) (⟨by omega, by omega⟩) (fun c_45 => ?_) (fun c_45 => ?_)
            ·
              obtain rfl : k = 4 := by omega
              refine e_iconst F dX3_digest_69 ?_
              refine e_istore F dX3_digest_70 (by decide) ?_
              exact e_wid (by omega) (e_go (l2 9 0 wl (by omega) ⟨by omega, gC, gF⟩) (And.intro rfl (And.intro rfl (And.intro rfl (And.intro rfl (trivial))))))
            · refine e_lload_n F dX3_digest_48 rfl ?_
              refine e_ldc2 F dX3_digest_49 w_kl_RX3_274 ?_
              refine e_lmul F dX3_digest_52 ?_
              refine e_aload_n F dX3_digest_53 rfl ?_
              refine e_iload_n F dX3_digest_54 rfl ?_
              refine e_iload F dX3_digest_55 rfl ?_
              refine e_callVV F u_X3_ofDeal (by rfl) (c_X3_ofDeal gC (i9 := (i : Int)) (c9 := (k : Int)) ⟨by omega, by omega⟩ ⟨by omega, by omega⟩) gX rfl rfl w_ml_RX3_279 dX3_digest_57 (by rfl) (Nat.le_of_ble_eq_true rfl) (by decide) (by omega) (fun _ _ _ h _ => by rcases h.1 with q | q <;> first | exact False.elim q.2 | (have q2 := q.2; omega)) (fun r_57 w_57 n_57 h_57 hn_57 => ?_)
              obtain ⟨_, rfl, en_57, zC, zF⟩ := h_57
              rw [en_57]
              have sr := odV_rg hwh (gC.2.2.2.2.2.1 i h6).1 (k : Int)
              refine e_i2l F dX3_digest_60 (⟨by have := sr.1; show -2147483648 ≤ odV wh (D i) (k : Int); omega, by have := sr.2; show odV wh (D i) (k : Int) < 2147483648; omega⟩) ?_
              refine e_ladd F dX3_digest_61 ?_
              refine e_lstore_n F dX3_digest_62 (by decide) ?_
              refine e_iinc F dX3_digest_63 rfl (by decide) ?_
              refine e_goto F 42 dX3_digest_66 (by decide) ?_
              refine e_wid (by omega) (e_go (ih (k + 1) w_57 (by omega) ⟨by omega, zC, gF.tr zF⟩) ?_)
              exact (And.intro rfl (And.intro rfl (And.intro rfl (And.intro rfl (trivial)))))
        refine e_iload_n F dX3_digest_33 rfl ?_
        refine e_bipush F dX3_digest_34 (by decide) ?_
        refine e_icmp_ge F 141 dX3_digest_36 (by decide) (⟨by omega, by omega⟩) (⟨by omega, by omega⟩) (fun c_36 => ?_) (fun c_36 => ?_)
        · exact absurd c_36 (by omega)
        · refine e_iconst F dX3_digest_39 ?_
          refine e_istore F dX3_digest_40 (by decide) ?_
          exact e_wid (by omega) (e_go (l1 9 0 wl0 (by omega) ⟨by omega, gC0, gF0⟩) (And.intro rfl (And.intro rfl (And.intro rfl (And.intro rfl (trivial))))))
      · obtain rfl : i = 6 := by omega
        refine e_iload_n F dX3_digest_33 rfl ?_
        refine e_bipush F dX3_digest_34 (by decide) ?_
        refine e_icmp_ge F 141 dX3_digest_36 (by decide) (⟨by omega, by omega⟩) (⟨by omega, by omega⟩) (fun c_36 => ?_) (fun c_36 => ?_)
        · refine e_lload_n F dX3_digest_141 rfl ?_
          refine e_ldc2 F dX3_digest_142 w_kl_RX3_274 ?_
          refine e_lmul F dX3_digest_145 ?_
          refine e_aload_n F dX3_digest_146 rfl ?_
          refine e_callVV F u_X3_isSound (by rfl) (c_X3_isSound gC0) gX0 rfl rfl w_ml_RX3_288 dX3_digest_147 (by rfl) (Nat.le_of_ble_eq_true rfl) (by decide) (by omega) (fun _ _ _ h _ => False.elim h) (fun r_147 w_147 n_147 h_147 hn_147 => ?_)
          obtain ⟨rfl, en_147, zC, zF⟩ := h_147
          rw [en_147]
          refine e_if_eq F 157 dX3_digest_150 (by decide) (b01_r _) (fun c_150 => ?_) (fun c_150 => ?_)
          ·
            have e5 : snV wh D = 0 := c_150
            refine e_iconst F dX3_digest_157 ?_
            refine e_i2l F dX3_digest_158 (by decide) ?_
            refine e_ladd F dX3_digest_159 ?_
            refine e_lret F rfl (by omega) ?_ dX3_digest_160
            refine ⟨?_, rfl, zC, gF0.tr zF⟩
            show _ = some (Value.long (eJ (dgI wh kn D 6 * 31 + snV wh D)))
            rw [e5]
          ·
            have e5 : snV wh D = 1 := (b01_or (tl wh (fl wh) (fun _ => 1) 0 = 1 ∧ fss wh D 6 = true)).resolve_left c_150
            refine e_iconst F dX3_digest_153 ?_
            refine e_goto F 158 dX3_digest_154 (by decide) ?_
            refine e_i2l F dX3_digest_158 (by decide) ?_
            refine e_ladd F dX3_digest_159 ?_
            refine e_lret F rfl (by omega) ?_ dX3_digest_160
            refine ⟨?_, rfl, zC, gF0.tr zF⟩
            show _ = some (Value.long (eJ (dgI wh kn D 6 * 31 + snV wh D)))
            rw [e5]
        · exact absurd c_36 (by omega)
  have lh : ∀ (N k : Nat) (wl : e_W), 8 - k < N → (k ≤ 7 ∧ CW wl x wh kn D ∧ FR w wl x) → e_V K P9 l E9 (8) (187) S9 M9 A9 B9 T9 C9 5 (fun r w' n' => r = some (.long (eJ (dgV wh kn D))) ∧ n' = n ∧ CW w' x wh kn D ∧ FR w w' x) (e_px0) 6 [(0, .ref x), (1, .long (eJ (itF (fun c => hsV wh kn D c) 7977 k))), (3, .int (eI (k : Int)))] [] wl n ((k)) := by
    intro N
    induction N with
    | zero => intro k wl hN; exact absurd hN (Nat.not_lt_zero _)
    | succ N ih =>
      intro k wl hN ⟨hk, gC, gF⟩
      have gX := gC.1
      refine e_iload_n F dX3_digest_6 rfl ?_
      refine e_bipush F dX3_digest_7 (by decide) ?_
      refine e_icmp_gt F 31 dX3_digest_9 (by decide) (⟨by omega, by omega⟩) (⟨by omega, by omega⟩) (fun c_9 => ?_) (fun c_9 => ?_)
      ·
        obtain rfl : k = 7 := by omega
        refine e_iconst F dX3_digest_31 ?_
        refine e_istore_n F dX3_digest_32 (by decide) ?_
        exact e_wid (by omega) (e_go (lo 7 0 wl (by omega) ⟨by omega, gC, gF⟩) (And.intro rfl (And.intro rfl (And.intro rfl (trivial)))))
      · refine e_lload_n F dX3_digest_12 rfl ?_
        refine e_ldc2 F dX3_digest_13 w_kl_RX3_274 ?_
        refine e_lmul F dX3_digest_16 ?_
        refine e_aload_n F dX3_digest_17 rfl ?_
        refine e_iload_n F dX3_digest_18 rfl ?_
        refine e_callVV F u_X3_house (by rfl) (c_X3_house gC (c9 := (k : Int)) ⟨by omega, by omega⟩) gX rfl rfl w_ml_RX3_276 dX3_digest_19 (by rfl) (Nat.le_of_ble_eq_true rfl) (by decide) (by omega) (fun _ _ _ h _ => by rcases h.1 with q | q <;> first | exact False.elim q.2 | (have q2 := q.2; omega)) (fun r_19 w_19 n_19 h_19 hn_19 => ?_)
        obtain ⟨_, rfl, en_19, zC, zF⟩ := h_19
        rw [en_19]
        have sr := hsV_rg hwh hkn (D := D) (k : Int)
        refine e_i2l F dX3_digest_22 (⟨sr.1, sr.2⟩) ?_
        refine e_ladd F dX3_digest_23 ?_
        refine e_lstore_n F dX3_digest_24 (by decide) ?_
        refine e_iinc F dX3_digest_25 rfl (by decide) ?_
        refine e_goto F 6 dX3_digest_28 (by decide) ?_
        refine e_wid (by omega) (e_go (ih (k + 1) w_19 (by omega) ⟨by omega, zC, gF.tr zF⟩) ?_)
        exact (And.intro rfl (And.intro rfl (And.intro rfl (trivial))))
  refine e_ldc2 F dX3_digest_0 w_kl_RX3_272 ?_
  refine e_lstore_n F dX3_digest_3 (by decide) ?_
  refine e_iconst F dX3_digest_4 ?_
  refine e_istore_n F dX3_digest_5 (by decide) ?_
  exact e_go (lh 9 0 w (by omega) ⟨by omega, hC0, FR.rf⟩) (And.intro rfl (And.intro rfl (And.intro rfl (trivial))))
