/-! Secretshares: what is asked of all -/
set_option maxHeartbeats 4000000 in
set_option maxRecDepth 100000 in
theorem c_X3_ofDeal {K : e_K} {l : Launch} {w : e_W} {n : Nat} {x wh : Nat} {kn : Int} {D : Nat → SD} (hC : CW w x wh kn D) {i9 : Int} (hi9 : e_r i9) {c9 : Int} (hc9 : e_r c9) : e_Met K l yX3_ofDeal (Cond.code yX3_ofDeal cX3_ofDeal 5 (Option.some .int) :: e_TB) (7) (2) [.ref x, .int (eI i9), .int (eI c9)] w n (fun r w' n' => ((0 ≤ i9 ∧ i9 < 6) ∧ (0 ≤ c9 ∧ c9 ≤ 5)) ∧ r = some (.int (eI (odV wh (D i9.toNat) c9))) ∧ n' = n ∧ CW w' x wh (kn) (D) ∧ FR w w' x) (pxd w (¬ (0 ≤ i9 ∧ i9 < 6)) ((0 ≤ i9 ∧ i9 < 6) ∧ ¬ (0 ≤ c9 ∧ c9 ≤ 5))) := by
  refine e_ofV rfl (Nat.le_of_ble_eq_true rfl) ?_
  intro P9 E9 S9 M9 A9 B9 T9 C9 F hnm
  have hC0 := hC
  have hDA := hC.2.2.2.2.1
  obtain ⟨hX, hF, hwh, ⟨P0, hQ⟩, ⟨ga, hga, hgj⟩, hDs, s0, hS⟩ := hC
  have hp := pr_rg wh hwh
  have ho9 := ho_rg wh hwh
  have hg9 := gr_rg wh hwh
  have hf9 := fl_rg wh hwh
  refine e_aload_n F dX3_ofDeal_0 rfl ?_
  refine e_iload_n F dX3_ofDeal_1 rfl ?_
  refine e_callVV F u_X3_dealAt (by rfl) (c_X3_dealAt hX hDA (i := i9) hi9) hX rfl rfl w_ml_RX3_94 dX3_ofDeal_2 (by rfl) (Nat.le_of_ble_eq_true rfl) (by decide) (by omega) (fun E w2 n2 h _ => ⟨Or.inl ⟨h.1, by have q := h.2.1; omega⟩, h.2.2⟩) (fun r_2 w_2 n_2 h_2 hn_2 => ?_)
  obtain ⟨hi1, rfl, ew_2, en_2⟩ := h_2
  rw [ew_2, en_2]
  obtain ⟨hD1, hW1⟩ := hDs i9.toNat (by omega)
  refine e_astore_n F dX3_ofDeal_5 (by decide) ?_
  refine e_iload_n F dX3_ofDeal_6 rfl ?_
  rcases (show c9 = 0 ∨ c9 = 1 ∨ c9 = 2 ∨ c9 = 3 ∨ c9 = 4 ∨ c9 = 5 ∨ (c9 < 0 ∨ 5 < c9) by omega) with rfl | rfl | rfl | rfl | rfl | rfl | ho
  · refine e_tabIn F 44 dX3_ofDeal_7 (by decide) (by decide) (by decide) (by rfl) (by decide) ?_
    refine e_aload_n F dX3_ofDeal_44 rfl ?_
    refine e_callVN F u_X0_isEmpty (by rfl) (c_X0_isEmpty hD1) (by first | assumption | exact e_up_s | (rw [e_up_n (by first | assumption | omega)]; first | assumption | exact e_up_s | (rw [e_up_n (by first | assumption | omega)]; first | assumption | exact e_up_s | (rw [e_up_n (by first | assumption | omega)]; first | assumption | exact e_up_s))) | exact hD.1 | exact hD1.1 | exact hD2.1 | exact gD.1 | exact gD1.1 | exact gD2.1 | exact gQ.1 | exact hQ.1 | exact gS.1 | exact hS.1 | exact zD.1) rfl rfl w_mn_RX3_109 dX3_ofDeal_45 (by rfl) (Nat.le_of_ble_eq_true rfl) (by decide) (by omega) (fun _ _ _ h _ => False.elim h) (fun r_45 w_45 n_45 h_45 hn_45 => ?_)
    obtain ⟨rfl, ew_45, en_45⟩ := h_45
    rw [ew_45, en_45]
    refine e_if_eq F 55 dX3_ofDeal_48 (by decide) (b01_r _) (fun c_48 => ?_) (fun c_48 => ?_)
    ·
      rw [b01_0] at c_48
      refine e_aload_n F dX3_ofDeal_55 rfl ?_
      refine e_getN (ci := 0) (fi := 1) (q := (RX0, TX0, 5)) F (by first | assumption | exact e_up_s | (rw [e_up_n (by first | assumption | omega)]; first | assumption | exact e_up_s | (rw [e_up_n (by first | assumption | omega)]; first | assumption | exact e_up_s | (rw [e_up_n (by first | assumption | omega)]; first | assumption | exact e_up_s))) | exact hD.1 | exact hD1.1 | exact hD2.1 | exact gD.1 | exact gD1.1 | exact gD2.1 | exact gQ.1 | exact hQ.1 | exact gS.1 | exact hS.1 | exact zD.1) rfl (by decide) w_fn_RX3_113 (by rfl) dX3_ofDeal_56 ?_
      refine e_iret F rfl (by omega) ?_ dX3_ofDeal_59
      refine ⟨⟨hi1, by decide⟩, ?_, rfl, hC0, FR.rf⟩
      show some (Value.int _) = some (Value.int (eI (if (D i9.toNat).fl = 0 then -1 else (D i9.toNat).dg)))
      first | rw [if_pos c_48] | rw [if_neg c_48]
    ·
      rw [b01_0, Classical.not_not] at c_48
      refine e_iconst F dX3_ofDeal_51 ?_
      refine e_goto F 59 dX3_ofDeal_52 (by decide) ?_
      refine e_iret F rfl (by omega) ?_ dX3_ofDeal_59
      refine ⟨⟨hi1, by decide⟩, ?_, rfl, hC0, FR.rf⟩
      show some (Value.int _) = some (Value.int (eI (if (D i9.toNat).fl = 0 then -1 else (D i9.toNat).dg)))
      first | rw [if_pos c_48] | rw [if_neg c_48]
  · refine e_tabIn F 60 dX3_ofDeal_7 (by decide) (by decide) (by decide) (by rfl) (by decide) ?_
    refine e_aload_n F dX3_ofDeal_60 rfl ?_
    refine e_callVN F u_X0_shareCount (by rfl) (c_X0_shareCount hD1) (by first | assumption | exact e_up_s | (rw [e_up_n (by first | assumption | omega)]; first | assumption | exact e_up_s | (rw [e_up_n (by first | assumption | omega)]; first | assumption | exact e_up_s | (rw [e_up_n (by first | assumption | omega)]; first | assumption | exact e_up_s))) | exact hD.1 | exact hD1.1 | exact hD2.1 | exact gD.1 | exact gD1.1 | exact gD2.1 | exact gQ.1 | exact hQ.1 | exact gS.1 | exact hS.1 | exact zD.1) rfl rfl w_mn_RX3_149 dX3_ofDeal_61 (by rfl) (Nat.le_of_ble_eq_true rfl) (by decide) (by omega) (fun _ _ _ h _ => False.elim h) (fun r_61 w_61 n_61 h_61 hn_61 => ?_)
    obtain ⟨rfl, ew_61, en_61⟩ := h_61
    rw [ew_61, en_61]
    refine e_iret F rfl (by omega) ?_ dX3_ofDeal_64
    exact ⟨⟨hi1, by decide⟩, rfl, rfl, hC0, FR.rf⟩
  · refine e_tabIn F 65 dX3_ofDeal_7 (by decide) (by decide) (by decide) (by rfl) (by decide) ?_
    refine e_aload_n F dX3_ofDeal_65 rfl ?_
    refine e_callVN F u_X0_holderSet (by rfl) (c_X0_holderSet hD1) (by first | assumption | exact e_up_s | (rw [e_up_n (by first | assumption | omega)]; first | assumption | exact e_up_s | (rw [e_up_n (by first | assumption | omega)]; first | assumption | exact e_up_s | (rw [e_up_n (by first | assumption | omega)]; first | assumption | exact e_up_s))) | exact hD.1 | exact hD1.1 | exact hD2.1 | exact gD.1 | exact gD1.1 | exact gD2.1 | exact gQ.1 | exact hQ.1 | exact gS.1 | exact hS.1 | exact zD.1) rfl rfl w_mn_RX3_185 dX3_ofDeal_66 (by rfl) (Nat.le_of_ble_eq_true rfl) (by decide) (by omega) (fun _ _ _ h _ => False.elim h) (fun r_66 w_66 n_66 h_66 hn_66 => ?_)
    obtain ⟨rfl, ew_66, en_66⟩ := h_66
    rw [ew_66, en_66]
    refine e_iret F rfl (by omega) ?_ dX3_ofDeal_69
    exact ⟨⟨hi1, by decide⟩, rfl, rfl, hC0, FR.rf⟩
  · refine e_tabIn F 70 dX3_ofDeal_7 (by decide) (by decide) (by decide) (by rfl) (by decide) ?_
    refine e_aload_n F dX3_ofDeal_70 rfl ?_
    refine e_callVN F u_X0_hasSeals (by rfl) (c_X0_hasSeals hD1) (by first | assumption | exact e_up_s | (rw [e_up_n (by first | assumption | omega)]; first | assumption | exact e_up_s | (rw [e_up_n (by first | assumption | omega)]; first | assumption | exact e_up_s | (rw [e_up_n (by first | assumption | omega)]; first | assumption | exact e_up_s))) | exact hD.1 | exact hD1.1 | exact hD2.1 | exact gD.1 | exact gD1.1 | exact gD2.1 | exact gQ.1 | exact hQ.1 | exact gS.1 | exact hS.1 | exact zD.1) rfl rfl w_mn_RX3_195 dX3_ofDeal_71 (by rfl) (Nat.le_of_ble_eq_true rfl) (by decide) (by omega) (fun _ _ _ h _ => False.elim h) (fun r_71 w_71 n_71 h_71 hn_71 => ?_)
    obtain ⟨rfl, ew_71, en_71⟩ := h_71
    rw [ew_71, en_71]
    refine e_if_eq F 81 dX3_ofDeal_74 (by decide) (b01_r _) (fun c_74 => ?_) (fun c_74 => ?_)
    ·
      rw [b01_0] at c_74
      refine e_iconst F dX3_ofDeal_81 ?_
      refine e_iret F rfl (by omega) ?_ dX3_ofDeal_82
      refine ⟨⟨hi1, by decide⟩, ?_, rfl, hC0, FR.rf⟩
      show some (Value.int _) = some (Value.int (eI (b01 (0 < (D i9.toNat).sc))))
      first | rw [b01_t c_74] | rw [b01_f c_74]
    ·
      rw [b01_0, Classical.not_not] at c_74
      refine e_iconst F dX3_ofDeal_77 ?_
      refine e_goto F 82 dX3_ofDeal_78 (by decide) ?_
      refine e_iret F rfl (by omega) ?_ dX3_ofDeal_82
      refine ⟨⟨hi1, by decide⟩, ?_, rfl, hC0, FR.rf⟩
      show some (Value.int _) = some (Value.int (eI (b01 (0 < (D i9.toNat).sc))))
      first | rw [b01_t c_74] | rw [b01_f c_74]
  · refine e_tabIn F 83 dX3_ofDeal_7 (by decide) (by decide) (by decide) (by rfl) (by decide) ?_
    refine e_aload_n F dX3_ofDeal_83 rfl ?_
    refine e_aload_n F dX3_ofDeal_84 rfl ?_
    refine e_aload_n F dX3_ofDeal_85 rfl ?_
    refine e_callVN F u_X0_holderSet (by rfl) (c_X0_holderSet hD1) (by first | assumption | exact e_up_s | (rw [e_up_n (by first | assumption | omega)]; first | assumption | exact e_up_s | (rw [e_up_n (by first | assumption | omega)]; first | assumption | exact e_up_s | (rw [e_up_n (by first | assumption | omega)]; first | assumption | exact e_up_s))) | exact hD.1 | exact hD1.1 | exact hD2.1 | exact gD.1 | exact gD1.1 | exact gD2.1 | exact gQ.1 | exact hQ.1 | exact gS.1 | exact hS.1 | exact zD.1) rfl rfl w_mn_RX3_185 dX3_ofDeal_86 (by rfl) (Nat.le_of_ble_eq_true rfl) (by decide) (by omega) (fun _ _ _ h _ => False.elim h) (fun r_86 w_86 n_86 h_86 hn_86 => ?_)
    obtain ⟨rfl, ew_86, en_86⟩ := h_86
    rw [ew_86, en_86]
    have hst := st7_rg (D i9.toNat).A
    refine e_callVV F u_X3_isInLine (by rfl) (c_X3_isInLine hX hF hwh hQ hD1 (by omega) (set := st7 (D i9.toNat).A) (by omega) (by omega)) hX rfl rfl w_ml_RX3_198 dX3_ofDeal_89 (by rfl) (Nat.le_of_ble_eq_true rfl) (by decide) (by omega) (fun _ _ _ h _ => False.elim h) (fun r_89 w_89 n_89 h_89 hn_89 => ?_)
    obtain ⟨rfl, en_89, gP⟩ := h_89
    rw [en_89]
    have hres := hC0.px gP
    refine e_if_eq F 99 dX3_ofDeal_92 (by decide) (b01_r _) (fun c_92 => ?_) (fun c_92 => ?_)
    ·
      rw [b01_0] at c_92
      refine e_iconst F dX3_ofDeal_99 ?_
      refine e_iret F rfl (by omega) ?_ dX3_ofDeal_100
      refine ⟨⟨hi1, by decide⟩, ?_, rfl, hres⟩
      show some (Value.int _) = some (Value.int (eI (b01 (il wh (st7 (D i9.toNat).A) (D i9.toNat).A (D i9.toNat).fl (D i9.toNat).dg))))
      first | rw [b01_t c_92] | rw [b01_f c_92]
    ·
      rw [b01_0, Classical.not_not] at c_92
      refine e_iconst F dX3_ofDeal_95 ?_
      refine e_goto F 100 dX3_ofDeal_96 (by decide) ?_
      refine e_iret F rfl (by omega) ?_ dX3_ofDeal_100
      refine ⟨⟨hi1, by decide⟩, ?_, rfl, hres⟩
      show some (Value.int _) = some (Value.int (eI (b01 (il wh (st7 (D i9.toNat).A) (D i9.toNat).A (D i9.toNat).fl (D i9.toNat).dg))))
      first | rw [b01_t c_92] | rw [b01_f c_92]
  · refine e_tabIn F 101 dX3_ofDeal_7 (by decide) (by decide) (by decide) (by rfl) (by decide) ?_
    refine e_aload_n F dX3_ofDeal_101 rfl ?_
    refine e_callVN F u_X0_firstSet (by rfl) (c_X0_firstSet hD1) (by first | assumption | exact e_up_s | (rw [e_up_n (by first | assumption | omega)]; first | assumption | exact e_up_s | (rw [e_up_n (by first | assumption | omega)]; first | assumption | exact e_up_s | (rw [e_up_n (by first | assumption | omega)]; first | assumption | exact e_up_s))) | exact hD.1 | exact hD1.1 | exact hD2.1 | exact gD.1 | exact gD1.1 | exact gD2.1 | exact gQ.1 | exact hQ.1 | exact gS.1 | exact hS.1 | exact zD.1) rfl rfl w_mn_RX3_202 dX3_ofDeal_102 (by rfl) (Nat.le_of_ble_eq_true rfl) (by decide) (by omega) (fun _ _ _ h _ => False.elim h) (fun r_102 w_102 n_102 h_102 hn_102 => ?_)
    obtain ⟨rfl, ew_102, en_102⟩ := h_102
    rw [ew_102, en_102]
    have hf7 := fs7_rg (A := (D i9.toNat).A) hD1.2.2.2.2.1.1
    refine e_istore F dX3_ofDeal_105 (by decide) ?_
    refine e_iload F dX3_ofDeal_107 rfl ?_
    refine e_if_ne F 116 dX3_ofDeal_109 (by decide) (⟨by omega, by omega⟩) (fun c_109 => ?_) (fun c_109 => ?_)
    · refine e_aload_n F dX3_ofDeal_116 rfl ?_
      refine e_aload_n F dX3_ofDeal_117 rfl ?_
      refine e_iload F dX3_ofDeal_118 rfl ?_
      refine e_iconst F dX3_ofDeal_120 ?_
      refine e_callVV F u_X3_tell (by rfl) (c_X3_tell hX hF hwh hD1 (set := fs7 (D i9.toNat).A (D i9.toNat).dg) (pl := 0) (by omega) (by omega) (by decide)) hX rfl rfl w_ml_RX3_178 dX3_ofDeal_121 (by rfl) (Nat.le_of_ble_eq_true rfl) (by decide) (by omega) (fun _ _ _ h _ => False.elim h) (fun r_121 w_121 n_121 h_121 hn_121 => ?_)
      obtain ⟨rfl, ew_121, en_121⟩ := h_121
      rw [ew_121, en_121]
      refine e_iret F rfl (by omega) ?_ dX3_ofDeal_124
      refine ⟨⟨hi1, by decide⟩, ?_, rfl, hC0, FR.rf⟩
      show some (Value.int _) = some (Value.int (eI (if fs7 (D i9.toNat).A (D i9.toNat).dg = 0 then -1 else tl wh (fs7 (D i9.toNat).A (D i9.toNat).dg) (D i9.toNat).A 0)))
      first | rw [if_neg c_109] | rw [if_pos (by omega)]
    · refine e_iconst F dX3_ofDeal_112 ?_
      refine e_goto F 124 dX3_ofDeal_113 (by decide) ?_
      refine e_iret F rfl (by omega) ?_ dX3_ofDeal_124
      refine ⟨⟨hi1, by decide⟩, ?_, rfl, hC0, FR.rf⟩
      show some (Value.int _) = some (Value.int (eI (if fs7 (D i9.toNat).A (D i9.toNat).dg = 0 then -1 else tl wh (fs7 (D i9.toNat).A (D i9.toNat).dg) (D i9.toNat).A 0)))
      first | rw [if_neg c_109] | rw [if_pos (by omega)]
  · refine e_tabOut F 125 dX3_ofDeal_7 hc9 ho (by decide) ?_
    exact e_throwS (text := "what is not 0 to 5") F (by decide +kernel) w_cl_RX3_42 w_in_java_lang_IllegalArgumentException (by decide +kernel) hat_ia hgood_ia dX3_ofDeal_125 dX3_ofDeal_128 dX3_ofDeal_129 dX3_ofDeal_131 dX3_ofDeal_134 (Nat.le_of_ble_eq_true rfl) (by decide) (by omega) (fun n2 hn2 => ⟨Or.inr ⟨rfl, hi1, by omega⟩, rfl⟩)
set_option maxHeartbeats 4000000 in
set_option maxRecDepth 100000 in
theorem c_X3_ways {K : e_K} {l : Launch} {w : e_W} {n : Nat} {x wh : Nat} {kn : Int} {D : Nat → SD} (hC : CW w x wh kn D) {i9 : Int} (hi9 : e_r i9) {a9 : Int} (ha9 : e_r a9) {c9 : Int} (hc9 : e_r c9) : e_Met K l yX3_ways (Cond.code yX3_ways cX3_ways 6 (Option.some .int) :: e_TB) (7) (2) [.ref x, .int (eI i9), .int (eI a9), .int (eI c9)] w n (fun r w' n' => ((0 ≤ i9 ∧ i9 < 6) ∧ (1 ≤ a9 ∧ a9 ≤ fl wh)) ∧ r = some (.int (eI (wyV wh (D i9.toNat) a9 c9))) ∧ n' = n ∧ CW w' x wh (kn) (D) ∧ FR w w' x) (pxd w (¬ (0 ≤ i9 ∧ i9 < 6)) ((0 ≤ i9 ∧ i9 < 6) ∧ ¬ (1 ≤ a9 ∧ a9 ≤ fl wh))) := by
  refine e_ofV rfl (Nat.le_of_ble_eq_true rfl) ?_
  intro P9 E9 S9 M9 A9 B9 T9 C9 F hnm
  have hC0 := hC
  have hDA := hC.2.2.2.2.1
  obtain ⟨hX, hF, hwh, ⟨P0, hQ⟩, ⟨ga, hga, hgj⟩, hDs, s0, hS⟩ := hC
  have hp := pr_rg wh hwh
  have ho9 := ho_rg wh hwh
  have hg9 := gr_rg wh hwh
  have hf9 := fl_rg wh hwh
  refine e_aload_n F dX3_ways_0 rfl ?_
  refine e_iload_n F dX3_ways_1 rfl ?_
  refine e_callVV F u_X3_dealAt (by rfl) (c_X3_dealAt hX hDA (i := i9) hi9) hX rfl rfl w_ml_RX3_94 dX3_ways_2 (by rfl) (Nat.le_of_ble_eq_true rfl) (by decide) (by omega) (fun E w2 n2 h _ => ⟨Or.inl ⟨h.1, by have q := h.2.1; omega⟩, h.2.2⟩) (fun r_2 w_2 n_2 h_2 hn_2 => ?_)
  obtain ⟨hi1, rfl, ew_2, en_2⟩ := h_2
  rw [ew_2, en_2]
  obtain ⟨hD1, hW1⟩ := hDs i9.toNat (by omega)
  refine e_astore F dX3_ways_5 (by decide) ?_
  refine e_aload_n F dX3_ways_7 rfl ?_
  refine e_iload_n F dX3_ways_8 rfl ?_
  refine e_callVV F u_X3_requireSet (by rfl) (c_X3_requireSet hX hF hwh (s9 := a9) ha9) hX rfl rfl w_ml_RX3_80 dX3_ways_9 (by rfl) (Nat.le_of_ble_eq_true rfl) (by decide) (by omega) (fun E w2 n2 h _ => ⟨Or.inr ⟨h.1, by have q := h.2.1; omega⟩, h.2.2⟩) (fun r_9 w_9 n_9 h_9 hn_9 => ?_)
  obtain ⟨hrs, rfl, ew_9, en_9⟩ := h_9
  rw [ew_9, en_9]
  refine e_aload F dX3_ways_12 rfl ?_
  refine e_iload_n F dX3_ways_14 rfl ?_
  refine e_callVN F u_X0_isThere (by rfl) (c_X0_isThere hD1 (set := a9) (by omega) (by omega)) (by first | assumption | exact e_up_s | (rw [e_up_n (by first | assumption | omega)]; first | assumption | exact e_up_s | (rw [e_up_n (by first | assumption | omega)]; first | assumption | exact e_up_s | (rw [e_up_n (by first | assumption | omega)]; first | assumption | exact e_up_s))) | exact hD.1 | exact hD1.1 | exact hD2.1 | exact gD.1 | exact gD1.1 | exact gD2.1 | exact gQ.1 | exact hQ.1 | exact gS.1 | exact hS.1 | exact zD.1) rfl rfl w_mn_RX3_207 dX3_ways_15 (by rfl) (Nat.le_of_ble_eq_true rfl) (by decide) (by omega) (fun _ _ _ h _ => False.elim h) (fun r_15 w_15 n_15 h_15 hn_15 => ?_)
  obtain ⟨rfl, ew_15, en_15⟩ := h_15
  rw [ew_15, en_15]
  have hdg := hD1.2.2.2.2.1
  obtain ⟨k9, hk9⟩ : ∃ k : Nat, a9 = (k : Int) := ⟨a9.toNat, by omega⟩
  have hbc : 0 ≤ bc a9 ∧ bc a9 ≤ 7 := by unfold bc; omega
  refine e_if_eq F 35 dX3_ways_18 (by decide) (b01_r _) (fun c_18 => ?_) (fun c_18 => ?_)
  ·
    rw [b01_0] at c_18
    refine e_bipush F dX3_ways_35 (by decide) ?_
    refine e_iret F rfl (by omega) ?_ dX3_ways_37
    refine ⟨⟨hi1, hrs⟩, ?_, rfl, hC0, FR.rf⟩
    unfold wyV
    rw [if_neg (fun q => by first | exact c_18 q.1 | (have q2 := q.2; omega))]
  ·
    rw [b01_0, Classical.not_not] at c_18
    refine e_aload_n F dX3_ways_21 rfl ?_
    refine e_aload F dX3_ways_22 rfl ?_
    refine e_getN (ci := 0) (fi := 1) (q := (RX0, TX0, 5)) F (by first | assumption | exact e_up_s | (rw [e_up_n (by first | assumption | omega)]; first | assumption | exact e_up_s | (rw [e_up_n (by first | assumption | omega)]; first | assumption | exact e_up_s | (rw [e_up_n (by first | assumption | omega)]; first | assumption | exact e_up_s))) | exact hD.1 | exact hD1.1 | exact hD2.1 | exact gD.1 | exact gD1.1 | exact gD2.1 | exact gQ.1 | exact hQ.1 | exact gS.1 | exact hS.1 | exact zD.1) rfl (by decide) w_fn_RX3_113 (by rfl) dX3_ways_24 ?_
    refine e_callVV F u_X3_polysBeyond (by rfl) (c_X3_polysBeyond hX hF hwh (e9 := (D i9.toNat).dg) (by omega) (by omega)) hX rfl rfl w_ml_RX3_223 dX3_ways_27 (by rfl) (Nat.le_of_ble_eq_true rfl) (by decide) (by omega) (fun _ _ _ h _ => False.elim h) (fun r_27 w_27 n_27 h_27 hn_27 => ?_)
    obtain ⟨rfl, ew_27, en_27⟩ := h_27
    rw [ew_27, en_27]
    have hpb := pbK_rg (p := pr wh) (by omega) (by omega) (D i9.toNat).dg.toNat
    refine e_bipush F dX3_ways_30 (by decide) ?_
    refine e_icmp_le F 38 dX3_ways_32 (by decide) (⟨by omega, by omega⟩) (⟨by omega, by omega⟩) (fun c_32 => ?_) (fun c_32 => ?_)
    · refine e_aload F dX3_ways_38 rfl ?_
      refine e_getN (ci := 0) (fi := 1) (q := (RX0, TX0, 5)) F (by first | assumption | exact e_up_s | (rw [e_up_n (by first | assumption | omega)]; first | assumption | exact e_up_s | (rw [e_up_n (by first | assumption | omega)]; first | assumption | exact e_up_s | (rw [e_up_n (by first | assumption | omega)]; first | assumption | exact e_up_s))) | exact hD.1 | exact hD1.1 | exact hD2.1 | exact gD.1 | exact gD1.1 | exact gD2.1 | exact gQ.1 | exact hQ.1 | exact gS.1 | exact hS.1 | exact zD.1) rfl (by decide) w_fn_RX3_113 (by rfl) dX3_ways_40 ?_
      refine e_iload_n F dX3_ways_43 rfl ?_
      rw [hk9]
      refine e_callSS F u_J6_bitCount_0f7a4 (by rfl) (c_J6_bitCount_0f7a4 (k := k9) (by omega)) w_ml_RX3_226 dX3_ways_44 (by rfl) (Nat.le_of_ble_eq_true rfl) (by decide) (by omega) (fun _ _ _ h _ => False.elim h) (fun r_44 w_44 n_44 h_44 hn_44 => ?_)
      obtain ⟨rfl, ew_44, en_44⟩ := h_44
      rw [ew_44, en_44, ← hk9]
      refine e_isub F dX3_ways_47 ?_
      refine e_istore F dX3_ways_48 (by decide) ?_
      refine e_iload F dX3_ways_50 rfl ?_
      refine e_if_lt F 62 dX3_ways_52 (by decide) (⟨by omega, by omega⟩) (fun c_52 => ?_) (fun c_52 => ?_)
      · refine e_aload_n F dX3_ways_62 rfl ?_
        refine e_aload F dX3_ways_63 rfl ?_
        refine e_iload_n F dX3_ways_65 rfl ?_
        refine e_callVV F u_X3_isInLine (by rfl) (c_X3_isInLine hX hF hwh hQ hD1 (by omega) (set := a9) (by omega) (by omega)) hX rfl rfl w_ml_RX3_198 dX3_ways_66 (by rfl) (Nat.le_of_ble_eq_true rfl) (by decide) (by omega) (fun _ _ _ h _ => False.elim h) (fun r_66 w_66 n_66 h_66 hn_66 => ?_)
        obtain ⟨rfl, en_66, gP⟩ := h_66
        rw [en_66]
        have hres := hC0.px gP
        have gX := hres.1.1
        have gFO := hres.1.2.1
        have gD1 := (hres.1.2.2.2.2.2.1 i9.toNat (by omega)).1
        refine e_if_eq F 96 dX3_ways_69 (by decide) (b01_r _) (fun c_69 => ?_) (fun c_69 => ?_)
        ·
          rw [b01_0] at c_69
          refine e_iconst F dX3_ways_96 ?_
          refine e_iret F rfl (by omega) ?_ dX3_ways_97
          refine ⟨⟨hi1, hrs⟩, ?_, rfl, hres⟩
          unfold wyV
          rw [if_pos ⟨c_18, by omega⟩, if_neg (by omega)]
          first | rw [b01_t (And.intro c_69 c_89)] | rw [b01_f (fun q => by first | exact c_69 q.1 | exact c_89 q.2)]
        ·
          rw [b01_0, Classical.not_not] at c_69
          refine e_aload_n F dX3_ways_72 rfl ?_
          refine e_aload F dX3_ways_73 rfl ?_
          refine e_iload_n F dX3_ways_75 rfl ?_
          refine e_iconst F dX3_ways_76 ?_
          refine e_callVV F u_X3_tell (by rfl) (c_X3_tell gX gFO hwh gD1 (set := a9) (pl := 0) (by omega) (by omega) (by decide)) gX rfl rfl w_ml_RX3_178 dX3_ways_77 (by rfl) (Nat.le_of_ble_eq_true rfl) (by decide) (by omega) (fun _ _ _ h _ => False.elim h) (fun r_77 w_77 n_77 h_77 hn_77 => ?_)
          obtain ⟨rfl, ew_77, en_77⟩ := h_77
          rw [ew_77, en_77]
          have htl : 0 ≤ tl wh a9 (D i9.toNat).A 0 ∧ tl wh a9 (D i9.toNat).A 0 < pr wh := emod_rg _ hwh
          refine e_aload_n F dX3_ways_80 rfl ?_
          refine e_get (ci := 3) (fi := 0) (q := (RX3, TX3, 5)) F (by first | assumption | exact e_up_s | (rw [e_up_n (by first | assumption | omega)]; first | assumption | exact e_up_s | (rw [e_up_n (by first | assumption | omega)]; first | assumption | exact e_up_s | (rw [e_up_n (by first | assumption | omega)]; first | assumption | exact e_up_s))) | exact hD.1 | exact hD1.1 | exact hD2.1 | exact gD.1 | exact gD1.1 | exact gD2.1 | exact gQ.1 | exact hQ.1 | exact gS.1 | exact hS.1 | exact zD.1) rfl (by decide) w_fl_RX3_10 (by rfl) dX3_ways_81 ?_
          refine e_iload_n F dX3_ways_84 rfl ?_
          refine e_i2l F dX3_ways_85 (⟨by omega, by omega⟩) ?_
          refine e_callVN F u_X1_modPrime (by rfl) (c_X1_modPrime gFO hwh (v := c9) (by constructor <;> omega)) (by first | assumption | exact e_up_s | (rw [e_up_n (by first | assumption | omega)]; first | assumption | exact e_up_s | (rw [e_up_n (by first | assumption | omega)]; first | assumption | exact e_up_s | (rw [e_up_n (by first | assumption | omega)]; first | assumption | exact e_up_s))) | exact hD.1 | exact hD1.1 | exact hD2.1 | exact gD.1 | exact gD1.1 | exact gD2.1 | exact gQ.1 | exact hQ.1 | exact gS.1 | exact hS.1 | exact zD.1) rfl rfl w_mn_RX3_59 dX3_ways_86 (by rfl) (Nat.le_of_ble_eq_true rfl) (by decide) (by omega) (fun _ _ _ h _ => False.elim h) (fun r_86 w_86 n_86 h_86 hn_86 => ?_)
          obtain ⟨rfl, ew_86, en_86⟩ := h_86
          rw [ew_86, en_86]
          have hmc := emod_rg c9 hwh
          refine e_icmp_ne F 96 dX3_ways_89 (by decide) (⟨by omega, by omega⟩) (⟨by omega, by omega⟩) (fun c_89 => ?_) (fun c_89 => ?_)
          · refine e_iconst F dX3_ways_96 ?_
            refine e_iret F rfl (by omega) ?_ dX3_ways_97
            refine ⟨⟨hi1, hrs⟩, ?_, rfl, hres⟩
            unfold wyV
            rw [if_pos ⟨c_18, by omega⟩, if_neg (by omega)]
            first | rw [b01_t (And.intro c_69 c_89)] | rw [b01_f (fun q => by first | exact c_69 q.1 | exact c_89 q.2)]
          · refine e_iconst F dX3_ways_92 ?_
            refine e_goto F 97 dX3_ways_93 (by decide) ?_
            refine e_iret F rfl (by omega) ?_ dX3_ways_97
            refine ⟨⟨hi1, hrs⟩, ?_, rfl, hres⟩
            unfold wyV
            rw [if_pos ⟨c_18, by omega⟩, if_neg (by omega)]
            first | rw [b01_t (And.intro c_69 c_89)] | rw [b01_f (fun q => by first | exact c_69 q.1 | exact c_89 q.2)]
      · refine e_aload_n F dX3_ways_55 rfl ?_
        refine e_iload F dX3_ways_56 rfl ?_
        refine e_callVV F u_X3_polysBeyond (by rfl) (c_X3_polysBeyond hX hF hwh (e9 := (D i9.toNat).dg - bc a9) (by omega) (by omega)) hX rfl rfl w_ml_RX3_223 dX3_ways_58 (by rfl) (Nat.le_of_ble_eq_true rfl) (by decide) (by omega) (fun _ _ _ h _ => False.elim h) (fun r_58 w_58 n_58 h_58 hn_58 => ?_)
        obtain ⟨rfl, ew_58, en_58⟩ := h_58
        rw [ew_58, en_58]
        refine e_iret F rfl (by omega) ?_ dX3_ways_61
        refine ⟨⟨hi1, hrs⟩, ?_, rfl, hC0, FR.rf⟩
        unfold wyV
        rw [if_pos ⟨c_18, by omega⟩, if_pos (by omega)]
    · refine e_bipush F dX3_ways_35 (by decide) ?_
      refine e_iret F rfl (by omega) ?_ dX3_ways_37
      refine ⟨⟨hi1, hrs⟩, ?_, rfl, hC0, FR.rf⟩
      unfold wyV
      rw [if_neg (fun q => by first | exact c_18 q.1 | (have q2 := q.2; omega))]
set_option maxHeartbeats 4000000 in
set_option maxRecDepth 100000 in
theorem c_X3_total {K : e_K} {l : Launch} {w : e_W} {n : Nat} {x wh : Nat} {kn : Int} {D : Nat → SD} (hC : CW w x wh kn D) {i9 : Int} (hi9 : e_r i9) {a9 : Int} (ha9 : e_r a9) : e_Met K l yX3_total (Cond.code yX3_total cX3_total 6 (Option.some .int) :: e_TB) (7) (2) [.ref x, .int (eI i9), .int (eI a9)] w n (fun r w' n' => ((0 ≤ i9 ∧ i9 < 6) ∧ (1 ≤ a9 ∧ a9 ≤ fl wh)) ∧ r = some (.int (eI (if ((D i9.toNat).fl = 1 ∧ thr (D i9.toNat).A a9) then tsK a9 (D i9.toNat).A (ho wh).toNat else -9))) ∧ n' = n ∧ CW w' x wh (kn) (D) ∧ FR w w' x) (pxd w (¬ (0 ≤ i9 ∧ i9 < 6)) ((0 ≤ i9 ∧ i9 < 6) ∧ ¬ (1 ≤ a9 ∧ a9 ≤ fl wh))) := by
  refine e_ofV rfl (Nat.le_of_ble_eq_true rfl) ?_
  intro P9 E9 S9 M9 A9 B9 T9 C9 F hnm
  have hC0 := hC
  have hDA := hC.2.2.2.2.1
  obtain ⟨hX, hF, hwh, ⟨P0, hQ⟩, ⟨ga, hga, hgj⟩, hDs, s0, hS⟩ := hC
  have hp := pr_rg wh hwh
  have ho9 := ho_rg wh hwh
  have hg9 := gr_rg wh hwh
  have hf9 := fl_rg wh hwh
  refine e_aload_n F dX3_total_0 rfl ?_
  refine e_iload_n F dX3_total_1 rfl ?_
  refine e_callVV F u_X3_dealAt (by rfl) (c_X3_dealAt hX hDA (i := i9) hi9) hX rfl rfl w_ml_RX3_94 dX3_total_2 (by rfl) (Nat.le_of_ble_eq_true rfl) (by decide) (by omega) (fun E w2 n2 h _ => ⟨Or.inl ⟨h.1, by have q := h.2.1; omega⟩, h.2.2⟩) (fun r_2 w_2 n_2 h_2 hn_2 => ?_)
  obtain ⟨hi1, rfl, ew_2, en_2⟩ := h_2
  rw [ew_2, en_2]
  obtain ⟨hD1, hW1⟩ := hDs i9.toNat (by omega)
  refine e_astore_n F dX3_total_5 (by decide) ?_
  refine e_aload_n F dX3_total_6 rfl ?_
  refine e_iload_n F dX3_total_7 rfl ?_
  refine e_callVV F u_X3_requireSet (by rfl) (c_X3_requireSet hX hF hwh (s9 := a9) ha9) hX rfl rfl w_ml_RX3_80 dX3_total_8 (by rfl) (Nat.le_of_ble_eq_true rfl) (by decide) (by omega) (fun E w2 n2 h _ => ⟨Or.inr ⟨h.1, by have q := h.2.1; omega⟩, h.2.2⟩) (fun r_8 w_8 n_8 h_8 hn_8 => ?_)
  obtain ⟨hrs, rfl, ew_8, en_8⟩ := h_8
  rw [ew_8, en_8]
  refine e_aload_n F dX3_total_11 rfl ?_
  refine e_iload_n F dX3_total_12 rfl ?_
  refine e_callVN F u_X0_isThere (by rfl) (c_X0_isThere hD1 (set := a9) (by omega) (by omega)) (by first | assumption | exact e_up_s | (rw [e_up_n (by first | assumption | omega)]; first | assumption | exact e_up_s | (rw [e_up_n (by first | assumption | omega)]; first | assumption | exact e_up_s | (rw [e_up_n (by first | assumption | omega)]; first | assumption | exact e_up_s))) | exact hD.1 | exact hD1.1 | exact hD2.1 | exact gD.1 | exact gD1.1 | exact gD2.1 | exact gQ.1 | exact hQ.1 | exact gS.1 | exact hS.1 | exact zD.1) rfl rfl w_mn_RX3_207 dX3_total_13 (by rfl) (Nat.le_of_ble_eq_true rfl) (by decide) (by omega) (fun _ _ _ h _ => False.elim h) (fun r_13 w_13 n_13 h_13 hn_13 => ?_)
  obtain ⟨rfl, ew_13, en_13⟩ := h_13
  rw [ew_13, en_13]
  refine e_if_ne F 22 dX3_total_16 (by decide) (b01_r _) (fun c_16 => ?_) (fun c_16 => ?_)
  ·
    rw [ne_eq, b01_0, Classical.not_not] at c_16
    have lp : ∀ (N : Nat) (k : Nat), (7 - k) < N → (k : Int) ≤ ho wh → e_V K P9 l E9 (7) (2) S9 M9 A9 B9 T9 C9 6 (fun r w' n' => ((0 ≤ i9 ∧ i9 < 6) ∧ (1 ≤ a9 ∧ a9 ≤ fl wh)) ∧ r = some (.int (eI (if ((D i9.toNat).fl = 1 ∧ thr (D i9.toNat).A a9) then tsK a9 (D i9.toNat).A (ho wh).toNat else -9))) ∧ n' = n ∧ CW w' x wh (kn) (D) ∧ FR w w' x) (pxd w (¬ (0 ≤ i9 ∧ i9 < 6)) ((0 ≤ i9 ∧ i9 < 6) ∧ ¬ (1 ≤ a9 ∧ a9 ≤ fl wh))) 28 [(0, .ref x), (2, .int (eI a9)), (3, .ref (x + 6 + 3 * i9.toNat)), (4, .int (eI (tsK a9 (D i9.toNat).A k))), (5, .int (eI ((k : Int) + 1)))] [] w n ((0 + 1 + 1 + 0)) := by
      intro N
      induction N with
      | zero => intro k hN; exact absurd hN (Nat.not_lt_zero _)
      | succ N ih =>
        intro k hN hk
        refine e_iload F dX3_total_28 rfl ?_
        refine e_aload_n F dX3_total_30 rfl ?_
        refine e_get (ci := 3) (fi := 0) (q := (RX3, TX3, 5)) F (by first | assumption | exact e_up_s | (rw [e_up_n (by first | assumption | omega)]; first | assumption | exact e_up_s | (rw [e_up_n (by first | assumption | omega)]; first | assumption | exact e_up_s | (rw [e_up_n (by first | assumption | omega)]; first | assumption | exact e_up_s))) | exact hD.1 | exact hD1.1 | exact hD2.1 | exact gD.1 | exact gD1.1 | exact gD2.1 | exact gQ.1 | exact hQ.1 | exact gS.1 | exact hS.1 | exact zD.1) rfl (by decide) w_fl_RX3_10 (by rfl) dX3_total_31 ?_
        refine e_getN (ci := 1) (fi := 4) (q := (RX1, TX1, 5)) F (by first | assumption | exact e_up_s | (rw [e_up_n (by first | assumption | omega)]; first | assumption | exact e_up_s | (rw [e_up_n (by first | assumption | omega)]; first | assumption | exact e_up_s | (rw [e_up_n (by first | assumption | omega)]; first | assumption | exact e_up_s))) | exact hD.1 | exact hD1.1 | exact hD2.1 | exact gD.1 | exact gD1.1 | exact gD2.1 | exact gQ.1 | exact hQ.1 | exact gS.1 | exact hS.1 | exact zD.1) rfl (by decide) w_fn_RX3_116 (by rfl) dX3_total_34 ?_
        refine e_icmp_gt F 66 dX3_total_37 (by decide) (⟨by omega, by omega⟩) (⟨by omega, by omega⟩) (fun c_37 => ?_) (fun c_37 => ?_)
        ·
          obtain rfl : k = (ho wh).toNat := by omega
          refine e_iload F dX3_total_66 rfl ?_
          refine e_iret F rfl (by omega) ?_ dX3_total_68
          refine ⟨⟨hi1, hrs⟩, ?_, rfl, hC0, FR.rf⟩
          rw [if_pos c_16]
        · refine e_iload_n F dX3_total_40 rfl ?_
          refine e_iload F dX3_total_41 rfl ?_
          refine e_callSS F u_X3_isIn (by rfl) (c_X3_isIn (set := a9) (h := (k : Int) + 1) (by omega) (by omega) (by omega) (by omega)) w_ml_RX3_83 dX3_total_43 (by rfl) (Nat.le_of_ble_eq_true rfl) (by decide) (by omega) (fun _ _ _ h _ => False.elim h) (fun r_43 w_43 n_43 h_43 hn_43 => ?_)
          obtain ⟨rfl, ew_43, en_43⟩ := h_43
          rw [ew_43, en_43]
          refine e_if_eq F 60 dX3_total_46 (by decide) (b01_r _) (fun c_46 => ?_) (fun c_46 => ?_)
          ·
            rw [b01_0] at c_46
            have q1 : tsK a9 (D i9.toNat).A (k + 1) = tsK a9 (D i9.toNat).A k := if_neg c_46
            refine e_iinc F dX3_total_60 rfl (by decide) ?_
            refine e_goto F 28 dX3_total_63 (by decide) ?_
            refine e_go (ih (k + 1) (by omega) (by omega)) ?_
            rw [q1]
            exact (And.intro rfl (And.intro rfl (And.intro rfl (And.intro rfl (And.intro rfl (trivial))))))
          ·
            rw [b01_0, Classical.not_not] at c_46
            have q1 : tsK a9 (D i9.toNat).A (k + 1) = tsK a9 (D i9.toNat).A k + (D i9.toNat).A ((k : Int) + 1) := if_pos c_46
            refine e_iload F dX3_total_49 rfl ?_
            refine e_aload_n F dX3_total_51 rfl ?_
            refine e_iload F dX3_total_52 rfl ?_
            refine e_callVN F u_X0_shareAt (by rfl) (c_X0_shareAt hD1 (h := (k : Int) + 1) (by omega) (by omega)) (by first | assumption | exact e_up_s | (rw [e_up_n (by first | assumption | omega)]; first | assumption | exact e_up_s | (rw [e_up_n (by first | assumption | omega)]; first | assumption | exact e_up_s | (rw [e_up_n (by first | assumption | omega)]; first | assumption | exact e_up_s))) | exact hD.1 | exact hD1.1 | exact hD2.1 | exact gD.1 | exact gD1.1 | exact gD2.1 | exact gQ.1 | exact hQ.1 | exact gS.1 | exact hS.1 | exact zD.1) rfl rfl w_mn_RX3_123 dX3_total_54 (by rfl) (Nat.le_of_ble_eq_true rfl) (by decide) (by omega) (fun _ _ _ h _ => False.elim h) (fun r_54 w_54 n_54 h_54 hn_54 => ?_)
            obtain ⟨rfl, ew_54, en_54⟩ := h_54
            rw [ew_54, en_54]
            refine e_iadd F dX3_total_57 ?_
            refine e_istore F dX3_total_58 (by decide) ?_
            refine e_iinc F dX3_total_60 rfl (by decide) ?_
            refine e_goto F 28 dX3_total_63 (by decide) ?_
            refine e_go (ih (k + 1) (by omega) (by omega)) ?_
            rw [q1]
            exact (And.intro rfl (And.intro rfl (And.intro rfl (And.intro rfl (And.intro rfl (trivial))))))
    refine e_iconst F dX3_total_22 ?_
    refine e_istore F dX3_total_23 (by decide) ?_
    refine e_iconst F dX3_total_25 ?_
    refine e_istore F dX3_total_26 (by decide) ?_
    exact e_go (lp 8 0 (by omega) (by omega)) (And.intro rfl (And.intro rfl (And.intro rfl (And.intro rfl (And.intro rfl (trivial))))))
  ·
    rw [b01_0] at c_16
    refine e_bipush F dX3_total_19 (by decide) ?_
    refine e_iret F rfl (by omega) ?_ dX3_total_21
    refine ⟨⟨hi1, hrs⟩, ?_, rfl, hC0, FR.rf⟩
    rw [if_neg c_16]
set_option maxHeartbeats 4000000 in
set_option maxRecDepth 100000 in
theorem c_X3_most {K : e_K} {l : Launch} {w : e_W} {n : Nat} {x wh : Nat} {kn : Int} {D : Nat → SD} (hC : CW w x wh kn D) {i9 : Int} (hi9 : e_r i9) {b9 : Int} (hb : b9 = 0 ∨ b9 = 1) : e_Met K l yX3_most (Cond.code yX3_most cX3_most 9 (Option.some .int) :: e_TB) (7) (1) [.ref x, .int (eI i9), .int (eI b9)] w n (fun r w' n' => ((0 ≤ i9 ∧ i9 < 6)) ∧ r = some (.int (eI (if (D i9.toNat).fl = 0 then -9 else (msK b9 (D i9.toNat).A (ho wh).toNat).1))) ∧ n' = n ∧ CW w' x wh (kn) (D) ∧ FR w w' x) (pxd w (¬ (0 ≤ i9 ∧ i9 < 6)) False) := by
  refine e_ofV rfl (Nat.le_of_ble_eq_true rfl) ?_
  intro P9 E9 S9 M9 A9 B9 T9 C9 F hnm
  have hC0 := hC
  have hDA := hC.2.2.2.2.1
  obtain ⟨hX, hF, hwh, ⟨P0, hQ⟩, ⟨ga, hga, hgj⟩, hDs, s0, hS⟩ := hC
  have hp := pr_rg wh hwh
  have ho9 := ho_rg wh hwh
  have hg9 := gr_rg wh hwh
  have hf9 := fl_rg wh hwh
  refine e_aload_n F dX3_most_0 rfl ?_
  refine e_iload_n F dX3_most_1 rfl ?_
  refine e_callVV F u_X3_dealAt (by rfl) (c_X3_dealAt hX hDA (i := i9) hi9) hX rfl rfl w_ml_RX3_94 dX3_most_2 (by rfl) (Nat.le_of_ble_eq_true rfl) (by decide) (by omega) (fun E w2 n2 h _ => ⟨Or.inl ⟨h.1, by have q := h.2.1; omega⟩, h.2.2⟩) (fun r_2 w_2 n_2 h_2 hn_2 => ?_)
  obtain ⟨hi1, rfl, ew_2, en_2⟩ := h_2
  rw [ew_2, en_2]
  obtain ⟨hD1, hW1⟩ := hDs i9.toNat (by omega)
  refine e_astore_n F dX3_most_5 (by decide) ?_
  refine e_aload_n F dX3_most_6 rfl ?_
  refine e_callVN F u_X0_isEmpty (by rfl) (c_X0_isEmpty hD1) (by first | assumption | exact e_up_s | (rw [e_up_n (by first | assumption | omega)]; first | assumption | exact e_up_s | (rw [e_up_n (by first | assumption | omega)]; first | assumption | exact e_up_s | (rw [e_up_n (by first | assumption | omega)]; first | assumption | exact e_up_s))) | exact hD.1 | exact hD1.1 | exact hD2.1 | exact gD.1 | exact gD1.1 | exact gD2.1 | exact gQ.1 | exact hQ.1 | exact gS.1 | exact hS.1 | exact zD.1) rfl rfl w_mn_RX3_109 dX3_most_7 (by rfl) (Nat.le_of_ble_eq_true rfl) (by decide) (by omega) (fun _ _ _ h _ => False.elim h) (fun r_7 w_7 n_7 h_7 hn_7 => ?_)
  obtain ⟨rfl, ew_7, en_7⟩ := h_7
  rw [ew_7, en_7]
  refine e_if_eq F 16 dX3_most_10 (by decide) (b01_r _) (fun c_10 => ?_) (fun c_10 => ?_)
  ·
    rw [b01_0] at c_10
    have lp : ∀ (N k : Nat), 7 - k < N → (k : Int) ≤ ho wh → e_V K P9 l E9 (7) (1) S9 M9 A9 B9 T9 C9 9 (fun r w' n' => ((0 ≤ i9 ∧ i9 < 6)) ∧ r = some (.int (eI (if (D i9.toNat).fl = 0 then -9 else (msK b9 (D i9.toNat).A (ho wh).toNat).1))) ∧ n' = n ∧ CW w' x wh (kn) (D) ∧ FR w w' x) (pxd w (¬ (0 ≤ i9 ∧ i9 < 6)) False) 25 [(0, .ref x), (2, .int (eI b9)), (3, .ref (x + 6 + 3 * i9.toNat)), (4, .int (eI (msK b9 (D i9.toNat).A k).1)), (5, .int (eI (msK b9 (D i9.toNat).A k).2)), (6, .int (eI ((k : Int) + 1)))] [] w n ((0 + 1 + 0)) := by
      intro N
      induction N with
      | zero => intro k hN; exact absurd hN (Nat.not_lt_zero _)
      | succ N ih =>
        intro k hN hk
        have hms := msK_rg b9 hD1.2.2.2.2.2.2.1 k (by omega)
        have l76 : (k : Int) < ho wh → e_V K P9 l E9 (7) (1) S9 M9 A9 B9 T9 C9 9 (fun r w' n' => ((0 ≤ i9 ∧ i9 < 6)) ∧ r = some (.int (eI (if (D i9.toNat).fl = 0 then -9 else (msK b9 (D i9.toNat).A (ho wh).toNat).1))) ∧ n' = n ∧ CW w' x wh (kn) (D) ∧ FR w w' x) (pxd w (¬ (0 ≤ i9 ∧ i9 < 6)) False) 76 [(0, .ref x), (2, .int (eI b9)), (3, .ref (x + 6 + 3 * i9.toNat)), (4, .int (eI (msK b9 (D i9.toNat).A k).1)), (5, .int (eI (msK b9 (D i9.toNat).A k).2)), (6, .int (eI ((k : Int) + 1))), (7, .int (eI ((D i9.toNat).A ((k : Int) + 1))))] [.int (eI (b01 ((msK b9 (D i9.toNat).A k).1 = 0 ∨ (if b9 = 0 then (msK b9 (D i9.toNat).A k).2 < (D i9.toNat).A ((k : Int) + 1) else (D i9.toNat).A ((k : Int) + 1) < (msK b9 (D i9.toNat).A k).2))))] w n ((0 + 1 + 0)) := by
          intro hk2
          have hAk := hD1.2.2.2.2.2.2.1 ((k : Int) + 1) (by omega) (by omega)
          refine e_istore F dX3_most_76 (by decide) ?_
          refine e_iload F dX3_most_78 rfl ?_
          refine e_iconst F dX3_most_80 ?_
          refine e_icmp_eq F 97 dX3_most_81 (by decide) (⟨by omega, by omega⟩) (⟨by omega, by omega⟩) (fun c_81 => ?_) (fun c_81 => ?_)
          ·
            have q1 : msK b9 (D i9.toNat).A (k + 1) = (msK b9 (D i9.toNat).A k) := by rw [msK]; exact if_neg (fun q => q.1 c_81)
            refine e_iinc F dX3_most_97 rfl (by decide) ?_
            refine e_goto F 25 dX3_most_100 (by decide) ?_
            refine e_go (ih (k + 1) (by omega) (by omega)) ?_
            rw [q1]
            exact (And.intro rfl (And.intro rfl (And.intro rfl (And.intro rfl (And.intro rfl (And.intro rfl (trivial)))))))
          · refine e_iload F dX3_most_84 rfl ?_
            refine e_if_eq F 97 dX3_most_86 (by decide) (b01_r _) (fun c_86 => ?_) (fun c_86 => ?_)
            ·
              rw [b01_0] at c_86
              have q1 : msK b9 (D i9.toNat).A (k + 1) = (msK b9 (D i9.toNat).A k) := by rw [msK]; exact if_neg (fun q => c_86 q.2)
              refine e_iinc F dX3_most_97 rfl (by decide) ?_
              refine e_goto F 25 dX3_most_100 (by decide) ?_
              refine e_go (ih (k + 1) (by omega) (by omega)) ?_
              rw [q1]
              exact (And.intro rfl (And.intro rfl (And.intro rfl (And.intro rfl (And.intro rfl (And.intro rfl (trivial)))))))
            ·
              rw [b01_0, Classical.not_not] at c_86
              have q1 : msK b9 (D i9.toNat).A (k + 1) = ((k : Int) + 1, (D i9.toNat).A ((k : Int) + 1)) := by rw [msK]; exact if_pos ⟨c_81, c_86⟩
              refine e_iload F dX3_most_89 rfl ?_
              refine e_istore F dX3_most_91 (by decide) ?_
              refine e_iload F dX3_most_93 rfl ?_
              refine e_istore F dX3_most_95 (by decide) ?_
              refine e_iinc F dX3_most_97 rfl (by decide) ?_
              refine e_goto F 25 dX3_most_100 (by decide) ?_
              refine e_go (ih (k + 1) (by omega) (by omega)) ?_
              rw [q1]
              exact (And.intro rfl (And.intro rfl (And.intro rfl (And.intro rfl (And.intro rfl (And.intro rfl (trivial)))))))
        refine e_iload F dX3_most_25 rfl ?_
        refine e_aload_n F dX3_most_27 rfl ?_
        refine e_get (ci := 3) (fi := 0) (q := (RX3, TX3, 5)) F (by first | assumption | exact e_up_s | (rw [e_up_n (by first | assumption | omega)]; first | assumption | exact e_up_s | (rw [e_up_n (by first | assumption | omega)]; first | assumption | exact e_up_s | (rw [e_up_n (by first | assumption | omega)]; first | assumption | exact e_up_s))) | exact hD.1 | exact hD1.1 | exact hD2.1 | exact gD.1 | exact gD1.1 | exact gD2.1 | exact gQ.1 | exact hQ.1 | exact gS.1 | exact hS.1 | exact zD.1) rfl (by decide) w_fl_RX3_10 (by rfl) dX3_most_28 ?_
        refine e_getN (ci := 1) (fi := 4) (q := (RX1, TX1, 5)) F (by first | assumption | exact e_up_s | (rw [e_up_n (by first | assumption | omega)]; first | assumption | exact e_up_s | (rw [e_up_n (by first | assumption | omega)]; first | assumption | exact e_up_s | (rw [e_up_n (by first | assumption | omega)]; first | assumption | exact e_up_s))) | exact hD.1 | exact hD1.1 | exact hD2.1 | exact gD.1 | exact gD1.1 | exact gD2.1 | exact gQ.1 | exact hQ.1 | exact gS.1 | exact hS.1 | exact zD.1) rfl (by decide) w_fn_RX3_116 (by rfl) dX3_most_31 ?_
        refine e_icmp_gt F 103 dX3_most_34 (by decide) (⟨by omega, by omega⟩) (⟨by omega, by omega⟩) (fun c_34 => ?_) (fun c_34 => ?_)
        ·
          obtain rfl : k = (ho wh).toNat := by omega
          refine e_iload F dX3_most_103 rfl ?_
          refine e_iret F rfl (by omega) ?_ dX3_most_105
          refine ⟨hi1, ?_, rfl, hC0, FR.rf⟩
          rw [if_neg c_10]
        · refine e_aload_n F dX3_most_37 rfl ?_
          refine e_iload F dX3_most_38 rfl ?_
          refine e_callVN F u_X0_shareAt (by rfl) (c_X0_shareAt hD1 (h := (k : Int) + 1) (by omega) (by omega)) (by first | assumption | exact e_up_s | (rw [e_up_n (by first | assumption | omega)]; first | assumption | exact e_up_s | (rw [e_up_n (by first | assumption | omega)]; first | assumption | exact e_up_s | (rw [e_up_n (by first | assumption | omega)]; first | assumption | exact e_up_s))) | exact hD.1 | exact hD1.1 | exact hD2.1 | exact gD.1 | exact gD1.1 | exact gD2.1 | exact gQ.1 | exact hQ.1 | exact gS.1 | exact hS.1 | exact zD.1) rfl rfl w_mn_RX3_123 dX3_most_40 (by rfl) (Nat.le_of_ble_eq_true rfl) (by decide) (by omega) (fun _ _ _ h _ => False.elim h) (fun r_40 w_40 n_40 h_40 hn_40 => ?_)
          obtain ⟨rfl, ew_40, en_40⟩ := h_40
          rw [ew_40, en_40]
          have hAk := hD1.2.2.2.2.2.2.1 ((k : Int) + 1) (by omega) (by omega)
          refine e_istore F dX3_most_43 (by decide) ?_
          refine e_iload F dX3_most_45 rfl ?_
          refine e_if_eq F 71 dX3_most_47 (by decide) (⟨by omega, by omega⟩) (fun c_47 => ?_) (fun c_47 => ?_)
          · refine e_iconst F dX3_most_71 ?_
            refine e_goto F 76 dX3_most_72 (by decide) ?_
            have qb : ((msK b9 (D i9.toNat).A k).1 = 0 ∨ (if b9 = 0 then (msK b9 (D i9.toNat).A k).2 < (D i9.toNat).A ((k : Int) + 1) else (D i9.toNat).A ((k : Int) + 1) < (msK b9 (D i9.toNat).A k).2)) ∨ ¬ ((msK b9 (D i9.toNat).A k).1 = 0 ∨ (if b9 = 0 then (msK b9 (D i9.toNat).A k).2 < (D i9.toNat).A ((k : Int) + 1) else (D i9.toNat).A ((k : Int) + 1) < (msK b9 (D i9.toNat).A k).2)) := Classical.em _
            first
            | (have e5 : b01 ((msK b9 (D i9.toNat).A k).1 = 0 ∨ (if b9 = 0 then (msK b9 (D i9.toNat).A k).2 < (D i9.toNat).A ((k : Int) + 1) else (D i9.toNat).A ((k : Int) + 1) < (msK b9 (D i9.toNat).A k).2)) = 1 := b01_t (Or.inl c_47)
               have l9 := l76 (by omega)
               rw [e5] at l9
               exact e_go l9 (And.intro rfl (And.intro rfl (And.intro rfl (And.intro rfl (And.intro rfl (And.intro rfl (And.intro rfl (trivial)))))))))
            | (have e5 : b01 ((msK b9 (D i9.toNat).A k).1 = 0 ∨ (if b9 = 0 then (msK b9 (D i9.toNat).A k).2 < (D i9.toNat).A ((k : Int) + 1) else (D i9.toNat).A ((k : Int) + 1) < (msK b9 (D i9.toNat).A k).2)) = 1 := b01_t (Or.inr (by first | (rw [if_pos c_51]; omega) | (rw [if_neg c_51]; omega)))
               have l9 := l76 (by omega)
               rw [e5] at l9
               exact e_go l9 (And.intro rfl (And.intro rfl (And.intro rfl (And.intro rfl (And.intro rfl (And.intro rfl (And.intro rfl (trivial)))))))))
            | (have e5 : b01 ((msK b9 (D i9.toNat).A k).1 = 0 ∨ (if b9 = 0 then (msK b9 (D i9.toNat).A k).2 < (D i9.toNat).A ((k : Int) + 1) else (D i9.toNat).A ((k : Int) + 1) < (msK b9 (D i9.toNat).A k).2)) = 0 := b01_f (fun q => q.elim c_47 (fun q => by first | (rw [if_pos c_51] at q; omega) | (rw [if_neg c_51] at q; omega)))
               have l9 := l76 (by omega)
               rw [e5] at l9
               exact e_go l9 (And.intro rfl (And.intro rfl (And.intro rfl (And.intro rfl (And.intro rfl (And.intro rfl (And.intro rfl (trivial)))))))))
          · refine e_iload_n F dX3_most_50 rfl ?_
            refine e_if_eq F 64 dX3_most_51 (by decide) (by rcases hb with h | h <;> rw [h] <;> decide) (fun c_51 => ?_) (fun c_51 => ?_)
            · refine e_iload F dX3_most_64 rfl ?_
              refine e_iload F dX3_most_66 rfl ?_
              refine e_icmp_le F 75 dX3_most_68 (by decide) (⟨by omega, by omega⟩) (⟨by omega, by omega⟩) (fun c_68 => ?_) (fun c_68 => ?_)
              · refine e_iconst F dX3_most_75 ?_
                have qb : ((msK b9 (D i9.toNat).A k).1 = 0 ∨ (if b9 = 0 then (msK b9 (D i9.toNat).A k).2 < (D i9.toNat).A ((k : Int) + 1) else (D i9.toNat).A ((k : Int) + 1) < (msK b9 (D i9.toNat).A k).2)) ∨ ¬ ((msK b9 (D i9.toNat).A k).1 = 0 ∨ (if b9 = 0 then (msK b9 (D i9.toNat).A k).2 < (D i9.toNat).A ((k : Int) + 1) else (D i9.toNat).A ((k : Int) + 1) < (msK b9 (D i9.toNat).A k).2)) := Classical.em _
                first
                | (have e5 : b01 ((msK b9 (D i9.toNat).A k).1 = 0 ∨ (if b9 = 0 then (msK b9 (D i9.toNat).A k).2 < (D i9.toNat).A ((k : Int) + 1) else (D i9.toNat).A ((k : Int) + 1) < (msK b9 (D i9.toNat).A k).2)) = 1 := b01_t (Or.inl c_47)
                   have l9 := l76 (by omega)
                   rw [e5] at l9
                   exact e_go l9 (And.intro rfl (And.intro rfl (And.intro rfl (And.intro rfl (And.intro rfl (And.intro rfl (And.intro rfl (trivial)))))))))
                | (have e5 : b01 ((msK b9 (D i9.toNat).A k).1 = 0 ∨ (if b9 = 0 then (msK b9 (D i9.toNat).A k).2 < (D i9.toNat).A ((k : Int) + 1) else (D i9.toNat).A ((k : Int) + 1) < (msK b9 (D i9.toNat).A k).2)) = 1 := b01_t (Or.inr (by first | (rw [if_pos c_51]; omega) | (rw [if_neg c_51]; omega)))
                   have l9 := l76 (by omega)
                   rw [e5] at l9
                   exact e_go l9 (And.intro rfl (And.intro rfl (And.intro rfl (And.intro rfl (And.intro rfl (And.intro rfl (And.intro rfl (trivial)))))))))
                | (have e5 : b01 ((msK b9 (D i9.toNat).A k).1 = 0 ∨ (if b9 = 0 then (msK b9 (D i9.toNat).A k).2 < (D i9.toNat).A ((k : Int) + 1) else (D i9.toNat).A ((k : Int) + 1) < (msK b9 (D i9.toNat).A k).2)) = 0 := b01_f (fun q => q.elim c_47 (fun q => by first | (rw [if_pos c_51] at q; omega) | (rw [if_neg c_51] at q; omega)))
                   have l9 := l76 (by omega)
                   rw [e5] at l9
                   exact e_go l9 (And.intro rfl (And.intro rfl (And.intro rfl (And.intro rfl (And.intro rfl (And.intro rfl (And.intro rfl (trivial)))))))))
              · refine e_iconst F dX3_most_71 ?_
                refine e_goto F 76 dX3_most_72 (by decide) ?_
                have qb : ((msK b9 (D i9.toNat).A k).1 = 0 ∨ (if b9 = 0 then (msK b9 (D i9.toNat).A k).2 < (D i9.toNat).A ((k : Int) + 1) else (D i9.toNat).A ((k : Int) + 1) < (msK b9 (D i9.toNat).A k).2)) ∨ ¬ ((msK b9 (D i9.toNat).A k).1 = 0 ∨ (if b9 = 0 then (msK b9 (D i9.toNat).A k).2 < (D i9.toNat).A ((k : Int) + 1) else (D i9.toNat).A ((k : Int) + 1) < (msK b9 (D i9.toNat).A k).2)) := Classical.em _
                first
                | (have e5 : b01 ((msK b9 (D i9.toNat).A k).1 = 0 ∨ (if b9 = 0 then (msK b9 (D i9.toNat).A k).2 < (D i9.toNat).A ((k : Int) + 1) else (D i9.toNat).A ((k : Int) + 1) < (msK b9 (D i9.toNat).A k).2)) = 1 := b01_t (Or.inl c_47)
                   have l9 := l76 (by omega)
                   rw [e5] at l9
                   exact e_go l9 (And.intro rfl (And.intro rfl (And.intro rfl (And.intro rfl (And.intro rfl (And.intro rfl (And.intro rfl (trivial)))))))))
                | (have e5 : b01 ((msK b9 (D i9.toNat).A k).1 = 0 ∨ (if b9 = 0 then (msK b9 (D i9.toNat).A k).2 < (D i9.toNat).A ((k : Int) + 1) else (D i9.toNat).A ((k : Int) + 1) < (msK b9 (D i9.toNat).A k).2)) = 1 := b01_t (Or.inr (by first | (rw [if_pos c_51]; omega) | (rw [if_neg c_51]; omega)))
                   have l9 := l76 (by omega)
                   rw [e5] at l9
                   exact e_go l9 (And.intro rfl (And.intro rfl (And.intro rfl (And.intro rfl (And.intro rfl (And.intro rfl (And.intro rfl (trivial)))))))))
                | (have e5 : b01 ((msK b9 (D i9.toNat).A k).1 = 0 ∨ (if b9 = 0 then (msK b9 (D i9.toNat).A k).2 < (D i9.toNat).A ((k : Int) + 1) else (D i9.toNat).A ((k : Int) + 1) < (msK b9 (D i9.toNat).A k).2)) = 0 := b01_f (fun q => q.elim c_47 (fun q => by first | (rw [if_pos c_51] at q; omega) | (rw [if_neg c_51] at q; omega)))
                   have l9 := l76 (by omega)
                   rw [e5] at l9
                   exact e_go l9 (And.intro rfl (And.intro rfl (And.intro rfl (And.intro rfl (And.intro rfl (And.intro rfl (And.intro rfl (trivial)))))))))
            · refine e_iload F dX3_most_54 rfl ?_
              refine e_iload F dX3_most_56 rfl ?_
              refine e_icmp_ge F 75 dX3_most_58 (by decide) (⟨by omega, by omega⟩) (⟨by omega, by omega⟩) (fun c_58 => ?_) (fun c_58 => ?_)
              · refine e_iconst F dX3_most_75 ?_
                have qb : ((msK b9 (D i9.toNat).A k).1 = 0 ∨ (if b9 = 0 then (msK b9 (D i9.toNat).A k).2 < (D i9.toNat).A ((k : Int) + 1) else (D i9.toNat).A ((k : Int) + 1) < (msK b9 (D i9.toNat).A k).2)) ∨ ¬ ((msK b9 (D i9.toNat).A k).1 = 0 ∨ (if b9 = 0 then (msK b9 (D i9.toNat).A k).2 < (D i9.toNat).A ((k : Int) + 1) else (D i9.toNat).A ((k : Int) + 1) < (msK b9 (D i9.toNat).A k).2)) := Classical.em _
                first
                | (have e5 : b01 ((msK b9 (D i9.toNat).A k).1 = 0 ∨ (if b9 = 0 then (msK b9 (D i9.toNat).A k).2 < (D i9.toNat).A ((k : Int) + 1) else (D i9.toNat).A ((k : Int) + 1) < (msK b9 (D i9.toNat).A k).2)) = 1 := b01_t (Or.inl c_47)
                   have l9 := l76 (by omega)
                   rw [e5] at l9
                   exact e_go l9 (And.intro rfl (And.intro rfl (And.intro rfl (And.intro rfl (And.intro rfl (And.intro rfl (And.intro rfl (trivial)))))))))
                | (have e5 : b01 ((msK b9 (D i9.toNat).A k).1 = 0 ∨ (if b9 = 0 then (msK b9 (D i9.toNat).A k).2 < (D i9.toNat).A ((k : Int) + 1) else (D i9.toNat).A ((k : Int) + 1) < (msK b9 (D i9.toNat).A k).2)) = 1 := b01_t (Or.inr (by first | (rw [if_pos c_51]; omega) | (rw [if_neg c_51]; omega)))
                   have l9 := l76 (by omega)
                   rw [e5] at l9
                   exact e_go l9 (And.intro rfl (And.intro rfl (And.intro rfl (And.intro rfl (And.intro rfl (And.intro rfl (And.intro rfl (trivial)))))))))
                | (have e5 : b01 ((msK b9 (D i9.toNat).A k).1 = 0 ∨ (if b9 = 0 then (msK b9 (D i9.toNat).A k).2 < (D i9.toNat).A ((k : Int) + 1) else (D i9.toNat).A ((k : Int) + 1) < (msK b9 (D i9.toNat).A k).2)) = 0 := b01_f (fun q => q.elim c_47 (fun q => by first | (rw [if_pos c_51] at q; omega) | (rw [if_neg c_51] at q; omega)))
                   have l9 := l76 (by omega)
                   rw [e5] at l9
                   exact e_go l9 (And.intro rfl (And.intro rfl (And.intro rfl (And.intro rfl (And.intro rfl (And.intro rfl (And.intro rfl (trivial)))))))))
              · refine e_goto F 71 dX3_most_61 (by decide) ?_
                refine e_iconst F dX3_most_71 ?_
                refine e_goto F 76 dX3_most_72 (by decide) ?_
                have qb : ((msK b9 (D i9.toNat).A k).1 = 0 ∨ (if b9 = 0 then (msK b9 (D i9.toNat).A k).2 < (D i9.toNat).A ((k : Int) + 1) else (D i9.toNat).A ((k : Int) + 1) < (msK b9 (D i9.toNat).A k).2)) ∨ ¬ ((msK b9 (D i9.toNat).A k).1 = 0 ∨ (if b9 = 0 then (msK b9 (D i9.toNat).A k).2 < (D i9.toNat).A ((k : Int) + 1) else (D i9.toNat).A ((k : Int) + 1) < (msK b9 (D i9.toNat).A k).2)) := Classical.em _
                first
                | (have e5 : b01 ((msK b9 (D i9.toNat).A k).1 = 0 ∨ (if b9 = 0 then (msK b9 (D i9.toNat).A k).2 < (D i9.toNat).A ((k : Int) + 1) else (D i9.toNat).A ((k : Int) + 1) < (msK b9 (D i9.toNat).A k).2)) = 1 := b01_t (Or.inl c_47)
                   have l9 := l76 (by omega)
                   rw [e5] at l9
                   exact e_go l9 (And.intro rfl (And.intro rfl (And.intro rfl (And.intro rfl (And.intro rfl (And.intro rfl (And.intro rfl (trivial)))))))))
                | (have e5 : b01 ((msK b9 (D i9.toNat).A k).1 = 0 ∨ (if b9 = 0 then (msK b9 (D i9.toNat).A k).2 < (D i9.toNat).A ((k : Int) + 1) else (D i9.toNat).A ((k : Int) + 1) < (msK b9 (D i9.toNat).A k).2)) = 1 := b01_t (Or.inr (by first | (rw [if_pos c_51]; omega) | (rw [if_neg c_51]; omega)))
                   have l9 := l76 (by omega)
                   rw [e5] at l9
                   exact e_go l9 (And.intro rfl (And.intro rfl (And.intro rfl (And.intro rfl (And.intro rfl (And.intro rfl (And.intro rfl (trivial)))))))))
                | (have e5 : b01 ((msK b9 (D i9.toNat).A k).1 = 0 ∨ (if b9 = 0 then (msK b9 (D i9.toNat).A k).2 < (D i9.toNat).A ((k : Int) + 1) else (D i9.toNat).A ((k : Int) + 1) < (msK b9 (D i9.toNat).A k).2)) = 0 := b01_f (fun q => q.elim c_47 (fun q => by first | (rw [if_pos c_51] at q; omega) | (rw [if_neg c_51] at q; omega)))
                   have l9 := l76 (by omega)
                   rw [e5] at l9
                   exact e_go l9 (And.intro rfl (And.intro rfl (And.intro rfl (And.intro rfl (And.intro rfl (And.intro rfl (And.intro rfl (trivial)))))))))
    refine e_iconst F dX3_most_16 ?_
    refine e_istore F dX3_most_17 (by decide) ?_
    refine e_iconst F dX3_most_19 ?_
    refine e_istore F dX3_most_20 (by decide) ?_
    refine e_iconst F dX3_most_22 ?_
    refine e_istore F dX3_most_23 (by decide) ?_
    exact e_go (lp 8 0 (by omega) (by omega)) (And.intro rfl (And.intro rfl (And.intro rfl (And.intro rfl (And.intro rfl (And.intro rfl (trivial)))))))
  ·
    rw [b01_0, Classical.not_not] at c_10
    refine e_bipush F dX3_most_13 (by decide) ?_
    refine e_iret F rfl (by omega) ?_ dX3_most_15
    refine ⟨hi1, ?_, rfl, hC0, FR.rf⟩
    rw [if_pos c_10]
set_option maxHeartbeats 4000000 in
set_option maxRecDepth 100000 in
theorem c_X3_isSame {K : e_K} {l : Launch} {w : e_W} {n : Nat} {x wh : Nat} {kn : Int} {D : Nat → SD} (hC : CW w x wh kn D) {i9 : Int} (hi9 : e_r i9) {j9 : Int} (hj9 : e_r j9) : e_Met K l yX3_isSame (Cond.code yX3_isSame cX3_isSame 7 (Option.some .boolean) :: e_TB) (7) (2) [.ref x, .int (eI i9), .int (eI j9)] w n (fun r w' n' => ((0 ≤ i9 ∧ i9 < 6) ∧ (0 ≤ j9 ∧ j9 < 6)) ∧ r = some (.int (eI (smV wh (D i9.toNat) (D j9.toNat)))) ∧ n' = n ∧ CW w' x wh (kn) (D) ∧ FR w w' x) (pxd w (¬ ((0 ≤ i9 ∧ i9 < 6) ∧ (0 ≤ j9 ∧ j9 < 6))) False) := by
  refine e_ofV rfl (Nat.le_of_ble_eq_true rfl) ?_
  intro P9 E9 S9 M9 A9 B9 T9 C9 F hnm
  have hC0 := hC
  have hDA := hC.2.2.2.2.1
  obtain ⟨hX, hF, hwh, ⟨P0, hQ⟩, ⟨ga, hga, hgj⟩, hDs, s0, hS⟩ := hC
  have hp := pr_rg wh hwh
  have ho9 := ho_rg wh hwh
  have hg9 := gr_rg wh hwh
  have hf9 := fl_rg wh hwh
  refine e_aload_n F dX3_isSame_0 rfl ?_
  refine e_iload_n F dX3_isSame_1 rfl ?_
  refine e_callVV F u_X3_dealAt (by rfl) (c_X3_dealAt hX hDA (i := i9) hi9) hX rfl rfl w_ml_RX3_94 dX3_isSame_2 (by rfl) (Nat.le_of_ble_eq_true rfl) (by decide) (by omega) (fun E w2 n2 h _ => ⟨Or.inl ⟨h.1, by have q := h.2.1; omega⟩, h.2.2⟩) (fun r_2 w_2 n_2 h_2 hn_2 => ?_)
  obtain ⟨hi1, rfl, ew_2, en_2⟩ := h_2
  rw [ew_2, en_2]
  obtain ⟨hD1, hW1⟩ := hDs i9.toNat (by omega)
  refine e_astore_n F dX3_isSame_5 (by decide) ?_
  refine e_aload_n F dX3_isSame_6 rfl ?_
  refine e_iload_n F dX3_isSame_7 rfl ?_
  refine e_callVV F u_X3_dealAt (by rfl) (c_X3_dealAt hX hDA (i := j9) hj9) hX rfl rfl w_ml_RX3_94 dX3_isSame_8 (by rfl) (Nat.le_of_ble_eq_true rfl) (by decide) (by omega) (fun E w2 n2 h _ => ⟨Or.inl ⟨h.1, by have q := h.2.1; omega⟩, h.2.2⟩) (fun r_8 w_8 n_8 h_8 hn_8 => ?_)
  obtain ⟨hi2, rfl, ew_8, en_8⟩ := h_8
  rw [ew_8, en_8]
  obtain ⟨hD2, hW2⟩ := hDs j9.toNat (by omega)
  refine e_astore F dX3_isSame_11 (by decide) ?_
  refine e_aload_n F dX3_isSame_13 rfl ?_
  refine e_callVN F u_X0_isEmpty (by rfl) (c_X0_isEmpty hD1) hD1.1 rfl rfl w_mn_RX3_109 dX3_isSame_14 (by rfl) (Nat.le_of_ble_eq_true rfl) (by decide) (by omega) (fun _ _ _ h _ => False.elim h) (fun r_14 w_14 n_14 h_14 hn_14 => ?_)
  obtain ⟨rfl, ew_14, en_14⟩ := h_14
  rw [ew_14, en_14]
  refine e_if_ne F 28 dX3_isSame_17 (by decide) (b01_r _) (fun c_17 => ?_) (fun c_17 => ?_)
  ·
    rw [ne_eq, b01_0, Classical.not_not] at c_17
    refine e_aload_n F dX3_isSame_28 rfl ?_
    refine e_callVN F u_X0_isEmpty (by rfl) (c_X0_isEmpty hD1) hD1.1 rfl rfl w_mn_RX3_109 dX3_isSame_29 (by rfl) (Nat.le_of_ble_eq_true rfl) (by decide) (by omega) (fun _ _ _ h _ => False.elim h) (fun r_29 w_29 n_29 h_29 hn_29 => ?_)
    obtain ⟨rfl, ew_29, en_29⟩ := h_29
    rw [ew_29, en_29]
    refine e_if_eq F 47 dX3_isSame_32 (by decide) (b01_r _) (fun c_32 => ?_) (fun c_32 => ?_)
    ·
      rw [b01_0] at c_32
      refine e_iconst F dX3_isSame_47 ?_
      refine e_zret F rfl (by omega) (by omega) ?_ dX3_isSame_48
      refine ⟨⟨hi1, hi2⟩, ?_, rfl, hC0, FR.rf⟩
      unfold smV
      rw [if_pos (by first | exact Or.inl c_17 | exact Or.inr c_25)]
      first | rw [b01_t (And.intro c_32 c_40)] | rw [b01_f (fun q => by first | exact c_32 q.1 | exact c_40 q.2)]
    ·
      rw [b01_0, Classical.not_not] at c_32
      refine e_aload F dX3_isSame_35 rfl ?_
      refine e_callVN F u_X0_isEmpty (by rfl) (c_X0_isEmpty hD2) hD2.1 rfl rfl w_mn_RX3_109 dX3_isSame_37 (by rfl) (Nat.le_of_ble_eq_true rfl) (by decide) (by omega) (fun _ _ _ h _ => False.elim h) (fun r_37 w_37 n_37 h_37 hn_37 => ?_)
      obtain ⟨rfl, ew_37, en_37⟩ := h_37
      rw [ew_37, en_37]
      refine e_if_eq F 47 dX3_isSame_40 (by decide) (b01_r _) (fun c_40 => ?_) (fun c_40 => ?_)
      ·
        rw [b01_0] at c_40
        refine e_iconst F dX3_isSame_47 ?_
        refine e_zret F rfl (by omega) (by omega) ?_ dX3_isSame_48
        refine ⟨⟨hi1, hi2⟩, ?_, rfl, hC0, FR.rf⟩
        unfold smV
        rw [if_pos (by first | exact Or.inl c_17 | exact Or.inr c_25)]
        first | rw [b01_t (And.intro c_32 c_40)] | rw [b01_f (fun q => by first | exact c_32 q.1 | exact c_40 q.2)]
      ·
        rw [b01_0, Classical.not_not] at c_40
        refine e_iconst F dX3_isSame_43 ?_
        refine e_goto F 48 dX3_isSame_44 (by decide) ?_
        refine e_zret F rfl (by omega) (by omega) ?_ dX3_isSame_48
        refine ⟨⟨hi1, hi2⟩, ?_, rfl, hC0, FR.rf⟩
        unfold smV
        rw [if_pos (by first | exact Or.inl c_17 | exact Or.inr c_25)]
        first | rw [b01_t (And.intro c_32 c_40)] | rw [b01_f (fun q => by first | exact c_32 q.1 | exact c_40 q.2)]
  ·
    rw [b01_0] at c_17
    refine e_aload F dX3_isSame_20 rfl ?_
    refine e_callVN F u_X0_isEmpty (by rfl) (c_X0_isEmpty hD2) hD2.1 rfl rfl w_mn_RX3_109 dX3_isSame_22 (by rfl) (Nat.le_of_ble_eq_true rfl) (by decide) (by omega) (fun _ _ _ h _ => False.elim h) (fun r_22 w_22 n_22 h_22 hn_22 => ?_)
    obtain ⟨rfl, ew_22, en_22⟩ := h_22
    rw [ew_22, en_22]
    refine e_if_eq F 49 dX3_isSame_25 (by decide) (b01_r _) (fun c_25 => ?_) (fun c_25 => ?_)
    ·
      rw [b01_0] at c_25
      have lp : ∀ (N : Nat) (k : Nat), (7 - k) < N → (k : Int) ≤ ho wh → e_V K P9 l E9 (7) (2) S9 M9 A9 B9 T9 C9 7 (fun r w' n' => ((0 ≤ i9 ∧ i9 < 6) ∧ (0 ≤ j9 ∧ j9 < 6)) ∧ r = some (.int (eI (smV wh (D i9.toNat) (D j9.toNat)))) ∧ n' = n ∧ CW w' x wh (kn) (D) ∧ FR w w' x) (pxd w (¬ ((0 ≤ i9 ∧ i9 < 6) ∧ (0 ≤ j9 ∧ j9 < 6))) False) 71 [(0, .ref x), (3, .ref (x + 6 + 3 * i9.toNat)), (4, .ref (x + 6 + 3 * j9.toNat)), (5, .int (eI (b01 (smK (D i9.toNat) (D j9.toNat) k = true)))), (6, .int (eI ((k : Int) + 1)))] [] w n ((0 + 1 + 1 + 0 + 0)) := by
        intro N
        induction N with
        | zero => intro k hN; exact absurd hN (Nat.not_lt_zero _)
        | succ N ih =>
          intro k hN hk
          refine e_iload F dX3_isSame_71 rfl ?_
          refine e_aload_n F dX3_isSame_73 rfl ?_
          refine e_get (ci := 3) (fi := 0) (q := (RX3, TX3, 5)) F (by first | assumption | exact e_up_s | (rw [e_up_n (by first | assumption | omega)]; first | assumption | exact e_up_s | (rw [e_up_n (by first | assumption | omega)]; first | assumption | exact e_up_s | (rw [e_up_n (by first | assumption | omega)]; first | assumption | exact e_up_s))) | exact hD.1 | exact hD1.1 | exact hD2.1 | exact gD.1 | exact gD1.1 | exact gD2.1 | exact gQ.1 | exact hQ.1 | exact gS.1 | exact hS.1 | exact zD.1) rfl (by decide) w_fl_RX3_10 (by rfl) dX3_isSame_74 ?_
          refine e_getN (ci := 1) (fi := 4) (q := (RX1, TX1, 5)) F (by first | assumption | exact e_up_s | (rw [e_up_n (by first | assumption | omega)]; first | assumption | exact e_up_s | (rw [e_up_n (by first | assumption | omega)]; first | assumption | exact e_up_s | (rw [e_up_n (by first | assumption | omega)]; first | assumption | exact e_up_s))) | exact hD.1 | exact hD1.1 | exact hD2.1 | exact gD.1 | exact gD1.1 | exact gD2.1 | exact gQ.1 | exact hQ.1 | exact gS.1 | exact hS.1 | exact zD.1) rfl (by decide) w_fn_RX3_116 (by rfl) dX3_isSame_77 ?_
          refine e_icmp_gt F 117 dX3_isSame_80 (by decide) (⟨by omega, by omega⟩) (⟨by omega, by omega⟩) (fun c_80 => ?_) (fun c_80 => ?_)
          ·
            obtain rfl : k = (ho wh).toNat := by omega
            refine e_iload F dX3_isSame_117 rfl ?_
            refine e_zret F rfl (by omega) (b01_or _) ?_ dX3_isSame_119
            refine ⟨⟨hi1, hi2⟩, ?_, rfl, hC0, FR.rf⟩
            unfold smV
            rw [if_neg (fun q => q.elim c_17 c_25)]
          · refine e_iload F dX3_isSame_83 rfl ?_
            refine e_if_eq F 108 dX3_isSame_85 (by decide) (b01_r _) (fun c_85 => ?_) (fun c_85 => ?_)
            ·
              rw [b01_0] at c_85
              refine e_iconst F dX3_isSame_108 ?_
              refine e_istore F dX3_isSame_109 (by decide) ?_
              refine e_iinc F dX3_isSame_111 rfl (by decide) ?_
              refine e_goto F 71 dX3_isSame_114 (by decide) ?_
              have e6 : smK (D i9.toNat) (D j9.toNat) (k + 1) = (smK (D i9.toNat) (D j9.toNat) k && decide ((D i9.toNat).A ((k : Int) + 1) = (D j9.toNat).A ((k : Int) + 1))) := rfl
              first
              | (have e5 : b01 (smK (D i9.toNat) (D j9.toNat) (k + 1) = true) = 1 := b01_t (by rw [e6, c_85, c_101]; simp)
                 have l9 := ih (k + 1) (by omega) (by omega)
                 rw [e5] at l9
                 exact e_go l9 (And.intro rfl (And.intro rfl (And.intro rfl (And.intro rfl (And.intro rfl (trivial)))))))
              | (have q9 := c_101
                 have e5 : b01 (smK (D i9.toNat) (D j9.toNat) (k + 1) = true) = 0 := b01_f (by rw [e6]; simp [c_85, q9])
                 have l9 := ih (k + 1) (by omega) (by omega)
                 rw [e5] at l9
                 exact e_go l9 (And.intro rfl (And.intro rfl (And.intro rfl (And.intro rfl (And.intro rfl (trivial)))))))
              | (have e5 : b01 (smK (D i9.toNat) (D j9.toNat) (k + 1) = true) = 0 := b01_f (by rw [e6]; simp [c_85])
                 have l9 := ih (k + 1) (by omega) (by omega)
                 rw [e5] at l9
                 exact e_go l9 (And.intro rfl (And.intro rfl (And.intro rfl (And.intro rfl (And.intro rfl (trivial)))))))
            ·
              rw [b01_0, Classical.not_not] at c_85
              refine e_aload_n F dX3_isSame_88 rfl ?_
              refine e_iload F dX3_isSame_89 rfl ?_
              refine e_callVN F u_X0_shareAt (by rfl) (c_X0_shareAt hD1 (h := (k : Int) + 1) (by omega) (by omega)) hD1.1 rfl rfl w_mn_RX3_123 dX3_isSame_91 (by rfl) (Nat.le_of_ble_eq_true rfl) (by decide) (by omega) (fun _ _ _ h _ => False.elim h) (fun r_91 w_91 n_91 h_91 hn_91 => ?_)
              obtain ⟨rfl, ew_91, en_91⟩ := h_91
              rw [ew_91, en_91]
              have ra := hD1.2.2.2.2.2.2.1 ((k : Int) + 1) (by omega) (by omega)
              have rb := hD2.2.2.2.2.2.2.1 ((k : Int) + 1) (by omega) (by omega)
              refine e_aload F dX3_isSame_94 rfl ?_
              refine e_iload F dX3_isSame_96 rfl ?_
              refine e_callVN F u_X0_shareAt (by rfl) (c_X0_shareAt hD2 (h := (k : Int) + 1) (by omega) (by omega)) hD2.1 rfl rfl w_mn_RX3_123 dX3_isSame_98 (by rfl) (Nat.le_of_ble_eq_true rfl) (by decide) (by omega) (fun _ _ _ h _ => False.elim h) (fun r_98 w_98 n_98 h_98 hn_98 => ?_)
              obtain ⟨rfl, ew_98, en_98⟩ := h_98
              rw [ew_98, en_98]
              refine e_icmp_ne F 108 dX3_isSame_101 (by decide) (⟨by omega, by omega⟩) (⟨by omega, by omega⟩) (fun c_101 => ?_) (fun c_101 => ?_)
              · refine e_iconst F dX3_isSame_108 ?_
                refine e_istore F dX3_isSame_109 (by decide) ?_
                refine e_iinc F dX3_isSame_111 rfl (by decide) ?_
                refine e_goto F 71 dX3_isSame_114 (by decide) ?_
                have e6 : smK (D i9.toNat) (D j9.toNat) (k + 1) = (smK (D i9.toNat) (D j9.toNat) k && decide ((D i9.toNat).A ((k : Int) + 1) = (D j9.toNat).A ((k : Int) + 1))) := rfl
                first
                | (have e5 : b01 (smK (D i9.toNat) (D j9.toNat) (k + 1) = true) = 1 := b01_t (by rw [e6, c_85, c_101]; simp)
                   have l9 := ih (k + 1) (by omega) (by omega)
                   rw [e5] at l9
                   exact e_go l9 (And.intro rfl (And.intro rfl (And.intro rfl (And.intro rfl (And.intro rfl (trivial)))))))
                | (have q9 := c_101
                   have e5 : b01 (smK (D i9.toNat) (D j9.toNat) (k + 1) = true) = 0 := b01_f (by rw [e6]; simp [c_85, q9])
                   have l9 := ih (k + 1) (by omega) (by omega)
                   rw [e5] at l9
                   exact e_go l9 (And.intro rfl (And.intro rfl (And.intro rfl (And.intro rfl (And.intro rfl (trivial)))))))
                | (have e5 : b01 (smK (D i9.toNat) (D j9.toNat) (k + 1) = true) = 0 := b01_f (by rw [e6]; simp [c_85])
                   have l9 := ih (k + 1) (by omega) (by omega)
                   rw [e5] at l9
                   exact e_go l9 (And.intro rfl (And.intro rfl (And.intro rfl (And.intro rfl (And.intro rfl (trivial)))))))
              · refine e_iconst F dX3_isSame_104 ?_
                refine e_goto F 109 dX3_isSame_105 (by decide) ?_
                refine e_istore F dX3_isSame_109 (by decide) ?_
                refine e_iinc F dX3_isSame_111 rfl (by decide) ?_
                refine e_goto F 71 dX3_isSame_114 (by decide) ?_
                have e6 : smK (D i9.toNat) (D j9.toNat) (k + 1) = (smK (D i9.toNat) (D j9.toNat) k && decide ((D i9.toNat).A ((k : Int) + 1) = (D j9.toNat).A ((k : Int) + 1))) := rfl
                first
                | (have e5 : b01 (smK (D i9.toNat) (D j9.toNat) (k + 1) = true) = 1 := b01_t (by rw [e6, c_85, c_101]; simp)
                   have l9 := ih (k + 1) (by omega) (by omega)
                   rw [e5] at l9
                   exact e_go l9 (And.intro rfl (And.intro rfl (And.intro rfl (And.intro rfl (And.intro rfl (trivial)))))))
                | (have q9 := c_101
                   have e5 : b01 (smK (D i9.toNat) (D j9.toNat) (k + 1) = true) = 0 := b01_f (by rw [e6]; simp [c_85, q9])
                   have l9 := ih (k + 1) (by omega) (by omega)
                   rw [e5] at l9
                   exact e_go l9 (And.intro rfl (And.intro rfl (And.intro rfl (And.intro rfl (And.intro rfl (trivial)))))))
                | (have e5 : b01 (smK (D i9.toNat) (D j9.toNat) (k + 1) = true) = 0 := b01_f (by rw [e6]; simp [c_85])
                   have l9 := ih (k + 1) (by omega) (by omega)
                   rw [e5] at l9
                   exact e_go l9 (And.intro rfl (And.intro rfl (And.intro rfl (And.intro rfl (And.intro rfl (trivial)))))))
      refine e_aload_n F dX3_isSame_49 rfl ?_
      refine e_getN (ci := 0) (fi := 1) (q := (RX0, TX0, 5)) F hD1.1 rfl (by decide) w_fn_RX3_113 (by rfl) dX3_isSame_50 ?_
      refine e_aload F dX3_isSame_53 rfl ?_
      refine e_getN (ci := 0) (fi := 1) (q := (RX0, TX0, 5)) F hD2.1 rfl (by decide) w_fn_RX3_113 (by rfl) dX3_isSame_55 ?_
      refine e_icmp_ne F 65 dX3_isSame_58 (by decide) ((by have := hD1.2.2.2.2.1; constructor <;> omega)) ((by have := hD2.2.2.2.2.1; constructor <;> omega)) (fun c_58 => ?_) (fun c_58 => ?_)
      · refine e_iconst F dX3_isSame_65 ?_
        refine e_istore F dX3_isSame_66 (by decide) ?_
        refine e_iconst F dX3_isSame_68 ?_
        refine e_istore F dX3_isSame_69 (by decide) ?_
        first
        | (have e5 : b01 (smK (D i9.toNat) (D j9.toNat) 0 = true) = 1 := b01_t (decide_eq_true c_58)
           have l9 := lp 8 0 (by omega) (by omega)
           rw [e5] at l9
           exact e_go l9 (And.intro rfl (And.intro rfl (And.intro rfl (And.intro rfl (And.intro rfl (trivial)))))))
        | (have e5 : b01 (smK (D i9.toNat) (D j9.toNat) 0 = true) = 0 := b01_f (fun q => c_58 (of_decide_eq_true q))
           have l9 := lp 8 0 (by omega) (by omega)
           rw [e5] at l9
           exact e_go l9 (And.intro rfl (And.intro rfl (And.intro rfl (And.intro rfl (And.intro rfl (trivial)))))))
      · refine e_iconst F dX3_isSame_61 ?_
        refine e_goto F 66 dX3_isSame_62 (by decide) ?_
        refine e_istore F dX3_isSame_66 (by decide) ?_
        refine e_iconst F dX3_isSame_68 ?_
        refine e_istore F dX3_isSame_69 (by decide) ?_
        first
        | (have e5 : b01 (smK (D i9.toNat) (D j9.toNat) 0 = true) = 1 := b01_t (decide_eq_true c_58)
           have l9 := lp 8 0 (by omega) (by omega)
           rw [e5] at l9
           exact e_go l9 (And.intro rfl (And.intro rfl (And.intro rfl (And.intro rfl (And.intro rfl (trivial)))))))
        | (have e5 : b01 (smK (D i9.toNat) (D j9.toNat) 0 = true) = 0 := b01_f (fun q => c_58 (of_decide_eq_true q))
           have l9 := lp 8 0 (by omega) (by omega)
           rw [e5] at l9
           exact e_go l9 (And.intro rfl (And.intro rfl (And.intro rfl (And.intro rfl (And.intro rfl (trivial)))))))
    ·
      rw [b01_0, Classical.not_not] at c_25
      refine e_aload_n F dX3_isSame_28 rfl ?_
      refine e_callVN F u_X0_isEmpty (by rfl) (c_X0_isEmpty hD1) hD1.1 rfl rfl w_mn_RX3_109 dX3_isSame_29 (by rfl) (Nat.le_of_ble_eq_true rfl) (by decide) (by omega) (fun _ _ _ h _ => False.elim h) (fun r_29 w_29 n_29 h_29 hn_29 => ?_)
      obtain ⟨rfl, ew_29, en_29⟩ := h_29
      rw [ew_29, en_29]
      refine e_if_eq F 47 dX3_isSame_32 (by decide) (b01_r _) (fun c_32 => ?_) (fun c_32 => ?_)
      ·
        rw [b01_0] at c_32
        refine e_iconst F dX3_isSame_47 ?_
        refine e_zret F rfl (by omega) (by omega) ?_ dX3_isSame_48
        refine ⟨⟨hi1, hi2⟩, ?_, rfl, hC0, FR.rf⟩
        unfold smV
        rw [if_pos (by first | exact Or.inl c_17 | exact Or.inr c_25)]
        first | rw [b01_t (And.intro c_32 c_40)] | rw [b01_f (fun q => by first | exact c_32 q.1 | exact c_40 q.2)]
      ·
        rw [b01_0, Classical.not_not] at c_32
        refine e_aload F dX3_isSame_35 rfl ?_
        refine e_callVN F u_X0_isEmpty (by rfl) (c_X0_isEmpty hD2) hD2.1 rfl rfl w_mn_RX3_109 dX3_isSame_37 (by rfl) (Nat.le_of_ble_eq_true rfl) (by decide) (by omega) (fun _ _ _ h _ => False.elim h) (fun r_37 w_37 n_37 h_37 hn_37 => ?_)
        obtain ⟨rfl, ew_37, en_37⟩ := h_37
        rw [ew_37, en_37]
        refine e_if_eq F 47 dX3_isSame_40 (by decide) (b01_r _) (fun c_40 => ?_) (fun c_40 => ?_)
        ·
          rw [b01_0] at c_40
          refine e_iconst F dX3_isSame_47 ?_
          refine e_zret F rfl (by omega) (by omega) ?_ dX3_isSame_48
          refine ⟨⟨hi1, hi2⟩, ?_, rfl, hC0, FR.rf⟩
          unfold smV
          rw [if_pos (by first | exact Or.inl c_17 | exact Or.inr c_25)]
          first | rw [b01_t (And.intro c_32 c_40)] | rw [b01_f (fun q => by first | exact c_32 q.1 | exact c_40 q.2)]
        ·
          rw [b01_0, Classical.not_not] at c_40
          refine e_iconst F dX3_isSame_43 ?_
          refine e_goto F 48 dX3_isSame_44 (by decide) ?_
          refine e_zret F rfl (by omega) (by omega) ?_ dX3_isSame_48
          refine ⟨⟨hi1, hi2⟩, ?_, rfl, hC0, FR.rf⟩
          unfold smV
          rw [if_pos (by first | exact Or.inl c_17 | exact Or.inr c_25)]
          first | rw [b01_t (And.intro c_32 c_40)] | rw [b01_f (fun q => by first | exact c_32 q.1 | exact c_40 q.2)]
