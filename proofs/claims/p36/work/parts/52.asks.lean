/-! the reference: what is asked of deals -/
theorem noT_ok {wh : Nat} {i s9 : Int} (h : (0 ≤ i ∧ i < 6) ∧ (1 ≤ s9 ∧ s9 ≤ fl wh)) : noT wh i s9 = 0 := by
  unfold noT
  rw [if_neg (fun q => q h.1), if_neg (fun q => q h.2)]
theorem noT_1 {wh : Nat} {i s9 : Int} (h : ¬ (0 ≤ i ∧ i < 6)) : noT wh i s9 = 1 := by
  unfold noT
  rw [if_pos h]
theorem noT_2 {wh : Nat} {i s9 : Int} (h : 0 ≤ i ∧ i < 6) (h2 : ¬ (1 ≤ s9 ∧ s9 ≤ fl wh)) : noT wh i s9 = 2 := by
  unfold noT
  rw [if_neg (fun q => q h), if_pos h2]
set_option maxHeartbeats 4000000 in
set_option maxRecDepth 100000 in
theorem c_X5_told {K : e_K} {l : Launch} {w : e_W} {n : Nat} {y wh : Nat} {t kn : Int} {R : Nat → RD} (hM : MW w y wh kn t R) {i9 : Int} (hi9 : e_r i9) {a9 : Int} (ha9 : e_r a9) {x9 : Int} (hx9 : e_r x9) : e_Met K l yX5_told (Cond.code yX5_told cX5_told 4 (Option.some .int) :: e_TB) (5) (2) [.ref y, .int (eI i9), .int (eI a9), .int (eI x9)] w n (fun r w' n' => FM w w' y n ∧ ((¬ (0 ≤ i9 ∧ i9 < 6) ∧ r = some (.int (eI 0)) ∧ MW w' y wh kn 1 R) ∨ ((0 ≤ i9 ∧ i9 < 6) ∧ ¬ (1 ≤ a9 ∧ a9 ≤ fl wh) ∧ r = some (.int (eI 0)) ∧ MW w' y wh kn 2 R) ∨ ((0 ≤ i9 ∧ i9 < 6) ∧ (1 ≤ a9 ∧ a9 ≤ fl wh) ∧ r = some (.int (eI (if (thQ wh (R i9.toNat) a9) then atV wh a9 (R i9.toNat).A x9 else -9))) ∧ MW w' y wh (kn) 0 (R)))) (e_px0) := by
  refine e_ofV rfl (Nat.le_of_ble_eq_true rfl) ?_
  intro P9 E9 S9 M9 A9 B9 T9 C9 F hnm
  have hwh := hM.2.1
  have hY := hM.1
  have hp := pr_rg wh hwh
  have hho := ho_rg wh hwh
  have hf9 := fl_rg wh hwh
  refine e_aload_n F dX5_told_0 rfl ?_
  refine e_iload_n F dX5_told_1 rfl ?_
  refine e_iload_n F dX5_told_2 rfl ?_
  refine e_callVV F u_X5_isNo (by rfl) (c_X5_isNo hY hwh hi9 ha9) hY rfl rfl w_ml_RX5_189 dX5_told_3 (by rfl) (Nat.le_of_ble_eq_true rfl) (by decide) (by omega) (fun _ _ _ h _ => False.elim h) (fun r_3 w_3 n_3 h_3 hn_3 => ?_)
  obtain ⟨rfl, en_3, ew_3⟩ := h_3
  rw [en_3, ew_3]
  refine e_if_eq F 11 dX5_told_6 (by decide) (b01_r _) (fun c_6 => ?_) (fun c_6 => ?_)
  ·
    rw [b01_0, Classical.not_not] at c_6
    rw [noT_ok c_6]
    have gM := hM.th (t2 := 0) (kn2 := kn)
    obtain ⟨h_i, h_s⟩ := c_6
    obtain ⟨ki9, rfl⟩ : ∃ k : Nat, i9 = (k : Int) := ⟨i9.toNat, by omega⟩
    have hki9 : ki9 < 6 := by omega
    rw [show ((ki9 : Nat) : Int).toNat = ki9 from rfl]
    refine e_dom ?_
    intro hdm
    obtain ⟨gY, _, ⟨G, gG, gGe⟩, ⟨SS, PP, gS, gP, gMD⟩, gRV⟩ := id gM
    refine e_aload_n F dX5_told_11 rfl ?_
    refine e_iload_n F dX5_told_12 rfl ?_
    refine e_iload_n F dX5_told_13 rfl ?_
    refine e_callVV F u_X5_isThere (by rfl) (c_X5_isThere gM hki9 (set := a9) (by omega) (by omega)) gY rfl rfl w_ml_RX5_122 dX5_told_14 (by rfl) (Nat.le_of_ble_eq_true rfl) (by decide) (by omega) (fun _ _ _ h _ => False.elim h) (fun r_14 w_14 n_14 h_14 hn_14 => ?_)
    obtain ⟨rfl, ew_14, en_14⟩ := h_14
    rw [ew_14, en_14]
    refine e_if_eq F 35 dX5_told_17 (by decide) (b01_r _) (fun c_17 => ?_) (fun c_17 => ?_)
    ·
      rw [b01_0] at c_17
      refine e_bipush F dX5_told_35 (by decide) ?_
      refine e_iret F rfl (by omega) ?_ dX5_told_37
      first
      | (have q9 : thQ wh (R ki9) a9 := c_17
         rw [if_pos q9]
         exact ⟨FM.th.kb (Nat.le_refl _) gK, Or.inr (Or.inr ⟨h_i, h_s, rfl, gM.kb hdm gK⟩)⟩)
      | (have q9 : ¬ thQ wh (R ki9) a9 := c_17
         rw [if_neg q9]
         exact ⟨FM.th, Or.inr (Or.inr ⟨h_i, h_s, rfl, gM⟩)⟩)
    ·
      rw [b01_0, Classical.not_not] at c_17
      obtain ⟨a, f, hSa, hya, hwa, hfr, hfA⟩ := MD.row (gMD ki9 hki9) c_17.2
      refine e_aload_n F dX5_told_20 rfl ?_
      refine e_aload_n F dX5_told_21 rfl ?_
      refine e_get (ci := 5) (fi := 4) (q := (RX5, TX5, 6)) F gY rfl (by decide) w_fl_RX5_18 (by rfl) dX5_told_22 ?_
      refine e_iload_n F dX5_told_25 rfl ?_
      refine e_aaldr F gS (by omega) (by omega) (by decide) (hSa) dX5_told_26 ?_
      refine e_iload_n F dX5_told_27 rfl ?_
      refine e_iload_n F dX5_told_28 rfl ?_
      refine e_callVV F u_X5_at (by rfl) (c_X5_at gY hwh hwa (by omega) hfr (set := a9) (x := x9) (by omega) (by omega) hx9) gY rfl rfl w_ml_RX5_106 dX5_told_29 (by rfl) (Nat.le_of_ble_eq_true rfl) (by decide) (by omega) (fun _ _ _ h _ => False.elim h) (fun r_29 w_29 n_29 h_29 hn_29 => ?_)
      obtain ⟨rfl, gK⟩ := h_29
      have eT : atV wh a9 f x9 = atV wh a9 (R ki9).A x9 := by
        unfold atV
        rw [trK_congr (A2 := (R ki9).A) (ho wh).toNat (fun j j0 j1 => hfA j j0 (by omega))]
      rw [eT]
      refine e_goto F 37 dX5_told_32 (by decide) ?_
      refine e_iret F rfl (by omega) ?_ dX5_told_37
      first
      | (have q9 : thQ wh (R ki9) a9 := c_17
         rw [if_pos q9]
         exact ⟨FM.th.kb (Nat.le_refl _) gK, Or.inr (Or.inr ⟨h_i, h_s, rfl, gM.kb hdm gK⟩)⟩)
      | (have q9 : ¬ thQ wh (R ki9) a9 := c_17
         rw [if_neg q9]
         exact ⟨FM.th, Or.inr (Or.inr ⟨h_i, h_s, rfl, gM⟩)⟩)
  ·
    rw [b01_0, Classical.not_not] at c_6
    refine e_iconst F dX5_told_9 ?_
    refine e_iret F rfl (by omega) ?_ dX5_told_10
    by_cases q : 0 ≤ i9 ∧ i9 < 6
    · by_cases q2 : 1 ≤ a9 ∧ a9 ≤ fl wh
      · exact absurd (And.intro q q2) c_6
      · rw [noT_2 q q2]; exact ⟨FM.th, Or.inr (Or.inl ⟨q, q2, rfl, hM.th⟩)⟩
    · rw [noT_1 q]; exact ⟨FM.th, Or.inl ⟨q, rfl, hM.th⟩⟩
set_option maxHeartbeats 4000000 in
set_option maxRecDepth 100000 in
theorem c_X5_open {K : e_K} {l : Launch} {w : e_W} {n : Nat} {y wh : Nat} {t kn : Int} {R : Nat → RD} (hM : MW w y wh kn t R) {i9 : Int} (hi9 : e_r i9) {a9 : Int} (ha9 : e_r a9) : e_Met K l yX5_open (Cond.code yX5_open cX5_open 3 (Option.some .int) :: e_TB) (5) (2) [.ref y, .int (eI i9), .int (eI a9)] w n (fun r w' n' => FM w w' y n ∧ ((¬ (0 ≤ i9 ∧ i9 < 6) ∧ r = some (.int (eI 0)) ∧ MW w' y wh kn 1 R) ∨ ((0 ≤ i9 ∧ i9 < 6) ∧ ¬ (1 ≤ a9 ∧ a9 ≤ fl wh) ∧ r = some (.int (eI 0)) ∧ MW w' y wh kn 2 R) ∨ ((0 ≤ i9 ∧ i9 < 6) ∧ (1 ≤ a9 ∧ a9 ≤ fl wh) ∧ r = some (.int (eI (if (thQ wh (R i9.toNat) a9 ∧ (R i9.toNat).dg < bc a9) then atV wh a9 (R i9.toNat).A 0 else -9))) ∧ MW w' y wh (kn) 0 (R)))) (e_px0) := by
  refine e_ofV rfl (Nat.le_of_ble_eq_true rfl) ?_
  intro P9 E9 S9 M9 A9 B9 T9 C9 F hnm
  have hwh := hM.2.1
  have hY := hM.1
  have hp := pr_rg wh hwh
  have hho := ho_rg wh hwh
  have hf9 := fl_rg wh hwh
  refine e_aload_n F dX5_open_0 rfl ?_
  refine e_iload_n F dX5_open_1 rfl ?_
  refine e_iload_n F dX5_open_2 rfl ?_
  refine e_callVV F u_X5_isNo (by rfl) (c_X5_isNo hY hwh hi9 ha9) hY rfl rfl w_ml_RX5_189 dX5_open_3 (by rfl) (Nat.le_of_ble_eq_true rfl) (by decide) (by omega) (fun _ _ _ h _ => False.elim h) (fun r_3 w_3 n_3 h_3 hn_3 => ?_)
  obtain ⟨rfl, en_3, ew_3⟩ := h_3
  rw [en_3, ew_3]
  refine e_if_eq F 11 dX5_open_6 (by decide) (b01_r _) (fun c_6 => ?_) (fun c_6 => ?_)
  ·
    rw [b01_0, Classical.not_not] at c_6
    rw [noT_ok c_6]
    have gM := hM.th (t2 := 0) (kn2 := kn)
    obtain ⟨h_i, h_s⟩ := c_6
    obtain ⟨ki9, rfl⟩ : ∃ k : Nat, i9 = (k : Int) := ⟨i9.toNat, by omega⟩
    have hki9 : ki9 < 6 := by omega
    rw [show ((ki9 : Nat) : Int).toNat = ki9 from rfl]
    refine e_dom ?_
    intro hdm
    obtain ⟨gY, _, ⟨G, gG, gGe⟩, ⟨SS, PP, gS, gP, gMD⟩, gRV⟩ := id gM
    refine e_aload_n F dX5_open_11 rfl ?_
    refine e_iload_n F dX5_open_12 rfl ?_
    refine e_iload_n F dX5_open_13 rfl ?_
    refine e_callVV F u_X5_isEnough (by rfl) (c_X5_isEnough gM hki9 (set := a9) (by omega) (by omega)) gY rfl rfl w_ml_RX5_161 dX5_open_14 (by rfl) (Nat.le_of_ble_eq_true rfl) (by decide) (by omega) (fun _ _ _ h _ => False.elim h) (fun r_14 w_14 n_14 h_14 hn_14 => ?_)
    obtain ⟨rfl, ew_14, en_14⟩ := h_14
    rw [ew_14, en_14]
    refine e_if_eq F 35 dX5_open_17 (by decide) (b01_r _) (fun c_17 => ?_) (fun c_17 => ?_)
    ·
      rw [b01_0] at c_17
      refine e_bipush F dX5_open_35 (by decide) ?_
      refine e_iret F rfl (by omega) ?_ dX5_open_37
      first
      | (have q9 : (thQ wh (R ki9) a9 ∧ (R ki9).dg < bc a9) := c_17
         rw [if_pos q9]
         exact ⟨FM.th.kb (Nat.le_refl _) gK, Or.inr (Or.inr ⟨h_i, h_s, rfl, gM.kb hdm gK⟩)⟩)
      | (have q9 : ¬ (thQ wh (R ki9) a9 ∧ (R ki9).dg < bc a9) := c_17
         rw [if_neg q9]
         exact ⟨FM.th, Or.inr (Or.inr ⟨h_i, h_s, rfl, gM⟩)⟩)
    ·
      rw [b01_0, Classical.not_not] at c_17
      obtain ⟨a, f, hSa, hya, hwa, hfr, hfA⟩ := MD.row (gMD ki9 hki9) c_17.1.2
      refine e_aload_n F dX5_open_20 rfl ?_
      refine e_aload_n F dX5_open_21 rfl ?_
      refine e_get (ci := 5) (fi := 4) (q := (RX5, TX5, 6)) F gY rfl (by decide) w_fl_RX5_18 (by rfl) dX5_open_22 ?_
      refine e_iload_n F dX5_open_25 rfl ?_
      refine e_aaldr F gS (by omega) (by omega) (by decide) (hSa) dX5_open_26 ?_
      refine e_iload_n F dX5_open_27 rfl ?_
      refine e_iconst F dX5_open_28 ?_
      refine e_callVV F u_X5_at (by rfl) (c_X5_at gY hwh hwa (by omega) hfr (set := a9) (x := 0) (by omega) (by omega) (by decide)) gY rfl rfl w_ml_RX5_106 dX5_open_29 (by rfl) (Nat.le_of_ble_eq_true rfl) (by decide) (by omega) (fun _ _ _ h _ => False.elim h) (fun r_29 w_29 n_29 h_29 hn_29 => ?_)
      obtain ⟨rfl, gK⟩ := h_29
      have eT : atV wh a9 f 0 = atV wh a9 (R ki9).A 0 := by
        unfold atV
        rw [trK_congr (A2 := (R ki9).A) (ho wh).toNat (fun j j0 j1 => hfA j j0 (by omega))]
      rw [eT]
      refine e_goto F 37 dX5_open_32 (by decide) ?_
      refine e_iret F rfl (by omega) ?_ dX5_open_37
      first
      | (have q9 : (thQ wh (R ki9) a9 ∧ (R ki9).dg < bc a9) := c_17
         rw [if_pos q9]
         exact ⟨FM.th.kb (Nat.le_refl _) gK, Or.inr (Or.inr ⟨h_i, h_s, rfl, gM.kb hdm gK⟩)⟩)
      | (have q9 : ¬ (thQ wh (R ki9) a9 ∧ (R ki9).dg < bc a9) := c_17
         rw [if_neg q9]
         exact ⟨FM.th, Or.inr (Or.inr ⟨h_i, h_s, rfl, gM⟩)⟩)
  ·
    rw [b01_0, Classical.not_not] at c_6
    refine e_iconst F dX5_open_9 ?_
    refine e_iret F rfl (by omega) ?_ dX5_open_10
    by_cases q : 0 ≤ i9 ∧ i9 < 6
    · by_cases q2 : 1 ≤ a9 ∧ a9 ≤ fl wh
      · exact absurd (And.intro q q2) c_6
      · rw [noT_2 q q2]; exact ⟨FM.th, Or.inr (Or.inl ⟨q, q2, rfl, hM.th⟩)⟩
    · rw [noT_1 q]; exact ⟨FM.th, Or.inl ⟨q, rfl, hM.th⟩⟩
set_option maxHeartbeats 4000000 in
set_option maxRecDepth 100000 in
theorem c_X5_degreeBy {K : e_K} {l : Launch} {w : e_W} {n : Nat} {y wh : Nat} {t kn : Int} {R : Nat → RD} (hM : MW w y wh kn t R) {i9 : Int} (hi9 : e_r i9) {a9 : Int} (ha9 : e_r a9) : e_Met K l yX5_degreeBy (Cond.code yX5_degreeBy cX5_degreeBy 3 (Option.some .int) :: e_TB) (4) (2) [.ref y, .int (eI i9), .int (eI a9)] w n (fun r w' n' => FM w w' y n ∧ ((¬ (0 ≤ i9 ∧ i9 < 6) ∧ r = some (.int (eI 0)) ∧ MW w' y wh kn 1 R) ∨ ((0 ≤ i9 ∧ i9 < 6) ∧ ¬ (1 ≤ a9 ∧ a9 ≤ fl wh) ∧ r = some (.int (eI 0)) ∧ MW w' y wh kn 2 R) ∨ ((0 ≤ i9 ∧ i9 < 6) ∧ (1 ≤ a9 ∧ a9 ≤ fl wh) ∧ r = some (.int (eI (if (thQ wh (R i9.toNat) a9) then hiK (trK wh a9 (R i9.toNat).A (ho wh).toNat).1 7 else -9))) ∧ MW w' y wh (kn) 0 (R)))) (e_px0) := by
  refine e_ofV rfl (Nat.le_of_ble_eq_true rfl) ?_
  intro P9 E9 S9 M9 A9 B9 T9 C9 F hnm
  have hwh := hM.2.1
  have hY := hM.1
  have hp := pr_rg wh hwh
  have hho := ho_rg wh hwh
  have hf9 := fl_rg wh hwh
  refine e_aload_n F dX5_degreeBy_0 rfl ?_
  refine e_iload_n F dX5_degreeBy_1 rfl ?_
  refine e_iload_n F dX5_degreeBy_2 rfl ?_
  refine e_callVV F u_X5_isNo (by rfl) (c_X5_isNo hY hwh hi9 ha9) hY rfl rfl w_ml_RX5_189 dX5_degreeBy_3 (by rfl) (Nat.le_of_ble_eq_true rfl) (by decide) (by omega) (fun _ _ _ h _ => False.elim h) (fun r_3 w_3 n_3 h_3 hn_3 => ?_)
  obtain ⟨rfl, en_3, ew_3⟩ := h_3
  rw [en_3, ew_3]
  refine e_if_eq F 11 dX5_degreeBy_6 (by decide) (b01_r _) (fun c_6 => ?_) (fun c_6 => ?_)
  ·
    rw [b01_0, Classical.not_not] at c_6
    rw [noT_ok c_6]
    have gM := hM.th (t2 := 0) (kn2 := kn)
    obtain ⟨h_i, h_s⟩ := c_6
    obtain ⟨ki9, rfl⟩ : ∃ k : Nat, i9 = (k : Int) := ⟨i9.toNat, by omega⟩
    have hki9 : ki9 < 6 := by omega
    rw [show ((ki9 : Nat) : Int).toNat = ki9 from rfl]
    refine e_dom ?_
    intro hdm
    obtain ⟨gY, _, ⟨G, gG, gGe⟩, ⟨SS, PP, gS, gP, gMD⟩, gRV⟩ := id gM
    refine e_aload_n F dX5_degreeBy_11 rfl ?_
    refine e_iload_n F dX5_degreeBy_12 rfl ?_
    refine e_iload_n F dX5_degreeBy_13 rfl ?_
    refine e_callVV F u_X5_isThere (by rfl) (c_X5_isThere gM hki9 (set := a9) (by omega) (by omega)) gY rfl rfl w_ml_RX5_122 dX5_degreeBy_14 (by rfl) (Nat.le_of_ble_eq_true rfl) (by decide) (by omega) (fun _ _ _ h _ => False.elim h) (fun r_14 w_14 n_14 h_14 hn_14 => ?_)
    obtain ⟨rfl, ew_14, en_14⟩ := h_14
    rw [ew_14, en_14]
    refine e_if_eq F 37 dX5_degreeBy_17 (by decide) (b01_r _) (fun c_17 => ?_) (fun c_17 => ?_)
    ·
      rw [b01_0] at c_17
      refine e_bipush F dX5_degreeBy_37 (by decide) ?_
      refine e_iret F rfl (by omega) ?_ dX5_degreeBy_39
      first
      | (have q9 : thQ wh (R ki9) a9 := c_17
         rw [if_pos q9]
         exact ⟨FM.th.kb (Nat.le_refl _) gK, Or.inr (Or.inr ⟨h_i, h_s, rfl, gM.kb hdm gK⟩)⟩)
      | (have q9 : ¬ thQ wh (R ki9) a9 := c_17
         rw [if_neg q9]
         exact ⟨FM.th, Or.inr (Or.inr ⟨h_i, h_s, rfl, gM⟩)⟩)
    ·
      rw [b01_0, Classical.not_not] at c_17
      obtain ⟨a, f, hSa, hya, hwa, hfr, hfA⟩ := MD.row (gMD ki9 hki9) c_17.2
      refine e_aload_n F dX5_degreeBy_20 rfl ?_
      refine e_aload_n F dX5_degreeBy_21 rfl ?_
      refine e_get (ci := 5) (fi := 4) (q := (RX5, TX5, 6)) F gY rfl (by decide) w_fl_RX5_18 (by rfl) dX5_degreeBy_22 ?_
      refine e_iload_n F dX5_degreeBy_25 rfl ?_
      refine e_aaldr F gS (by omega) (by omega) (by decide) (hSa) dX5_degreeBy_26 ?_
      refine e_iload_n F dX5_degreeBy_27 rfl ?_
      refine e_callVV F u_X5_through (by rfl) (c_X5_through gY hwh hwa (by omega) hfr (set := a9) (by omega) (by omega)) gY rfl rfl w_ml_RX5_95 dX5_degreeBy_28 (by rfl) (Nat.le_of_ble_eq_true rfl) (by decide) (by omega) (fun _ _ _ h _ => False.elim h) (fun r_28 w_28 n_28 h_28 hn_28 => ?_)
      obtain ⟨rfl, ⟨g, hg, he⟩, gK, en_28⟩ := h_28
      rw [en_28]
      have eT : trK wh a9 f (ho wh).toNat = trK wh a9 (R ki9).A (ho wh).toNat := trK_congr _ (fun j j0 j1 => hfA j j0 (by omega))
      rw [eT] at he
      have hr := fun c => (trK_rg hwh a9 (R ki9).A (ho wh).toNat c).1
      refine e_callSS F u_X5_degreeOf (by rfl) (c_X5_degreeOf hg (fun j j0 j1 => by rw [he j j0 j1]; have := hr j; omega)) w_ml_RX5_125 dX5_degreeBy_31 (by rfl) (Nat.le_of_ble_eq_true rfl) (by decide) (by omega) (fun _ _ _ h _ => False.elim h) (fun r_31 w_31 n_31 h_31 hn_31 => ?_)
      obtain ⟨rfl, ew_31, en_31⟩ := h_31
      have e31 : hiK g 7 = hiK (trK wh a9 (R ki9).A (ho wh).toNat).1 7 := hiK_congr 7 (fun j j0 j1 => he j j0 (by omega))
      rw [ew_31, en_31, e31]
      refine e_goto F 39 dX5_degreeBy_34 (by decide) ?_
      refine e_iret F rfl (by omega) ?_ dX5_degreeBy_39
      first
      | (have q9 : thQ wh (R ki9) a9 := c_17
         rw [if_pos q9]
         exact ⟨FM.th.kb (Nat.le_refl _) gK, Or.inr (Or.inr ⟨h_i, h_s, rfl, gM.kb hdm gK⟩)⟩)
      | (have q9 : ¬ thQ wh (R ki9) a9 := c_17
         rw [if_neg q9]
         exact ⟨FM.th, Or.inr (Or.inr ⟨h_i, h_s, rfl, gM⟩)⟩)
  ·
    rw [b01_0, Classical.not_not] at c_6
    refine e_iconst F dX5_degreeBy_9 ?_
    refine e_iret F rfl (by omega) ?_ dX5_degreeBy_10
    by_cases q : 0 ≤ i9 ∧ i9 < 6
    · by_cases q2 : 1 ≤ a9 ∧ a9 ≤ fl wh
      · exact absurd (And.intro q q2) c_6
      · rw [noT_2 q q2]; exact ⟨FM.th, Or.inr (Or.inl ⟨q, q2, rfl, hM.th⟩)⟩
    · rw [noT_1 q]; exact ⟨FM.th, Or.inl ⟨q, rfl, hM.th⟩⟩
set_option maxHeartbeats 4000000 in
set_option maxRecDepth 100000 in
theorem c_X5_agrees {K : e_K} {l : Launch} {w : e_W} {n : Nat} {y wh : Nat} {t kn : Int} {R : Nat → RD} (hM : MW w y wh kn t R) {i9 : Int} (hi9 : e_r i9) {a9 : Int} (ha9 : e_r a9) : e_Met K l yX5_agrees (Cond.code yX5_agrees cX5_agrees 3 (Option.some .int) :: e_TB) (5) (2) [.ref y, .int (eI i9), .int (eI a9)] w n (fun r w' n' => FM w w' y n ∧ ((¬ (0 ≤ i9 ∧ i9 < 6) ∧ r = some (.int (eI 0)) ∧ MW w' y wh kn 1 R) ∨ ((0 ≤ i9 ∧ i9 < 6) ∧ ¬ (1 ≤ a9 ∧ a9 ≤ fl wh) ∧ r = some (.int (eI 0)) ∧ MW w' y wh kn 2 R) ∨ ((0 ≤ i9 ∧ i9 < 6) ∧ (1 ≤ a9 ∧ a9 ≤ fl wh) ∧ r = some (.int (eI (if (thQ wh (R i9.toNat) a9) then b01 (agD wh (R i9.toNat) a9) else -9))) ∧ MW w' y wh (kn) 0 (R)))) (e_px0) := by
  refine e_ofV rfl (Nat.le_of_ble_eq_true rfl) ?_
  intro P9 E9 S9 M9 A9 B9 T9 C9 F hnm
  have hwh := hM.2.1
  have hY := hM.1
  have hp := pr_rg wh hwh
  have hho := ho_rg wh hwh
  have hf9 := fl_rg wh hwh
  refine e_aload_n F dX5_agrees_0 rfl ?_
  refine e_iload_n F dX5_agrees_1 rfl ?_
  refine e_iload_n F dX5_agrees_2 rfl ?_
  refine e_callVV F u_X5_isNo (by rfl) (c_X5_isNo hY hwh hi9 ha9) hY rfl rfl w_ml_RX5_189 dX5_agrees_3 (by rfl) (Nat.le_of_ble_eq_true rfl) (by decide) (by omega) (fun _ _ _ h _ => False.elim h) (fun r_3 w_3 n_3 h_3 hn_3 => ?_)
  obtain ⟨rfl, en_3, ew_3⟩ := h_3
  rw [en_3, ew_3]
  refine e_if_eq F 11 dX5_agrees_6 (by decide) (b01_r _) (fun c_6 => ?_) (fun c_6 => ?_)
  ·
    rw [b01_0, Classical.not_not] at c_6
    rw [noT_ok c_6]
    have gM := hM.th (t2 := 0) (kn2 := kn)
    obtain ⟨h_i, h_s⟩ := c_6
    obtain ⟨ki9, rfl⟩ : ∃ k : Nat, i9 = (k : Int) := ⟨i9.toNat, by omega⟩
    have hki9 : ki9 < 6 := by omega
    rw [show ((ki9 : Nat) : Int).toNat = ki9 from rfl]
    refine e_dom ?_
    intro hdm
    obtain ⟨gY, _, ⟨G, gG, gGe⟩, ⟨SS, PP, gS, gP, gMD⟩, gRV⟩ := id gM
    refine e_aload_n F dX5_agrees_11 rfl ?_
    refine e_iload_n F dX5_agrees_12 rfl ?_
    refine e_iload_n F dX5_agrees_13 rfl ?_
    refine e_callVV F u_X5_isThere (by rfl) (c_X5_isThere gM hki9 (set := a9) (by omega) (by omega)) gY rfl rfl w_ml_RX5_122 dX5_agrees_14 (by rfl) (Nat.le_of_ble_eq_true rfl) (by decide) (by omega) (fun _ _ _ h _ => False.elim h) (fun r_14 w_14 n_14 h_14 hn_14 => ?_)
    obtain ⟨rfl, ew_14, en_14⟩ := h_14
    rw [ew_14, en_14]
    refine e_if_eq F 32 dX5_agrees_17 (by decide) (b01_r _) (fun c_17 => ?_) (fun c_17 => ?_)
    ·
      rw [b01_0] at c_17
      refine e_bipush F dX5_agrees_32 (by decide) ?_
      refine e_iret F rfl (by omega) ?_ dX5_agrees_34
      first
      | (have q9 : thQ wh (R ki9) a9 := c_17
         rw [if_pos q9]
         exact ⟨FM.th.kb (Nat.le_refl _) gK, Or.inr (Or.inr ⟨h_i, h_s, rfl, gM.kb hdm gK⟩)⟩)
      | (have q9 : ¬ thQ wh (R ki9) a9 := c_17
         rw [if_neg q9]
         exact ⟨FM.th, Or.inr (Or.inr ⟨h_i, h_s, rfl, gM⟩)⟩)
    ·
      rw [b01_0, Classical.not_not] at c_17
      refine e_aload_n F dX5_agrees_20 rfl ?_
      refine e_iload_n F dX5_agrees_21 rfl ?_
      refine e_iload_n F dX5_agrees_22 rfl ?_
      refine e_callVV F u_X5_isAgreed (by rfl) (c_X5_isAgreed gM hki9 (set := a9) (by omega) (by omega) c_17.2) gY rfl rfl w_ml_RX5_168 dX5_agrees_23 (by rfl) (Nat.le_of_ble_eq_true rfl) (by decide) (by omega) (fun _ _ _ h _ => False.elim h) (fun r_23 w_23 n_23 h_23 hn_23 => ?_)
      obtain ⟨rfl, gK⟩ := h_23
      refine e_callSS F u_X5_one (by rfl) (c_X5_one (b01_or _)) w_ml_RX5_80 dX5_agrees_26 (by rfl) (Nat.le_of_ble_eq_true rfl) (by decide) (by omega) (fun _ _ _ h _ => False.elim h) (fun r_26 w_26 n_26 h_26 hn_26 => ?_)
      obtain ⟨rfl, ew_26, en_26⟩ := h_26
      rw [ew_26, en_26]
      refine e_goto F 34 dX5_agrees_29 (by decide) ?_
      refine e_iret F rfl (by omega) ?_ dX5_agrees_34
      first
      | (have q9 : thQ wh (R ki9) a9 := c_17
         rw [if_pos q9]
         exact ⟨FM.th.kb (Nat.le_refl _) gK, Or.inr (Or.inr ⟨h_i, h_s, rfl, gM.kb hdm gK⟩)⟩)
      | (have q9 : ¬ thQ wh (R ki9) a9 := c_17
         rw [if_neg q9]
         exact ⟨FM.th, Or.inr (Or.inr ⟨h_i, h_s, rfl, gM⟩)⟩)
  ·
    rw [b01_0, Classical.not_not] at c_6
    refine e_iconst F dX5_agrees_9 ?_
    refine e_iret F rfl (by omega) ?_ dX5_agrees_10
    by_cases q : 0 ≤ i9 ∧ i9 < 6
    · by_cases q2 : 1 ≤ a9 ∧ a9 ≤ fl wh
      · exact absurd (And.intro q q2) c_6
      · rw [noT_2 q q2]; exact ⟨FM.th, Or.inr (Or.inl ⟨q, q2, rfl, hM.th⟩)⟩
    · rw [noT_1 q]; exact ⟨FM.th, Or.inl ⟨q, rfl, hM.th⟩⟩
set_option maxHeartbeats 4000000 in
set_option maxRecDepth 100000 in
theorem c_X5_coefficient {K : e_K} {l : Launch} {w : e_W} {n : Nat} {y wh : Nat} {t kn : Int} {R : Nat → RD} (hM : MW w y wh kn t R) {i9 : Int} (hi9 : e_r i9) {a9 : Int} (ha9 : e_r a9) {c9 : Int} (hc9 : e_r c9) : e_Met K l yX5_coefficient (Cond.code yX5_coefficient cX5_coefficient 4 (Option.some .int) :: e_TB) (4) (2) [.ref y, .int (eI i9), .int (eI a9), .int (eI c9)] w n (fun r w' n' => FM w w' y n ∧ ((¬ (0 ≤ i9 ∧ i9 < 6) ∧ r = some (.int (eI 0)) ∧ MW w' y wh kn 1 R) ∨ ((0 ≤ i9 ∧ i9 < 6) ∧ ¬ ((1 ≤ a9 ∧ a9 ≤ fl wh) ∧ (0 ≤ c9 ∧ c9 ≤ 6)) ∧ r = some (.int (eI 0)) ∧ MW w' y wh kn 2 R) ∨ ((0 ≤ i9 ∧ i9 < 6) ∧ ((1 ≤ a9 ∧ a9 ≤ fl wh) ∧ (0 ≤ c9 ∧ c9 ≤ 6)) ∧ r = some (.int (eI (if (thQ wh (R i9.toNat) a9) then (trK wh a9 (R i9.toNat).A (ho wh).toNat).1 c9 else -9))) ∧ MW w' y wh (kn) 0 (R)))) (e_px0) := by
  refine e_ofV rfl (Nat.le_of_ble_eq_true rfl) ?_
  intro P9 E9 S9 M9 A9 B9 T9 C9 F hnm
  have hwh := hM.2.1
  have hY := hM.1
  have hp := pr_rg wh hwh
  have hho := ho_rg wh hwh
  have hf9 := fl_rg wh hwh
  refine e_aload_n F dX5_coefficient_0 rfl ?_
  refine e_iload_n F dX5_coefficient_1 rfl ?_
  refine e_iload_n F dX5_coefficient_2 rfl ?_
  refine e_callVV F u_X5_isNo (by rfl) (c_X5_isNo hY hwh hi9 ha9) hY rfl rfl w_ml_RX5_189 dX5_coefficient_3 (by rfl) (Nat.le_of_ble_eq_true rfl) (by decide) (by omega) (fun _ _ _ h _ => False.elim h) (fun r_3 w_3 n_3 h_3 hn_3 => ?_)
  obtain ⟨rfl, en_3, ew_3⟩ := h_3
  rw [en_3, ew_3]
  refine e_if_ne F 32 dX5_coefficient_6 (by decide) (b01_r _) (fun c_6 => ?_) (fun c_6 => ?_)
  ·
    rw [ne_eq, b01_0, Classical.not_not] at c_6
    refine e_iconst F dX5_coefficient_32 ?_
    refine e_iret F rfl (by omega) ?_ dX5_coefficient_33
    first
    | exact ⟨FM.th, Or.inr (Or.inl ⟨h_i, fun q => c_17 q.2, rfl, hM.th⟩)⟩
    | (by_cases q : 0 ≤ i9 ∧ i9 < 6
       · by_cases q2 : 1 ≤ a9 ∧ a9 ≤ fl wh
         · exact absurd (And.intro q q2) c_6
         · rw [noT_2 q q2]; exact ⟨FM.th, Or.inr (Or.inl ⟨q, fun z => q2 z.1, rfl, hM.th⟩)⟩
       · rw [noT_1 q]; exact ⟨FM.th, Or.inl ⟨q, rfl, hM.th⟩⟩)
  ·
    rw [b01_0, Classical.not_not] at c_6
    rw [noT_ok c_6]
    have gM := hM.th (t2 := 0) (kn2 := kn)
    obtain ⟨h_i, h_s⟩ := c_6
    obtain ⟨ki9, rfl⟩ : ∃ k : Nat, i9 = (k : Int) := ⟨i9.toNat, by omega⟩
    have hki9 : ki9 < 6 := by omega
    rw [show ((ki9 : Nat) : Int).toNat = ki9 from rfl]
    refine e_dom ?_
    intro hdm
    obtain ⟨gY, _, ⟨G, gG, gGe⟩, ⟨SS, PP, gS, gP, gMD⟩, gRV⟩ := id gM
    refine e_aload_n F dX5_coefficient_9 rfl ?_
    refine e_iload_n F dX5_coefficient_10 rfl ?_
    refine e_iconst F dX5_coefficient_11 ?_
    refine e_bipush F dX5_coefficient_12 (by decide) ?_
    refine e_callSS F u_X5_isIn (by rfl) (c_X5_isIn (v := c9) (a := 0) (b := 6) hc9 (by decide) (by decide)) w_ml_RX5_48 dX5_coefficient_14 (by rfl) (Nat.le_of_ble_eq_true rfl) (by decide) (by omega) (fun _ _ _ h _ => False.elim h) (fun r_14 w_14 n_14 h_14 hn_14 => ?_)
    obtain ⟨rfl, ew_14, en_14⟩ := h_14
    rw [ew_14, en_14]
    refine e_if_ne F 24 dX5_coefficient_17 (by decide) (b01_r _) (fun c_17 => ?_) (fun c_17 => ?_)
    ·
      rw [ne_eq, b01_0, Classical.not_not] at c_17
      refine e_iconst F dX5_coefficient_24 ?_
      refine e_iconst F dX5_coefficient_25 ?_
      refine e_callVV F u_X5_refuse (by rfl) (c_X5_refuse gY (by decide) (by decide) (by first | exact Or.inl rfl | exact Or.inr rfl) (by decide) (by decide)) gY rfl rfl w_ml_RX5_28 dX5_coefficient_26 (by rfl) (Nat.le_of_ble_eq_true rfl) (by decide) (by omega) (fun _ _ _ h _ => False.elim h) (fun r_26 w_26 n_26 h_26 hn_26 => ?_)
      obtain ⟨rfl, en_26, ew_26⟩ := h_26
      rw [en_26, ew_26, e_up_up]
      first | (rw [if_pos (show (1 : Int) = 1 ∧ (0 : Int) = 0 by decide), b01_t (by decide)]) | (rw [if_neg (show ¬ ((0 : Int) = 1 ∧ (0 : Int) = 0) by decide), b01_f (by decide)])
      refine e_if_eq F 34 dX5_coefficient_29 (by decide) (by decide) (fun c_29 => ?_) (fun c_29 => ?_)
      · refine e_aload_n F dX5_coefficient_34 rfl ?_
        refine e_iload_n F dX5_coefficient_35 rfl ?_
        refine e_iload_n F dX5_coefficient_36 rfl ?_
        refine e_callVV F u_X5_isThere (by rfl) (c_X5_isThere gM hki9 (set := a9) (by omega) (by omega)) gY rfl rfl w_ml_RX5_122 dX5_coefficient_37 (by rfl) (Nat.le_of_ble_eq_true rfl) (by decide) (by omega) (fun _ _ _ h _ => False.elim h) (fun r_37 w_37 n_37 h_37 hn_37 => ?_)
        obtain ⟨rfl, ew_37, en_37⟩ := h_37
        rw [ew_37, en_37]
        refine e_if_eq F 59 dX5_coefficient_40 (by decide) (b01_r _) (fun c_40 => ?_) (fun c_40 => ?_)
        ·
          rw [b01_0] at c_40
          refine e_bipush F dX5_coefficient_59 (by decide) ?_
          refine e_iret F rfl (by omega) ?_ dX5_coefficient_61
          first
          | (have q9 : thQ wh (R ki9) a9 := c_40
             rw [if_pos q9]
             exact ⟨FM.th.kb (Nat.le_refl _) gK, Or.inr (Or.inr ⟨h_i, ⟨h_s, c_17⟩, rfl, gM.kb hdm gK⟩)⟩)
          | (have q9 : ¬ thQ wh (R ki9) a9 := c_40
             rw [if_neg q9]
             exact ⟨FM.th, Or.inr (Or.inr ⟨h_i, ⟨h_s, c_17⟩, rfl, gM⟩)⟩)
        ·
          rw [b01_0, Classical.not_not] at c_40
          obtain ⟨a, f, hSa, hya, hwa, hfr, hfA⟩ := MD.row (gMD ki9 hki9) c_40.2
          refine e_aload_n F dX5_coefficient_43 rfl ?_
          refine e_aload_n F dX5_coefficient_44 rfl ?_
          refine e_get (ci := 5) (fi := 4) (q := (RX5, TX5, 6)) F gY rfl (by decide) w_fl_RX5_18 (by rfl) dX5_coefficient_45 ?_
          refine e_iload_n F dX5_coefficient_48 rfl ?_
          refine e_aaldr F gS (by omega) (by omega) (by decide) (hSa) dX5_coefficient_49 ?_
          refine e_iload_n F dX5_coefficient_50 rfl ?_
          refine e_callVV F u_X5_through (by rfl) (c_X5_through gY hwh hwa (by omega) hfr (set := a9) (by omega) (by omega)) gY rfl rfl w_ml_RX5_95 dX5_coefficient_51 (by rfl) (Nat.le_of_ble_eq_true rfl) (by decide) (by omega) (fun _ _ _ h _ => False.elim h) (fun r_51 w_51 n_51 h_51 hn_51 => ?_)
          obtain ⟨rfl, ⟨g, hg, he⟩, gK, en_51⟩ := h_51
          rw [en_51]
          have eT : trK wh a9 f (ho wh).toNat = trK wh a9 (R ki9).A (ho wh).toNat := trK_congr _ (fun j j0 j1 => hfA j j0 (by omega))
          rw [eT] at he
          have hr := fun c => (trK_rg hwh a9 (R ki9).A (ho wh).toNat c).1
          refine e_iload_n F dX5_coefficient_54 rfl ?_
          refine e_iald F hg (by omega) (by omega) (by first | decide | omega) dX5_coefficient_55 ?_
          rw [he c9 (by omega) (by omega)]
          refine e_goto F 61 dX5_coefficient_56 (by decide) ?_
          refine e_iret F rfl (by omega) ?_ dX5_coefficient_61
          first
          | (have q9 : thQ wh (R ki9) a9 := c_40
             rw [if_pos q9]
             exact ⟨FM.th.kb (Nat.le_refl _) gK, Or.inr (Or.inr ⟨h_i, ⟨h_s, c_17⟩, rfl, gM.kb hdm gK⟩)⟩)
          | (have q9 : ¬ thQ wh (R ki9) a9 := c_40
             rw [if_neg q9]
             exact ⟨FM.th, Or.inr (Or.inr ⟨h_i, ⟨h_s, c_17⟩, rfl, gM⟩)⟩)
      · exact absurd c_29 (by decide)
    ·
      rw [b01_0] at c_17
      refine e_iconst F dX5_coefficient_20 ?_
      refine e_goto F 25 dX5_coefficient_21 (by decide) ?_
      refine e_iconst F dX5_coefficient_25 ?_
      refine e_callVV F u_X5_refuse (by rfl) (c_X5_refuse gY (by decide) (by decide) (by first | exact Or.inl rfl | exact Or.inr rfl) (by decide) (by decide)) gY rfl rfl w_ml_RX5_28 dX5_coefficient_26 (by rfl) (Nat.le_of_ble_eq_true rfl) (by decide) (by omega) (fun _ _ _ h _ => False.elim h) (fun r_26 w_26 n_26 h_26 hn_26 => ?_)
      obtain ⟨rfl, en_26, ew_26⟩ := h_26
      rw [en_26, ew_26, e_up_up]
      first | (rw [if_pos (show (1 : Int) = 1 ∧ (0 : Int) = 0 by decide), b01_t (by decide)]) | (rw [if_neg (show ¬ ((0 : Int) = 1 ∧ (0 : Int) = 0) by decide), b01_f (by decide)])
      refine e_if_eq F 34 dX5_coefficient_29 (by decide) (by decide) (fun c_29 => ?_) (fun c_29 => ?_)
      · exact absurd c_29 (by decide)
      · refine e_iconst F dX5_coefficient_32 ?_
        refine e_iret F rfl (by omega) ?_ dX5_coefficient_33
        first
        | exact ⟨FM.th, Or.inr (Or.inl ⟨h_i, fun q => c_17 q.2, rfl, hM.th⟩)⟩
        | (by_cases q : 0 ≤ i9 ∧ i9 < 6
           · by_cases q2 : 1 ≤ a9 ∧ a9 ≤ fl wh
             · exact absurd (And.intro q q2) c_6
             · rw [noT_2 q q2]; exact ⟨FM.th, Or.inr (Or.inl ⟨q, fun z => q2 z.1, rfl, hM.th⟩)⟩
           · rw [noT_1 q]; exact ⟨FM.th, Or.inl ⟨q, rfl, hM.th⟩⟩)
set_option maxHeartbeats 4000000 in
set_option maxRecDepth 100000 in
theorem c_X5_total {K : e_K} {l : Launch} {w : e_W} {n : Nat} {y wh : Nat} {t kn : Int} {R : Nat → RD} (hM : MW w y wh kn t R) {i9 : Int} (hi9 : e_r i9) {a9 : Int} (ha9 : e_r a9) : e_Met K l yX5_total (Cond.code yX5_total cX5_total 5 (Option.some .int) :: e_TB) (4) (0) [.ref y, .int (eI i9), .int (eI a9)] w n (fun r w' n' => FM w w' y n ∧ ((¬ (0 ≤ i9 ∧ i9 < 6) ∧ r = some (.int (eI 0)) ∧ MW w' y wh kn 1 R) ∨ ((0 ≤ i9 ∧ i9 < 6) ∧ ¬ (1 ≤ a9 ∧ a9 ≤ fl wh) ∧ r = some (.int (eI 0)) ∧ MW w' y wh kn 2 R) ∨ ((0 ≤ i9 ∧ i9 < 6) ∧ (1 ≤ a9 ∧ a9 ≤ fl wh) ∧ r = some (.int (eI (if (thQ wh (R i9.toNat) a9) then tsK a9 (R i9.toNat).A (ho wh).toNat else -9))) ∧ MW w' y wh (kn) 0 (R)))) (e_px0) := by
  refine e_ofV rfl (Nat.le_of_ble_eq_true rfl) ?_
  intro P9 E9 S9 M9 A9 B9 T9 C9 F hnm
  have hwh := hM.2.1
  have hY := hM.1
  have hp := pr_rg wh hwh
  have hho := ho_rg wh hwh
  have hf9 := fl_rg wh hwh
  refine e_aload_n F dX5_total_0 rfl ?_
  refine e_iload_n F dX5_total_1 rfl ?_
  refine e_iload_n F dX5_total_2 rfl ?_
  refine e_callVV F u_X5_isNo (by rfl) (c_X5_isNo hY hwh hi9 ha9) hY rfl rfl w_ml_RX5_189 dX5_total_3 (by rfl) (Nat.le_of_ble_eq_true rfl) (by decide) (by omega) (fun _ _ _ h _ => False.elim h) (fun r_3 w_3 n_3 h_3 hn_3 => ?_)
  obtain ⟨rfl, en_3, ew_3⟩ := h_3
  rw [en_3, ew_3]
  refine e_if_eq F 11 dX5_total_6 (by decide) (b01_r _) (fun c_6 => ?_) (fun c_6 => ?_)
  ·
    rw [b01_0, Classical.not_not] at c_6
    rw [noT_ok c_6]
    have gM := hM.th (t2 := 0) (kn2 := kn)
    obtain ⟨h_i, h_s⟩ := c_6
    obtain ⟨ki9, rfl⟩ : ∃ k : Nat, i9 = (k : Int) := ⟨i9.toNat, by omega⟩
    have hki9 : ki9 < 6 := by omega
    rw [show ((ki9 : Nat) : Int).toNat = ki9 from rfl]
    refine e_dom ?_
    intro hdm
    obtain ⟨gY, _, ⟨G, gG, gGe⟩, ⟨SS, PP, gS, gP, gMD⟩, gRV⟩ := id gM
    refine e_aload_n F dX5_total_11 rfl ?_
    refine e_iload_n F dX5_total_12 rfl ?_
    refine e_iload_n F dX5_total_13 rfl ?_
    refine e_callVV F u_X5_isThere (by rfl) (c_X5_isThere gM hki9 (set := a9) (by omega) (by omega)) gY rfl rfl w_ml_RX5_122 dX5_total_14 (by rfl) (Nat.le_of_ble_eq_true rfl) (by decide) (by omega) (fun _ _ _ h _ => False.elim h) (fun r_14 w_14 n_14 h_14 hn_14 => ?_)
    obtain ⟨rfl, ew_14, en_14⟩ := h_14
    rw [ew_14, en_14]
    refine e_if_ne F 23 dX5_total_17 (by decide) (b01_r _) (fun c_17 => ?_) (fun c_17 => ?_)
    ·
      rw [ne_eq, b01_0, Classical.not_not] at c_17
      obtain ⟨a, f, hSa, hya, hwa, hfr, hfA⟩ := MD.row (gMD ki9 hki9) c_17.2
      have lp : ∀ (N : Nat) (k : Nat), (8 - k) < N → (k : Int) ≤ ho wh → e_V K P9 l E9 (4) (0) S9 M9 A9 B9 T9 C9 5 (fun r w' n' => FM w w' y n ∧ ((¬ (0 ≤ ((ki9 : Nat) : Int) ∧ ((ki9 : Nat) : Int) < 6) ∧ r = some (.int (eI 0)) ∧ MW w' y wh kn 1 R) ∨ ((0 ≤ ((ki9 : Nat) : Int) ∧ ((ki9 : Nat) : Int) < 6) ∧ ¬ (1 ≤ a9 ∧ a9 ≤ fl wh) ∧ r = some (.int (eI 0)) ∧ MW w' y wh kn 2 R) ∨ ((0 ≤ ((ki9 : Nat) : Int) ∧ ((ki9 : Nat) : Int) < 6) ∧ (1 ≤ a9 ∧ a9 ≤ fl wh) ∧ r = some (.int (eI (if (thQ wh (R ki9) a9) then tsK a9 (R ki9).A (ho wh).toNat else -9))) ∧ MW w' y wh (kn) 0 (R)))) (e_px0) 28 [(0, .ref y), (1, .int (eI ((ki9 : Nat) : Int))), (2, .int (eI a9)), (3, .int (eI (tsK a9 (R ki9).A k))), (4, .int (eI ((k : Int) + 1)))] [] (e_up w y (MO y 0 wh kn)) n (0) := by
        intro N
        induction N with
        | zero => intro k hN; exact absurd hN (Nat.not_lt_zero _)
        | succ N ih =>
          intro k hN hk
          refine e_iload F dX5_total_28 rfl ?_
          refine e_aload_n F dX5_total_30 rfl ?_
          refine e_callVV F u_X5_holders (by rfl) (c_X5_holders gY hwh) gY rfl rfl w_ml_RX5_52 dX5_total_31 (by rfl) (Nat.le_of_ble_eq_true rfl) (by decide) (by omega) (fun _ _ _ h _ => False.elim h) (fun r_31 w_31 n_31 h_31 hn_31 => ?_)
          obtain ⟨rfl, ew_31, en_31⟩ := h_31
          rw [ew_31, en_31]
          refine e_icmp_gt F 68 dX5_total_34 (by decide) (⟨by omega, by omega⟩) (⟨by omega, by omega⟩) (fun c_34 => ?_) (fun c_34 => ?_)
          ·
            obtain rfl : k = (ho wh).toNat := by omega
            refine e_iload_n F dX5_total_68 rfl ?_
            refine e_iret F rfl (by omega) ?_ dX5_total_69
            rw [if_pos (show thQ wh (R ki9) a9 from c_17)]
            exact ⟨FM.th, Or.inr (Or.inr ⟨h_i, h_s, rfl, gM⟩)⟩
          · refine e_iload_n F dX5_total_37 rfl ?_
            refine e_iload_n F dX5_total_38 rfl ?_
            refine e_iload F dX5_total_39 rfl ?_
            refine e_callSS F u_X5_has (by rfl) (c_X5_has (s9 := a9) (by omega) (by omega) (h := (k : Int) + 1) (by omega) (by omega)) w_ml_RX5_87 dX5_total_41 (by rfl) (Nat.le_of_ble_eq_true rfl) (by decide) (by omega) (fun _ _ _ h _ => False.elim h) (fun r_41 w_41 n_41 h_41 hn_41 => ?_)
            obtain ⟨rfl, ew_41, en_41⟩ := h_41
            rw [ew_41, en_41]
            refine e_if_eq F 59 dX5_total_44 (by decide) (b01_r _) (fun c_44 => ?_) (fun c_44 => ?_)
            ·
              rw [b01_0] at c_44
              refine e_iconst F dX5_total_59 ?_
              refine e_iadd F dX5_total_60 ?_
              try rw [Int.add_zero]
              refine e_istore_n F dX5_total_61 (by decide) ?_
              refine e_iinc F dX5_total_62 rfl (by decide) ?_
              refine e_goto F 28 dX5_total_65 (by decide) ?_
              first
              | (have e9 : tsK a9 (R ki9).A (k + 1) = tsK a9 (R ki9).A k + (R ki9).A ((k : Int) + 1) := if_pos c_44
                 refine e_go (ih (k + 1) (by omega) (by omega)) ?_
                 rw [e9]
                 exact (And.intro rfl (And.intro rfl (And.intro rfl (And.intro rfl (And.intro rfl (trivial)))))))
              | (have e9 : tsK a9 (R ki9).A (k + 1) = tsK a9 (R ki9).A k := if_neg c_44
                 refine e_go (ih (k + 1) (by omega) (by omega)) ?_
                 rw [e9]
                 exact (And.intro rfl (And.intro rfl (And.intro rfl (And.intro rfl (And.intro rfl (trivial)))))))
            ·
              rw [b01_0, Classical.not_not] at c_44
              refine e_aload_n F dX5_total_47 rfl ?_
              refine e_get (ci := 5) (fi := 4) (q := (RX5, TX5, 6)) F gY rfl (by decide) w_fl_RX5_18 (by rfl) dX5_total_48 ?_
              refine e_iload_n F dX5_total_51 rfl ?_
              refine e_aaldr F gS (by omega) (by omega) (by decide) (hSa) dX5_total_52 ?_
              refine e_iload F dX5_total_53 rfl ?_
              refine e_iald F hwa (by omega) (by omega) (by first | decide | omega) dX5_total_55 ?_
              rw [hfA _ (by omega) (by omega)]
              refine e_goto F 60 dX5_total_56 (by decide) ?_
              refine e_iadd F dX5_total_60 ?_
              try rw [Int.add_zero]
              refine e_istore_n F dX5_total_61 (by decide) ?_
              refine e_iinc F dX5_total_62 rfl (by decide) ?_
              refine e_goto F 28 dX5_total_65 (by decide) ?_
              first
              | (have e9 : tsK a9 (R ki9).A (k + 1) = tsK a9 (R ki9).A k + (R ki9).A ((k : Int) + 1) := if_pos c_44
                 refine e_go (ih (k + 1) (by omega) (by omega)) ?_
                 rw [e9]
                 exact (And.intro rfl (And.intro rfl (And.intro rfl (And.intro rfl (And.intro rfl (trivial)))))))
              | (have e9 : tsK a9 (R ki9).A (k + 1) = tsK a9 (R ki9).A k := if_neg c_44
                 refine e_go (ih (k + 1) (by omega) (by omega)) ?_
                 rw [e9]
                 exact (And.intro rfl (And.intro rfl (And.intro rfl (And.intro rfl (And.intro rfl (trivial)))))))
      refine e_iconst F dX5_total_23 ?_
      refine e_istore_n F dX5_total_24 (by decide) ?_
      refine e_iconst F dX5_total_25 ?_
      refine e_istore F dX5_total_26 (by decide) ?_
      exact e_go (lp 9 0 (by omega) (by omega)) (And.intro rfl (And.intro rfl (And.intro rfl (And.intro rfl (And.intro rfl (trivial))))))
    ·
      rw [b01_0] at c_17
      refine e_bipush F dX5_total_20 (by decide) ?_
      refine e_iret F rfl (by omega) ?_ dX5_total_22
      exact ⟨FM.th, Or.inr (Or.inr ⟨h_i, h_s, by rw [if_neg (show ¬ thQ wh (R ki9) a9 from c_17)], gM⟩)⟩
  ·
    rw [b01_0, Classical.not_not] at c_6
    refine e_iconst F dX5_total_9 ?_
    refine e_iret F rfl (by omega) ?_ dX5_total_10
    by_cases q : 0 ≤ i9 ∧ i9 < 6
    · by_cases q2 : 1 ≤ a9 ∧ a9 ≤ fl wh
      · exact absurd (And.intro q q2) c_6
      · rw [noT_2 q q2]; exact ⟨FM.th, Or.inr (Or.inl ⟨q, q2, rfl, hM.th⟩)⟩
    · rw [noT_1 q]; exact ⟨FM.th, Or.inl ⟨q, rfl, hM.th⟩⟩
set_option maxHeartbeats 4000000 in
set_option maxRecDepth 100000 in
theorem c_X5_seal {K : e_K} {l : Launch} {w : e_W} {n : Nat} {y wh : Nat} {t kn : Int} {R : Nat → RD} (hM : MW w y wh kn t R) {i9 : Int} (hi9 : e_r i9) {c9 : Int} (hc9 : e_r c9) : e_Met K l yX5_seal (Cond.code yX5_seal cX5_seal 3 (Option.some .int) :: e_TB) (3) (0) [.ref y, .int (eI i9), .int (eI c9)] w n (fun r w' n' => FM w w' y n ∧ ((¬ (0 ≤ i9 ∧ i9 < 6) ∧ r = some (.int (eI 0)) ∧ MW w' y wh kn 1 R) ∨ ((0 ≤ i9 ∧ i9 < 6) ∧ ¬ (0 ≤ c9 ∧ c9 ≤ 6) ∧ r = some (.int (eI 0)) ∧ MW w' y wh kn 2 R) ∨ ((0 ≤ i9 ∧ i9 < 6) ∧ (0 ≤ c9 ∧ c9 ≤ 6) ∧ r = some (.int (eI (stV wh (R i9.toNat) c9))) ∧ MW w' y wh (kn) 0 (R)))) (e_px0) := by
  refine e_ofV rfl (Nat.le_of_ble_eq_true rfl) ?_
  intro P9 E9 S9 M9 A9 B9 T9 C9 F hnm
  have hwh := hM.2.1
  have hY := hM.1
  have hp := pr_rg wh hwh
  have hho := ho_rg wh hwh
  have hf9 := fl_rg wh hwh
  refine e_aload_n F dX5_seal_0 rfl ?_
  refine e_iload_n F dX5_seal_1 rfl ?_
  refine e_callSS F u_X5_isNoDeal (by rfl) (c_X5_isNoDeal hi9) w_ml_RX5_129 dX5_seal_2 (by rfl) (Nat.le_of_ble_eq_true rfl) (by decide) (by omega) (fun _ _ _ h _ => False.elim h) (fun r_2 w_2 n_2 h_2 hn_2 => ?_)
  obtain ⟨rfl, ew_2, en_2⟩ := h_2
  rw [ew_2, en_2]
  refine e_iconst F dX5_seal_5 ?_
  refine e_callVV F u_X5_start (by rfl) (c_X5_start hY (b01_or _) (by decide) (by decide)) hY rfl rfl w_ml_RX5_69 dX5_seal_6 (by rfl) (Nat.le_of_ble_eq_true rfl) (by decide) (by omega) (fun _ _ _ h _ => False.elim h) (fun r_6 w_6 n_6 h_6 hn_6 => ?_)
  obtain ⟨rfl, en_6, ew_6⟩ := h_6
  rw [en_6, ew_6, st1]
  refine e_if_ne F 35 dX5_seal_9 (by decide) (b01_r _) (fun c_9 => ?_) (fun c_9 => ?_)
  ·
    rw [ne_eq, b01_0, Classical.not_not] at c_9
    rw [if_neg c_9]
    refine e_iconst F dX5_seal_35 ?_
    refine e_goto F 45 dX5_seal_36 (by decide) ?_
    refine e_iret F rfl (by omega) ?_ dX5_seal_45
    first
    | exact ⟨FM.th, Or.inr (Or.inl ⟨h_i, c_20, rfl, hM.th⟩)⟩
    | exact ⟨FM.th, Or.inl ⟨c_9, rfl, hM.th⟩⟩
    | exact ⟨FM.th, Or.inr (Or.inr ⟨h_i, c_20, rfl, gM⟩)⟩
  ·
    rw [b01_0, Classical.not_not] at c_9
    rw [if_pos c_9]
    have gM := hM.th (t2 := 0) (kn2 := kn)
    have h_i := c_9
    obtain ⟨ki9, rfl⟩ : ∃ k : Nat, i9 = (k : Int) := ⟨i9.toNat, by omega⟩
    have hki9 : ki9 < 6 := by omega
    rw [show ((ki9 : Nat) : Int).toNat = ki9 from rfl]
    refine e_dom ?_
    intro hdm
    obtain ⟨gY, _, ⟨G, gG, gGe⟩, ⟨SS, PP, gS, gP, gMD⟩, gRV⟩ := id gM
    refine e_aload_n F dX5_seal_12 rfl ?_
    refine e_iload_n F dX5_seal_13 rfl ?_
    refine e_iconst F dX5_seal_14 ?_
    refine e_bipush F dX5_seal_15 (by decide) ?_
    refine e_callSS F u_X5_isIn (by rfl) (c_X5_isIn (v := c9) (a := 0) (b := 6) hc9 (by decide) (by decide)) w_ml_RX5_48 dX5_seal_17 (by rfl) (Nat.le_of_ble_eq_true rfl) (by decide) (by omega) (fun _ _ _ h _ => False.elim h) (fun r_17 w_17 n_17 h_17 hn_17 => ?_)
    obtain ⟨rfl, ew_17, en_17⟩ := h_17
    rw [ew_17, en_17]
    refine e_if_ne F 27 dX5_seal_20 (by decide) (b01_r _) (fun c_20 => ?_) (fun c_20 => ?_)
    ·
      rw [ne_eq, b01_0, Classical.not_not] at c_20
      refine e_iconst F dX5_seal_27 ?_
      refine e_iconst F dX5_seal_28 ?_
      refine e_callVV F u_X5_refuse (by rfl) (c_X5_refuse gY (by decide) (by decide) (by first | exact Or.inl rfl | exact Or.inr rfl) (by decide) (by decide)) gY rfl rfl w_ml_RX5_28 dX5_seal_29 (by rfl) (Nat.le_of_ble_eq_true rfl) (by decide) (by omega) (fun _ _ _ h _ => False.elim h) (fun r_29 w_29 n_29 h_29 hn_29 => ?_)
      obtain ⟨rfl, en_29, ew_29⟩ := h_29
      rw [en_29, ew_29, e_up_up]
      first | (rw [if_pos (show (1 : Int) = 1 ∧ (0 : Int) = 0 by decide), b01_t (by decide)]) | (rw [if_neg (show ¬ ((0 : Int) = 1 ∧ (0 : Int) = 0) by decide), b01_f (by decide)])
      refine e_if_eq F 39 dX5_seal_32 (by decide) (by decide) (fun c_32 => ?_) (fun c_32 => ?_)
      · refine e_aload_n F dX5_seal_39 rfl ?_
        refine e_iload_n F dX5_seal_40 rfl ?_
        refine e_iload_n F dX5_seal_41 rfl ?_
        refine e_callVV F u_X5_sealTold (by rfl) (c_X5_sealTold gM hki9 (k9 := c9) (by omega) (by omega)) gM.1 rfl rfl w_ml_RX5_194 dX5_seal_42 (by rfl) (Nat.le_of_ble_eq_true rfl) (by decide) (by omega) (fun _ _ _ h _ => False.elim h) (fun r_42 w_42 n_42 h_42 hn_42 => ?_)
        obtain ⟨rfl, ew_42, en_42⟩ := h_42
        rw [ew_42, en_42]
        refine e_iret F rfl (by omega) ?_ dX5_seal_45
        first
        | exact ⟨FM.th, Or.inr (Or.inl ⟨h_i, c_20, rfl, hM.th⟩)⟩
        | exact ⟨FM.th, Or.inl ⟨c_9, rfl, hM.th⟩⟩
        | exact ⟨FM.th, Or.inr (Or.inr ⟨h_i, c_20, rfl, gM⟩)⟩
      · exact absurd c_32 (by decide)
    ·
      rw [b01_0] at c_20
      refine e_iconst F dX5_seal_23 ?_
      refine e_goto F 28 dX5_seal_24 (by decide) ?_
      refine e_iconst F dX5_seal_28 ?_
      refine e_callVV F u_X5_refuse (by rfl) (c_X5_refuse gY (by decide) (by decide) (by first | exact Or.inl rfl | exact Or.inr rfl) (by decide) (by decide)) gY rfl rfl w_ml_RX5_28 dX5_seal_29 (by rfl) (Nat.le_of_ble_eq_true rfl) (by decide) (by omega) (fun _ _ _ h _ => False.elim h) (fun r_29 w_29 n_29 h_29 hn_29 => ?_)
      obtain ⟨rfl, en_29, ew_29⟩ := h_29
      rw [en_29, ew_29, e_up_up]
      first | (rw [if_pos (show (1 : Int) = 1 ∧ (0 : Int) = 0 by decide), b01_t (by decide)]) | (rw [if_neg (show ¬ ((0 : Int) = 1 ∧ (0 : Int) = 0) by decide), b01_f (by decide)])
      refine e_if_eq F 39 dX5_seal_32 (by decide) (by decide) (fun c_32 => ?_) (fun c_32 => ?_)
      · exact absurd c_32 (by decide)
      · refine e_iconst F dX5_seal_35 ?_
        refine e_goto F 45 dX5_seal_36 (by decide) ?_
        refine e_iret F rfl (by omega) ?_ dX5_seal_45
        first
        | exact ⟨FM.th, Or.inr (Or.inl ⟨h_i, c_20, rfl, hM.th⟩)⟩
        | exact ⟨FM.th, Or.inl ⟨c_9, rfl, hM.th⟩⟩
        | exact ⟨FM.th, Or.inr (Or.inr ⟨h_i, c_20, rfl, gM⟩)⟩
set_option maxHeartbeats 4000000 in
set_option maxRecDepth 100000 in
theorem c_X5_ofDeal {K : e_K} {l : Launch} {w : e_W} {n : Nat} {y wh : Nat} {t kn : Int} {R : Nat → RD} (hM : MW w y wh kn t R) {i9 : Int} (hi9 : e_r i9) {c9 : Int} (hc9 : e_r c9) : e_Met K l yX5_ofDeal (Cond.code yX5_ofDeal cX5_ofDeal 3 (Option.some .int) :: e_TB) (6) (2) [.ref y, .int (eI i9), .int (eI c9)] w n (fun r w' n' => FM w w' y n ∧ ((¬ (0 ≤ i9 ∧ i9 < 6) ∧ r = some (.int (eI 0)) ∧ MW w' y wh kn 1 R) ∨ ((0 ≤ i9 ∧ i9 < 6) ∧ ¬ (0 ≤ c9 ∧ c9 ≤ 5) ∧ r = some (.int (eI 0)) ∧ MW w' y wh kn 2 R) ∨ ((0 ≤ i9 ∧ i9 < 6) ∧ (0 ≤ c9 ∧ c9 ≤ 5) ∧ r = some (.int (eI (mdV wh (R i9.toNat) c9))) ∧ MW w' y wh (kn) 0 (R)))) (e_px0) := by
  refine e_ofV rfl (Nat.le_of_ble_eq_true rfl) ?_
  intro P9 E9 S9 M9 A9 B9 T9 C9 F hnm
  have hwh := hM.2.1
  have hY := hM.1
  have hp := pr_rg wh hwh
  have hho := ho_rg wh hwh
  have hf9 := fl_rg wh hwh
  refine e_aload_n F dX5_ofDeal_0 rfl ?_
  refine e_iload_n F dX5_ofDeal_1 rfl ?_
  refine e_callSS F u_X5_isNoDeal (by rfl) (c_X5_isNoDeal hi9) w_ml_RX5_129 dX5_ofDeal_2 (by rfl) (Nat.le_of_ble_eq_true rfl) (by decide) (by omega) (fun _ _ _ h _ => False.elim h) (fun r_2 w_2 n_2 h_2 hn_2 => ?_)
  obtain ⟨rfl, ew_2, en_2⟩ := h_2
  rw [ew_2, en_2]
  refine e_iconst F dX5_ofDeal_5 ?_
  refine e_callVV F u_X5_start (by rfl) (c_X5_start hY (b01_or _) (by decide) (by decide)) hY rfl rfl w_ml_RX5_69 dX5_ofDeal_6 (by rfl) (Nat.le_of_ble_eq_true rfl) (by decide) (by omega) (fun _ _ _ h _ => False.elim h) (fun r_6 w_6 n_6 h_6 hn_6 => ?_)
  obtain ⟨rfl, en_6, ew_6⟩ := h_6
  rw [en_6, ew_6, st1]
  refine e_if_ne F 34 dX5_ofDeal_9 (by decide) (b01_r _) (fun c_9 => ?_) (fun c_9 => ?_)
  ·
    rw [ne_eq, b01_0, Classical.not_not] at c_9
    rw [if_neg c_9]
    refine e_iconst F dX5_ofDeal_34 ?_
    refine e_goto F 44 dX5_ofDeal_35 (by decide) ?_
    refine e_iret F rfl (by omega) ?_ dX5_ofDeal_44
    first
    | exact ⟨FM.th, Or.inr (Or.inl ⟨h_i, c_19, rfl, hM.th⟩)⟩
    | exact ⟨FM.th, Or.inl ⟨c_9, rfl, hM.th⟩⟩
    | exact ⟨FM.th.kb (Nat.le_refl _) gK, Or.inr (Or.inr ⟨h_i, c_19, rfl, gM.kb hdm gK⟩)⟩
  ·
    rw [b01_0, Classical.not_not] at c_9
    rw [if_pos c_9]
    have gM := hM.th (t2 := 0) (kn2 := kn)
    have h_i := c_9
    obtain ⟨ki9, rfl⟩ : ∃ k : Nat, i9 = (k : Int) := ⟨i9.toNat, by omega⟩
    have hki9 : ki9 < 6 := by omega
    rw [show ((ki9 : Nat) : Int).toNat = ki9 from rfl]
    refine e_dom ?_
    intro hdm
    obtain ⟨gY, _, ⟨G, gG, gGe⟩, ⟨SS, PP, gS, gP, gMD⟩, gRV⟩ := id gM
    refine e_aload_n F dX5_ofDeal_12 rfl ?_
    refine e_iload_n F dX5_ofDeal_13 rfl ?_
    refine e_iconst F dX5_ofDeal_14 ?_
    refine e_iconst F dX5_ofDeal_15 ?_
    refine e_callSS F u_X5_isIn (by rfl) (c_X5_isIn (v := c9) (a := 0) (b := 5) hc9 (by decide) (by decide)) w_ml_RX5_48 dX5_ofDeal_16 (by rfl) (Nat.le_of_ble_eq_true rfl) (by decide) (by omega) (fun _ _ _ h _ => False.elim h) (fun r_16 w_16 n_16 h_16 hn_16 => ?_)
    obtain ⟨rfl, ew_16, en_16⟩ := h_16
    rw [ew_16, en_16]
    refine e_if_ne F 26 dX5_ofDeal_19 (by decide) (b01_r _) (fun c_19 => ?_) (fun c_19 => ?_)
    ·
      rw [ne_eq, b01_0, Classical.not_not] at c_19
      refine e_iconst F dX5_ofDeal_26 ?_
      refine e_iconst F dX5_ofDeal_27 ?_
      refine e_callVV F u_X5_refuse (by rfl) (c_X5_refuse gY (by decide) (by decide) (by first | exact Or.inl rfl | exact Or.inr rfl) (by decide) (by decide)) gY rfl rfl w_ml_RX5_28 dX5_ofDeal_28 (by rfl) (Nat.le_of_ble_eq_true rfl) (by decide) (by omega) (fun _ _ _ h _ => False.elim h) (fun r_28 w_28 n_28 h_28 hn_28 => ?_)
      obtain ⟨rfl, en_28, ew_28⟩ := h_28
      rw [en_28, ew_28, e_up_up]
      first | (rw [if_pos (show (1 : Int) = 1 ∧ (0 : Int) = 0 by decide), b01_t (by decide)]) | (rw [if_neg (show ¬ ((0 : Int) = 1 ∧ (0 : Int) = 0) by decide), b01_f (by decide)])
      refine e_if_eq F 38 dX5_ofDeal_31 (by decide) (by decide) (fun c_31 => ?_) (fun c_31 => ?_)
      · refine e_aload_n F dX5_ofDeal_38 rfl ?_
        refine e_iload_n F dX5_ofDeal_39 rfl ?_
        refine e_iload_n F dX5_ofDeal_40 rfl ?_
        refine e_callVV F u_X5_dealTold (by rfl) (c_X5_dealTold gM hki9 (c9 := c9) (by omega) (by omega)) gM.1 rfl rfl w_ml_RX5_186 dX5_ofDeal_41 (by rfl) (Nat.le_of_ble_eq_true rfl) (by decide) (by omega) (fun _ _ _ h _ => False.elim h) (fun r_41 w_41 n_41 h_41 hn_41 => ?_)
        obtain ⟨rfl, gK⟩ := h_41
        refine e_iret F rfl (by omega) ?_ dX5_ofDeal_44
        first
        | exact ⟨FM.th, Or.inr (Or.inl ⟨h_i, c_19, rfl, hM.th⟩)⟩
        | exact ⟨FM.th, Or.inl ⟨c_9, rfl, hM.th⟩⟩
        | exact ⟨FM.th.kb (Nat.le_refl _) gK, Or.inr (Or.inr ⟨h_i, c_19, rfl, gM.kb hdm gK⟩)⟩
      · exact absurd c_31 (by decide)
    ·
      rw [b01_0] at c_19
      refine e_iconst F dX5_ofDeal_22 ?_
      refine e_goto F 27 dX5_ofDeal_23 (by decide) ?_
      refine e_iconst F dX5_ofDeal_27 ?_
      refine e_callVV F u_X5_refuse (by rfl) (c_X5_refuse gY (by decide) (by decide) (by first | exact Or.inl rfl | exact Or.inr rfl) (by decide) (by decide)) gY rfl rfl w_ml_RX5_28 dX5_ofDeal_28 (by rfl) (Nat.le_of_ble_eq_true rfl) (by decide) (by omega) (fun _ _ _ h _ => False.elim h) (fun r_28 w_28 n_28 h_28 hn_28 => ?_)
      obtain ⟨rfl, en_28, ew_28⟩ := h_28
      rw [en_28, ew_28, e_up_up]
      first | (rw [if_pos (show (1 : Int) = 1 ∧ (0 : Int) = 0 by decide), b01_t (by decide)]) | (rw [if_neg (show ¬ ((0 : Int) = 1 ∧ (0 : Int) = 0) by decide), b01_f (by decide)])
      refine e_if_eq F 38 dX5_ofDeal_31 (by decide) (by decide) (fun c_31 => ?_) (fun c_31 => ?_)
      · exact absurd c_31 (by decide)
      · refine e_iconst F dX5_ofDeal_34 ?_
        refine e_goto F 44 dX5_ofDeal_35 (by decide) ?_
        refine e_iret F rfl (by omega) ?_ dX5_ofDeal_44
        first
        | exact ⟨FM.th, Or.inr (Or.inl ⟨h_i, c_19, rfl, hM.th⟩)⟩
        | exact ⟨FM.th, Or.inl ⟨c_9, rfl, hM.th⟩⟩
        | exact ⟨FM.th.kb (Nat.le_refl _) gK, Or.inr (Or.inr ⟨h_i, c_19, rfl, gM.kb hdm gK⟩)⟩
set_option maxHeartbeats 4000000 in
set_option maxRecDepth 100000 in
theorem c_X5_fits {K : e_K} {l : Launch} {w : e_W} {n : Nat} {y wh : Nat} {t kn : Int} {R : Nat → RD} (hM : MW w y wh kn t R) {i9 : Int} (hi9 : e_r i9) {h9 : Int} (hh9 : e_r h9) : e_Met K l yX5_fits (Cond.code yX5_fits cX5_fits 3 (Option.some .int) :: e_TB) (3) (0) [.ref y, .int (eI i9), .int (eI h9)] w n (fun r w' n' => FM w w' y n ∧ ((¬ ((0 ≤ i9 ∧ i9 < 6) ∧ (1 ≤ h9 ∧ h9 ≤ ho wh)) ∧ r = some (.int (eI 0)) ∧ MW w' y wh kn 1 R) ∨ (((0 ≤ i9 ∧ i9 < 6) ∧ (1 ≤ h9 ∧ h9 ≤ ho wh)) ∧ r = some (.int (eI (if (R i9.toNat).hp = 0 ∨ (R i9.toNat).A h9 = -1 then -9 else b01 (fiV wh (R i9.toNat) h9)))) ∧ MW w' y wh (kn) 0 (R)))) (e_px0) := by
  refine e_ofV rfl (Nat.le_of_ble_eq_true rfl) ?_
  intro P9 E9 S9 M9 A9 B9 T9 C9 F hnm
  have hwh := hM.2.1
  have hY := hM.1
  have hp := pr_rg wh hwh
  have hho := ho_rg wh hwh
  have hf9 := fl_rg wh hwh
  refine e_aload_n F dX5_fits_0 rfl ?_
  refine e_iload_n F dX5_fits_1 rfl ?_
  refine e_callSS F u_X5_isNoDeal (by rfl) (c_X5_isNoDeal hi9) w_ml_RX5_129 dX5_fits_2 (by rfl) (Nat.le_of_ble_eq_true rfl) (by decide) (by omega) (fun _ _ _ h _ => False.elim h) (fun r_2 w_2 n_2 h_2 hn_2 => ?_)
  obtain ⟨rfl, ew_2, en_2⟩ := h_2
  rw [ew_2, en_2]
  refine e_if_ne F 16 dX5_fits_5 (by decide) (b01_r _) (fun c_5 => ?_) (fun c_5 => ?_)
  ·
    rw [ne_eq, b01_0, Classical.not_not] at c_5
    refine e_iconst F dX5_fits_16 ?_
    refine e_goto F 21 dX5_fits_17 (by decide) ?_
    refine e_iconst F dX5_fits_21 ?_
    refine e_callVV F u_X5_start (by rfl) (c_X5_start hY (by first | exact Or.inl rfl | exact Or.inr rfl) (by decide) (by decide)) hY rfl rfl w_ml_RX5_69 dX5_fits_22 (by rfl) (Nat.le_of_ble_eq_true rfl) (by decide) (by omega) (fun _ _ _ h _ => False.elim h) (fun r_22 w_22 n_22 h_22 hn_22 => ?_)
    obtain ⟨rfl, en_22, ew_22⟩ := h_22
    rw [en_22, ew_22]
    first | rw [if_pos (show (1 : Int) = 1 from rfl)] | rw [if_neg (show ¬ ((0 : Int) = 1) by decide)]
    have gM := hM.th (t2 := 0) (kn2 := kn)
    refine e_if_eq F 30 dX5_fits_25 (by decide) (by decide) (fun c_25 => ?_) (fun c_25 => ?_)
    · exact absurd c_25 (by decide)
    · refine e_iconst F dX5_fits_28 ?_
      refine e_iret F rfl (by omega) ?_ dX5_fits_29
      exact ⟨FM.th, Or.inl ⟨(fun q => by omega), rfl, hM.th⟩⟩
  ·
    rw [b01_0, Classical.not_not] at c_5
    refine e_aload_n F dX5_fits_8 rfl ?_
    refine e_iload_n F dX5_fits_9 rfl ?_
    refine e_callVV F u_X5_isNoHolder (by rfl) (c_X5_isNoHolder hY hwh hh9) hY rfl rfl w_ml_RX5_99 dX5_fits_10 (by rfl) (Nat.le_of_ble_eq_true rfl) (by decide) (by omega) (fun _ _ _ h _ => False.elim h) (fun r_10 w_10 n_10 h_10 hn_10 => ?_)
    obtain ⟨rfl, ew_10, en_10⟩ := h_10
    rw [ew_10, en_10]
    refine e_if_eq F 20 dX5_fits_13 (by decide) (b01_r _) (fun c_13 => ?_) (fun c_13 => ?_)
    ·
      rw [b01_0, Classical.not_not] at c_13
      refine e_iconst F dX5_fits_20 ?_
      refine e_iconst F dX5_fits_21 ?_
      refine e_callVV F u_X5_start (by rfl) (c_X5_start hY (by first | exact Or.inl rfl | exact Or.inr rfl) (by decide) (by decide)) hY rfl rfl w_ml_RX5_69 dX5_fits_22 (by rfl) (Nat.le_of_ble_eq_true rfl) (by decide) (by omega) (fun _ _ _ h _ => False.elim h) (fun r_22 w_22 n_22 h_22 hn_22 => ?_)
      obtain ⟨rfl, en_22, ew_22⟩ := h_22
      rw [en_22, ew_22]
      first | rw [if_pos (show (1 : Int) = 1 from rfl)] | rw [if_neg (show ¬ ((0 : Int) = 1) by decide)]
      have gM := hM.th (t2 := 0) (kn2 := kn)
      refine e_if_eq F 30 dX5_fits_25 (by decide) (by decide) (fun c_25 => ?_) (fun c_25 => ?_)
      · have h_i : ((0 ≤ i9 ∧ i9 < 6) ∧ (1 ≤ h9 ∧ h9 ≤ ho wh)) := by omega
        obtain ⟨ki9, rfl⟩ : ∃ k : Nat, i9 = (k : Int) := ⟨i9.toNat, by omega⟩
        have hki9 : ki9 < 6 := by omega
        rw [show ((ki9 : Nat) : Int).toNat = ki9 from rfl]
        refine e_dom ?_
        intro hdm
        obtain ⟨gY, _, ⟨G, gG, gGe⟩, ⟨SS, PP, gS, gP, gMD⟩, gRV⟩ := id gM
        rcases MD.pw (gMD ki9 hki9) with ⟨hp0, hPn⟩ | ⟨hp1, ⟨b, g, hPb, hyb, hwb, hgr, hgE⟩, hd0⟩
        ·
          refine e_aload_n F dX5_fits_30 rfl ?_
          refine e_get (ci := 5) (fi := 5) (q := (RX5, TX5, 6)) F gY rfl (by decide) w_fl_RX5_22 (by rfl) dX5_fits_31 ?_
          refine e_iload_n F dX5_fits_34 rfl ?_
          refine e_aaldn F gP (by omega) (by omega) (by decide) (hPn) dX5_fits_35 ?_
          refine e_ifnullN F 49 dX5_fits_36 (by decide) ?_
          refine e_bipush F dX5_fits_49 (by decide) ?_
          refine e_goto F 63 dX5_fits_51 (by decide) ?_
          refine e_iret F rfl (by omega) ?_ dX5_fits_63
          exact ⟨FM.th, Or.inr ⟨h_i, by rw [if_pos (show (R ki9).hp = 0 ∨ (R ki9).A h9 = -1 from Or.inl hp0)], gM⟩⟩
        ·
          refine e_aload_n F dX5_fits_30 rfl ?_
          refine e_get (ci := 5) (fi := 5) (q := (RX5, TX5, 6)) F gY rfl (by decide) w_fl_RX5_22 (by rfl) dX5_fits_31 ?_
          refine e_iload_n F dX5_fits_34 rfl ?_
          refine e_aaldr F gP (by omega) (by omega) (by decide) (hPb) dX5_fits_35 ?_
          refine e_ifnull F dX5_fits_36 ?_
          refine e_aload_n F dX5_fits_39 rfl ?_
          refine e_iload_n F dX5_fits_40 rfl ?_
          refine e_iload_n F dX5_fits_41 rfl ?_
          refine e_callVV F u_X5_shareOf (by rfl) (c_X5_shareOf gM hki9 (h := h9) (by omega) (by omega)) gY rfl rfl w_ml_RX5_180 dX5_fits_42 (by rfl) (Nat.le_of_ble_eq_true rfl) (by decide) (by omega) (fun _ _ _ h _ => False.elim h) (fun r_42 w_42 n_42 h_42 hn_42 => ?_)
          obtain ⟨rfl, ew_42, en_42⟩ := h_42
          rw [ew_42, en_42]
          have hA9 := gM.rgA hki9 (j := h9) (by omega) (by omega)
          refine e_iconst F dX5_fits_45 ?_
          refine e_icmp_ne F 54 dX5_fits_46 (by decide) (⟨by omega, by omega⟩) (⟨by omega, by omega⟩) (fun c_46 => ?_) (fun c_46 => ?_)
          · refine e_aload_n F dX5_fits_54 rfl ?_
            refine e_iload_n F dX5_fits_55 rfl ?_
            refine e_iload_n F dX5_fits_56 rfl ?_
            refine e_callVV F u_X5_isFit (by rfl) (c_X5_isFit gM hki9 (h := h9) (by omega) (by omega) hp1) gY rfl rfl w_ml_RX5_197 dX5_fits_57 (by rfl) (Nat.le_of_ble_eq_true rfl) (by decide) (by omega) (fun _ _ _ h _ => False.elim h) (fun r_57 w_57 n_57 h_57 hn_57 => ?_)
            obtain ⟨rfl, ew_57, en_57⟩ := h_57
            rw [ew_57, en_57]
            refine e_callSS F u_X5_one (by rfl) (c_X5_one (b01_or _)) w_ml_RX5_80 dX5_fits_60 (by rfl) (Nat.le_of_ble_eq_true rfl) (by decide) (by omega) (fun _ _ _ h _ => False.elim h) (fun r_60 w_60 n_60 h_60 hn_60 => ?_)
            obtain ⟨rfl, ew_60, en_60⟩ := h_60
            rw [ew_60, en_60]
            refine e_iret F rfl (by omega) ?_ dX5_fits_63
            first
            | (have q9 : ¬ ((R ki9).hp = 0 ∨ (R ki9).A h9 = -1) := by omega
               rw [if_neg q9]
               exact ⟨FM.th, Or.inr ⟨h_i, rfl, gM⟩⟩)
            | (have q9 : (R ki9).hp = 0 ∨ (R ki9).A h9 = -1 := by omega
               rw [if_pos q9]
               exact ⟨FM.th, Or.inr ⟨h_i, rfl, gM⟩⟩)
          · refine e_bipush F dX5_fits_49 (by decide) ?_
            refine e_goto F 63 dX5_fits_51 (by decide) ?_
            refine e_iret F rfl (by omega) ?_ dX5_fits_63
            first
            | (have q9 : ¬ ((R ki9).hp = 0 ∨ (R ki9).A h9 = -1) := by omega
               rw [if_neg q9]
               exact ⟨FM.th, Or.inr ⟨h_i, rfl, gM⟩⟩)
            | (have q9 : (R ki9).hp = 0 ∨ (R ki9).A h9 = -1 := by omega
               rw [if_pos q9]
               exact ⟨FM.th, Or.inr ⟨h_i, rfl, gM⟩⟩)
      · exact absurd c_25 (by decide)
    ·
      rw [b01_0, Classical.not_not] at c_13
      refine e_iconst F dX5_fits_16 ?_
      refine e_goto F 21 dX5_fits_17 (by decide) ?_
      refine e_iconst F dX5_fits_21 ?_
      refine e_callVV F u_X5_start (by rfl) (c_X5_start hY (by first | exact Or.inl rfl | exact Or.inr rfl) (by decide) (by decide)) hY rfl rfl w_ml_RX5_69 dX5_fits_22 (by rfl) (Nat.le_of_ble_eq_true rfl) (by decide) (by omega) (fun _ _ _ h _ => False.elim h) (fun r_22 w_22 n_22 h_22 hn_22 => ?_)
      obtain ⟨rfl, en_22, ew_22⟩ := h_22
      rw [en_22, ew_22]
      first | rw [if_pos (show (1 : Int) = 1 from rfl)] | rw [if_neg (show ¬ ((0 : Int) = 1) by decide)]
      have gM := hM.th (t2 := 0) (kn2 := kn)
      refine e_if_eq F 30 dX5_fits_25 (by decide) (by decide) (fun c_25 => ?_) (fun c_25 => ?_)
      · exact absurd c_25 (by decide)
      · refine e_iconst F dX5_fits_28 ?_
        refine e_iret F rfl (by omega) ?_ dX5_fits_29
        exact ⟨FM.th, Or.inl ⟨(fun q => by omega), rfl, hM.th⟩⟩
set_option maxHeartbeats 4000000 in
set_option maxRecDepth 100000 in
theorem c_X5_order {K : e_K} {l : Launch} {w : e_W} {n : Nat} {y wh : Nat} {t kn : Int} {R : Nat → RD} (hM : MW w y wh kn t R) {i9 : Int} (hi9 : e_r i9) {j9 : Int} (hj9 : e_r j9) {h9 : Int} (hh9 : e_r h9) : e_Met K l yX5_order (Cond.code yX5_order cX5_order 6 (Option.some .int) :: e_TB) (3) (0) [.ref y, .int (eI i9), .int (eI j9), .int (eI h9)] w n (fun r w' n' => FM w w' y n ∧ ((¬ ((0 ≤ i9 ∧ i9 < 6) ∧ (0 ≤ j9 ∧ j9 < 6) ∧ (1 ≤ h9 ∧ h9 ≤ ho wh)) ∧ r = some (.int (eI 0)) ∧ MW w' y wh kn 1 R) ∨ (((0 ≤ i9 ∧ i9 < 6) ∧ (0 ≤ j9 ∧ j9 < 6) ∧ (1 ≤ h9 ∧ h9 ≤ ho wh)) ∧ r = some (.int (eI (orV ((R i9.toNat).A h9) ((R j9.toNat).A h9)))) ∧ MW w' y wh (kn) 0 (R)))) (e_px0) := by
  refine e_ofV rfl (Nat.le_of_ble_eq_true rfl) ?_
  intro P9 E9 S9 M9 A9 B9 T9 C9 F hnm
  have hwh := hM.2.1
  have hY := hM.1
  have hp := pr_rg wh hwh
  have hho := ho_rg wh hwh
  have hf9 := fl_rg wh hwh
  refine e_aload_n F dX5_order_0 rfl ?_
  refine e_iload_n F dX5_order_1 rfl ?_
  refine e_callSS F u_X5_isNoDeal (by rfl) (c_X5_isNoDeal hi9) w_ml_RX5_129 dX5_order_2 (by rfl) (Nat.le_of_ble_eq_true rfl) (by decide) (by omega) (fun _ _ _ h _ => False.elim h) (fun r_2 w_2 n_2 h_2 hn_2 => ?_)
  obtain ⟨rfl, ew_2, en_2⟩ := h_2
  rw [ew_2, en_2]
  refine e_if_ne F 23 dX5_order_5 (by decide) (b01_r _) (fun c_5 => ?_) (fun c_5 => ?_)
  ·
    rw [ne_eq, b01_0, Classical.not_not] at c_5
    refine e_iconst F dX5_order_23 ?_
    refine e_goto F 28 dX5_order_24 (by decide) ?_
    refine e_iconst F dX5_order_28 ?_
    refine e_callVV F u_X5_start (by rfl) (c_X5_start hY (by first | exact Or.inl rfl | exact Or.inr rfl) (by decide) (by decide)) hY rfl rfl w_ml_RX5_69 dX5_order_29 (by rfl) (Nat.le_of_ble_eq_true rfl) (by decide) (by omega) (fun _ _ _ h _ => False.elim h) (fun r_29 w_29 n_29 h_29 hn_29 => ?_)
    obtain ⟨rfl, en_29, ew_29⟩ := h_29
    rw [en_29, ew_29]
    first | rw [if_pos (show (1 : Int) = 1 from rfl)] | rw [if_neg (show ¬ ((0 : Int) = 1) by decide)]
    have gM := hM.th (t2 := 0) (kn2 := kn)
    refine e_if_eq F 37 dX5_order_32 (by decide) (by decide) (fun c_32 => ?_) (fun c_32 => ?_)
    · exact absurd c_32 (by decide)
    · refine e_iconst F dX5_order_35 ?_
      refine e_iret F rfl (by omega) ?_ dX5_order_36
      exact ⟨FM.th, Or.inl ⟨(fun q => by omega), rfl, hM.th⟩⟩
  ·
    rw [b01_0, Classical.not_not] at c_5
    refine e_iload_n F dX5_order_8 rfl ?_
    refine e_callSS F u_X5_isNoDeal (by rfl) (c_X5_isNoDeal hj9) w_ml_RX5_129 dX5_order_9 (by rfl) (Nat.le_of_ble_eq_true rfl) (by decide) (by omega) (fun _ _ _ h _ => False.elim h) (fun r_9 w_9 n_9 h_9 hn_9 => ?_)
    obtain ⟨rfl, ew_9, en_9⟩ := h_9
    rw [ew_9, en_9]
    refine e_if_ne F 23 dX5_order_12 (by decide) (b01_r _) (fun c_12 => ?_) (fun c_12 => ?_)
    ·
      rw [ne_eq, b01_0, Classical.not_not] at c_12
      refine e_iconst F dX5_order_23 ?_
      refine e_goto F 28 dX5_order_24 (by decide) ?_
      refine e_iconst F dX5_order_28 ?_
      refine e_callVV F u_X5_start (by rfl) (c_X5_start hY (by first | exact Or.inl rfl | exact Or.inr rfl) (by decide) (by decide)) hY rfl rfl w_ml_RX5_69 dX5_order_29 (by rfl) (Nat.le_of_ble_eq_true rfl) (by decide) (by omega) (fun _ _ _ h _ => False.elim h) (fun r_29 w_29 n_29 h_29 hn_29 => ?_)
      obtain ⟨rfl, en_29, ew_29⟩ := h_29
      rw [en_29, ew_29]
      first | rw [if_pos (show (1 : Int) = 1 from rfl)] | rw [if_neg (show ¬ ((0 : Int) = 1) by decide)]
      have gM := hM.th (t2 := 0) (kn2 := kn)
      refine e_if_eq F 37 dX5_order_32 (by decide) (by decide) (fun c_32 => ?_) (fun c_32 => ?_)
      · exact absurd c_32 (by decide)
      · refine e_iconst F dX5_order_35 ?_
        refine e_iret F rfl (by omega) ?_ dX5_order_36
        exact ⟨FM.th, Or.inl ⟨(fun q => by omega), rfl, hM.th⟩⟩
    ·
      rw [b01_0, Classical.not_not] at c_12
      refine e_aload_n F dX5_order_15 rfl ?_
      refine e_iload_n F dX5_order_16 rfl ?_
      refine e_callVV F u_X5_isNoHolder (by rfl) (c_X5_isNoHolder hY hwh hh9) hY rfl rfl w_ml_RX5_99 dX5_order_17 (by rfl) (Nat.le_of_ble_eq_true rfl) (by decide) (by omega) (fun _ _ _ h _ => False.elim h) (fun r_17 w_17 n_17 h_17 hn_17 => ?_)
      obtain ⟨rfl, ew_17, en_17⟩ := h_17
      rw [ew_17, en_17]
      refine e_if_eq F 27 dX5_order_20 (by decide) (b01_r _) (fun c_20 => ?_) (fun c_20 => ?_)
      ·
        rw [b01_0, Classical.not_not] at c_20
        refine e_iconst F dX5_order_27 ?_
        refine e_iconst F dX5_order_28 ?_
        refine e_callVV F u_X5_start (by rfl) (c_X5_start hY (by first | exact Or.inl rfl | exact Or.inr rfl) (by decide) (by decide)) hY rfl rfl w_ml_RX5_69 dX5_order_29 (by rfl) (Nat.le_of_ble_eq_true rfl) (by decide) (by omega) (fun _ _ _ h _ => False.elim h) (fun r_29 w_29 n_29 h_29 hn_29 => ?_)
        obtain ⟨rfl, en_29, ew_29⟩ := h_29
        rw [en_29, ew_29]
        first | rw [if_pos (show (1 : Int) = 1 from rfl)] | rw [if_neg (show ¬ ((0 : Int) = 1) by decide)]
        have gM := hM.th (t2 := 0) (kn2 := kn)
        refine e_if_eq F 37 dX5_order_32 (by decide) (by decide) (fun c_32 => ?_) (fun c_32 => ?_)
        · refine e_aload_n F dX5_order_37 rfl ?_
          refine e_iload_n F dX5_order_38 rfl ?_
          refine e_iload_n F dX5_order_39 rfl ?_
          have h_i : (0 ≤ i9 ∧ i9 < 6) ∧ (0 ≤ j9 ∧ j9 < 6) ∧ (1 ≤ h9 ∧ h9 ≤ ho wh) := by omega
          obtain ⟨ki9, rfl⟩ : ∃ k : Nat, i9 = (k : Int) := ⟨i9.toNat, by omega⟩
          have hki9 : ki9 < 6 := by omega
          rw [show ((ki9 : Nat) : Int).toNat = ki9 from rfl]
          obtain ⟨kj9, rfl⟩ : ∃ k : Nat, j9 = (k : Int) := ⟨j9.toNat, by omega⟩
          have hkj9 : kj9 < 6 := by omega
          rw [show ((kj9 : Nat) : Int).toNat = kj9 from rfl]
          refine e_callVV F u_X5_shareOf (by rfl) (c_X5_shareOf gM hki9 (h := h9) (by omega) (by omega)) gM.1 rfl rfl w_ml_RX5_180 dX5_order_40 (by rfl) (Nat.le_of_ble_eq_true rfl) (by decide) (by omega) (fun _ _ _ h _ => False.elim h) (fun r_40 w_40 n_40 h_40 hn_40 => ?_)
          obtain ⟨rfl, ew_40, en_40⟩ := h_40
          rw [ew_40, en_40]
          have hA9 := gM.rgA hki9 (j := h9) (by omega) (by omega)
          refine e_istore F dX5_order_43 (by decide) ?_
          refine e_aload_n F dX5_order_45 rfl ?_
          refine e_iload_n F dX5_order_46 rfl ?_
          refine e_iload_n F dX5_order_47 rfl ?_
          refine e_callVV F u_X5_shareOf (by rfl) (c_X5_shareOf gM hkj9 (h := h9) (by omega) (by omega)) gM.1 rfl rfl w_ml_RX5_180 dX5_order_48 (by rfl) (Nat.le_of_ble_eq_true rfl) (by decide) (by omega) (fun _ _ _ h _ => False.elim h) (fun r_48 w_48 n_48 h_48 hn_48 => ?_)
          obtain ⟨rfl, ew_48, en_48⟩ := h_48
          rw [ew_48, en_48]
          have hB9 := gM.rgA hkj9 (j := h9) (by omega) (by omega)
          refine e_istore F dX5_order_51 (by decide) ?_
          refine e_iload F dX5_order_53 rfl ?_
          refine e_iconst F dX5_order_55 ?_
          refine e_icmp_eq F 65 dX5_order_56 (by decide) (⟨by omega, by omega⟩) (⟨by omega, by omega⟩) (fun c_56 => ?_) (fun c_56 => ?_)
          · refine e_bipush F dX5_order_65 (by decide) ?_
            refine e_goto F 101 dX5_order_67 (by decide) ?_
            refine e_iret F rfl (by omega) ?_ dX5_order_101
            refine ⟨FM.th, Or.inr ⟨h_i, ?_, gM⟩⟩
            show some (Value.int _) = some (Value.int (eI (orV ((R ki9).A h9) ((R kj9).A h9))))
            unfold orV
            first
            | (exfalso; omega)
            | (rw [if_pos (show (R ki9).A h9 = -1 ∨ (R kj9).A h9 = -1 by omega)]; done)
            | (rw [if_neg (show ¬ ((R ki9).A h9 = -1 ∨ (R kj9).A h9 = -1) by omega)]
               first | rw [b01_t (show (R kj9).A h9 < (R ki9).A h9 by omega)] | rw [b01_f (show ¬ (R kj9).A h9 < (R ki9).A h9 by omega)]
               first | rw [b01_t (show (R ki9).A h9 < (R kj9).A h9 by omega)] | rw [b01_f (show ¬ (R ki9).A h9 < (R kj9).A h9 by omega)])
          · refine e_iload F dX5_order_59 rfl ?_
            refine e_iconst F dX5_order_61 ?_
            refine e_icmp_ne F 70 dX5_order_62 (by decide) (⟨by omega, by omega⟩) (⟨by omega, by omega⟩) (fun c_62 => ?_) (fun c_62 => ?_)
            · refine e_iload F dX5_order_70 rfl ?_
              refine e_iload F dX5_order_72 rfl ?_
              refine e_icmp_le F 81 dX5_order_74 (by decide) (⟨by omega, by omega⟩) (⟨by omega, by omega⟩) (fun c_74 => ?_) (fun c_74 => ?_)
              · refine e_iconst F dX5_order_81 ?_
                refine e_callSS F u_X5_one (by rfl) (c_X5_one (b := _) (by first | exact Or.inl rfl | exact Or.inr rfl)) w_ml_RX5_80 dX5_order_82 (by rfl) (Nat.le_of_ble_eq_true rfl) (by decide) (by omega) (fun _ _ _ h _ => False.elim h) (fun r_82 w_82 n_82 h_82 hn_82 => ?_)
                obtain ⟨rfl, ew_82, en_82⟩ := h_82
                rw [ew_82, en_82]
                refine e_iload F dX5_order_85 rfl ?_
                refine e_iload F dX5_order_87 rfl ?_
                refine e_icmp_ge F 96 dX5_order_89 (by decide) (⟨by omega, by omega⟩) (⟨by omega, by omega⟩) (fun c_89 => ?_) (fun c_89 => ?_)
                · refine e_iconst F dX5_order_96 ?_
                  refine e_callSS F u_X5_one (by rfl) (c_X5_one (b := _) (by first | exact Or.inl rfl | exact Or.inr rfl)) w_ml_RX5_80 dX5_order_97 (by rfl) (Nat.le_of_ble_eq_true rfl) (by decide) (by omega) (fun _ _ _ h _ => False.elim h) (fun r_97 w_97 n_97 h_97 hn_97 => ?_)
                  obtain ⟨rfl, ew_97, en_97⟩ := h_97
                  rw [ew_97, en_97]
                  refine e_isub F dX5_order_100 ?_
                  refine e_iret F rfl (by omega) ?_ dX5_order_101
                  refine ⟨FM.th, Or.inr ⟨h_i, ?_, gM⟩⟩
                  show some (Value.int _) = some (Value.int (eI (orV ((R ki9).A h9) ((R kj9).A h9))))
                  unfold orV
                  first
                  | (exfalso; omega)
                  | (rw [if_pos (show (R ki9).A h9 = -1 ∨ (R kj9).A h9 = -1 by omega)]; done)
                  | (rw [if_neg (show ¬ ((R ki9).A h9 = -1 ∨ (R kj9).A h9 = -1) by omega)]
                     first | rw [b01_t (show (R kj9).A h9 < (R ki9).A h9 by omega)] | rw [b01_f (show ¬ (R kj9).A h9 < (R ki9).A h9 by omega)]
                     first | rw [b01_t (show (R ki9).A h9 < (R kj9).A h9 by omega)] | rw [b01_f (show ¬ (R ki9).A h9 < (R kj9).A h9 by omega)])
                · refine e_iconst F dX5_order_92 ?_
                  refine e_goto F 97 dX5_order_93 (by decide) ?_
                  refine e_callSS F u_X5_one (by rfl) (c_X5_one (b := _) (by first | exact Or.inl rfl | exact Or.inr rfl)) w_ml_RX5_80 dX5_order_97 (by rfl) (Nat.le_of_ble_eq_true rfl) (by decide) (by omega) (fun _ _ _ h _ => False.elim h) (fun r_97 w_97 n_97 h_97 hn_97 => ?_)
                  obtain ⟨rfl, ew_97, en_97⟩ := h_97
                  rw [ew_97, en_97]
                  refine e_isub F dX5_order_100 ?_
                  refine e_iret F rfl (by omega) ?_ dX5_order_101
                  refine ⟨FM.th, Or.inr ⟨h_i, ?_, gM⟩⟩
                  show some (Value.int _) = some (Value.int (eI (orV ((R ki9).A h9) ((R kj9).A h9))))
                  unfold orV
                  first
                  | (exfalso; omega)
                  | (rw [if_pos (show (R ki9).A h9 = -1 ∨ (R kj9).A h9 = -1 by omega)]; done)
                  | (rw [if_neg (show ¬ ((R ki9).A h9 = -1 ∨ (R kj9).A h9 = -1) by omega)]
                     first | rw [b01_t (show (R kj9).A h9 < (R ki9).A h9 by omega)] | rw [b01_f (show ¬ (R kj9).A h9 < (R ki9).A h9 by omega)]
                     first | rw [b01_t (show (R ki9).A h9 < (R kj9).A h9 by omega)] | rw [b01_f (show ¬ (R ki9).A h9 < (R kj9).A h9 by omega)])
              · refine e_iconst F dX5_order_77 ?_
                refine e_goto F 82 dX5_order_78 (by decide) ?_
                refine e_callSS F u_X5_one (by rfl) (c_X5_one (b := _) (by first | exact Or.inl rfl | exact Or.inr rfl)) w_ml_RX5_80 dX5_order_82 (by rfl) (Nat.le_of_ble_eq_true rfl) (by decide) (by omega) (fun _ _ _ h _ => False.elim h) (fun r_82 w_82 n_82 h_82 hn_82 => ?_)
                obtain ⟨rfl, ew_82, en_82⟩ := h_82
                rw [ew_82, en_82]
                refine e_iload F dX5_order_85 rfl ?_
                refine e_iload F dX5_order_87 rfl ?_
                refine e_icmp_ge F 96 dX5_order_89 (by decide) (⟨by omega, by omega⟩) (⟨by omega, by omega⟩) (fun c_89 => ?_) (fun c_89 => ?_)
                · refine e_iconst F dX5_order_96 ?_
                  refine e_callSS F u_X5_one (by rfl) (c_X5_one (b := _) (by first | exact Or.inl rfl | exact Or.inr rfl)) w_ml_RX5_80 dX5_order_97 (by rfl) (Nat.le_of_ble_eq_true rfl) (by decide) (by omega) (fun _ _ _ h _ => False.elim h) (fun r_97 w_97 n_97 h_97 hn_97 => ?_)
                  obtain ⟨rfl, ew_97, en_97⟩ := h_97
                  rw [ew_97, en_97]
                  refine e_isub F dX5_order_100 ?_
                  refine e_iret F rfl (by omega) ?_ dX5_order_101
                  refine ⟨FM.th, Or.inr ⟨h_i, ?_, gM⟩⟩
                  show some (Value.int _) = some (Value.int (eI (orV ((R ki9).A h9) ((R kj9).A h9))))
                  unfold orV
                  first
                  | (exfalso; omega)
                  | (rw [if_pos (show (R ki9).A h9 = -1 ∨ (R kj9).A h9 = -1 by omega)]; done)
                  | (rw [if_neg (show ¬ ((R ki9).A h9 = -1 ∨ (R kj9).A h9 = -1) by omega)]
                     first | rw [b01_t (show (R kj9).A h9 < (R ki9).A h9 by omega)] | rw [b01_f (show ¬ (R kj9).A h9 < (R ki9).A h9 by omega)]
                     first | rw [b01_t (show (R ki9).A h9 < (R kj9).A h9 by omega)] | rw [b01_f (show ¬ (R ki9).A h9 < (R kj9).A h9 by omega)])
                · refine e_iconst F dX5_order_92 ?_
                  refine e_goto F 97 dX5_order_93 (by decide) ?_
                  refine e_callSS F u_X5_one (by rfl) (c_X5_one (b := _) (by first | exact Or.inl rfl | exact Or.inr rfl)) w_ml_RX5_80 dX5_order_97 (by rfl) (Nat.le_of_ble_eq_true rfl) (by decide) (by omega) (fun _ _ _ h _ => False.elim h) (fun r_97 w_97 n_97 h_97 hn_97 => ?_)
                  obtain ⟨rfl, ew_97, en_97⟩ := h_97
                  rw [ew_97, en_97]
                  refine e_isub F dX5_order_100 ?_
                  refine e_iret F rfl (by omega) ?_ dX5_order_101
                  refine ⟨FM.th, Or.inr ⟨h_i, ?_, gM⟩⟩
                  show some (Value.int _) = some (Value.int (eI (orV ((R ki9).A h9) ((R kj9).A h9))))
                  unfold orV
                  first
                  | (exfalso; omega)
                  | (rw [if_pos (show (R ki9).A h9 = -1 ∨ (R kj9).A h9 = -1 by omega)]; done)
                  | (rw [if_neg (show ¬ ((R ki9).A h9 = -1 ∨ (R kj9).A h9 = -1) by omega)]
                     first | rw [b01_t (show (R kj9).A h9 < (R ki9).A h9 by omega)] | rw [b01_f (show ¬ (R kj9).A h9 < (R ki9).A h9 by omega)]
                     first | rw [b01_t (show (R ki9).A h9 < (R kj9).A h9 by omega)] | rw [b01_f (show ¬ (R ki9).A h9 < (R kj9).A h9 by omega)])
            · refine e_bipush F dX5_order_65 (by decide) ?_
              refine e_goto F 101 dX5_order_67 (by decide) ?_
              refine e_iret F rfl (by omega) ?_ dX5_order_101
              refine ⟨FM.th, Or.inr ⟨h_i, ?_, gM⟩⟩
              show some (Value.int _) = some (Value.int (eI (orV ((R ki9).A h9) ((R kj9).A h9))))
              unfold orV
              first
              | (exfalso; omega)
              | (rw [if_pos (show (R ki9).A h9 = -1 ∨ (R kj9).A h9 = -1 by omega)]; done)
              | (rw [if_neg (show ¬ ((R ki9).A h9 = -1 ∨ (R kj9).A h9 = -1) by omega)]
                 first | rw [b01_t (show (R kj9).A h9 < (R ki9).A h9 by omega)] | rw [b01_f (show ¬ (R kj9).A h9 < (R ki9).A h9 by omega)]
                 first | rw [b01_t (show (R ki9).A h9 < (R kj9).A h9 by omega)] | rw [b01_f (show ¬ (R ki9).A h9 < (R kj9).A h9 by omega)])
        · exact absurd c_32 (by decide)
      ·
        rw [b01_0, Classical.not_not] at c_20
        refine e_iconst F dX5_order_23 ?_
        refine e_goto F 28 dX5_order_24 (by decide) ?_
        refine e_iconst F dX5_order_28 ?_
        refine e_callVV F u_X5_start (by rfl) (c_X5_start hY (by first | exact Or.inl rfl | exact Or.inr rfl) (by decide) (by decide)) hY rfl rfl w_ml_RX5_69 dX5_order_29 (by rfl) (Nat.le_of_ble_eq_true rfl) (by decide) (by omega) (fun _ _ _ h _ => False.elim h) (fun r_29 w_29 n_29 h_29 hn_29 => ?_)
        obtain ⟨rfl, en_29, ew_29⟩ := h_29
        rw [en_29, ew_29]
        first | rw [if_pos (show (1 : Int) = 1 from rfl)] | rw [if_neg (show ¬ ((0 : Int) = 1) by decide)]
        have gM := hM.th (t2 := 0) (kn2 := kn)
        refine e_if_eq F 37 dX5_order_32 (by decide) (by decide) (fun c_32 => ?_) (fun c_32 => ?_)
        · exact absurd c_32 (by decide)
        · refine e_iconst F dX5_order_35 ?_
          refine e_iret F rfl (by omega) ?_ dX5_order_36
          exact ⟨FM.th, Or.inl ⟨(fun q => by omega), rfl, hM.th⟩⟩
set_option maxHeartbeats 4000000 in
set_option maxRecDepth 100000 in
theorem c_X5_most {K : e_K} {l : Launch} {w : e_W} {n : Nat} {y wh : Nat} {t kn : Int} {R : Nat → RD} (hM : MW w y wh kn t R) {i9 : Int} (hi9 : e_r i9) {b9 : Int} (hb : b9 = 0 ∨ b9 = 1) : e_Met K l yX5_most (Cond.code yX5_most cX5_most 6 (Option.some .int) :: e_TB) (3) (0) [.ref y, .int (eI i9), .int (eI b9)] w n (fun r w' n' => FM w w' y n ∧ ((¬ (0 ≤ i9 ∧ i9 < 6) ∧ r = some (.int (eI 0)) ∧ MW w' y wh kn 1 R) ∨ ((0 ≤ i9 ∧ i9 < 6) ∧ r = some (.int (eI (if (R i9.toNat).dg = -1 then -9 else moK b9 (R i9.toNat).A (ho wh).toNat (ho wh).toNat))) ∧ MW w' y wh (kn) 0 (R)))) (e_px0) := by
  refine e_ofV rfl (Nat.le_of_ble_eq_true rfl) ?_
  intro P9 E9 S9 M9 A9 B9 T9 C9 F hnm
  have hwh := hM.2.1
  have hY := hM.1
  have hp := pr_rg wh hwh
  have hho := ho_rg wh hwh
  have hf9 := fl_rg wh hwh
  refine e_aload_n F dX5_most_0 rfl ?_
  refine e_iload_n F dX5_most_1 rfl ?_
  refine e_callSS F u_X5_isNoDeal (by rfl) (c_X5_isNoDeal hi9) w_ml_RX5_129 dX5_most_2 (by rfl) (Nat.le_of_ble_eq_true rfl) (by decide) (by omega) (fun _ _ _ h _ => False.elim h) (fun r_2 w_2 n_2 h_2 hn_2 => ?_)
  obtain ⟨rfl, ew_2, en_2⟩ := h_2
  rw [ew_2, en_2]
  refine e_iconst F dX5_most_5 ?_
  refine e_callVV F u_X5_start (by rfl) (c_X5_start hY (b01_or _) (by decide) (by decide)) hY rfl rfl w_ml_RX5_69 dX5_most_6 (by rfl) (Nat.le_of_ble_eq_true rfl) (by decide) (by omega) (fun _ _ _ h _ => False.elim h) (fun r_6 w_6 n_6 h_6 hn_6 => ?_)
  obtain ⟨rfl, en_6, ew_6⟩ := h_6
  rw [en_6, ew_6, st1]
  refine e_if_eq F 14 dX5_most_9 (by decide) (b01_r _) (fun c_9 => ?_) (fun c_9 => ?_)
  ·
    rw [b01_0, Classical.not_not] at c_9
    rw [if_pos c_9]
    have gM := hM.th (t2 := 0) (kn2 := kn)
    have h_i := c_9
    obtain ⟨ki9, rfl⟩ : ∃ k : Nat, i9 = (k : Int) := ⟨i9.toNat, by omega⟩
    have hki9 : ki9 < 6 := by omega
    rw [show ((ki9 : Nat) : Int).toNat = ki9 from rfl]
    refine e_dom ?_
    intro hdm
    obtain ⟨gY, _, ⟨G, gG, gGe⟩, ⟨SS, PP, gS, gP, gMD⟩, gRV⟩ := id gM
    refine e_aload_n F dX5_most_14 rfl ?_
    refine e_iload_n F dX5_most_15 rfl ?_
    refine e_callVV F u_X5_isEmpty (by rfl) (c_X5_isEmpty gM (i := ki9) hki9) gY rfl rfl w_ml_RX5_113 dX5_most_16 (by rfl) (Nat.le_of_ble_eq_true rfl) (by decide) (by omega) (fun _ _ _ h _ => False.elim h) (fun r_16 w_16 n_16 h_16 hn_16 => ?_)
    obtain ⟨rfl, ew_16, en_16⟩ := h_16
    rw [ew_16, en_16]
    refine e_if_eq F 25 dX5_most_19 (by decide) (b01_r _) (fun c_19 => ?_) (fun c_19 => ?_)
    ·
      rw [b01_0] at c_19
      have hne := c_19
      obtain ⟨a, f, hSa, hya, hwa, hfr, hfA⟩ := MD.row (gMD ki9 hki9) c_19
      have lp : ∀ (N : Nat) (j : Nat), (8 - j) < N → j ≤ (ho wh).toNat → e_V K P9 l E9 (3) (0) S9 M9 A9 B9 T9 C9 6 (fun r w' n' => FM w w' y n ∧ ((¬ (0 ≤ ((ki9 : Nat) : Int) ∧ ((ki9 : Nat) : Int) < 6) ∧ r = some (.int (eI 0)) ∧ MW w' y wh kn 1 R) ∨ ((0 ≤ ((ki9 : Nat) : Int) ∧ ((ki9 : Nat) : Int) < 6) ∧ r = some (.int (eI (if (R ki9).dg = -1 then -9 else moK b9 (R ki9).A (ho wh).toNat (ho wh).toNat))) ∧ MW w' y wh (kn) 0 (R)))) (e_px0) 33 [(0, .ref y), (1, .int (eI ((ki9 : Nat) : Int))), (2, .int (eI b9)), (3, .int (eI (moK b9 (R ki9).A (ho wh).toNat j))), (4, .int (eI ((((ho wh).toNat : Nat) : Int) - (j : Int))))] [] (e_up w y (MO y 0 wh kn)) n (0) := by
        intro N
        induction N with
        | zero => intro j hN; exact absurd hN (Nat.not_lt_zero _)
        | succ N ih =>
          intro j hN hk
          refine e_iload F dX5_most_33 rfl ?_
          refine e_if_le F 101 dX5_most_35 (by decide) (⟨by omega, by omega⟩) (fun c_35 => ?_) (fun c_35 => ?_)
          ·
            obtain rfl : j = (ho wh).toNat := by omega
            refine e_iload_n F dX5_most_101 rfl ?_
            refine e_iret F rfl (by omega) ?_ dX5_most_102
            refine ⟨FM.th, Or.inr ⟨h_i, ?_, gM⟩⟩
            rw [if_neg (show ¬ (R ki9).dg = -1 from c_19)]
            try rfl
          ·
            have hmr := moK_rg b9 (R ki9).A (ho wh).toNat j (by omega)
            have hA9 := gM.rgA hki9 (j := ((((ho wh).toNat : Nat) : Int) - (j : Int))) (by omega) (by omega)
            have hB9 : (moK b9 (R ki9).A (ho wh).toNat j) ≠ 0 → -1 ≤ (R ki9).A (moK b9 (R ki9).A (ho wh).toNat j) ∧ (R ki9).A (moK b9 (R ki9).A (ho wh).toNat j) < pr wh := fun q => gM.rgA hki9 (by omega) (by omega)
            refine e_aload_n F dX5_most_38 rfl ?_
            refine e_get (ci := 5) (fi := 4) (q := (RX5, TX5, 6)) F gY rfl (by decide) w_fl_RX5_18 (by rfl) dX5_most_39 ?_
            refine e_iload_n F dX5_most_42 rfl ?_
            refine e_aaldr F gS (by omega) (by omega) (by decide) (hSa) dX5_most_43 ?_
            refine e_iload F dX5_most_44 rfl ?_
            refine e_iald F hwa (by omega) (by omega) (by first | decide | omega) dX5_most_46 ?_
            rw [hfA _ (by omega) (by omega)]
            refine e_istore F dX5_most_47 (by decide) ?_
            refine e_iload F dX5_most_49 rfl ?_
            refine e_iconst F dX5_most_51 ?_
            refine e_icmp_eq F 95 dX5_most_52 (by decide) (⟨by omega, by omega⟩) (⟨by omega, by omega⟩) (fun c_52 => ?_) (fun c_52 => ?_)
            · refine e_iinc F dX5_most_95 rfl (by decide) ?_
              refine e_goto F 33 dX5_most_98 (by decide) ?_
              first
              | (have e9 : moK b9 (R ki9).A (ho wh).toNat (j + 1) = ((((ho wh).toNat : Nat) : Int) - (j : Int)) := if_pos (show (R ki9).A ((((ho wh).toNat : Nat) : Int) - (j : Int)) ≠ -1 ∧ ((moK b9 (R ki9).A (ho wh).toNat j) = 0 ∨ (if b9 = 0 then (R ki9).A (moK b9 (R ki9).A (ho wh).toNat j) ≤ (R ki9).A ((((ho wh).toNat : Nat) : Int) - (j : Int)) else (R ki9).A ((((ho wh).toNat : Nat) : Int) - (j : Int)) ≤ (R ki9).A (moK b9 (R ki9).A (ho wh).toNat j))) by refine ⟨c_52, ?_⟩; first | exact Or.inl (by omega) | (right; rw [if_pos (show b9 = 0 by omega)]; omega) | (right; rw [if_neg (show ¬ b9 = 0 by omega)]; omega))
                 refine e_go (ih (j + 1) (by omega) (by omega)) ?_
                 rw [e9, show ((((ho wh).toNat : Nat) : Int) - ((j + 1 : Nat) : Int)) = ((((ho wh).toNat : Nat) : Int) - (j : Int)) + -1 by omega]
                 exact (And.intro rfl (And.intro rfl (And.intro rfl (And.intro rfl (And.intro rfl (trivial)))))))
              | (have e9 : moK b9 (R ki9).A (ho wh).toNat (j + 1) = (moK b9 (R ki9).A (ho wh).toNat j) := if_neg (show ¬ ((R ki9).A ((((ho wh).toNat : Nat) : Int) - (j : Int)) ≠ -1 ∧ ((moK b9 (R ki9).A (ho wh).toNat j) = 0 ∨ (if b9 = 0 then (R ki9).A (moK b9 (R ki9).A (ho wh).toNat j) ≤ (R ki9).A ((((ho wh).toNat : Nat) : Int) - (j : Int)) else (R ki9).A ((((ho wh).toNat : Nat) : Int) - (j : Int)) ≤ (R ki9).A (moK b9 (R ki9).A (ho wh).toNat j)))) by intro q; first | exact q.1 c_52 | (rcases q.2 with z | z; omega; first | (rw [if_pos (show b9 = 0 by omega)] at z; omega) | (rw [if_neg (show ¬ b9 = 0 by omega)] at z; omega)))
                 refine e_go (ih (j + 1) (by omega) (by omega)) ?_
                 rw [e9, show ((((ho wh).toNat : Nat) : Int) - ((j + 1 : Nat) : Int)) = ((((ho wh).toNat : Nat) : Int) - (j : Int)) + -1 by omega]
                 exact (And.intro rfl (And.intro rfl (And.intro rfl (And.intro rfl (And.intro rfl (trivial)))))))
            · refine e_iload_n F dX5_most_55 rfl ?_
              refine e_if_eq F 92 dX5_most_56 (by decide) (⟨by omega, by omega⟩) (fun c_56 => ?_) (fun c_56 => ?_)
              · refine e_iload F dX5_most_92 rfl ?_
                refine e_istore_n F dX5_most_94 (by decide) ?_
                refine e_iinc F dX5_most_95 rfl (by decide) ?_
                refine e_goto F 33 dX5_most_98 (by decide) ?_
                first
                | (have e9 : moK b9 (R ki9).A (ho wh).toNat (j + 1) = ((((ho wh).toNat : Nat) : Int) - (j : Int)) := if_pos (show (R ki9).A ((((ho wh).toNat : Nat) : Int) - (j : Int)) ≠ -1 ∧ ((moK b9 (R ki9).A (ho wh).toNat j) = 0 ∨ (if b9 = 0 then (R ki9).A (moK b9 (R ki9).A (ho wh).toNat j) ≤ (R ki9).A ((((ho wh).toNat : Nat) : Int) - (j : Int)) else (R ki9).A ((((ho wh).toNat : Nat) : Int) - (j : Int)) ≤ (R ki9).A (moK b9 (R ki9).A (ho wh).toNat j))) by refine ⟨c_52, ?_⟩; first | exact Or.inl (by omega) | (right; rw [if_pos (show b9 = 0 by omega)]; omega) | (right; rw [if_neg (show ¬ b9 = 0 by omega)]; omega))
                   refine e_go (ih (j + 1) (by omega) (by omega)) ?_
                   rw [e9, show ((((ho wh).toNat : Nat) : Int) - ((j + 1 : Nat) : Int)) = ((((ho wh).toNat : Nat) : Int) - (j : Int)) + -1 by omega]
                   exact (And.intro rfl (And.intro rfl (And.intro rfl (And.intro rfl (And.intro rfl (trivial)))))))
                | (have e9 : moK b9 (R ki9).A (ho wh).toNat (j + 1) = (moK b9 (R ki9).A (ho wh).toNat j) := if_neg (show ¬ ((R ki9).A ((((ho wh).toNat : Nat) : Int) - (j : Int)) ≠ -1 ∧ ((moK b9 (R ki9).A (ho wh).toNat j) = 0 ∨ (if b9 = 0 then (R ki9).A (moK b9 (R ki9).A (ho wh).toNat j) ≤ (R ki9).A ((((ho wh).toNat : Nat) : Int) - (j : Int)) else (R ki9).A ((((ho wh).toNat : Nat) : Int) - (j : Int)) ≤ (R ki9).A (moK b9 (R ki9).A (ho wh).toNat j)))) by intro q; first | exact q.1 c_52 | (rcases q.2 with z | z; omega; first | (rw [if_pos (show b9 = 0 by omega)] at z; omega) | (rw [if_neg (show ¬ b9 = 0 by omega)] at z; omega)))
                   refine e_go (ih (j + 1) (by omega) (by omega)) ?_
                   rw [e9, show ((((ho wh).toNat : Nat) : Int) - ((j + 1 : Nat) : Int)) = ((((ho wh).toNat : Nat) : Int) - (j : Int)) + -1 by omega]
                   exact (And.intro rfl (And.intro rfl (And.intro rfl (And.intro rfl (And.intro rfl (trivial)))))))
              · refine e_iload_n F dX5_most_59 rfl ?_
                refine e_if_eq F 79 dX5_most_60 (by decide) (by rcases hb with h | h <;> rw [h] <;> decide) (fun c_60 => ?_) (fun c_60 => ?_)
                · refine e_iload F dX5_most_79 rfl ?_
                  refine e_aload_n F dX5_most_81 rfl ?_
                  refine e_get (ci := 5) (fi := 4) (q := (RX5, TX5, 6)) F gY rfl (by decide) w_fl_RX5_18 (by rfl) dX5_most_82 ?_
                  refine e_iload_n F dX5_most_85 rfl ?_
                  refine e_aaldr F gS (by omega) (by omega) (by decide) (hSa) dX5_most_86 ?_
                  refine e_iload_n F dX5_most_87 rfl ?_
                  refine e_iald F hwa (by omega) (by omega) (by first | decide | omega) dX5_most_88 ?_
                  rw [hfA _ (by omega) (by omega)]
                  have hB8 := hB9 (by omega)
                  refine e_icmp_lt F 95 dX5_most_89 (by decide) (⟨by omega, by omega⟩) (⟨by omega, by omega⟩) (fun c_89 => ?_) (fun c_89 => ?_)
                  · refine e_iinc F dX5_most_95 rfl (by decide) ?_
                    refine e_goto F 33 dX5_most_98 (by decide) ?_
                    first
                    | (have e9 : moK b9 (R ki9).A (ho wh).toNat (j + 1) = ((((ho wh).toNat : Nat) : Int) - (j : Int)) := if_pos (show (R ki9).A ((((ho wh).toNat : Nat) : Int) - (j : Int)) ≠ -1 ∧ ((moK b9 (R ki9).A (ho wh).toNat j) = 0 ∨ (if b9 = 0 then (R ki9).A (moK b9 (R ki9).A (ho wh).toNat j) ≤ (R ki9).A ((((ho wh).toNat : Nat) : Int) - (j : Int)) else (R ki9).A ((((ho wh).toNat : Nat) : Int) - (j : Int)) ≤ (R ki9).A (moK b9 (R ki9).A (ho wh).toNat j))) by refine ⟨c_52, ?_⟩; first | exact Or.inl (by omega) | (right; rw [if_pos (show b9 = 0 by omega)]; omega) | (right; rw [if_neg (show ¬ b9 = 0 by omega)]; omega))
                       refine e_go (ih (j + 1) (by omega) (by omega)) ?_
                       rw [e9, show ((((ho wh).toNat : Nat) : Int) - ((j + 1 : Nat) : Int)) = ((((ho wh).toNat : Nat) : Int) - (j : Int)) + -1 by omega]
                       exact (And.intro rfl (And.intro rfl (And.intro rfl (And.intro rfl (And.intro rfl (trivial)))))))
                    | (have e9 : moK b9 (R ki9).A (ho wh).toNat (j + 1) = (moK b9 (R ki9).A (ho wh).toNat j) := if_neg (show ¬ ((R ki9).A ((((ho wh).toNat : Nat) : Int) - (j : Int)) ≠ -1 ∧ ((moK b9 (R ki9).A (ho wh).toNat j) = 0 ∨ (if b9 = 0 then (R ki9).A (moK b9 (R ki9).A (ho wh).toNat j) ≤ (R ki9).A ((((ho wh).toNat : Nat) : Int) - (j : Int)) else (R ki9).A ((((ho wh).toNat : Nat) : Int) - (j : Int)) ≤ (R ki9).A (moK b9 (R ki9).A (ho wh).toNat j)))) by intro q; first | exact q.1 c_52 | (rcases q.2 with z | z; omega; first | (rw [if_pos (show b9 = 0 by omega)] at z; omega) | (rw [if_neg (show ¬ b9 = 0 by omega)] at z; omega)))
                       refine e_go (ih (j + 1) (by omega) (by omega)) ?_
                       rw [e9, show ((((ho wh).toNat : Nat) : Int) - ((j + 1 : Nat) : Int)) = ((((ho wh).toNat : Nat) : Int) - (j : Int)) + -1 by omega]
                       exact (And.intro rfl (And.intro rfl (And.intro rfl (And.intro rfl (And.intro rfl (trivial)))))))
                  · refine e_iload F dX5_most_92 rfl ?_
                    refine e_istore_n F dX5_most_94 (by decide) ?_
                    refine e_iinc F dX5_most_95 rfl (by decide) ?_
                    refine e_goto F 33 dX5_most_98 (by decide) ?_
                    first
                    | (have e9 : moK b9 (R ki9).A (ho wh).toNat (j + 1) = ((((ho wh).toNat : Nat) : Int) - (j : Int)) := if_pos (show (R ki9).A ((((ho wh).toNat : Nat) : Int) - (j : Int)) ≠ -1 ∧ ((moK b9 (R ki9).A (ho wh).toNat j) = 0 ∨ (if b9 = 0 then (R ki9).A (moK b9 (R ki9).A (ho wh).toNat j) ≤ (R ki9).A ((((ho wh).toNat : Nat) : Int) - (j : Int)) else (R ki9).A ((((ho wh).toNat : Nat) : Int) - (j : Int)) ≤ (R ki9).A (moK b9 (R ki9).A (ho wh).toNat j))) by refine ⟨c_52, ?_⟩; first | exact Or.inl (by omega) | (right; rw [if_pos (show b9 = 0 by omega)]; omega) | (right; rw [if_neg (show ¬ b9 = 0 by omega)]; omega))
                       refine e_go (ih (j + 1) (by omega) (by omega)) ?_
                       rw [e9, show ((((ho wh).toNat : Nat) : Int) - ((j + 1 : Nat) : Int)) = ((((ho wh).toNat : Nat) : Int) - (j : Int)) + -1 by omega]
                       exact (And.intro rfl (And.intro rfl (And.intro rfl (And.intro rfl (And.intro rfl (trivial)))))))
                    | (have e9 : moK b9 (R ki9).A (ho wh).toNat (j + 1) = (moK b9 (R ki9).A (ho wh).toNat j) := if_neg (show ¬ ((R ki9).A ((((ho wh).toNat : Nat) : Int) - (j : Int)) ≠ -1 ∧ ((moK b9 (R ki9).A (ho wh).toNat j) = 0 ∨ (if b9 = 0 then (R ki9).A (moK b9 (R ki9).A (ho wh).toNat j) ≤ (R ki9).A ((((ho wh).toNat : Nat) : Int) - (j : Int)) else (R ki9).A ((((ho wh).toNat : Nat) : Int) - (j : Int)) ≤ (R ki9).A (moK b9 (R ki9).A (ho wh).toNat j)))) by intro q; first | exact q.1 c_52 | (rcases q.2 with z | z; omega; first | (rw [if_pos (show b9 = 0 by omega)] at z; omega) | (rw [if_neg (show ¬ b9 = 0 by omega)] at z; omega)))
                       refine e_go (ih (j + 1) (by omega) (by omega)) ?_
                       rw [e9, show ((((ho wh).toNat : Nat) : Int) - ((j + 1 : Nat) : Int)) = ((((ho wh).toNat : Nat) : Int) - (j : Int)) + -1 by omega]
                       exact (And.intro rfl (And.intro rfl (And.intro rfl (And.intro rfl (And.intro rfl (trivial)))))))
                · refine e_iload F dX5_most_63 rfl ?_
                  refine e_aload_n F dX5_most_65 rfl ?_
                  refine e_get (ci := 5) (fi := 4) (q := (RX5, TX5, 6)) F gY rfl (by decide) w_fl_RX5_18 (by rfl) dX5_most_66 ?_
                  refine e_iload_n F dX5_most_69 rfl ?_
                  refine e_aaldr F gS (by omega) (by omega) (by decide) (hSa) dX5_most_70 ?_
                  refine e_iload_n F dX5_most_71 rfl ?_
                  refine e_iald F hwa (by omega) (by omega) (by first | decide | omega) dX5_most_72 ?_
                  rw [hfA _ (by omega) (by omega)]
                  have hB8 := hB9 (by omega)
                  refine e_icmp_gt F 95 dX5_most_73 (by decide) (⟨by omega, by omega⟩) (⟨by omega, by omega⟩) (fun c_73 => ?_) (fun c_73 => ?_)
                  · refine e_iinc F dX5_most_95 rfl (by decide) ?_
                    refine e_goto F 33 dX5_most_98 (by decide) ?_
                    first
                    | (have e9 : moK b9 (R ki9).A (ho wh).toNat (j + 1) = ((((ho wh).toNat : Nat) : Int) - (j : Int)) := if_pos (show (R ki9).A ((((ho wh).toNat : Nat) : Int) - (j : Int)) ≠ -1 ∧ ((moK b9 (R ki9).A (ho wh).toNat j) = 0 ∨ (if b9 = 0 then (R ki9).A (moK b9 (R ki9).A (ho wh).toNat j) ≤ (R ki9).A ((((ho wh).toNat : Nat) : Int) - (j : Int)) else (R ki9).A ((((ho wh).toNat : Nat) : Int) - (j : Int)) ≤ (R ki9).A (moK b9 (R ki9).A (ho wh).toNat j))) by refine ⟨c_52, ?_⟩; first | exact Or.inl (by omega) | (right; rw [if_pos (show b9 = 0 by omega)]; omega) | (right; rw [if_neg (show ¬ b9 = 0 by omega)]; omega))
                       refine e_go (ih (j + 1) (by omega) (by omega)) ?_
                       rw [e9, show ((((ho wh).toNat : Nat) : Int) - ((j + 1 : Nat) : Int)) = ((((ho wh).toNat : Nat) : Int) - (j : Int)) + -1 by omega]
                       exact (And.intro rfl (And.intro rfl (And.intro rfl (And.intro rfl (And.intro rfl (trivial)))))))
                    | (have e9 : moK b9 (R ki9).A (ho wh).toNat (j + 1) = (moK b9 (R ki9).A (ho wh).toNat j) := if_neg (show ¬ ((R ki9).A ((((ho wh).toNat : Nat) : Int) - (j : Int)) ≠ -1 ∧ ((moK b9 (R ki9).A (ho wh).toNat j) = 0 ∨ (if b9 = 0 then (R ki9).A (moK b9 (R ki9).A (ho wh).toNat j) ≤ (R ki9).A ((((ho wh).toNat : Nat) : Int) - (j : Int)) else (R ki9).A ((((ho wh).toNat : Nat) : Int) - (j : Int)) ≤ (R ki9).A (moK b9 (R ki9).A (ho wh).toNat j)))) by intro q; first | exact q.1 c_52 | (rcases q.2 with z | z; omega; first | (rw [if_pos (show b9 = 0 by omega)] at z; omega) | (rw [if_neg (show ¬ b9 = 0 by omega)] at z; omega)))
                       refine e_go (ih (j + 1) (by omega) (by omega)) ?_
                       rw [e9, show ((((ho wh).toNat : Nat) : Int) - ((j + 1 : Nat) : Int)) = ((((ho wh).toNat : Nat) : Int) - (j : Int)) + -1 by omega]
                       exact (And.intro rfl (And.intro rfl (And.intro rfl (And.intro rfl (And.intro rfl (trivial)))))))
                  · refine e_goto F 92 dX5_most_76 (by decide) ?_
                    refine e_iload F dX5_most_92 rfl ?_
                    refine e_istore_n F dX5_most_94 (by decide) ?_
                    refine e_iinc F dX5_most_95 rfl (by decide) ?_
                    refine e_goto F 33 dX5_most_98 (by decide) ?_
                    first
                    | (have e9 : moK b9 (R ki9).A (ho wh).toNat (j + 1) = ((((ho wh).toNat : Nat) : Int) - (j : Int)) := if_pos (show (R ki9).A ((((ho wh).toNat : Nat) : Int) - (j : Int)) ≠ -1 ∧ ((moK b9 (R ki9).A (ho wh).toNat j) = 0 ∨ (if b9 = 0 then (R ki9).A (moK b9 (R ki9).A (ho wh).toNat j) ≤ (R ki9).A ((((ho wh).toNat : Nat) : Int) - (j : Int)) else (R ki9).A ((((ho wh).toNat : Nat) : Int) - (j : Int)) ≤ (R ki9).A (moK b9 (R ki9).A (ho wh).toNat j))) by refine ⟨c_52, ?_⟩; first | exact Or.inl (by omega) | (right; rw [if_pos (show b9 = 0 by omega)]; omega) | (right; rw [if_neg (show ¬ b9 = 0 by omega)]; omega))
                       refine e_go (ih (j + 1) (by omega) (by omega)) ?_
                       rw [e9, show ((((ho wh).toNat : Nat) : Int) - ((j + 1 : Nat) : Int)) = ((((ho wh).toNat : Nat) : Int) - (j : Int)) + -1 by omega]
                       exact (And.intro rfl (And.intro rfl (And.intro rfl (And.intro rfl (And.intro rfl (trivial)))))))
                    | (have e9 : moK b9 (R ki9).A (ho wh).toNat (j + 1) = (moK b9 (R ki9).A (ho wh).toNat j) := if_neg (show ¬ ((R ki9).A ((((ho wh).toNat : Nat) : Int) - (j : Int)) ≠ -1 ∧ ((moK b9 (R ki9).A (ho wh).toNat j) = 0 ∨ (if b9 = 0 then (R ki9).A (moK b9 (R ki9).A (ho wh).toNat j) ≤ (R ki9).A ((((ho wh).toNat : Nat) : Int) - (j : Int)) else (R ki9).A ((((ho wh).toNat : Nat) : Int) - (j : Int)) ≤ (R ki9).A (moK b9 (R ki9).A (ho wh).toNat j)))) by intro q; first | exact q.1 c_52 | (rcases q.2 with z | z; omega; first | (rw [if_pos (show b9 = 0 by omega)] at z; omega) | (rw [if_neg (show ¬ b9 = 0 by omega)] at z; omega)))
                       refine e_go (ih (j + 1) (by omega) (by omega)) ?_
                       rw [e9, show ((((ho wh).toNat : Nat) : Int) - ((j + 1 : Nat) : Int)) = ((((ho wh).toNat : Nat) : Int) - (j : Int)) + -1 by omega]
                       exact (And.intro rfl (And.intro rfl (And.intro rfl (And.intro rfl (And.intro rfl (trivial)))))))
      refine e_iconst F dX5_most_25 ?_
      refine e_istore_n F dX5_most_26 (by decide) ?_
      refine e_aload_n F dX5_most_27 rfl ?_
      refine e_callVV F u_X5_holders (by rfl) (c_X5_holders gY hwh) gY rfl rfl w_ml_RX5_52 dX5_most_28 (by rfl) (Nat.le_of_ble_eq_true rfl) (by decide) (by omega) (fun _ _ _ h _ => False.elim h) (fun r_28 w_28 n_28 h_28 hn_28 => ?_)
      obtain ⟨rfl, ew_28, en_28⟩ := h_28
      rw [ew_28, en_28]
      refine e_istore F dX5_most_31 (by decide) ?_
      refine e_go (lp 9 0 (by omega) (by omega)) ?_
      rw [show ((((ho wh).toNat : Nat) : Int) - ((0 : Nat) : Int)) = ho wh by omega]
      exact (And.intro rfl (And.intro rfl (And.intro rfl (And.intro rfl (And.intro rfl (trivial))))))
    ·
      rw [b01_0, Classical.not_not] at c_19
      refine e_bipush F dX5_most_22 (by decide) ?_
      refine e_iret F rfl (by omega) ?_ dX5_most_24
      refine ⟨FM.th, Or.inr ⟨h_i, ?_, gM⟩⟩
      rw [if_pos (show (R ki9).dg = -1 from c_19)]
  ·
    rw [b01_0, Classical.not_not] at c_9
    rw [if_neg c_9]
    refine e_iconst F dX5_most_12 ?_
    refine e_iret F rfl (by omega) ?_ dX5_most_13
    exact ⟨FM.th, Or.inl ⟨c_9, rfl, hM.th⟩⟩
set_option maxHeartbeats 4000000 in
set_option maxRecDepth 100000 in
theorem c_X5_isSame {K : e_K} {l : Launch} {w : e_W} {n : Nat} {y wh : Nat} {t kn : Int} {R : Nat → RD} (hM : MW w y wh kn t R) {i9 : Int} (hi9 : e_r i9) {j9 : Int} (hj9 : e_r j9) : e_Met K l yX5_isSame (Cond.code yX5_isSame cX5_isSame 5 (Option.some .boolean) :: e_TB) (3) (0) [.ref y, .int (eI i9), .int (eI j9)] w n (fun r w' n' => FM w w' y n ∧ ((¬ ((0 ≤ i9 ∧ i9 < 6) ∧ (0 ≤ j9 ∧ j9 < 6)) ∧ r = some (.int (eI 0)) ∧ MW w' y wh kn 1 R) ∨ (((0 ≤ i9 ∧ i9 < 6) ∧ (0 ≤ j9 ∧ j9 < 6)) ∧ r = some (.int (eI (b01 (saB (R i9.toNat) (R j9.toNat) (ho wh).toNat = true)))) ∧ MW w' y wh (kn) 0 (R)))) (e_px0) := by
  refine e_ofV rfl (Nat.le_of_ble_eq_true rfl) ?_
  intro P9 E9 S9 M9 A9 B9 T9 C9 F hnm
  have hwh := hM.2.1
  have hY := hM.1
  have hp := pr_rg wh hwh
  have hho := ho_rg wh hwh
  have hf9 := fl_rg wh hwh
  refine e_aload_n F dX5_isSame_0 rfl ?_
  refine e_iload_n F dX5_isSame_1 rfl ?_
  refine e_callSS F u_X5_isNoDeal (by rfl) (c_X5_isNoDeal hi9) w_ml_RX5_129 dX5_isSame_2 (by rfl) (Nat.le_of_ble_eq_true rfl) (by decide) (by omega) (fun _ _ _ h _ => False.elim h) (fun r_2 w_2 n_2 h_2 hn_2 => ?_)
  obtain ⟨rfl, ew_2, en_2⟩ := h_2
  rw [ew_2, en_2]
  refine e_if_ne F 15 dX5_isSame_5 (by decide) (b01_r _) (fun c_5 => ?_) (fun c_5 => ?_)
  ·
    rw [ne_eq, b01_0, Classical.not_not] at c_5
    refine e_iconst F dX5_isSame_15 ?_
    refine e_goto F 20 dX5_isSame_16 (by decide) ?_
    refine e_iconst F dX5_isSame_20 ?_
    refine e_callVV F u_X5_start (by rfl) (c_X5_start hY (by first | exact Or.inl rfl | exact Or.inr rfl) (by decide) (by decide)) hY rfl rfl w_ml_RX5_69 dX5_isSame_21 (by rfl) (Nat.le_of_ble_eq_true rfl) (by decide) (by omega) (fun _ _ _ h _ => False.elim h) (fun r_21 w_21 n_21 h_21 hn_21 => ?_)
    obtain ⟨rfl, en_21, ew_21⟩ := h_21
    rw [en_21, ew_21]
    first | rw [if_pos (show (1 : Int) = 1 from rfl)] | rw [if_neg (show ¬ ((0 : Int) = 1) by decide)]
    have gM := hM.th (t2 := 0) (kn2 := kn)
    refine e_if_eq F 29 dX5_isSame_24 (by decide) (by decide) (fun c_24 => ?_) (fun c_24 => ?_)
    · exact absurd c_24 (by decide)
    · refine e_iconst F dX5_isSame_27 ?_
      refine e_zret F rfl (by omega) (Or.inl rfl) ?_ dX5_isSame_28
      exact ⟨FM.th, Or.inl ⟨(fun q => by omega), rfl, hM.th⟩⟩
  ·
    rw [b01_0, Classical.not_not] at c_5
    refine e_iload_n F dX5_isSame_8 rfl ?_
    refine e_callSS F u_X5_isNoDeal (by rfl) (c_X5_isNoDeal hj9) w_ml_RX5_129 dX5_isSame_9 (by rfl) (Nat.le_of_ble_eq_true rfl) (by decide) (by omega) (fun _ _ _ h _ => False.elim h) (fun r_9 w_9 n_9 h_9 hn_9 => ?_)
    obtain ⟨rfl, ew_9, en_9⟩ := h_9
    rw [ew_9, en_9]
    refine e_if_eq F 19 dX5_isSame_12 (by decide) (b01_r _) (fun c_12 => ?_) (fun c_12 => ?_)
    ·
      rw [b01_0, Classical.not_not] at c_12
      refine e_iconst F dX5_isSame_19 ?_
      refine e_iconst F dX5_isSame_20 ?_
      refine e_callVV F u_X5_start (by rfl) (c_X5_start hY (by first | exact Or.inl rfl | exact Or.inr rfl) (by decide) (by decide)) hY rfl rfl w_ml_RX5_69 dX5_isSame_21 (by rfl) (Nat.le_of_ble_eq_true rfl) (by decide) (by omega) (fun _ _ _ h _ => False.elim h) (fun r_21 w_21 n_21 h_21 hn_21 => ?_)
      obtain ⟨rfl, en_21, ew_21⟩ := h_21
      rw [en_21, ew_21]
      first | rw [if_pos (show (1 : Int) = 1 from rfl)] | rw [if_neg (show ¬ ((0 : Int) = 1) by decide)]
      have gM := hM.th (t2 := 0) (kn2 := kn)
      refine e_if_eq F 29 dX5_isSame_24 (by decide) (by decide) (fun c_24 => ?_) (fun c_24 => ?_)
      · have h_i : (0 ≤ i9 ∧ i9 < 6) ∧ (0 ≤ j9 ∧ j9 < 6) := by omega
        obtain ⟨kj9, rfl⟩ : ∃ k : Nat, j9 = (k : Int) := ⟨j9.toNat, by omega⟩
        have hkj9 : kj9 < 6 := by omega
        rw [show ((kj9 : Nat) : Int).toNat = kj9 from rfl]
        obtain ⟨ki9, rfl⟩ : ∃ k : Nat, i9 = (k : Int) := ⟨i9.toNat, by omega⟩
        have hki9 : ki9 < 6 := by omega
        rw [show ((ki9 : Nat) : Int).toNat = ki9 from rfl]
        refine e_dom ?_
        intro hdm
        obtain ⟨gY, _, ⟨G, gG, gGe⟩, ⟨SS, PP, gS, gP, gMD⟩, gRV⟩ := id gM
        have hGi := gGe ki9 hki9
        have hGj := gGe kj9 hkj9
        have hdi := MD.dg (gMD ki9 hki9)
        have hdj := MD.dg (gMD kj9 hkj9)
        have lp : ∀ (N : Nat) (k : Nat), (8 - k) < N → (k : Int) ≤ ho wh → e_V K P9 l E9 (3) (0) S9 M9 A9 B9 T9 C9 5 (fun r w' n' => FM w w' y n ∧ ((¬ ((0 ≤ ((ki9 : Nat) : Int) ∧ ((ki9 : Nat) : Int) < 6) ∧ (0 ≤ ((kj9 : Nat) : Int) ∧ ((kj9 : Nat) : Int) < 6)) ∧ r = some (.int (eI 0)) ∧ MW w' y wh kn 1 R) ∨ (((0 ≤ ((ki9 : Nat) : Int) ∧ ((ki9 : Nat) : Int) < 6) ∧ (0 ≤ ((kj9 : Nat) : Int) ∧ ((kj9 : Nat) : Int) < 6)) ∧ r = some (.int (eI (b01 (saB (R ki9) (R kj9) (ho wh).toNat = true)))) ∧ MW w' y wh (kn) 0 (R)))) (e_px0) 53 [(0, .ref y), (1, .int (eI ((ki9 : Nat) : Int))), (2, .int (eI ((kj9 : Nat) : Int))), (3, .int (eI (b01 (saB (R ki9) (R kj9) k = true)))), (4, .int (eI ((k : Int) + 1)))] [] (e_up w y (MO y 0 wh kn)) n (0) := by
          intro N
          induction N with
          | zero => intro k hN; exact absurd hN (Nat.not_lt_zero _)
          | succ N ih =>
            intro k hN hk
            refine e_iload F dX5_isSame_53 rfl ?_
            refine e_aload_n F dX5_isSame_55 rfl ?_
            refine e_callVV F u_X5_holders (by rfl) (c_X5_holders gY hwh) gY rfl rfl w_ml_RX5_52 dX5_isSame_56 (by rfl) (Nat.le_of_ble_eq_true rfl) (by decide) (by omega) (fun _ _ _ h _ => False.elim h) (fun r_56 w_56 n_56 h_56 hn_56 => ?_)
            obtain ⟨rfl, ew_56, en_56⟩ := h_56
            rw [ew_56, en_56]
            refine e_icmp_gt F 93 dX5_isSame_59 (by decide) (⟨by omega, by omega⟩) (⟨by omega, by omega⟩) (fun c_59 => ?_) (fun c_59 => ?_)
            ·
              obtain rfl : k = (ho wh).toNat := by omega
              refine e_iload_n F dX5_isSame_93 rfl ?_
              refine e_zret F rfl (by omega) (b01_or _) ?_ dX5_isSame_94
              exact ⟨FM.th, Or.inr ⟨h_i, rfl, gM⟩⟩
            ·
              have hA9 := gM.rgA hki9 (j := (k : Int) + 1) (by omega) (by omega)
              have hB9 := gM.rgA hkj9 (j := (k : Int) + 1) (by omega) (by omega)
              have hsb := b01_or (saB (R ki9) (R kj9) k = true)
              have e6 : saB (R ki9) (R kj9) (k + 1) = (saB (R ki9) (R kj9) k && decide ((R ki9).A ((k : Int) + 1) = (R kj9).A ((k : Int) + 1))) := rfl
              refine e_iload_n F dX5_isSame_62 rfl ?_
              refine e_aload_n F dX5_isSame_63 rfl ?_
              refine e_iload_n F dX5_isSame_64 rfl ?_
              refine e_iload F dX5_isSame_65 rfl ?_
              refine e_callVV F u_X5_shareOf (by rfl) (c_X5_shareOf gM hki9 (h := (k : Int) + 1) (by omega) (by omega)) gY rfl rfl w_ml_RX5_180 dX5_isSame_67 (by rfl) (Nat.le_of_ble_eq_true rfl) (by decide) (by omega) (fun _ _ _ h _ => False.elim h) (fun r_67 w_67 n_67 h_67 hn_67 => ?_)
              obtain ⟨rfl, ew_67, en_67⟩ := h_67
              rw [ew_67, en_67]
              refine e_aload_n F dX5_isSame_70 rfl ?_
              refine e_iload_n F dX5_isSame_71 rfl ?_
              refine e_iload F dX5_isSame_72 rfl ?_
              refine e_callVV F u_X5_shareOf (by rfl) (c_X5_shareOf gM hkj9 (h := (k : Int) + 1) (by omega) (by omega)) gY rfl rfl w_ml_RX5_180 dX5_isSame_74 (by rfl) (Nat.le_of_ble_eq_true rfl) (by decide) (by omega) (fun _ _ _ h _ => False.elim h) (fun r_74 w_74 n_74 h_74 hn_74 => ?_)
              obtain ⟨rfl, ew_74, en_74⟩ := h_74
              rw [ew_74, en_74]
              refine e_icmp_ne F 84 dX5_isSame_77 (by decide) (⟨by omega, by omega⟩) (⟨by omega, by omega⟩) (fun c_77 => ?_) (fun c_77 => ?_)
              · refine e_iconst F dX5_isSame_84 ?_
                refine e_iand F dX5_isSame_85 (by first | exact e_and1 hsb | exact e_and0 hsb) ?_
                refine e_istore_n F dX5_isSame_86 (by decide) ?_
                refine e_iinc F dX5_isSame_87 rfl (by decide) ?_
                refine e_goto F 53 dX5_isSame_90 (by decide) ?_
                first
                | (rw [decide_eq_true c_77, Bool.and_true] at e6
                   have l9 := ih (k + 1) (by omega) (by omega)
                   rw [e6] at l9
                   exact e_go l9 (And.intro rfl (And.intro rfl (And.intro rfl (And.intro rfl (And.intro rfl (trivial)))))))
                | (rw [decide_eq_false c_77, Bool.and_false] at e6
                   have l9 := ih (k + 1) (by omega) (by omega)
                   rw [e6] at l9
                   exact e_go l9 (And.intro rfl (And.intro rfl (And.intro rfl (And.intro rfl (And.intro rfl (trivial)))))))
              · refine e_iconst F dX5_isSame_80 ?_
                refine e_goto F 85 dX5_isSame_81 (by decide) ?_
                refine e_iand F dX5_isSame_85 (by first | exact e_and1 hsb | exact e_and0 hsb) ?_
                refine e_istore_n F dX5_isSame_86 (by decide) ?_
                refine e_iinc F dX5_isSame_87 rfl (by decide) ?_
                refine e_goto F 53 dX5_isSame_90 (by decide) ?_
                first
                | (rw [decide_eq_true c_77, Bool.and_true] at e6
                   have l9 := ih (k + 1) (by omega) (by omega)
                   rw [e6] at l9
                   exact e_go l9 (And.intro rfl (And.intro rfl (And.intro rfl (And.intro rfl (And.intro rfl (trivial)))))))
                | (rw [decide_eq_false c_77, Bool.and_false] at e6
                   have l9 := ih (k + 1) (by omega) (by omega)
                   rw [e6] at l9
                   exact e_go l9 (And.intro rfl (And.intro rfl (And.intro rfl (And.intro rfl (And.intro rfl (trivial)))))))
        refine e_aload_n F dX5_isSame_29 rfl ?_
        refine e_get (ci := 5) (fi := 3) (q := (RX5, TX5, 6)) F gY rfl (by decide) w_fl_RX5_13 (by rfl) dX5_isSame_30 ?_
        refine e_iload_n F dX5_isSame_33 rfl ?_
        refine e_iald F gG (by omega) (by omega) (by first | decide | omega) dX5_isSame_34 ?_
        rw [hGi]
        refine e_aload_n F dX5_isSame_35 rfl ?_
        refine e_get (ci := 5) (fi := 3) (q := (RX5, TX5, 6)) F gY rfl (by decide) w_fl_RX5_13 (by rfl) dX5_isSame_36 ?_
        refine e_iload_n F dX5_isSame_39 rfl ?_
        refine e_iald F gG (by omega) (by omega) (by first | decide | omega) dX5_isSame_40 ?_
        rw [hGj]
        refine e_icmp_ne F 48 dX5_isSame_41 (by decide) (⟨by omega, by omega⟩) (⟨by omega, by omega⟩) (fun c_41 => ?_) (fun c_41 => ?_)
        · refine e_iconst F dX5_isSame_48 ?_
          refine e_istore_n F dX5_isSame_49 (by decide) ?_
          refine e_iconst F dX5_isSame_50 ?_
          refine e_istore F dX5_isSame_51 (by decide) ?_
          first
          | (have l9 := lp 9 0 (by omega) (by omega)
             rw [show b01 (saB (R ki9) (R kj9) 0 = true) = 1 from b01_t (decide_eq_true c_41)] at l9
             exact e_go l9 (And.intro rfl (And.intro rfl (And.intro rfl (And.intro rfl (And.intro rfl (trivial)))))))
          | (have l9 := lp 9 0 (by omega) (by omega)
             rw [show b01 (saB (R ki9) (R kj9) 0 = true) = 0 from b01_f (by show ¬ (decide ((R ki9).dg = (R kj9).dg) = true); rw [decide_eq_false c_41]; decide)] at l9
             exact e_go l9 (And.intro rfl (And.intro rfl (And.intro rfl (And.intro rfl (And.intro rfl (trivial)))))))
        · refine e_iconst F dX5_isSame_44 ?_
          refine e_goto F 49 dX5_isSame_45 (by decide) ?_
          refine e_istore_n F dX5_isSame_49 (by decide) ?_
          refine e_iconst F dX5_isSame_50 ?_
          refine e_istore F dX5_isSame_51 (by decide) ?_
          first
          | (have l9 := lp 9 0 (by omega) (by omega)
             rw [show b01 (saB (R ki9) (R kj9) 0 = true) = 1 from b01_t (decide_eq_true c_41)] at l9
             exact e_go l9 (And.intro rfl (And.intro rfl (And.intro rfl (And.intro rfl (And.intro rfl (trivial)))))))
          | (have l9 := lp 9 0 (by omega) (by omega)
             rw [show b01 (saB (R ki9) (R kj9) 0 = true) = 0 from b01_f (by show ¬ (decide ((R ki9).dg = (R kj9).dg) = true); rw [decide_eq_false c_41]; decide)] at l9
             exact e_go l9 (And.intro rfl (And.intro rfl (And.intro rfl (And.intro rfl (And.intro rfl (trivial)))))))
      · exact absurd c_24 (by decide)
    ·
      rw [b01_0, Classical.not_not] at c_12
      refine e_iconst F dX5_isSame_15 ?_
      refine e_goto F 20 dX5_isSame_16 (by decide) ?_
      refine e_iconst F dX5_isSame_20 ?_
      refine e_callVV F u_X5_start (by rfl) (c_X5_start hY (by first | exact Or.inl rfl | exact Or.inr rfl) (by decide) (by decide)) hY rfl rfl w_ml_RX5_69 dX5_isSame_21 (by rfl) (Nat.le_of_ble_eq_true rfl) (by decide) (by omega) (fun _ _ _ h _ => False.elim h) (fun r_21 w_21 n_21 h_21 hn_21 => ?_)
      obtain ⟨rfl, en_21, ew_21⟩ := h_21
      rw [en_21, ew_21]
      first | rw [if_pos (show (1 : Int) = 1 from rfl)] | rw [if_neg (show ¬ ((0 : Int) = 1) by decide)]
      have gM := hM.th (t2 := 0) (kn2 := kn)
      refine e_if_eq F 29 dX5_isSame_24 (by decide) (by decide) (fun c_24 => ?_) (fun c_24 => ?_)
      · exact absurd c_24 (by decide)
      · refine e_iconst F dX5_isSame_27 ?_
        refine e_zret F rfl (by omega) (Or.inl rfl) ?_ dX5_isSame_28
        exact ⟨FM.th, Or.inl ⟨(fun q => by omega), rfl, hM.th⟩⟩
