/-! the reference: texts, its making -/
set_option maxHeartbeats 4000000 in
set_option maxRecDepth 100000 in
theorem c_X5_text {K : e_K} {l : Launch} {w : e_W} {n : Nat} {y wh : Nat} {t kn : Int} {R : Nat → RD} (hM : MW w y wh kn t R) {i9 : Int} (hi9 : e_r i9) : e_Met K l yX5_text (Cond.code yX5_text cX5_text 4 (Option.some (.object "java/lang/String")) :: e_TB) (7) (24) [.ref y, .int (eI i9)] w n (fun r w' n' => FM w w' y n ∧ ((¬ (0 ≤ i9 ∧ i9 < 6) ∧ (∃ q : Nat, r = some (.ref q)) ∧ MW w' y wh kn 1 R) ∨ ((0 ≤ i9 ∧ i9 < 6) ∧ (∃ q : Nat, r = some (.ref q)) ∧ MW w' y wh (kn) 0 (R)))) (e_px0) := by
  refine e_ofV rfl (Nat.le_of_ble_eq_true rfl) ?_
  intro P9 E9 S9 M9 A9 B9 T9 C9 F hnm
  have hwh := hM.2.1
  have hY := hM.1
  have hp := pr_rg wh hwh
  have hho := ho_rg wh hwh
  have hf9 := fl_rg wh hwh
  refine e_aload_n F dX5_text_0 rfl ?_
  refine e_iload_n F dX5_text_1 rfl ?_
  refine e_callSS F u_X5_isNoDeal (by rfl) (c_X5_isNoDeal hi9) w_ml_RX5_129 dX5_text_2 (by rfl) (Nat.le_of_ble_eq_true rfl) (by decide) (by omega) (fun _ _ _ h _ => False.elim h) (fun r_2 w_2 n_2 h_2 hn_2 => ?_)
  obtain ⟨rfl, ew_2, en_2⟩ := h_2
  rw [ew_2, en_2]
  refine e_iconst F dX5_text_5 ?_
  refine e_callVV F u_X5_start (by rfl) (c_X5_start hY (b01_or _) (by decide) (by decide)) hY rfl rfl w_ml_RX5_69 dX5_text_6 (by rfl) (Nat.le_of_ble_eq_true rfl) (by decide) (by omega) (fun _ _ _ h _ => False.elim h) (fun r_6 w_6 n_6 h_6 hn_6 => ?_)
  obtain ⟨rfl, en_6, ew_6⟩ := h_6
  rw [en_6, ew_6, st1]
  refine e_if_ne F 20 dX5_text_9 (by decide) (b01_r _) (fun c_9 => ?_) (fun c_9 => ?_)
  ·
    rw [ne_eq, b01_0, Classical.not_not] at c_9
    rw [if_neg c_9]
    refine e_ldcS F (text := "") (by decide +kernel) dX5_text_20 (fun s_20 => ?_)
    refine e_aret F rfl (Or.inl ⟨_, rfl⟩) (Or.inr ⟨_, rfl⟩) (by omega) ?_ dX5_text_22
    first
    | exact ⟨FM.th, Or.inl ⟨c_9, ⟨_, rfl⟩, hM.th⟩⟩
    | exact ⟨FM.th, Or.inr ⟨h_i, ⟨_, rfl⟩, gM⟩⟩
  ·
    rw [b01_0, Classical.not_not] at c_9
    rw [if_pos c_9]
    have gM := hM.th (t2 := 0) (kn2 := kn)
    have h_i := c_9
    obtain ⟨ki9, rfl⟩ : ∃ k : Nat, i9 = (k : Int) := ⟨i9.toNat, by omega⟩
    have hki9 : ki9 < 6 := by omega
    try rw [show ((ki9 : Nat) : Int).toNat = ki9 from rfl]
    refine e_dom ?_
    intro hdm
    obtain ⟨gY, _, ⟨G, gG, gGe⟩, ⟨SS, PP, gS, gP, gMD⟩, gRV⟩ := id gM
    have hyn := hdm _ _ gY
    have hgn := hdm _ _ gG
    have hsn := hdm _ _ gS
    have hpn := hdm _ _ gP
    refine e_aload_n F dX5_text_12 rfl ?_
    refine e_iload_n F dX5_text_13 rfl ?_
    refine e_callVV F u_X5_isEmpty (by rfl) (c_X5_isEmpty gM (i := ki9) hki9) gY rfl rfl w_ml_RX5_113 dX5_text_14 (by rfl) (Nat.le_of_ble_eq_true rfl) (by decide) (by omega) (fun _ _ _ h _ => False.elim h) (fun r_14 w_14 n_14 h_14 hn_14 => ?_)
    obtain ⟨rfl, ew_14, en_14⟩ := h_14
    rw [ew_14, en_14]
    refine e_if_eq F 23 dX5_text_17 (by decide) (b01_r _) (fun c_17 => ?_) (fun c_17 => ?_)
    ·
      rw [b01_0] at c_17
      have hne := c_17
      obtain ⟨a, f, hSa, hya, hwa, hfr, hfA⟩ := MD.row (gMD ki9 hki9) hne
      have han := hdm _ _ hwa
      have lp : ∀ (N k nl : Nat) (c : Int) (wl : e_W), 8 - k < N → ((k : Int) ≤ ho wh ∧ SB wl n c ∧ c ≤ 9 * k ∧ KB (e_up w y (MO y 0 wh kn)) wl n ∧ n ≤ nl) → e_V K P9 l E9 (7) (24) S9 M9 A9 B9 T9 C9 4 (fun r w' n' => FM w w' y n ∧ ((¬ (0 ≤ ((ki9 : Nat) : Int) ∧ ((ki9 : Nat) : Int) < 6) ∧ (∃ q : Nat, r = some (.ref q)) ∧ MW w' y wh kn 1 R) ∨ ((0 ≤ ((ki9 : Nat) : Int) ∧ ((ki9 : Nat) : Int) < 6) ∧ (∃ q : Nat, r = some (.ref q)) ∧ MW w' y wh (kn) 0 (R)))) (e_px0) 33 [(0, .ref y), (1, .int (eI ((ki9 : Nat) : Int))), (2, .ref n), (3, .int (eI ((k : Int) + 1)))] [] wl nl ((2 + 2 * k)) := by
        intro N
        induction N with
        | zero => intro k nl c wl hN; exact absurd hN (Nat.not_lt_zero _)
        | succ N ih =>
          intro k nl c wl hN ⟨hk, gS9, gc, gK, gn⟩
          have hc0 := gS9.pos
          have gM2 := gM.kb hdm gK
          have l53 : (k : Int) < ho wh → ∀ (c2 : Int) (w2 : e_W) (n2 : Nat), SB w2 n c2 → c2 ≤ 9 * k + 1 → KB (e_up w y (MO y 0 wh kn)) w2 n → n ≤ n2 → e_V K P9 l E9 (7) (24) S9 M9 A9 B9 T9 C9 4 (fun r w' n' => FM w w' y n ∧ ((¬ (0 ≤ ((ki9 : Nat) : Int) ∧ ((ki9 : Nat) : Int) < 6) ∧ (∃ q : Nat, r = some (.ref q)) ∧ MW w' y wh kn 1 R) ∨ ((0 ≤ ((ki9 : Nat) : Int) ∧ ((ki9 : Nat) : Int) < 6) ∧ (∃ q : Nat, r = some (.ref q)) ∧ MW w' y wh (kn) 0 (R)))) (e_px0) 53 [(0, .ref y), (1, .int (eI ((ki9 : Nat) : Int))), (2, .ref n), (3, .int (eI ((k : Int) + 1)))] [] w2 n2 ((3 + 2 * k)) := by
            intro hlt c2 w2 n2 hS2 hc2 hK2 hn2
            have hc0 := hS2.pos
            have uY : w2 y = some (MO y 0 wh kn) := (hK2 y (by omega)).trans gY
            have uS : w2 (y + 2) = some (e_ra 6 SS) := (hK2 _ (by omega)).trans gS
            have ua : w2 a = some (e_ia ((ho wh).toNat + 1) f) := (hK2 _ (by omega)).trans hwa
            have hA9 := gM.rgA hki9 (j := (k : Int) + 1) (by omega) (by omega)
            refine e_aload_n F dX5_text_53 rfl ?_
            refine e_get (ci := 5) (fi := 4) (q := (RX5, TX5, 6)) F uY rfl (by decide) w_fl_RX5_18 (by rfl) dX5_text_54 ?_
            refine e_iload_n F dX5_text_57 rfl ?_
            refine e_aaldr F uS (by omega) (by omega) (by decide) (hSa) dX5_text_58 ?_
            refine e_iload_n F dX5_text_59 rfl ?_
            refine e_iald F ua (by omega) (by omega) (by first | decide | omega) dX5_text_60 ?_
            rw [hfA _ (by omega) (by omega)]
            refine e_iconst F dX5_text_61 ?_
            refine e_icmp_ne F 75 dX5_text_62 (by decide) (⟨by omega, by omega⟩) (⟨by omega, by omega⟩) (fun c_62 => ?_) (fun c_62 => ?_)
            · refine e_aload_n F dX5_text_75 rfl ?_
              refine e_aload_n F dX5_text_76 rfl ?_
              refine e_get (ci := 5) (fi := 4) (q := (RX5, TX5, 6)) F uY rfl (by decide) w_fl_RX5_18 (by rfl) dX5_text_77 ?_
              refine e_iload_n F dX5_text_80 rfl ?_
              refine e_aaldr F uS (by omega) (by omega) (by decide) (hSa) dX5_text_81 ?_
              refine e_iload_n F dX5_text_82 rfl ?_
              refine e_iald F ua (by omega) (by omega) (by first | decide | omega) dX5_text_83 ?_
              rw [hfA _ (by omega) (by omega)]
              obtain ⟨q84, b84⟩ := hS2.cell
              refine e_callVV F u_J4_append_bf812 (by rfl) (c_J4_append_bf812 (c := c2) (x := (R ki9).A ((k : Int) + 1)) hS2 (by omega) (by omega) (by omega)) b84 rfl rfl w_ml_RX5_209 dX5_text_84 (by rfl) (Nat.le_of_ble_eq_true rfl) (by decide) (by omega) (fun _ _ _ h _ => False.elim h) (fun r_84 w_84 n_84 h_84 hn_84 => ?_)
              obtain ⟨rfl, ⟨c84, l84, u84, S84⟩, K84⟩ := h_84
              refine e_pop F dX5_text_87 rfl ?_
              refine e_iinc F dX5_text_88 rfl (by decide) ?_
              refine e_goto F 33 dX5_text_91 (by decide) ?_
              first
              | exact e_wid (by omega) (e_go (ih (k + 1) _ _ _ (by omega) ⟨by omega, S84, by omega, hK2.tr K84, by omega⟩) (And.intro rfl (And.intro rfl (And.intro rfl (And.intro rfl (trivial))))))
              | exact e_wid (by omega) (e_go (ih (k + 1) _ _ _ (by omega) ⟨by omega, S68, by omega, hK2.tr K68, by omega⟩) (And.intro rfl (And.intro rfl (And.intro rfl (And.intro rfl (trivial))))))
            · refine e_aload_n F dX5_text_65 rfl ?_
              refine e_bipush F dX5_text_66 (by decide) ?_
              obtain ⟨q68, b68⟩ := hS2.cell
              refine e_callVV F u_J4_append_cf468 (by rfl) (c_J4_append_cf468 (c := c2) (x := 45) hS2 (by omega) (by omega) (by omega)) b68 rfl rfl w_ml_RX5_205 dX5_text_68 (by rfl) (Nat.le_of_ble_eq_true rfl) (by decide) (by omega) (fun _ _ _ h _ => False.elim h) (fun r_68 w_68 n_68 h_68 hn_68 => ?_)
              obtain ⟨rfl, S68, K68⟩ := h_68
              refine e_pop F dX5_text_71 rfl ?_
              refine e_goto F 88 dX5_text_72 (by decide) ?_
              refine e_iinc F dX5_text_88 rfl (by decide) ?_
              refine e_goto F 33 dX5_text_91 (by decide) ?_
              first
              | exact e_wid (by omega) (e_go (ih (k + 1) _ _ _ (by omega) ⟨by omega, S84, by omega, hK2.tr K84, by omega⟩) (And.intro rfl (And.intro rfl (And.intro rfl (And.intro rfl (trivial))))))
              | exact e_wid (by omega) (e_go (ih (k + 1) _ _ _ (by omega) ⟨by omega, S68, by omega, hK2.tr K68, by omega⟩) (And.intro rfl (And.intro rfl (And.intro rfl (And.intro rfl (trivial))))))
          refine e_iload_n F dX5_text_33 rfl ?_
          refine e_aload_n F dX5_text_34 rfl ?_
          refine e_callVV F u_X5_holders (by rfl) (c_X5_holders gM2.1 hwh) gM2.1 rfl rfl w_ml_RX5_52 dX5_text_35 (by rfl) (Nat.le_of_ble_eq_true rfl) (by decide) (by omega) (fun _ _ _ h _ => False.elim h) (fun r_35 w_35 n_35 h_35 hn_35 => ?_)
          obtain ⟨rfl, ew_35, en_35⟩ := h_35
          rw [ew_35, en_35]
          refine e_icmp_gt F 94 dX5_text_38 (by decide) (⟨by omega, by omega⟩) (⟨by omega, by omega⟩) (fun c_38 => ?_) (fun c_38 => ?_)
          · refine e_aload_n F dX5_text_94 rfl ?_
            obtain ⟨q95, b95⟩ := gS9.cell
            refine e_callVV F u_J4_toString_0e30d (by rfl) (c_J4_toString_0e30d gS9) b95 rfl rfl w_ml_RX5_212 dX5_text_95 (by rfl) (Nat.le_of_ble_eq_true rfl) (by decide) (by omega) (fun _ _ _ h _ => False.elim h) (fun r_95 w_95 n_95 h_95 hn_95 => ?_)
            obtain ⟨rfl, en_95, t1_95, t2_95, K95⟩ := h_95
            refine e_aret F rfl (Or.inl ⟨_, rfl⟩) (Or.inr ⟨_, rfl⟩) (by omega) ?_ dX5_text_98
            exact ⟨FM.th.kb (Nat.le_refl _) (gK.tr (fun j hj => K95 j (by omega))), Or.inr ⟨h_i, ⟨_, rfl⟩, gM.kb hdm (gK.tr (fun j hj => K95 j (by omega)))⟩⟩
          · refine e_iload_n F dX5_text_41 rfl ?_
            refine e_iconst F dX5_text_42 ?_
            refine e_icmp_le F 53 dX5_text_43 (by decide) (⟨by omega, by omega⟩) (⟨by omega, by omega⟩) (fun c_43 => ?_) (fun c_43 => ?_)
            · first
              | exact e_wid (by omega) (e_go (l53 (by omega) _ _ _ S49 (by omega) (gK.tr K49) (by omega)) (And.intro rfl (And.intro rfl (And.intro rfl (And.intro rfl (trivial))))))
              | exact e_wid (by omega) (e_go (l53 (by omega) _ _ _ gS9 (by omega) gK gn) (And.intro rfl (And.intro rfl (And.intro rfl (And.intro rfl (trivial))))))
            · refine e_aload_n F dX5_text_46 rfl ?_
              refine e_bipush F dX5_text_47 (by decide) ?_
              obtain ⟨q49, b49⟩ := gS9.cell
              refine e_callVV F u_J4_append_cf468 (by rfl) (c_J4_append_cf468 (c := c) (x := 32) gS9 (by omega) (by omega) (by omega)) b49 rfl rfl w_ml_RX5_205 dX5_text_49 (by rfl) (Nat.le_of_ble_eq_true rfl) (by decide) (by omega) (fun _ _ _ h _ => False.elim h) (fun r_49 w_49 n_49 h_49 hn_49 => ?_)
              obtain ⟨rfl, S49, K49⟩ := h_49
              refine e_pop F dX5_text_52 rfl ?_
              first
              | exact e_wid (by omega) (e_go (l53 (by omega) _ _ _ S49 (by omega) (gK.tr K49) (by omega)) (And.intro rfl (And.intro rfl (And.intro rfl (And.intro rfl (trivial))))))
              | exact e_wid (by omega) (e_go (l53 (by omega) _ _ _ gS9 (by omega) gK gn) (And.intro rfl (And.intro rfl (And.intro rfl (And.intro rfl (trivial))))))
      refine e_newO F (ci := 6) (q := (RJ4, TJ4, 4)) (fs := [.null, .int (eI 0), .int (eI 0), .int (eI 0)]) rfl (by omega) w_cl_RX5_202 w_is_RJ4 w_in_RJ4 (by decide) (by intro j hj; have hj9 : j < 4 := hj; rcases j with _ | _ | _ | _ | j <;> first | rfl | omega) dX5_text_23 ?_
      refine e_dup F dX5_text_26 rfl ?_
      refine e_callII F u_J4_init_da8c8 (by rfl) (c_J4_init_da8c8 e_up_s) w_ml_RX5_204 dX5_text_27 (by rfl) (Nat.le_of_ble_eq_true rfl) (by decide) (by omega) (fun _ _ _ h _ => False.elim h) (fun r_27 w_27 n_27 h_27 hn_27 => ?_)
      obtain ⟨rfl, en_27, S0, K0⟩ := h_27
      rw [en_27]
      have K1 : KB (e_up w y (MO y 0 wh kn)) w_27 n := fun j hj => by rw [K0 j (by omega) (by omega), e_up_n (by omega)]
      refine e_astore_n F dX5_text_30 (by decide) ?_
      refine e_iconst F dX5_text_31 ?_
      refine e_istore_n F dX5_text_32 (by decide) ?_
      exact e_wid (by omega) (e_go (lp 9 0 _ 0 _ (by omega) ⟨by omega, S0, by omega, K1, by omega⟩) (And.intro rfl (And.intro rfl (And.intro rfl (And.intro rfl (trivial))))))
    ·
      rw [b01_0, Classical.not_not] at c_17
      refine e_ldcS F (text := "") (by decide +kernel) dX5_text_20 (fun s_20 => ?_)
      refine e_aret F rfl (Or.inl ⟨_, rfl⟩) (Or.inr ⟨_, rfl⟩) (by omega) ?_ dX5_text_22
      first
      | exact ⟨FM.th, Or.inl ⟨c_9, ⟨_, rfl⟩, hM.th⟩⟩
      | exact ⟨FM.th, Or.inr ⟨h_i, ⟨_, rfl⟩, gM⟩⟩
set_option maxHeartbeats 4000000 in
set_option maxRecDepth 100000 in
theorem c_X5_seals {K : e_K} {l : Launch} {w : e_W} {n : Nat} {y wh : Nat} {t kn : Int} {R : Nat → RD} (hM : MW w y wh kn t R) {i9 : Int} (hi9 : e_r i9) : e_Met K l yX5_seals (Cond.code yX5_seals cX5_seals 4 (Option.some (.object "java/lang/String")) :: e_TB) (7) (24) [.ref y, .int (eI i9)] w n (fun r w' n' => FM w w' y n ∧ ((¬ (0 ≤ i9 ∧ i9 < 6) ∧ (∃ q : Nat, r = some (.ref q)) ∧ MW w' y wh kn 1 R) ∨ ((0 ≤ i9 ∧ i9 < 6) ∧ (∃ q : Nat, r = some (.ref q)) ∧ MW w' y wh (kn) 0 (R)))) (e_px0) := by
  refine e_ofV rfl (Nat.le_of_ble_eq_true rfl) ?_
  intro P9 E9 S9 M9 A9 B9 T9 C9 F hnm
  have hwh := hM.2.1
  have hY := hM.1
  have hp := pr_rg wh hwh
  have hho := ho_rg wh hwh
  have hf9 := fl_rg wh hwh
  refine e_aload_n F dX5_seals_0 rfl ?_
  refine e_iload_n F dX5_seals_1 rfl ?_
  refine e_callSS F u_X5_isNoDeal (by rfl) (c_X5_isNoDeal hi9) w_ml_RX5_129 dX5_seals_2 (by rfl) (Nat.le_of_ble_eq_true rfl) (by decide) (by omega) (fun _ _ _ h _ => False.elim h) (fun r_2 w_2 n_2 h_2 hn_2 => ?_)
  obtain ⟨rfl, ew_2, en_2⟩ := h_2
  rw [ew_2, en_2]
  refine e_iconst F dX5_seals_5 ?_
  refine e_callVV F u_X5_start (by rfl) (c_X5_start hY (b01_or _) (by decide) (by decide)) hY rfl rfl w_ml_RX5_69 dX5_seals_6 (by rfl) (Nat.le_of_ble_eq_true rfl) (by decide) (by omega) (fun _ _ _ h _ => False.elim h) (fun r_6 w_6 n_6 h_6 hn_6 => ?_)
  obtain ⟨rfl, en_6, ew_6⟩ := h_6
  rw [en_6, ew_6, st1]
  refine e_if_ne F 21 dX5_seals_9 (by decide) (b01_r _) (fun c_9 => ?_) (fun c_9 => ?_)
  ·
    rw [ne_eq, b01_0, Classical.not_not] at c_9
    rw [if_neg c_9]
    refine e_ldcS F (text := "") (by decide +kernel) dX5_seals_21 (fun s_21 => ?_)
    refine e_aret F rfl (Or.inl ⟨_, rfl⟩) (Or.inr ⟨_, rfl⟩) (by omega) ?_ dX5_seals_23
    exact ⟨FM.th, Or.inl ⟨c_9, ⟨_, rfl⟩, hM.th⟩⟩
  ·
    rw [b01_0, Classical.not_not] at c_9
    rw [if_pos c_9]
    have gM := hM.th (t2 := 0) (kn2 := kn)
    have h_i := c_9
    obtain ⟨ki9, rfl⟩ : ∃ k : Nat, i9 = (k : Int) := ⟨i9.toNat, by omega⟩
    have hki9 : ki9 < 6 := by omega
    try rw [show ((ki9 : Nat) : Int).toNat = ki9 from rfl]
    refine e_dom ?_
    intro hdm
    obtain ⟨gY, _, ⟨G, gG, gGe⟩, ⟨SS, PP, gS, gP, gMD⟩, gRV⟩ := id gM
    have hyn := hdm _ _ gY
    have hgn := hdm _ _ gG
    have hsn := hdm _ _ gS
    have hpn := hdm _ _ gP
    rcases MD.pw (gMD ki9 hki9) with ⟨hp0, hPn⟩ | ⟨hp1, ⟨b, g, hPb, hyb, hwb, hgr, hgE⟩, hd0⟩
    ·
      refine e_aload_n F dX5_seals_12 rfl ?_
      refine e_get (ci := 5) (fi := 5) (q := (RX5, TX5, 6)) F gY rfl (by decide) w_fl_RX5_22 (by rfl) dX5_seals_13 ?_
      refine e_iload_n F dX5_seals_16 rfl ?_
      refine e_aaldn F gP (by omega) (by omega) (by decide) (hPn) dX5_seals_17 ?_
      refine e_ifnonnullN F dX5_seals_18 ?_
      refine e_ldcS F (text := "") (by decide +kernel) dX5_seals_21 (fun s_21 => ?_)
      refine e_aret F rfl (Or.inl ⟨_, rfl⟩) (Or.inr ⟨_, rfl⟩) (by omega) ?_ dX5_seals_23
      exact ⟨FM.th, Or.inr ⟨h_i, ⟨_, rfl⟩, gM⟩⟩
    · have hbn := hdm _ _ hwb
      have hdd := MD.dg (gMD ki9 hki9)
      have lp : ∀ (N k nl : Nat) (c : Int) (wl : e_W), 8 - k < N → ((k : Int) ≤ (((R ki9).dg.toNat + 1 : Nat) : Int) ∧ SB wl n c ∧ c ≤ 9 * k ∧ KB (e_up w y (MO y 0 wh kn)) wl n ∧ n ≤ nl) → e_V K P9 l E9 (7) (24) S9 M9 A9 B9 T9 C9 4 (fun r w' n' => FM w w' y n ∧ ((¬ (0 ≤ ((ki9 : Nat) : Int) ∧ ((ki9 : Nat) : Int) < 6) ∧ (∃ q : Nat, r = some (.ref q)) ∧ MW w' y wh kn 1 R) ∨ ((0 ≤ ((ki9 : Nat) : Int) ∧ ((ki9 : Nat) : Int) < 6) ∧ (∃ q : Nat, r = some (.ref q)) ∧ MW w' y wh (kn) 0 (R)))) (e_px0) 34 [(0, .ref y), (1, .int (eI ((ki9 : Nat) : Int))), (2, .ref n), (3, .int (eI (k : Int)))] [] wl nl ((2 + 2 * k)) := by
        intro N
        induction N with
        | zero => intro k nl c wl hN; exact absurd hN (Nat.not_lt_zero _)
        | succ N ih =>
          intro k nl c wl hN ⟨hk, gS9, gc, gK, gn⟩
          have hc0 := gS9.pos
          have gM2 := gM.kb hdm gK
          have l56 : (k : Int) < (((R ki9).dg.toNat + 1 : Nat) : Int) → ∀ (c2 : Int) (w2 : e_W) (n2 : Nat), SB w2 n c2 → c2 ≤ 9 * k + 1 → KB (e_up w y (MO y 0 wh kn)) w2 n → n ≤ n2 → e_V K P9 l E9 (7) (24) S9 M9 A9 B9 T9 C9 4 (fun r w' n' => FM w w' y n ∧ ((¬ (0 ≤ ((ki9 : Nat) : Int) ∧ ((ki9 : Nat) : Int) < 6) ∧ (∃ q : Nat, r = some (.ref q)) ∧ MW w' y wh kn 1 R) ∨ ((0 ≤ ((ki9 : Nat) : Int) ∧ ((ki9 : Nat) : Int) < 6) ∧ (∃ q : Nat, r = some (.ref q)) ∧ MW w' y wh (kn) 0 (R)))) (e_px0) 56 [(0, .ref y), (1, .int (eI ((ki9 : Nat) : Int))), (2, .ref n), (3, .int (eI (k : Int)))] [] w2 n2 ((3 + 2 * k)) := by
            intro hlt c2 w2 n2 hS2 hc2 hK2 hn2
            have hc0 := hS2.pos
            have uM := gM.kb hdm hK2
            have hsv := stV_rg hwh (R ki9) (k : Int)
            have hs1 := hsv.2.2 hp1 (by omega)
            have hg9 := gr_rg wh hwh
            refine e_aload_n F dX5_seals_56 rfl ?_
            refine e_aload_n F dX5_seals_57 rfl ?_
            refine e_iload_n F dX5_seals_58 rfl ?_
            refine e_iload_n F dX5_seals_59 rfl ?_
            refine e_callVV F u_X5_sealTold (by rfl) (c_X5_sealTold uM hki9 (k9 := (k : Int)) (by omega) (by omega)) uM.1 rfl rfl w_ml_RX5_194 dX5_seals_60 (by rfl) (Nat.le_of_ble_eq_true rfl) (by decide) (by omega) (fun _ _ _ h _ => False.elim h) (fun r_60 w_60 n_60 h_60 hn_60 => ?_)
            obtain ⟨rfl, ew_60, en_60⟩ := h_60
            rw [ew_60, en_60]
            obtain ⟨q63, b63⟩ := hS2.cell
            refine e_callVV F u_J4_append_bf812 (by rfl) (c_J4_append_bf812 (c := c2) (x := stV wh (R ki9) (k : Int)) hS2 (by omega) (by omega) (by omega)) b63 rfl rfl w_ml_RX5_209 dX5_seals_63 (by rfl) (Nat.le_of_ble_eq_true rfl) (by decide) (by omega) (fun _ _ _ h _ => False.elim h) (fun r_63 w_63 n_63 h_63 hn_63 => ?_)
            obtain ⟨rfl, ⟨c63, l63, u63, S63⟩, K63⟩ := h_63
            refine e_pop F dX5_seals_66 rfl ?_
            refine e_iinc F dX5_seals_67 rfl (by decide) ?_
            refine e_goto F 34 dX5_seals_70 (by decide) ?_
            exact e_wid (by omega) (e_go (ih (k + 1) _ _ _ (by omega) ⟨by omega, S63, by omega, hK2.tr K63, by omega⟩) (And.intro rfl (And.intro rfl (And.intro rfl (And.intro rfl (trivial))))))
          have uY : wl y = some (MO y 0 wh kn) := (gK y (by omega)).trans gY
          have uP : wl (y + 3) = some (e_ra 6 PP) := (gK _ (by omega)).trans gP
          have ub : wl b = some (e_ia ((R ki9).dg.toNat + 1) g) := (gK _ (by omega)).trans hwb
          refine e_iload_n F dX5_seals_34 rfl ?_
          refine e_aload_n F dX5_seals_35 rfl ?_
          refine e_get (ci := 5) (fi := 5) (q := (RX5, TX5, 6)) F uY rfl (by decide) w_fl_RX5_22 (by rfl) dX5_seals_36 ?_
          refine e_iload_n F dX5_seals_39 rfl ?_
          refine e_aaldr F uP (by omega) (by omega) (by decide) (hPb) dX5_seals_40 ?_
          refine e_alenI F ub dX5_seals_41 ?_
          refine e_icmp_ge F 73 dX5_seals_42 (by decide) (⟨by omega, by omega⟩) (⟨by omega, by omega⟩) (fun c_42 => ?_) (fun c_42 => ?_)
          · refine e_aload_n F dX5_seals_73 rfl ?_
            obtain ⟨q74, b74⟩ := gS9.cell
            refine e_callVV F u_J4_toString_0e30d (by rfl) (c_J4_toString_0e30d gS9) b74 rfl rfl w_ml_RX5_212 dX5_seals_74 (by rfl) (Nat.le_of_ble_eq_true rfl) (by decide) (by omega) (fun _ _ _ h _ => False.elim h) (fun r_74 w_74 n_74 h_74 hn_74 => ?_)
            obtain ⟨rfl, en_74, t1_74, t2_74, K74⟩ := h_74
            refine e_aret F rfl (Or.inl ⟨_, rfl⟩) (Or.inr ⟨_, rfl⟩) (by omega) ?_ dX5_seals_77
            exact ⟨FM.th.kb (Nat.le_refl _) (gK.tr (fun j hj => K74 j (by omega))), Or.inr ⟨h_i, ⟨_, rfl⟩, gM.kb hdm (gK.tr (fun j hj => K74 j (by omega)))⟩⟩
          · refine e_iload_n F dX5_seals_45 rfl ?_
            refine e_if_le F 56 dX5_seals_46 (by decide) (⟨by omega, by omega⟩) (fun c_46 => ?_) (fun c_46 => ?_)
            · first
              | exact e_wid (by omega) (e_go (l56 (by omega) _ _ _ S52 (by omega) (gK.tr K52) (by omega)) (And.intro rfl (And.intro rfl (And.intro rfl (And.intro rfl (trivial))))))
              | exact e_wid (by omega) (e_go (l56 (by omega) _ _ _ gS9 (by omega) gK gn) (And.intro rfl (And.intro rfl (And.intro rfl (And.intro rfl (trivial))))))
            · refine e_aload_n F dX5_seals_49 rfl ?_
              refine e_bipush F dX5_seals_50 (by decide) ?_
              obtain ⟨q52, b52⟩ := gS9.cell
              refine e_callVV F u_J4_append_cf468 (by rfl) (c_J4_append_cf468 (c := c) (x := 32) gS9 (by omega) (by omega) (by omega)) b52 rfl rfl w_ml_RX5_205 dX5_seals_52 (by rfl) (Nat.le_of_ble_eq_true rfl) (by decide) (by omega) (fun _ _ _ h _ => False.elim h) (fun r_52 w_52 n_52 h_52 hn_52 => ?_)
              obtain ⟨rfl, S52, K52⟩ := h_52
              refine e_pop F dX5_seals_55 rfl ?_
              first
              | exact e_wid (by omega) (e_go (l56 (by omega) _ _ _ S52 (by omega) (gK.tr K52) (by omega)) (And.intro rfl (And.intro rfl (And.intro rfl (And.intro rfl (trivial))))))
              | exact e_wid (by omega) (e_go (l56 (by omega) _ _ _ gS9 (by omega) gK gn) (And.intro rfl (And.intro rfl (And.intro rfl (And.intro rfl (trivial))))))
      refine e_aload_n F dX5_seals_12 rfl ?_
      refine e_get (ci := 5) (fi := 5) (q := (RX5, TX5, 6)) F gY rfl (by decide) w_fl_RX5_22 (by rfl) dX5_seals_13 ?_
      refine e_iload_n F dX5_seals_16 rfl ?_
      refine e_aaldr F gP (by omega) (by omega) (by decide) (hPb) dX5_seals_17 ?_
      refine e_ifnonnull F 24 dX5_seals_18 (by decide) ?_
      refine e_newO F (ci := 6) (q := (RJ4, TJ4, 4)) (fs := [.null, .int (eI 0), .int (eI 0), .int (eI 0)]) rfl (by omega) w_cl_RX5_202 w_is_RJ4 w_in_RJ4 (by decide) (by intro j hj; have hj9 : j < 4 := hj; rcases j with _ | _ | _ | _ | j <;> first | rfl | omega) dX5_seals_24 ?_
      refine e_dup F dX5_seals_27 rfl ?_
      refine e_callII F u_J4_init_da8c8 (by rfl) (c_J4_init_da8c8 e_up_s) w_ml_RX5_204 dX5_seals_28 (by rfl) (Nat.le_of_ble_eq_true rfl) (by decide) (by omega) (fun _ _ _ h _ => False.elim h) (fun r_28 w_28 n_28 h_28 hn_28 => ?_)
      obtain ⟨rfl, en_28, S0, K0⟩ := h_28
      rw [en_28]
      have K1 : KB (e_up w y (MO y 0 wh kn)) w_28 n := fun j hj => by rw [K0 j (by omega) (by omega), e_up_n (by omega)]
      refine e_astore_n F dX5_seals_31 (by decide) ?_
      refine e_iconst F dX5_seals_32 ?_
      refine e_istore_n F dX5_seals_33 (by decide) ?_
      exact e_wid (by omega) (e_go (lp 9 0 _ 0 _ (by omega) ⟨by omega, S0, by omega, K1, by omega⟩) (And.intro rfl (And.intro rfl (And.intro rfl (And.intro rfl (trivial))))))
set_option maxHeartbeats 4000000 in
set_option maxRecDepth 100000 in
theorem c_X5_init {K : e_K} {l : Launch} {w : e_W} {n : Nat} {y : Nat} (h0 : w y = some (.inl (5, [.int (eI 0), .int (eI 0), .int (eI 0), .null, .null, .null]))) (hn : n = y + 1) : e_Met K l yX5_init (Cond.code yX5_init cX5_init 1 none :: e_TB) (1) (3) [.ref y] w n (fun r w' n' => r = none ∧ n' = y + 4 ∧ MW w' y 3 0 0 (fun _ => ((-1, 0, fun _ => -1, fun _ => 0) : RD)) ∧ ∀ q, q < y → w' q = w q) (e_px0) := by
  refine e_ofV rfl (Nat.le_of_ble_eq_true rfl) ?_
  intro P9 E9 S9 M9 A9 B9 T9 C9 F hnm
  subst hn
  refine e_aload_n F dX5_init_0 rfl ?_
  refine e_oinit F w_ml_RX5_1 w_im_java_lang_Object__init____V w_co_oinit (Nat.le_of_ble_eq_true rfl) (by decide) dX5_init_1 ?_
  refine e_aload_n F dX5_init_4 rfl ?_
  refine e_iconst F dX5_init_5 ?_
  refine e_set (host := "") (ci := 5) (fi := 1) (q := (RX5, TX5, 6)) F h0 rfl (by decide) w_fl_RX5_7 rfl (by rfl) (by rfl) (Nat.le_of_ble_eq_true rfl) dX5_init_6 ?_
  refine e_aload_n F dX5_init_9 rfl ?_
  refine e_bipush F dX5_init_10 (by decide) ?_
  refine e_newI F (N := 6) (by first | rfl | omega) (by decide) (by omega) w_ac_int dX5_init_12 ?_
  refine e_dup F dX5_init_14 rfl ?_
  refine e_iconst F dX5_init_15 ?_
  refine e_iconst F dX5_init_16 ?_
  refine e_iast F e_up_s (by omega) (by omega) (by first | decide | omega) dX5_init_17 ?_
  refine e_dup F dX5_init_18 rfl ?_
  refine e_iconst F dX5_init_19 ?_
  refine e_iconst F dX5_init_20 ?_
  refine e_iast F e_up_s (by omega) (by omega) (by first | decide | omega) dX5_init_21 ?_
  refine e_dup F dX5_init_22 rfl ?_
  refine e_iconst F dX5_init_23 ?_
  refine e_iconst F dX5_init_24 ?_
  refine e_iast F e_up_s (by omega) (by omega) (by first | decide | omega) dX5_init_25 ?_
  refine e_dup F dX5_init_26 rfl ?_
  refine e_iconst F dX5_init_27 ?_
  refine e_iconst F dX5_init_28 ?_
  refine e_iast F e_up_s (by omega) (by omega) (by first | decide | omega) dX5_init_29 ?_
  refine e_dup F dX5_init_30 rfl ?_
  refine e_iconst F dX5_init_31 ?_
  refine e_iconst F dX5_init_32 ?_
  refine e_iast F e_up_s (by omega) (by omega) (by first | decide | omega) dX5_init_33 ?_
  refine e_dup F dX5_init_34 rfl ?_
  refine e_iconst F dX5_init_35 ?_
  refine e_iconst F dX5_init_36 ?_
  refine e_iast F e_up_s (by omega) (by omega) (by first | decide | omega) dX5_init_37 ?_
  refine e_setF (host := "") (ci := 5) (fi := 3) (q := (RX5, TX5, 6)) F (by repeat (first | exact e_up_s | rw [e_up_n (by omega)])) rfl (by decide) w_fl_RX5_13 hnm rfl rfl rfl (by rfl) (Nat.le_of_ble_eq_true rfl) dX5_init_38 ?_
  refine e_aload_n F dX5_init_41 rfl ?_
  refine e_bipush F dX5_init_42 (by decide) ?_
  refine e_newA10 F (N := 6) (by rfl) (by decide) (by omega) w_cl_RX5_17 w_ao_int dX5_init_44 ?_
  refine e_setF (host := "") (ci := 5) (fi := 4) (q := (RX5, TX5, 6)) F (by rw [e_up_n (by omega)]; exact e_up_s) rfl (by decide) w_fl_RX5_18 hnm rfl rfl rfl (by rfl) (Nat.le_of_ble_eq_true rfl) dX5_init_47 ?_
  refine e_aload_n F dX5_init_50 rfl ?_
  refine e_bipush F dX5_init_51 (by decide) ?_
  refine e_newA10 F (N := 6) (by rfl) (by decide) (by omega) w_cl_RX5_17 w_ao_int dX5_init_53 ?_
  refine e_setF (host := "") (ci := 5) (fi := 5) (q := (RX5, TX5, 6)) F (by rw [e_up_n (by omega)]; exact e_up_s) rfl (by decide) w_fl_RX5_22 hnm rfl rfl rfl (by rfl) (Nat.le_of_ble_eq_true rfl) dX5_init_56 ?_
  refine e_vret F rfl (by omega) ?_ dX5_init_59
  refine ⟨rfl, rfl, ⟨e_up_s, by omega, ⟨e_fu (e_fu (e_fu (e_fu (e_fu (e_fu (fun _ => 0) 0 (-1)) 1 (-1)) 2 (-1)) 3 (-1)) 4 (-1)) 5 (-1), by repeat (first | exact e_up_s | rw [e_up_n (by omega)]), fun j hj => ?_⟩, ⟨fun _ => none, fun _ => none, by repeat (first | exact e_up_s | rw [e_up_n (by omega)]), by repeat (first | exact e_up_s | rw [e_up_n (by omega)]), fun j hj => Or.inl ⟨rfl, rfl, rfl, rfl⟩⟩, fun j hj => ⟨fun _ _ _ => Or.inl rfl, fun h => absurd h (show ¬ ((0 : Int) = 1) by decide), fun _ _ _ _ => rfl⟩⟩, fun q hq => ?_⟩
  · rcases (show j = 0 ∨ j = 1 ∨ j = 2 ∨ j = 3 ∨ j = 4 ∨ j = 5 by omega) with rfl | rfl | rfl | rfl | rfl | rfl <;> rfl
  · have h1 : q ≠ y := by omega
    have h2 : q ≠ y + 1 := by omega
    have h3 : q ≠ y + 1 + 1 := by omega
    have h4 : q ≠ y + 1 + 1 + 1 := by omega
    simp only [e_up, if_neg h1, if_neg h2, if_neg h3, if_neg h4]
set_option maxHeartbeats 4000000 in
set_option maxRecDepth 100000 in
theorem c_X4_init {K : e_K} {l : Launch} {w : e_W} {n : Nat} {o : Nat} : e_Met K l yX4_init (Cond.code yX4_init cX4_init 1 none :: e_TB) (1) (0) [.ref o] w n (fun r w' n' => r = none ∧ n' = n ∧ w' = w) (e_px0) := by
  refine e_ofV rfl (Nat.le_of_ble_eq_true rfl) ?_
  intro P9 E9 S9 M9 A9 B9 T9 C9 F hnm
  refine e_aload_n F dX4_init_0 rfl ?_
  refine e_oinit F w_ml_RX4_1 w_im_java_lang_Object__init____V w_co_oinit (Nat.le_of_ble_eq_true rfl) (by decide) dX4_init_1 ?_
  refine e_vret F rfl (by omega) ?_ dX4_init_4
  exact ⟨rfl, rfl, rfl⟩
