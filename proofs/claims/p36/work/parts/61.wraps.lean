/-! ===== the law's methods that catch ===== -/
def LF (w w' : e_W) (x o n : Nat) : Prop := ∀ q, q < n → (q < x ∨ x + 27 ≤ q) → q ≠ o → w' q = w q
def LV (z : Int) : Int := (eI z).toInt
set_option maxHeartbeats 4000000 in
set_option maxRecDepth 100000 in
theorem w_prime {K : e_K} {l : Launch} {w : e_W} {n : Nat} {x wh : Nat} {kn : Int} {D : Nat → SD} (hC : CW w x wh kn D) {a : Int} (ha : e_r a) {z : Int} {sv : Value} {o : Nat} (hO : w o = some (.inl (4, [.long (eJ z), sv]))) (hxo : x + 27 ≤ o) : g_Met K l yL_prime (Cond.codeWith yL_prime cL_prime 4 (some .int) [(0, 10, 13, 19)] :: e_TB) (8) (1) [.ref x, .int (eI a), .ref o] w n (fun r w' n' => ((0 ≤ a ∧ a < 7) ∧ r = some (.int (eI 0)) ∧ CW w' x a.toNat (kn) (fun _ => SD0) ∧ LF w w' x o n ∧ w' o = some (.inl (4, [.long (eJ (LV (pr wh))), sv]))) ∨ ((¬ (0 ≤ a ∧ a < 7)) ∧ r = some (.int (eI 1)) ∧ w' = w) ∨ (False ∧ r = some (.int (eI 2)) ∧ w' = w)) (e_px0) := by
  refine g_ofV rfl (Nat.le_of_ble_eq_true rfl) w_cw_L_prime ?_
  intro P9 E9 S9 M9 A9 B9 T9 C9 F hnm
  refine g_aload_n F dL_prime_0 rfl ?_
  refine g_aload_n F dL_prime_1 rfl ?_
  refine g_iload_n F dL_prime_2 rfl ?_
  refine g_callVV F u_X3_prime (by rfl) (c_X3_prime hC ha) hC.1 rfl rfl w_ml_RL_7 dL_prime_3 (by rfl) (Nat.le_of_ble_eq_true rfl) (by decide) (by omega) (fun E8 w8 n8 h8 hn8 => ?_) (fun r7 w7 n7 h7 hn7 => ?_)
  · obtain ⟨⟨rfl, hc8⟩ | ⟨rfl, hc8⟩, rfl⟩ := h8
    · exact hc8.elim
    · refine ⟨[], ⟨0, 10, 13, 19⟩, [], "java/lang/IllegalArgumentException", rfl, (fun z9 hz9 => by cases hz9), by decide, by decide, w_cl_RL_19, w_ca_java_lang_IllegalArgumentException_java_lang_IllegalArgumentException, fun q9 => ?_⟩
      refine g_astore_n F dL_prime_13 (by decide) ?_
      refine g_iconst F dL_prime_14 ?_
      refine g_iret F rfl (by omega) ?_ dL_prime_15
      exact Or.inr (Or.inl ⟨hc8, rfl, rfl⟩)
  obtain ⟨hk7, rfl, rfl, hC7, hF7⟩ := h7
  have hO2 : w7 o = some (.inl (4, [.long (eJ z), sv])) := (hF7 o (Or.inr hxo)).trans hO
  refine g_i2l F dL_prime_6 ?_
  refine g_setN (ci := 4) (fi := 0) (q := (RX4, TX4, 2)) F hO2 rfl (by decide) w_fn_RL_13 rfl (by rfl) (by rfl) (Nat.le_of_ble_eq_true rfl) dL_prime_7 ?_
  refine g_goto F 16 dL_prime_10 (by decide) ?_
  refine g_iconst F dL_prime_16 ?_
  refine g_iret F rfl (by omega) ?_ dL_prime_17
  exact Or.inl ⟨hk7, rfl, hC7.kb (Nat.le_refl _) (by intro j8 hj8; exact e_up_n (by omega)), by intro q8 h1 h2 h3; rw [e_up_n h3]; exact hF7 q8 h2, e_up_s⟩
set_option maxHeartbeats 4000000 in
set_option maxRecDepth 100000 in
theorem w_reckon {K : e_K} {l : Launch} {w : e_W} {n : Nat} {x wh : Nat} {kn : Int} {D : Nat → SD} (hC : CW w x wh kn D) {a : Int} (ha : e_r a) {b : Int} (hb : e_r b) {c : Int} (hc : e_r c) {z : Int} {sv : Value} {o : Nat} (hO : w o = some (.inl (4, [.long (eJ z), sv]))) (hxo : x + 27 ≤ o) : g_Met K l yL_reckon (Cond.codeWith yL_reckon cL_reckon 6 (some .int) [(0, 13, 16, 19)] :: e_TB) (7) (1) [.ref x, .int (eI a), .int (eI b), .int (eI c), .ref o] w n (fun r w' n' => ((0 ≤ c ∧ c ≤ 3) ∧ r = some (.int (eI 0)) ∧ CW w' x wh (kn) (D) ∧ LF w w' x o n ∧ w' o = some (.inl (4, [.long (eJ (LV (rcV wh a b c))), sv]))) ∨ ((¬ (0 ≤ c ∧ c ≤ 3)) ∧ r = some (.int (eI 1)) ∧ w' = w) ∨ (False ∧ r = some (.int (eI 2)) ∧ w' = w)) (e_px0) := by
  refine g_ofV rfl (Nat.le_of_ble_eq_true rfl) w_cw_L_reckon ?_
  intro P9 E9 S9 M9 A9 B9 T9 C9 F hnm
  refine g_aload F dL_reckon_0 rfl ?_
  refine g_aload_n F dL_reckon_2 rfl ?_
  refine g_iload_n F dL_reckon_3 rfl ?_
  refine g_iload_n F dL_reckon_4 rfl ?_
  refine g_iload_n F dL_reckon_5 rfl ?_
  refine g_callVV F u_X3_reckon (by rfl) (c_X3_reckon hC ha hb hc) hC.1 rfl rfl w_ml_RL_21 dL_reckon_6 (by rfl) (Nat.le_of_ble_eq_true rfl) (by decide) (by omega) (fun E8 w8 n8 h8 hn8 => ?_) (fun r7 w7 n7 h7 hn7 => ?_)
  · obtain ⟨⟨rfl, hc8⟩ | ⟨rfl, hc8⟩, rfl⟩ := h8
    · exact hc8.elim
    · refine ⟨[], ⟨0, 13, 16, 19⟩, [], "java/lang/IllegalArgumentException", rfl, (fun z9 hz9 => by cases hz9), by decide, by decide, w_cl_RL_19, w_ca_java_lang_IllegalArgumentException_java_lang_IllegalArgumentException, fun q9 => ?_⟩
      refine g_astore F dL_reckon_16 (by decide) ?_
      refine g_iconst F dL_reckon_18 ?_
      refine g_iret F rfl (by omega) ?_ dL_reckon_19
      exact Or.inr (Or.inl ⟨hc8, rfl, rfl⟩)
  obtain ⟨hk7, rfl, rfl, hC7, hF7⟩ := h7
  have hO2 : w7 o = some (.inl (4, [.long (eJ z), sv])) := (hF7 o (Or.inr hxo)).trans hO
  refine g_i2l F dL_reckon_9 ?_
  refine g_setN (ci := 4) (fi := 0) (q := (RX4, TX4, 2)) F hO2 rfl (by decide) w_fn_RL_13 rfl (by rfl) (by rfl) (Nat.le_of_ble_eq_true rfl) dL_reckon_10 ?_
  refine g_goto F 20 dL_reckon_13 (by decide) ?_
  refine g_iconst F dL_reckon_20 ?_
  refine g_iret F rfl (by omega) ?_ dL_reckon_21
  exact Or.inl ⟨hk7, rfl, hC7.kb (Nat.le_refl _) (by intro j8 hj8; exact e_up_n (by omega)), by intro q8 h1 h2 h3; rw [e_up_n h3]; exact hF7 q8 h2, e_up_s⟩
set_option maxHeartbeats 4000000 in
set_option maxRecDepth 100000 in
theorem w_weight {K : e_K} {l : Launch} {w : e_W} {n : Nat} {x wh : Nat} {kn : Int} {D : Nat → SD} (hC : CW w x wh kn D) {a : Int} (ha : e_r a) {h : Int} (hh : e_r h) {c : Int} (hc : e_r c) {z : Int} {sv : Value} {o : Nat} (hO : w o = some (.inl (4, [.long (eJ z), sv]))) (hxo : x + 27 ≤ o) : g_Met K l yL_weight (Cond.codeWith yL_weight cL_weight 6 (some .int) [(0, 13, 16, 28), (0, 13, 20, 19)] :: e_TB) (8) (2) [.ref x, .int (eI a), .int (eI h), .int (eI c), .ref o] w n (fun r w' n' => (((1 ≤ h ∧ h ≤ ho wh) ∧ (1 ≤ a ∧ a ≤ fl wh)) ∧ r = some (.int (eI 0)) ∧ CW w' x wh (kn) (D) ∧ LF w w' x o n ∧ w' o = some (.inl (4, [.long (eJ (LV (if hs a h then wgt wh a h c else -9))), sv]))) ∨ ((¬ (1 ≤ h ∧ h ≤ ho wh)) ∧ r = some (.int (eI 1)) ∧ w' = w) ∨ (((1 ≤ h ∧ h ≤ ho wh) ∧ ¬ (1 ≤ a ∧ a ≤ fl wh)) ∧ r = some (.int (eI 2)) ∧ w' = w)) (e_px0) := by
  refine g_ofV rfl (Nat.le_of_ble_eq_true rfl) w_cw_L_weight ?_
  intro P9 E9 S9 M9 A9 B9 T9 C9 F hnm
  refine g_aload F dL_weight_0 rfl ?_
  refine g_aload_n F dL_weight_2 rfl ?_
  refine g_iload_n F dL_weight_3 rfl ?_
  refine g_iload_n F dL_weight_4 rfl ?_
  refine g_iload_n F dL_weight_5 rfl ?_
  refine g_callVV F u_X3_weight (by rfl) (c_X3_weight hC ha hh hc) hC.1 rfl rfl w_ml_RL_25 dL_weight_6 (by rfl) (Nat.le_of_ble_eq_true rfl) (by decide) (by omega) (fun E8 w8 n8 h8 hn8 => ?_) (fun r7 w7 n7 h7 hn7 => ?_)
  · obtain ⟨⟨rfl, hc8⟩ | ⟨rfl, hc8⟩, rfl⟩ := h8
    · refine ⟨[], ⟨0, 13, 16, 28⟩, [⟨0, 13, 20, 19⟩], "java/lang/IndexOutOfBoundsException", rfl, (fun z9 hz9 => by cases hz9), by decide, by decide, w_cl_RL_28, w_ca_java_lang_IndexOutOfBoundsException_java_lang_IndexOutOfBoundsException, fun q9 => ?_⟩
      refine g_astore F dL_weight_16 (by decide) ?_
      refine g_iconst F dL_weight_18 ?_
      refine g_iret F rfl (by omega) ?_ dL_weight_19
      exact Or.inr (Or.inl ⟨hc8, rfl, rfl⟩)
    · refine ⟨[⟨0, 13, 16, 28⟩], ⟨0, 13, 20, 19⟩, [], "java/lang/IllegalArgumentException", rfl, (fun z9 hz9 => by rw [List.mem_singleton.mp hz9]; exact Or.inr ⟨by decide, _, w_cl_RL_28, F.2.2.2.2.2.2.2.1.2⟩), by decide, by decide, w_cl_RL_19, w_ca_java_lang_IllegalArgumentException_java_lang_IllegalArgumentException, fun q9 => ?_⟩
      refine g_astore F dL_weight_20 (by decide) ?_
      refine g_iconst F dL_weight_22 ?_
      refine g_iret F rfl (by omega) ?_ dL_weight_23
      exact Or.inr (Or.inr ⟨hc8, rfl, rfl⟩)
  obtain ⟨hk7, rfl, rfl, hC7, hF7⟩ := h7
  have hO2 : w7 o = some (.inl (4, [.long (eJ z), sv])) := (hF7 o (Or.inr hxo)).trans hO
  refine g_i2l F dL_weight_9 ?_
  refine g_setN (ci := 4) (fi := 0) (q := (RX4, TX4, 2)) F hO2 rfl (by decide) w_fn_RL_13 rfl (by rfl) (by rfl) (Nat.le_of_ble_eq_true rfl) dL_weight_10 ?_
  refine g_goto F 24 dL_weight_13 (by decide) ?_
  refine g_iconst F dL_weight_24 ?_
  refine g_iret F rfl (by omega) ?_ dL_weight_25
  exact Or.inl ⟨hk7, rfl, hC7.kb (Nat.le_refl _) (by intro j8 hj8; exact e_up_n (by omega)), by intro q8 h1 h2 h3; rw [e_up_n h3]; exact hF7 q8 h2, e_up_s⟩
set_option maxHeartbeats 4000000 in
set_option maxRecDepth 100000 in
theorem w_weights {K : e_K} {l : Launch} {w : e_W} {n : Nat} {x wh : Nat} {kn : Int} {D : Nat → SD} (hC : CW w x wh kn D) {a : Int} (ha : e_r a) {c : Int} (hc : e_r c) {z : Int} {sv : Value} {o : Nat} (hO : w o = some (.inl (4, [.long (eJ z), sv]))) (hxo : x + 27 ≤ o) : g_Met K l yL_weights (Cond.codeWith yL_weights cL_weights 5 (some .int) [(0, 11, 14, 19)] :: e_TB) (8) (1) [.ref x, .int (eI a), .int (eI c), .ref o] w n (fun r w' n' => ((1 ≤ a ∧ a ≤ fl wh) ∧ r = some (.int (eI 0)) ∧ CW w' x wh (kn) (D) ∧ LF w w' x o n ∧ w' o = some (.inl (4, [.long (eJ (LV (tl wh a (fun _ => 1) c))), sv]))) ∨ ((¬ (1 ≤ a ∧ a ≤ fl wh)) ∧ r = some (.int (eI 1)) ∧ w' = w) ∨ (False ∧ r = some (.int (eI 2)) ∧ w' = w)) (e_px0) := by
  refine g_ofV rfl (Nat.le_of_ble_eq_true rfl) w_cw_L_weights ?_
  intro P9 E9 S9 M9 A9 B9 T9 C9 F hnm
  refine g_aload_n F dL_weights_0 rfl ?_
  refine g_aload_n F dL_weights_1 rfl ?_
  refine g_iload_n F dL_weights_2 rfl ?_
  refine g_iload_n F dL_weights_3 rfl ?_
  refine g_callVV F u_X3_weights (by rfl) (c_X3_weights hC ha hc) hC.1 rfl rfl w_ml_RL_30 dL_weights_4 (by rfl) (Nat.le_of_ble_eq_true rfl) (by decide) (by omega) (fun E8 w8 n8 h8 hn8 => ?_) (fun r7 w7 n7 h7 hn7 => ?_)
  · obtain ⟨⟨rfl, hc8⟩ | ⟨rfl, hc8⟩, rfl⟩ := h8
    · exact hc8.elim
    · refine ⟨[], ⟨0, 11, 14, 19⟩, [], "java/lang/IllegalArgumentException", rfl, (fun z9 hz9 => by cases hz9), by decide, by decide, w_cl_RL_19, w_ca_java_lang_IllegalArgumentException_java_lang_IllegalArgumentException, fun q9 => ?_⟩
      refine g_astore F dL_weights_14 (by decide) ?_
      refine g_iconst F dL_weights_16 ?_
      refine g_iret F rfl (by omega) ?_ dL_weights_17
      exact Or.inr (Or.inl ⟨hc8, rfl, rfl⟩)
  obtain ⟨hk7, rfl, rfl, hC7, hF7⟩ := h7
  have hO2 : w7 o = some (.inl (4, [.long (eJ z), sv])) := (hF7 o (Or.inr hxo)).trans hO
  refine g_i2l F dL_weights_7 ?_
  refine g_setN (ci := 4) (fi := 0) (q := (RX4, TX4, 2)) F hO2 rfl (by decide) w_fn_RL_13 rfl (by rfl) (by rfl) (Nat.le_of_ble_eq_true rfl) dL_weights_8 ?_
  refine g_goto F 18 dL_weights_11 (by decide) ?_
  refine g_iconst F dL_weights_18 ?_
  refine g_iret F rfl (by omega) ?_ dL_weights_19
  exact Or.inl ⟨hk7, rfl, hC7.kb (Nat.le_refl _) (by intro j8 hj8; exact e_up_n (by omega)), by intro q8 h1 h2 h3; rw [e_up_n h3]; exact hF7 q8 h2, e_up_s⟩
set_option maxHeartbeats 4000000 in
set_option maxRecDepth 100000 in
theorem w_hide {K : e_K} {l : Launch} {w : e_W} {n : Nat} {x wh : Nat} {kn : Int} {D : Nat → SD} (hC : CW w x wh kn D) {i : Int} (hi : e_r i) {g : Int} (hg : e_r g) {a : Int} (ha : e_r a) {b : Int} (hb : e_r b) {c : Int} (hc : e_r c) {d : Int} (hd : e_r d) {z : Int} {sv : Value} {o : Nat} (hO : w o = some (.inl (4, [.long (eJ z), sv]))) (hxo : x + 27 ≤ o) : g_Met K l yL_hide (Cond.codeWith yL_hide cL_hide 9 (some .int) [(0, 19, 22, 28), (0, 19, 26, 19)] :: e_TB) (8) (2) [.ref x, .int (eI i), .int (eI g), .int (eI a), .int (eI b), .int (eI c), .int (eI d), .ref o] w n (fun r w' n' => (((0 ≤ i ∧ i < 6) ∧ (0 ≤ g ∧ g ≤ 3)) ∧ r = some (.int (eI 0)) ∧ CW w' x wh (kn) (upD D i.toNat (lpS wh g (bcm (pr wh) g a b c d))) ∧ LF w w' x o n ∧ w' o = some (.inl (4, [.long (eJ (LV (bc (st7 (lpA wh (bcm (pr wh) g a b c d)))))), sv]))) ∨ ((¬ (0 ≤ i ∧ i < 6)) ∧ r = some (.int (eI 1)) ∧ w' = w) ∨ (((0 ≤ i ∧ i < 6) ∧ ¬ (0 ≤ g ∧ g ≤ 3)) ∧ r = some (.int (eI 2)) ∧ w' = w)) (e_px0) := by
  refine g_ofV rfl (Nat.le_of_ble_eq_true rfl) w_cw_L_hide ?_
  intro P9 E9 S9 M9 A9 B9 T9 C9 F hnm
  refine g_aload F dL_hide_0 rfl ?_
  refine g_aload_n F dL_hide_2 rfl ?_
  refine g_iload_n F dL_hide_3 rfl ?_
  refine g_iload_n F dL_hide_4 rfl ?_
  refine g_iload_n F dL_hide_5 rfl ?_
  refine g_iload F dL_hide_6 rfl ?_
  refine g_iload F dL_hide_8 rfl ?_
  refine g_iload F dL_hide_10 rfl ?_
  refine g_callVV F u_X3_hide (by rfl) (c_X3_hide hC hi hg ha hb hc hd) hC.1 rfl rfl w_ml_RL_34 dL_hide_12 (by rfl) (Nat.le_of_ble_eq_true rfl) (by decide) (by omega) (fun E8 w8 n8 h8 hn8 => ?_) (fun r7 w7 n7 h7 hn7 => ?_)
  · obtain ⟨⟨rfl, hc8⟩ | ⟨rfl, hc8⟩, rfl⟩ := h8
    · refine ⟨[], ⟨0, 19, 22, 28⟩, [⟨0, 19, 26, 19⟩], "java/lang/IndexOutOfBoundsException", rfl, (fun z9 hz9 => by cases hz9), by decide, by decide, w_cl_RL_28, w_ca_java_lang_IndexOutOfBoundsException_java_lang_IndexOutOfBoundsException, fun q9 => ?_⟩
      refine g_astore F dL_hide_22 (by decide) ?_
      refine g_iconst F dL_hide_24 ?_
      refine g_iret F rfl (by omega) ?_ dL_hide_25
      exact Or.inr (Or.inl ⟨hc8, rfl, rfl⟩)
    · refine ⟨[⟨0, 19, 22, 28⟩], ⟨0, 19, 26, 19⟩, [], "java/lang/IllegalArgumentException", rfl, (fun z9 hz9 => by rw [List.mem_singleton.mp hz9]; exact Or.inr ⟨by decide, _, w_cl_RL_28, F.2.2.2.2.2.2.2.1.2⟩), by decide, by decide, w_cl_RL_19, w_ca_java_lang_IllegalArgumentException_java_lang_IllegalArgumentException, fun q9 => ?_⟩
      refine g_astore F dL_hide_26 (by decide) ?_
      refine g_iconst F dL_hide_28 ?_
      refine g_iret F rfl (by omega) ?_ dL_hide_29
      exact Or.inr (Or.inr ⟨hc8, rfl, rfl⟩)
  obtain ⟨hk7, rfl, rfl, hC7, hF7⟩ := h7
  have hO2 : w7 o = some (.inl (4, [.long (eJ z), sv])) := (hF7 o (Or.inr hxo)).trans hO
  refine g_i2l F dL_hide_15 ?_
  refine g_setN (ci := 4) (fi := 0) (q := (RX4, TX4, 2)) F hO2 rfl (by decide) w_fn_RL_13 rfl (by rfl) (by rfl) (Nat.le_of_ble_eq_true rfl) dL_hide_16 ?_
  refine g_goto F 30 dL_hide_19 (by decide) ?_
  refine g_iconst F dL_hide_30 ?_
  refine g_iret F rfl (by omega) ?_ dL_hide_31
  exact Or.inl ⟨hk7, rfl, hC7.kb (Nat.le_refl _) (by intro j8 hj8; exact e_up_n (by omega)), by intro q8 h1 h2 h3; rw [e_up_n h3]; exact hF7 q8 h2, e_up_s⟩
set_option maxHeartbeats 4000000 in
set_option maxRecDepth 100000 in
theorem w_pour {K : e_K} {l : Launch} {w : e_W} {n : Nat} {x wh : Nat} {kn : Int} {D : Nat → SD} (hC : CW w x wh kn D) {i : Int} (hi : e_r i) {a : Int} (ha : e_r a) {b : Int} (hb : e_r b) {c : Int} (hc : e_r c) {d : Int} (hd : e_r d) {z : Int} {sv : Value} {o : Nat} (hO : w o = some (.inl (4, [.long (eJ z), sv]))) (hxo : x + 27 ≤ o) : g_Met K l yL_pour (Cond.codeWith yL_pour cL_pour 8 (some .int) [(0, 17, 20, 28)] :: e_TB) (8) (1) [.ref x, .int (eI i), .int (eI a), .int (eI b), .int (eI c), .int (eI d), .ref o] w n (fun r w' n' => (((0 ≤ i ∧ i < 6)) ∧ r = some (.int (eI 0)) ∧ CW w' x wh (kn) ((poQ wh D i.toNat a b c d).2) ∧ LF w w' x o n ∧ w' o = some (.inl (4, [.long (eJ (LV ((poQ wh D i.toNat a b c d).1))), sv]))) ∨ ((¬ (0 ≤ i ∧ i < 6)) ∧ r = some (.int (eI 1)) ∧ w' = w) ∨ (False ∧ r = some (.int (eI 2)) ∧ w' = w)) (e_px0) := by
  refine g_ofV rfl (Nat.le_of_ble_eq_true rfl) w_cw_L_pour ?_
  intro P9 E9 S9 M9 A9 B9 T9 C9 F hnm
  refine g_aload F dL_pour_0 rfl ?_
  refine g_aload_n F dL_pour_2 rfl ?_
  refine g_iload_n F dL_pour_3 rfl ?_
  refine g_iload_n F dL_pour_4 rfl ?_
  refine g_iload_n F dL_pour_5 rfl ?_
  refine g_iload F dL_pour_6 rfl ?_
  refine g_iload F dL_pour_8 rfl ?_
  refine g_callVV F u_X3_pour (by rfl) (c_X3_pour hC hi ha hb hc hd) hC.1 rfl rfl w_ml_RL_38 dL_pour_10 (by rfl) (Nat.le_of_ble_eq_true rfl) (by decide) (by omega) (fun E8 w8 n8 h8 hn8 => ?_) (fun r7 w7 n7 h7 hn7 => ?_)
  · obtain ⟨⟨rfl, hc8⟩ | ⟨rfl, hc8⟩, rfl⟩ := h8
    · refine ⟨[], ⟨0, 17, 20, 28⟩, [], "java/lang/IndexOutOfBoundsException", rfl, (fun z9 hz9 => by cases hz9), by decide, by decide, w_cl_RL_28, w_ca_java_lang_IndexOutOfBoundsException_java_lang_IndexOutOfBoundsException, fun q9 => ?_⟩
      refine g_astore F dL_pour_20 (by decide) ?_
      refine g_iconst F dL_pour_22 ?_
      refine g_iret F rfl (by omega) ?_ dL_pour_23
      exact Or.inr (Or.inl ⟨hc8, rfl, rfl⟩)
    · exact hc8.elim
  obtain ⟨hk7, rfl, rfl, hC7, hF7⟩ := h7
  have hO2 : w7 o = some (.inl (4, [.long (eJ z), sv])) := (hF7 o (Or.inr hxo)).trans hO
  refine g_i2l F dL_pour_13 ?_
  refine g_setN (ci := 4) (fi := 0) (q := (RX4, TX4, 2)) F hO2 rfl (by decide) w_fn_RL_13 rfl (by rfl) (by rfl) (Nat.le_of_ble_eq_true rfl) dL_pour_14 ?_
  refine g_goto F 24 dL_pour_17 (by decide) ?_
  refine g_iconst F dL_pour_24 ?_
  refine g_iret F rfl (by omega) ?_ dL_pour_25
  exact Or.inl ⟨hk7, rfl, hC7.kb (Nat.le_refl _) (by intro j8 hj8; exact e_up_n (by omega)), by intro q8 h1 h2 h3; rw [e_up_n h3]; exact hF7 q8 h2, e_up_s⟩
set_option maxHeartbeats 4000000 in
set_option maxRecDepth 100000 in
theorem w_plus {K : e_K} {l : Launch} {w : e_W} {n : Nat} {x wh : Nat} {kn : Int} {D : Nat → SD} (hC : CW w x wh kn D) {i : Int} (hi : e_r i) {j : Int} (hj : e_r j) {t : Int} (ht : e_r t) {z : Int} {sv : Value} {o : Nat} (hO : w o = some (.inl (4, [.long (eJ z), sv]))) (hxo : x + 27 ≤ o) : g_Met K l yL_plus (Cond.codeWith yL_plus cL_plus 6 (some .int) [(0, 13, 16, 28)] :: e_TB) (8) (3) [.ref x, .int (eI i), .int (eI j), .int (eI t), .ref o] w n (fun r w' n' => (((0 ≤ i ∧ i < 6) ∧ (0 ≤ j ∧ j < 6) ∧ (0 ≤ t ∧ t < 6)) ∧ r = some (.int (eI 0)) ∧ CW w' x wh (kn) ((auQ wh 0 D i.toNat j.toNat t.toNat).2) ∧ LF w w' x o n ∧ w' o = some (.inl (4, [.long (eJ (LV ((auQ wh 0 D i.toNat j.toNat t.toNat).1))), sv]))) ∨ ((¬ ((0 ≤ i ∧ i < 6) ∧ (0 ≤ j ∧ j < 6) ∧ (0 ≤ t ∧ t < 6))) ∧ r = some (.int (eI 1)) ∧ w' = w) ∨ (False ∧ r = some (.int (eI 2)) ∧ w' = w)) (e_px0) := by
  refine g_ofV rfl (Nat.le_of_ble_eq_true rfl) w_cw_L_plus ?_
  intro P9 E9 S9 M9 A9 B9 T9 C9 F hnm
  refine g_aload F dL_plus_0 rfl ?_
  refine g_aload_n F dL_plus_2 rfl ?_
  refine g_iload_n F dL_plus_3 rfl ?_
  refine g_iload_n F dL_plus_4 rfl ?_
  refine g_iload_n F dL_plus_5 rfl ?_
  refine g_callVV F u_X3_plus (by rfl) (c_X3_plus hC hi hj ht) hC.1 rfl rfl w_ml_RL_42 dL_plus_6 (by rfl) (Nat.le_of_ble_eq_true rfl) (by decide) (by omega) (fun E8 w8 n8 h8 hn8 => ?_) (fun r7 w7 n7 h7 hn7 => ?_)
  · obtain ⟨⟨rfl, hc8⟩ | ⟨rfl, hc8⟩, rfl⟩ := h8
    · refine ⟨[], ⟨0, 13, 16, 28⟩, [], "java/lang/IndexOutOfBoundsException", rfl, (fun z9 hz9 => by cases hz9), by decide, by decide, w_cl_RL_28, w_ca_java_lang_IndexOutOfBoundsException_java_lang_IndexOutOfBoundsException, fun q9 => ?_⟩
      refine g_astore F dL_plus_16 (by decide) ?_
      refine g_iconst F dL_plus_18 ?_
      refine g_iret F rfl (by omega) ?_ dL_plus_19
      exact Or.inr (Or.inl ⟨hc8, rfl, rfl⟩)
    · exact hc8.elim
  obtain ⟨hk7, rfl, rfl, hC7, hF7⟩ := h7
  have hO2 : w7 o = some (.inl (4, [.long (eJ z), sv])) := (hF7 o (Or.inr hxo)).trans hO
  refine g_i2l F dL_plus_9 ?_
  refine g_setN (ci := 4) (fi := 0) (q := (RX4, TX4, 2)) F hO2 rfl (by decide) w_fn_RL_13 rfl (by rfl) (by rfl) (Nat.le_of_ble_eq_true rfl) dL_plus_10 ?_
  refine g_goto F 20 dL_plus_13 (by decide) ?_
  refine g_iconst F dL_plus_20 ?_
  refine g_iret F rfl (by omega) ?_ dL_plus_21
  exact Or.inl ⟨hk7, rfl, hC7.kb (Nat.le_refl _) (by intro j8 hj8; exact e_up_n (by omega)), by intro q8 h1 h2 h3; rw [e_up_n h3]; exact hF7 q8 h2, e_up_s⟩
set_option maxHeartbeats 4000000 in
set_option maxRecDepth 100000 in
theorem w_less {K : e_K} {l : Launch} {w : e_W} {n : Nat} {x wh : Nat} {kn : Int} {D : Nat → SD} (hC : CW w x wh kn D) {i : Int} (hi : e_r i) {j : Int} (hj : e_r j) {t : Int} (ht : e_r t) {z : Int} {sv : Value} {o : Nat} (hO : w o = some (.inl (4, [.long (eJ z), sv]))) (hxo : x + 27 ≤ o) : g_Met K l yL_less (Cond.codeWith yL_less cL_less 6 (some .int) [(0, 13, 16, 28)] :: e_TB) (8) (3) [.ref x, .int (eI i), .int (eI j), .int (eI t), .ref o] w n (fun r w' n' => (((0 ≤ i ∧ i < 6) ∧ (0 ≤ j ∧ j < 6) ∧ (0 ≤ t ∧ t < 6)) ∧ r = some (.int (eI 0)) ∧ CW w' x wh (kn) ((auQ wh 1 D i.toNat j.toNat t.toNat).2) ∧ LF w w' x o n ∧ w' o = some (.inl (4, [.long (eJ (LV ((auQ wh 1 D i.toNat j.toNat t.toNat).1))), sv]))) ∨ ((¬ ((0 ≤ i ∧ i < 6) ∧ (0 ≤ j ∧ j < 6) ∧ (0 ≤ t ∧ t < 6))) ∧ r = some (.int (eI 1)) ∧ w' = w) ∨ (False ∧ r = some (.int (eI 2)) ∧ w' = w)) (e_px0) := by
  refine g_ofV rfl (Nat.le_of_ble_eq_true rfl) w_cw_L_less ?_
  intro P9 E9 S9 M9 A9 B9 T9 C9 F hnm
  refine g_aload F dL_less_0 rfl ?_
  refine g_aload_n F dL_less_2 rfl ?_
  refine g_iload_n F dL_less_3 rfl ?_
  refine g_iload_n F dL_less_4 rfl ?_
  refine g_iload_n F dL_less_5 rfl ?_
  refine g_callVV F u_X3_less (by rfl) (c_X3_less hC hi hj ht) hC.1 rfl rfl w_ml_RL_45 dL_less_6 (by rfl) (Nat.le_of_ble_eq_true rfl) (by decide) (by omega) (fun E8 w8 n8 h8 hn8 => ?_) (fun r7 w7 n7 h7 hn7 => ?_)
  · obtain ⟨⟨rfl, hc8⟩ | ⟨rfl, hc8⟩, rfl⟩ := h8
    · refine ⟨[], ⟨0, 13, 16, 28⟩, [], "java/lang/IndexOutOfBoundsException", rfl, (fun z9 hz9 => by cases hz9), by decide, by decide, w_cl_RL_28, w_ca_java_lang_IndexOutOfBoundsException_java_lang_IndexOutOfBoundsException, fun q9 => ?_⟩
      refine g_astore F dL_less_16 (by decide) ?_
      refine g_iconst F dL_less_18 ?_
      refine g_iret F rfl (by omega) ?_ dL_less_19
      exact Or.inr (Or.inl ⟨hc8, rfl, rfl⟩)
    · exact hc8.elim
  obtain ⟨hk7, rfl, rfl, hC7, hF7⟩ := h7
  have hO2 : w7 o = some (.inl (4, [.long (eJ z), sv])) := (hF7 o (Or.inr hxo)).trans hO
  refine g_i2l F dL_less_9 ?_
  refine g_setN (ci := 4) (fi := 0) (q := (RX4, TX4, 2)) F hO2 rfl (by decide) w_fn_RL_13 rfl (by rfl) (by rfl) (Nat.le_of_ble_eq_true rfl) dL_less_10 ?_
  refine g_goto F 20 dL_less_13 (by decide) ?_
  refine g_iconst F dL_less_20 ?_
  refine g_iret F rfl (by omega) ?_ dL_less_21
  exact Or.inl ⟨hk7, rfl, hC7.kb (Nat.le_refl _) (by intro j8 hj8; exact e_up_n (by omega)), by intro q8 h1 h2 h3; rw [e_up_n h3]; exact hF7 q8 h2, e_up_s⟩
set_option maxHeartbeats 4000000 in
set_option maxRecDepth 100000 in
theorem w_times {K : e_K} {l : Launch} {w : e_W} {n : Nat} {x wh : Nat} {kn : Int} {D : Nat → SD} (hC : CW w x wh kn D) {i : Int} (hi : e_r i) {j : Int} (hj : e_r j) {t : Int} (ht : e_r t) {z : Int} {sv : Value} {o : Nat} (hO : w o = some (.inl (4, [.long (eJ z), sv]))) (hxo : x + 27 ≤ o) : g_Met K l yL_times (Cond.codeWith yL_times cL_times 6 (some .int) [(0, 13, 16, 28)] :: e_TB) (8) (3) [.ref x, .int (eI i), .int (eI j), .int (eI t), .ref o] w n (fun r w' n' => (((0 ≤ i ∧ i < 6) ∧ (0 ≤ j ∧ j < 6) ∧ (0 ≤ t ∧ t < 6)) ∧ r = some (.int (eI 0)) ∧ CW w' x wh (kn) ((tiQ wh D i.toNat j.toNat t.toNat).2) ∧ LF w w' x o n ∧ w' o = some (.inl (4, [.long (eJ (LV ((tiQ wh D i.toNat j.toNat t.toNat).1))), sv]))) ∨ ((¬ ((0 ≤ i ∧ i < 6) ∧ (0 ≤ j ∧ j < 6) ∧ (0 ≤ t ∧ t < 6))) ∧ r = some (.int (eI 1)) ∧ w' = w) ∨ (False ∧ r = some (.int (eI 2)) ∧ w' = w)) (e_px0) := by
  refine g_ofV rfl (Nat.le_of_ble_eq_true rfl) w_cw_L_times ?_
  intro P9 E9 S9 M9 A9 B9 T9 C9 F hnm
  refine g_aload F dL_times_0 rfl ?_
  refine g_aload_n F dL_times_2 rfl ?_
  refine g_iload_n F dL_times_3 rfl ?_
  refine g_iload_n F dL_times_4 rfl ?_
  refine g_iload_n F dL_times_5 rfl ?_
  refine g_callVV F u_X3_times (by rfl) (c_X3_times hC hi hj ht) hC.1 rfl rfl w_ml_RL_48 dL_times_6 (by rfl) (Nat.le_of_ble_eq_true rfl) (by decide) (by omega) (fun E8 w8 n8 h8 hn8 => ?_) (fun r7 w7 n7 h7 hn7 => ?_)
  · obtain ⟨⟨rfl, hc8⟩ | ⟨rfl, hc8⟩, rfl⟩ := h8
    · refine ⟨[], ⟨0, 13, 16, 28⟩, [], "java/lang/IndexOutOfBoundsException", rfl, (fun z9 hz9 => by cases hz9), by decide, by decide, w_cl_RL_28, w_ca_java_lang_IndexOutOfBoundsException_java_lang_IndexOutOfBoundsException, fun q9 => ?_⟩
      refine g_astore F dL_times_16 (by decide) ?_
      refine g_iconst F dL_times_18 ?_
      refine g_iret F rfl (by omega) ?_ dL_times_19
      exact Or.inr (Or.inl ⟨hc8, rfl, rfl⟩)
    · exact hc8.elim
  obtain ⟨hk7, rfl, rfl, hC7, hF7⟩ := h7
  have hO2 : w7 o = some (.inl (4, [.long (eJ z), sv])) := (hF7 o (Or.inr hxo)).trans hO
  refine g_i2l F dL_times_9 ?_
  refine g_setN (ci := 4) (fi := 0) (q := (RX4, TX4, 2)) F hO2 rfl (by decide) w_fn_RL_13 rfl (by rfl) (by rfl) (Nat.le_of_ble_eq_true rfl) dL_times_10 ?_
  refine g_goto F 20 dL_times_13 (by decide) ?_
  refine g_iconst F dL_times_20 ?_
  refine g_iret F rfl (by omega) ?_ dL_times_21
  exact Or.inl ⟨hk7, rfl, hC7.kb (Nat.le_refl _) (by intro j8 hj8; exact e_up_n (by omega)), by intro q8 h1 h2 h3; rw [e_up_n h3]; exact hF7 q8 h2, e_up_s⟩
set_option maxHeartbeats 4000000 in
set_option maxRecDepth 100000 in
theorem w_scale {K : e_K} {l : Launch} {w : e_W} {n : Nat} {x wh : Nat} {kn : Int} {D : Nat → SD} (hC : CW w x wh kn D) {i : Int} (hi : e_r i) {b : Int} (hb : e_r b) {t : Int} (ht : e_r t) {z : Int} {sv : Value} {o : Nat} (hO : w o = some (.inl (4, [.long (eJ z), sv]))) (hxo : x + 27 ≤ o) : g_Met K l yL_scale (Cond.codeWith yL_scale cL_scale 6 (some .int) [(0, 13, 16, 28)] :: e_TB) (8) (2) [.ref x, .int (eI i), .int (eI b), .int (eI t), .ref o] w n (fun r w' n' => (((0 ≤ i ∧ i < 6) ∧ (0 ≤ t ∧ t < 6)) ∧ r = some (.int (eI 0)) ∧ CW w' x wh (kn) ((scQ wh D i.toNat b t.toNat).2) ∧ LF w w' x o n ∧ w' o = some (.inl (4, [.long (eJ (LV ((scQ wh D i.toNat b t.toNat).1))), sv]))) ∨ ((¬ ((0 ≤ i ∧ i < 6) ∧ (0 ≤ t ∧ t < 6))) ∧ r = some (.int (eI 1)) ∧ w' = w) ∨ (False ∧ r = some (.int (eI 2)) ∧ w' = w)) (e_px0) := by
  refine g_ofV rfl (Nat.le_of_ble_eq_true rfl) w_cw_L_scale ?_
  intro P9 E9 S9 M9 A9 B9 T9 C9 F hnm
  refine g_aload F dL_scale_0 rfl ?_
  refine g_aload_n F dL_scale_2 rfl ?_
  refine g_iload_n F dL_scale_3 rfl ?_
  refine g_iload_n F dL_scale_4 rfl ?_
  refine g_iload_n F dL_scale_5 rfl ?_
  refine g_callVV F u_X3_scale (by rfl) (c_X3_scale hC hi hb ht) hC.1 rfl rfl w_ml_RL_51 dL_scale_6 (by rfl) (Nat.le_of_ble_eq_true rfl) (by decide) (by omega) (fun E8 w8 n8 h8 hn8 => ?_) (fun r7 w7 n7 h7 hn7 => ?_)
  · obtain ⟨⟨rfl, hc8⟩ | ⟨rfl, hc8⟩, rfl⟩ := h8
    · refine ⟨[], ⟨0, 13, 16, 28⟩, [], "java/lang/IndexOutOfBoundsException", rfl, (fun z9 hz9 => by cases hz9), by decide, by decide, w_cl_RL_28, w_ca_java_lang_IndexOutOfBoundsException_java_lang_IndexOutOfBoundsException, fun q9 => ?_⟩
      refine g_astore F dL_scale_16 (by decide) ?_
      refine g_iconst F dL_scale_18 ?_
      refine g_iret F rfl (by omega) ?_ dL_scale_19
      exact Or.inr (Or.inl ⟨hc8, rfl, rfl⟩)
    · exact hc8.elim
  obtain ⟨hk7, rfl, rfl, hC7, hF7⟩ := h7
  have hO2 : w7 o = some (.inl (4, [.long (eJ z), sv])) := (hF7 o (Or.inr hxo)).trans hO
  refine g_i2l F dL_scale_9 ?_
  refine g_setN (ci := 4) (fi := 0) (q := (RX4, TX4, 2)) F hO2 rfl (by decide) w_fn_RL_13 rfl (by rfl) (by rfl) (Nat.le_of_ble_eq_true rfl) dL_scale_10 ?_
  refine g_goto F 20 dL_scale_13 (by decide) ?_
  refine g_iconst F dL_scale_20 ?_
  refine g_iret F rfl (by omega) ?_ dL_scale_21
  exact Or.inl ⟨hk7, rfl, hC7.kb (Nat.le_refl _) (by intro j8 hj8; exact e_up_n (by omega)), by intro q8 h1 h2 h3; rw [e_up_n h3]; exact hF7 q8 h2, e_up_s⟩
set_option maxHeartbeats 4000000 in
set_option maxRecDepth 100000 in
theorem w_handOn {K : e_K} {l : Launch} {w : e_W} {n : Nat} {x wh : Nat} {kn : Int} {D : Nat → SD} (hC : CW w x wh kn D) {i : Int} (hi : e_r i) {u : Int} (hu : e_r u) {t : Int} (ht : e_r t) {g : Int} (hg : e_r g) {a : Int} (ha : e_r a) {b : Int} (hb : e_r b) {z : Int} {sv : Value} {o : Nat} (hO : w o = some (.inl (4, [.long (eJ z), sv]))) (hxo : x + 27 ≤ o) : g_Met K l yL_handOn (Cond.codeWith yL_handOn cL_handOn 9 (some .int) [(0, 19, 22, 28), (0, 19, 26, 19)] :: e_TB) (8) (4) [.ref x, .int (eI i), .int (eI u), .int (eI t), .int (eI g), .int (eI a), .int (eI b), .ref o] w n (fun r w' n' => ((((0 ≤ i ∧ i < 6) ∧ (0 ≤ t ∧ t < 6)) ∧ (1 ≤ u ∧ u ≤ fl wh) ∧ (0 ≤ g ∧ g ≤ 3)) ∧ r = some (.int (eI 0)) ∧ CW w' x wh (kn) ((haQ wh D i.toNat u t.toNat g a b).2) ∧ LF w w' x o n ∧ w' o = some (.inl (4, [.long (eJ (LV ((haQ wh D i.toNat u t.toNat g a b).1))), sv]))) ∨ ((¬ ((0 ≤ i ∧ i < 6) ∧ (0 ≤ t ∧ t < 6))) ∧ r = some (.int (eI 1)) ∧ w' = w) ∨ ((((0 ≤ i ∧ i < 6) ∧ (0 ≤ t ∧ t < 6)) ∧ ¬ ((1 ≤ u ∧ u ≤ fl wh) ∧ (0 ≤ g ∧ g ≤ 3))) ∧ r = some (.int (eI 2)) ∧ w' = w)) (e_px0) := by
  refine g_ofV rfl (Nat.le_of_ble_eq_true rfl) w_cw_L_handOn ?_
  intro P9 E9 S9 M9 A9 B9 T9 C9 F hnm
  refine g_aload F dL_handOn_0 rfl ?_
  refine g_aload_n F dL_handOn_2 rfl ?_
  refine g_iload_n F dL_handOn_3 rfl ?_
  refine g_iload_n F dL_handOn_4 rfl ?_
  refine g_iload_n F dL_handOn_5 rfl ?_
  refine g_iload F dL_handOn_6 rfl ?_
  refine g_iload F dL_handOn_8 rfl ?_
  refine g_iload F dL_handOn_10 rfl ?_
  refine g_callVV F u_X3_handOn (by rfl) (c_X3_handOn hC hi hu ht hg ha hb) hC.1 rfl rfl w_ml_RL_54 dL_handOn_12 (by rfl) (Nat.le_of_ble_eq_true rfl) (by decide) (by omega) (fun E8 w8 n8 h8 hn8 => ?_) (fun r7 w7 n7 h7 hn7 => ?_)
  · obtain ⟨⟨rfl, hc8⟩ | ⟨rfl, hc8⟩, rfl⟩ := h8
    · refine ⟨[], ⟨0, 19, 22, 28⟩, [⟨0, 19, 26, 19⟩], "java/lang/IndexOutOfBoundsException", rfl, (fun z9 hz9 => by cases hz9), by decide, by decide, w_cl_RL_28, w_ca_java_lang_IndexOutOfBoundsException_java_lang_IndexOutOfBoundsException, fun q9 => ?_⟩
      refine g_astore F dL_handOn_22 (by decide) ?_
      refine g_iconst F dL_handOn_24 ?_
      refine g_iret F rfl (by omega) ?_ dL_handOn_25
      exact Or.inr (Or.inl ⟨hc8, rfl, rfl⟩)
    · refine ⟨[⟨0, 19, 22, 28⟩], ⟨0, 19, 26, 19⟩, [], "java/lang/IllegalArgumentException", rfl, (fun z9 hz9 => by rw [List.mem_singleton.mp hz9]; exact Or.inr ⟨by decide, _, w_cl_RL_28, F.2.2.2.2.2.2.2.1.2⟩), by decide, by decide, w_cl_RL_19, w_ca_java_lang_IllegalArgumentException_java_lang_IllegalArgumentException, fun q9 => ?_⟩
      refine g_astore F dL_handOn_26 (by decide) ?_
      refine g_iconst F dL_handOn_28 ?_
      refine g_iret F rfl (by omega) ?_ dL_handOn_29
      exact Or.inr (Or.inr ⟨hc8, rfl, rfl⟩)
  obtain ⟨hk7, rfl, rfl, hC7, hF7⟩ := h7
  have hO2 : w7 o = some (.inl (4, [.long (eJ z), sv])) := (hF7 o (Or.inr hxo)).trans hO
  refine g_i2l F dL_handOn_15 ?_
  refine g_setN (ci := 4) (fi := 0) (q := (RX4, TX4, 2)) F hO2 rfl (by decide) w_fn_RL_13 rfl (by rfl) (by rfl) (Nat.le_of_ble_eq_true rfl) dL_handOn_16 ?_
  refine g_goto F 30 dL_handOn_19 (by decide) ?_
  refine g_iconst F dL_handOn_30 ?_
  refine g_iret F rfl (by omega) ?_ dL_handOn_31
  exact Or.inl ⟨hk7, rfl, hC7.kb (Nat.le_refl _) (by intro j8 hj8; exact e_up_n (by omega)), by intro q8 h1 h2 h3; rw [e_up_n h3]; exact hF7 q8 h2, e_up_s⟩
set_option maxHeartbeats 4000000 in
set_option maxRecDepth 100000 in
theorem w_lose {K : e_K} {l : Launch} {w : e_W} {n : Nat} {x wh : Nat} {kn : Int} {D : Nat → SD} (hC : CW w x wh kn D) {i : Int} (hi : e_r i) {h : Int} (hh : e_r h) {z : Int} {sv : Value} {o : Nat} (hO : w o = some (.inl (4, [.long (eJ z), sv]))) (hxo : x + 27 ≤ o) : g_Met K l yL_lose (Cond.codeWith yL_lose cL_lose 5 (some .int) [(0, 11, 14, 28)] :: e_TB) (8) (2) [.ref x, .int (eI i), .int (eI h), .ref o] w n (fun r w' n' => (((0 ≤ i ∧ i < 6) ∧ (1 ≤ h ∧ h ≤ ho wh)) ∧ r = some (.int (eI 0)) ∧ CW w' x wh (kn) ((lsQ D i.toNat h).2) ∧ LF w w' x o n ∧ w' o = some (.inl (4, [.long (eJ (LV ((lsQ D i.toNat h).1))), sv]))) ∨ ((¬ ((0 ≤ i ∧ i < 6) ∧ (1 ≤ h ∧ h ≤ ho wh))) ∧ r = some (.int (eI 1)) ∧ w' = w) ∨ (False ∧ r = some (.int (eI 2)) ∧ w' = w)) (e_px0) := by
  refine g_ofV rfl (Nat.le_of_ble_eq_true rfl) w_cw_L_lose ?_
  intro P9 E9 S9 M9 A9 B9 T9 C9 F hnm
  refine g_aload_n F dL_lose_0 rfl ?_
  refine g_aload_n F dL_lose_1 rfl ?_
  refine g_iload_n F dL_lose_2 rfl ?_
  refine g_iload_n F dL_lose_3 rfl ?_
  refine g_callVV F u_X3_lose (by rfl) (c_X3_lose hC hi hh) hC.1 rfl rfl w_ml_RL_57 dL_lose_4 (by rfl) (Nat.le_of_ble_eq_true rfl) (by decide) (by omega) (fun E8 w8 n8 h8 hn8 => ?_) (fun r7 w7 n7 h7 hn7 => ?_)
  · obtain ⟨⟨rfl, hc8⟩ | ⟨rfl, hc8⟩, rfl⟩ := h8
    · refine ⟨[], ⟨0, 11, 14, 28⟩, [], "java/lang/IndexOutOfBoundsException", rfl, (fun z9 hz9 => by cases hz9), by decide, by decide, w_cl_RL_28, w_ca_java_lang_IndexOutOfBoundsException_java_lang_IndexOutOfBoundsException, fun q9 => ?_⟩
      refine g_astore F dL_lose_14 (by decide) ?_
      refine g_iconst F dL_lose_16 ?_
      refine g_iret F rfl (by omega) ?_ dL_lose_17
      exact Or.inr (Or.inl ⟨hc8, rfl, rfl⟩)
    · exact hc8.elim
  obtain ⟨hk7, rfl, rfl, hC7, hF7⟩ := h7
  have hO2 : w7 o = some (.inl (4, [.long (eJ z), sv])) := (hF7 o (Or.inr hxo)).trans hO
  refine g_i2l F dL_lose_7 ?_
  refine g_setN (ci := 4) (fi := 0) (q := (RX4, TX4, 2)) F hO2 rfl (by decide) w_fn_RL_13 rfl (by rfl) (by rfl) (Nat.le_of_ble_eq_true rfl) dL_lose_8 ?_
  refine g_goto F 18 dL_lose_11 (by decide) ?_
  refine g_iconst F dL_lose_18 ?_
  refine g_iret F rfl (by omega) ?_ dL_lose_19
  exact Or.inl ⟨hk7, rfl, hC7.kb (Nat.le_refl _) (by intro j8 hj8; exact e_up_n (by omega)), by intro q8 h1 h2 h3; rw [e_up_n h3]; exact hF7 q8 h2, e_up_s⟩
set_option maxHeartbeats 4000000 in
set_option maxRecDepth 100000 in
theorem w_give {K : e_K} {l : Launch} {w : e_W} {n : Nat} {x wh : Nat} {kn : Int} {D : Nat → SD} (hC : CW w x wh kn D) {i : Int} (hi : e_r i) {h : Int} (hh : e_r h) {v : Int} (hv : e_r v) {z : Int} {sv : Value} {o : Nat} (hO : w o = some (.inl (4, [.long (eJ z), sv]))) (hxo : x + 27 ≤ o) : g_Met K l yL_give (Cond.codeWith yL_give cL_give 6 (some .int) [(0, 13, 16, 28)] :: e_TB) (8) (2) [.ref x, .int (eI i), .int (eI h), .int (eI v), .ref o] w n (fun r w' n' => (((0 ≤ i ∧ i < 6) ∧ (1 ≤ h ∧ h ≤ ho wh)) ∧ r = some (.int (eI 0)) ∧ CW w' x wh (kn) ((giQ wh D i.toNat h v).2) ∧ LF w w' x o n ∧ w' o = some (.inl (4, [.long (eJ (LV ((giQ wh D i.toNat h v).1))), sv]))) ∨ ((¬ ((0 ≤ i ∧ i < 6) ∧ (1 ≤ h ∧ h ≤ ho wh))) ∧ r = some (.int (eI 1)) ∧ w' = w) ∨ (False ∧ r = some (.int (eI 2)) ∧ w' = w)) (e_px0) := by
  refine g_ofV rfl (Nat.le_of_ble_eq_true rfl) w_cw_L_give ?_
  intro P9 E9 S9 M9 A9 B9 T9 C9 F hnm
  refine g_aload F dL_give_0 rfl ?_
  refine g_aload_n F dL_give_2 rfl ?_
  refine g_iload_n F dL_give_3 rfl ?_
  refine g_iload_n F dL_give_4 rfl ?_
  refine g_iload_n F dL_give_5 rfl ?_
  refine g_callVV F u_X3_give (by rfl) (c_X3_give hC hi hh hv) hC.1 rfl rfl w_ml_RL_60 dL_give_6 (by rfl) (Nat.le_of_ble_eq_true rfl) (by decide) (by omega) (fun E8 w8 n8 h8 hn8 => ?_) (fun r7 w7 n7 h7 hn7 => ?_)
  · obtain ⟨⟨rfl, hc8⟩ | ⟨rfl, hc8⟩, rfl⟩ := h8
    · refine ⟨[], ⟨0, 13, 16, 28⟩, [], "java/lang/IndexOutOfBoundsException", rfl, (fun z9 hz9 => by cases hz9), by decide, by decide, w_cl_RL_28, w_ca_java_lang_IndexOutOfBoundsException_java_lang_IndexOutOfBoundsException, fun q9 => ?_⟩
      refine g_astore F dL_give_16 (by decide) ?_
      refine g_iconst F dL_give_18 ?_
      refine g_iret F rfl (by omega) ?_ dL_give_19
      exact Or.inr (Or.inl ⟨hc8, rfl, rfl⟩)
    · exact hc8.elim
  obtain ⟨hk7, rfl, rfl, hC7, hF7⟩ := h7
  have hO2 : w7 o = some (.inl (4, [.long (eJ z), sv])) := (hF7 o (Or.inr hxo)).trans hO
  refine g_i2l F dL_give_9 ?_
  refine g_setN (ci := 4) (fi := 0) (q := (RX4, TX4, 2)) F hO2 rfl (by decide) w_fn_RL_13 rfl (by rfl) (by rfl) (Nat.le_of_ble_eq_true rfl) dL_give_10 ?_
  refine g_goto F 20 dL_give_13 (by decide) ?_
  refine g_iconst F dL_give_20 ?_
  refine g_iret F rfl (by omega) ?_ dL_give_21
  exact Or.inl ⟨hk7, rfl, hC7.kb (Nat.le_refl _) (by intro j8 hj8; exact e_up_n (by omega)), by intro q8 h1 h2 h3; rw [e_up_n h3]; exact hF7 q8 h2, e_up_s⟩
set_option maxHeartbeats 4000000 in
set_option maxRecDepth 100000 in
theorem w_regain {K : e_K} {l : Launch} {w : e_W} {n : Nat} {x wh : Nat} {kn : Int} {D : Nat → SD} (hC : CW w x wh kn D) {i : Int} (hi : e_r i) {h : Int} (hh : e_r h) {a : Int} (ha : e_r a) {z : Int} {sv : Value} {o : Nat} (hO : w o = some (.inl (4, [.long (eJ z), sv]))) (hxo : x + 27 ≤ o) : g_Met K l yL_regain (Cond.codeWith yL_regain cL_regain 6 (some .int) [(0, 13, 16, 28), (0, 13, 20, 19)] :: e_TB) (8) (3) [.ref x, .int (eI i), .int (eI h), .int (eI a), .ref o] w n (fun r w' n' => (((0 ≤ i ∧ i < 6) ∧ (1 ≤ h ∧ h ≤ ho wh) ∧ (1 ≤ a ∧ a ≤ fl wh)) ∧ r = some (.int (eI 0)) ∧ CW w' x wh (kn) ((rgQ wh D i.toNat h a).2) ∧ LF w w' x o n ∧ w' o = some (.inl (4, [.long (eJ (LV ((rgQ wh D i.toNat h a).1))), sv]))) ∨ ((¬ ((0 ≤ i ∧ i < 6) ∧ (1 ≤ h ∧ h ≤ ho wh))) ∧ r = some (.int (eI 1)) ∧ w' = w) ∨ ((((0 ≤ i ∧ i < 6) ∧ (1 ≤ h ∧ h ≤ ho wh)) ∧ ¬ (1 ≤ a ∧ a ≤ fl wh)) ∧ r = some (.int (eI 2)) ∧ w' = w)) (e_px0) := by
  refine g_ofV rfl (Nat.le_of_ble_eq_true rfl) w_cw_L_regain ?_
  intro P9 E9 S9 M9 A9 B9 T9 C9 F hnm
  refine g_aload F dL_regain_0 rfl ?_
  refine g_aload_n F dL_regain_2 rfl ?_
  refine g_iload_n F dL_regain_3 rfl ?_
  refine g_iload_n F dL_regain_4 rfl ?_
  refine g_iload_n F dL_regain_5 rfl ?_
  refine g_callVV F u_X3_regain (by rfl) (c_X3_regain hC hi hh ha) hC.1 rfl rfl w_ml_RL_63 dL_regain_6 (by rfl) (Nat.le_of_ble_eq_true rfl) (by decide) (by omega) (fun E8 w8 n8 h8 hn8 => ?_) (fun r7 w7 n7 h7 hn7 => ?_)
  · obtain ⟨⟨rfl, hc8⟩ | ⟨rfl, hc8⟩, rfl⟩ := h8
    · refine ⟨[], ⟨0, 13, 16, 28⟩, [⟨0, 13, 20, 19⟩], "java/lang/IndexOutOfBoundsException", rfl, (fun z9 hz9 => by cases hz9), by decide, by decide, w_cl_RL_28, w_ca_java_lang_IndexOutOfBoundsException_java_lang_IndexOutOfBoundsException, fun q9 => ?_⟩
      refine g_astore F dL_regain_16 (by decide) ?_
      refine g_iconst F dL_regain_18 ?_
      refine g_iret F rfl (by omega) ?_ dL_regain_19
      exact Or.inr (Or.inl ⟨hc8, rfl, rfl⟩)
    · refine ⟨[⟨0, 13, 16, 28⟩], ⟨0, 13, 20, 19⟩, [], "java/lang/IllegalArgumentException", rfl, (fun z9 hz9 => by rw [List.mem_singleton.mp hz9]; exact Or.inr ⟨by decide, _, w_cl_RL_28, F.2.2.2.2.2.2.2.1.2⟩), by decide, by decide, w_cl_RL_19, w_ca_java_lang_IllegalArgumentException_java_lang_IllegalArgumentException, fun q9 => ?_⟩
      refine g_astore F dL_regain_20 (by decide) ?_
      refine g_iconst F dL_regain_22 ?_
      refine g_iret F rfl (by omega) ?_ dL_regain_23
      exact Or.inr (Or.inr ⟨hc8, rfl, rfl⟩)
  obtain ⟨hk7, rfl, rfl, hC7, hF7⟩ := h7
  have hO2 : w7 o = some (.inl (4, [.long (eJ z), sv])) := (hF7 o (Or.inr hxo)).trans hO
  refine g_i2l F dL_regain_9 ?_
  refine g_setN (ci := 4) (fi := 0) (q := (RX4, TX4, 2)) F hO2 rfl (by decide) w_fn_RL_13 rfl (by rfl) (by rfl) (Nat.le_of_ble_eq_true rfl) dL_regain_10 ?_
  refine g_goto F 24 dL_regain_13 (by decide) ?_
  refine g_iconst F dL_regain_24 ?_
  refine g_iret F rfl (by omega) ?_ dL_regain_25
  exact Or.inl ⟨hk7, rfl, hC7.kb (Nat.le_refl _) (by intro j8 hj8; exact e_up_n (by omega)), by intro q8 h1 h2 h3; rw [e_up_n h3]; exact hF7 q8 h2, e_up_s⟩
set_option maxHeartbeats 4000000 in
set_option maxRecDepth 100000 in
theorem w_mend {K : e_K} {l : Launch} {w : e_W} {n : Nat} {x wh : Nat} {kn : Int} {D : Nat → SD} (hC : CW w x wh kn D) {i : Int} (hi : e_r i) {z : Int} {sv : Value} {o : Nat} (hO : w o = some (.inl (4, [.long (eJ z), sv]))) (hxo : x + 27 ≤ o) : g_Met K l yL_mend (Cond.codeWith yL_mend cL_mend 4 (some .int) [(0, 10, 13, 28)] :: e_TB) (8) (1) [.ref x, .int (eI i), .ref o] w n (fun r w' n' => (((0 ≤ i ∧ i < 6)) ∧ r = some (.int (eI 0)) ∧ CW w' x wh (kn) ((meQ wh D i.toNat).2) ∧ LF w w' x o n ∧ w' o = some (.inl (4, [.long (eJ (LV ((meQ wh D i.toNat).1))), sv]))) ∨ ((¬ (0 ≤ i ∧ i < 6)) ∧ r = some (.int (eI 1)) ∧ w' = w) ∨ (False ∧ r = some (.int (eI 2)) ∧ w' = w)) (e_px0) := by
  refine g_ofV rfl (Nat.le_of_ble_eq_true rfl) w_cw_L_mend ?_
  intro P9 E9 S9 M9 A9 B9 T9 C9 F hnm
  refine g_aload_n F dL_mend_0 rfl ?_
  refine g_aload_n F dL_mend_1 rfl ?_
  refine g_iload_n F dL_mend_2 rfl ?_
  refine g_callVV F u_X3_mend (by rfl) (c_X3_mend hC hi) hC.1 rfl rfl w_ml_RL_66 dL_mend_3 (by rfl) (Nat.le_of_ble_eq_true rfl) (by decide) (by omega) (fun E8 w8 n8 h8 hn8 => ?_) (fun r7 w7 n7 h7 hn7 => ?_)
  · obtain ⟨⟨rfl, hc8⟩ | ⟨rfl, hc8⟩, rfl⟩ := h8
    · refine ⟨[], ⟨0, 10, 13, 28⟩, [], "java/lang/IndexOutOfBoundsException", rfl, (fun z9 hz9 => by cases hz9), by decide, by decide, w_cl_RL_28, w_ca_java_lang_IndexOutOfBoundsException_java_lang_IndexOutOfBoundsException, fun q9 => ?_⟩
      refine g_astore_n F dL_mend_13 (by decide) ?_
      refine g_iconst F dL_mend_14 ?_
      refine g_iret F rfl (by omega) ?_ dL_mend_15
      exact Or.inr (Or.inl ⟨hc8, rfl, rfl⟩)
    · exact hc8.elim
  obtain ⟨hk7, rfl, rfl, hC7, hF7⟩ := h7
  have hO2 : w7 o = some (.inl (4, [.long (eJ z), sv])) := (hF7 o (Or.inr hxo)).trans hO
  refine g_i2l F dL_mend_6 ?_
  refine g_setN (ci := 4) (fi := 0) (q := (RX4, TX4, 2)) F hO2 rfl (by decide) w_fn_RL_13 rfl (by rfl) (by rfl) (Nat.le_of_ble_eq_true rfl) dL_mend_7 ?_
  refine g_goto F 16 dL_mend_10 (by decide) ?_
  refine g_iconst F dL_mend_16 ?_
  refine g_iret F rfl (by omega) ?_ dL_mend_17
  exact Or.inl ⟨hk7, rfl, hC7.kb (Nat.le_refl _) (by intro j8 hj8; exact e_up_n (by omega)), by intro q8 h1 h2 h3; rw [e_up_n h3]; exact hF7 q8 h2, e_up_s⟩
set_option maxHeartbeats 4000000 in
set_option maxRecDepth 100000 in
theorem w_copy {K : e_K} {l : Launch} {w : e_W} {n : Nat} {x wh : Nat} {kn : Int} {D : Nat → SD} (hC : CW w x wh kn D) {i : Int} (hi : e_r i) {j : Int} (hj : e_r j) {z : Int} {sv : Value} {o : Nat} (hO : w o = some (.inl (4, [.long (eJ z), sv]))) (hxo : x + 27 ≤ o) : g_Met K l yL_copy (Cond.codeWith yL_copy cL_copy 5 (some .int) [(0, 11, 14, 28)] :: e_TB) (8) (2) [.ref x, .int (eI i), .int (eI j), .ref o] w n (fun r w' n' => (((0 ≤ i ∧ i < 6) ∧ (0 ≤ j ∧ j < 6)) ∧ r = some (.int (eI 0)) ∧ CW w' x wh (kn) (upD D j.toNat (D i.toNat)) ∧ LF w w' x o n ∧ w' o = some (.inl (4, [.long (eJ (LV (bc (st7 (D i.toNat).A)))), sv]))) ∨ ((¬ ((0 ≤ i ∧ i < 6) ∧ (0 ≤ j ∧ j < 6))) ∧ r = some (.int (eI 1)) ∧ w' = w) ∨ (False ∧ r = some (.int (eI 2)) ∧ w' = w)) (e_px0) := by
  refine g_ofV rfl (Nat.le_of_ble_eq_true rfl) w_cw_L_copy ?_
  intro P9 E9 S9 M9 A9 B9 T9 C9 F hnm
  refine g_aload_n F dL_copy_0 rfl ?_
  refine g_aload_n F dL_copy_1 rfl ?_
  refine g_iload_n F dL_copy_2 rfl ?_
  refine g_iload_n F dL_copy_3 rfl ?_
  refine g_callVV F u_X3_copy (by rfl) (c_X3_copy hC hi hj) hC.1 rfl rfl w_ml_RL_69 dL_copy_4 (by rfl) (Nat.le_of_ble_eq_true rfl) (by decide) (by omega) (fun E8 w8 n8 h8 hn8 => ?_) (fun r7 w7 n7 h7 hn7 => ?_)
  · obtain ⟨⟨rfl, hc8⟩ | ⟨rfl, hc8⟩, rfl⟩ := h8
    · refine ⟨[], ⟨0, 11, 14, 28⟩, [], "java/lang/IndexOutOfBoundsException", rfl, (fun z9 hz9 => by cases hz9), by decide, by decide, w_cl_RL_28, w_ca_java_lang_IndexOutOfBoundsException_java_lang_IndexOutOfBoundsException, fun q9 => ?_⟩
      refine g_astore F dL_copy_14 (by decide) ?_
      refine g_iconst F dL_copy_16 ?_
      refine g_iret F rfl (by omega) ?_ dL_copy_17
      exact Or.inr (Or.inl ⟨hc8, rfl, rfl⟩)
    · exact hc8.elim
  obtain ⟨hk7, rfl, rfl, hC7, hF7⟩ := h7
  have hO2 : w7 o = some (.inl (4, [.long (eJ z), sv])) := (hF7 o (Or.inr hxo)).trans hO
  refine g_i2l F dL_copy_7 ?_
  refine g_setN (ci := 4) (fi := 0) (q := (RX4, TX4, 2)) F hO2 rfl (by decide) w_fn_RL_13 rfl (by rfl) (by rfl) (Nat.le_of_ble_eq_true rfl) dL_copy_8 ?_
  refine g_goto F 18 dL_copy_11 (by decide) ?_
  refine g_iconst F dL_copy_18 ?_
  refine g_iret F rfl (by omega) ?_ dL_copy_19
  exact Or.inl ⟨hk7, rfl, hC7.kb (Nat.le_refl _) (by intro j8 hj8; exact e_up_n (by omega)), by intro q8 h1 h2 h3; rw [e_up_n h3]; exact hF7 q8 h2, e_up_s⟩
set_option maxHeartbeats 4000000 in
set_option maxRecDepth 100000 in
theorem w_drop {K : e_K} {l : Launch} {w : e_W} {n : Nat} {x wh : Nat} {kn : Int} {D : Nat → SD} (hC : CW w x wh kn D) {i : Int} (hi : e_r i) {z : Int} {sv : Value} {o : Nat} (hO : w o = some (.inl (4, [.long (eJ z), sv]))) (hxo : x + 27 ≤ o) : g_Met K l yL_drop (Cond.codeWith yL_drop cL_drop 4 (some .int) [(0, 10, 13, 28)] :: e_TB) (8) (1) [.ref x, .int (eI i), .ref o] w n (fun r w' n' => (((0 ≤ i ∧ i < 6)) ∧ r = some (.int (eI 0)) ∧ CW w' x wh (kn) (upD D i.toNat SD0) ∧ LF w w' x o n ∧ w' o = some (.inl (4, [.long (eJ (LV (bc (st7 (D i.toNat).A)))), sv]))) ∨ ((¬ (0 ≤ i ∧ i < 6)) ∧ r = some (.int (eI 1)) ∧ w' = w) ∨ (False ∧ r = some (.int (eI 2)) ∧ w' = w)) (e_px0) := by
  refine g_ofV rfl (Nat.le_of_ble_eq_true rfl) w_cw_L_drop ?_
  intro P9 E9 S9 M9 A9 B9 T9 C9 F hnm
  refine g_aload_n F dL_drop_0 rfl ?_
  refine g_aload_n F dL_drop_1 rfl ?_
  refine g_iload_n F dL_drop_2 rfl ?_
  refine g_callVV F u_X3_drop (by rfl) (c_X3_drop hC hi) hC.1 rfl rfl w_ml_RL_72 dL_drop_3 (by rfl) (Nat.le_of_ble_eq_true rfl) (by decide) (by omega) (fun E8 w8 n8 h8 hn8 => ?_) (fun r7 w7 n7 h7 hn7 => ?_)
  · obtain ⟨⟨rfl, hc8⟩ | ⟨rfl, hc8⟩, rfl⟩ := h8
    · refine ⟨[], ⟨0, 10, 13, 28⟩, [], "java/lang/IndexOutOfBoundsException", rfl, (fun z9 hz9 => by cases hz9), by decide, by decide, w_cl_RL_28, w_ca_java_lang_IndexOutOfBoundsException_java_lang_IndexOutOfBoundsException, fun q9 => ?_⟩
      refine g_astore_n F dL_drop_13 (by decide) ?_
      refine g_iconst F dL_drop_14 ?_
      refine g_iret F rfl (by omega) ?_ dL_drop_15
      exact Or.inr (Or.inl ⟨hc8, rfl, rfl⟩)
    · exact hc8.elim
  obtain ⟨hk7, rfl, rfl, hC7, hF7⟩ := h7
  have hO2 : w7 o = some (.inl (4, [.long (eJ z), sv])) := (hF7 o (Or.inr hxo)).trans hO
  refine g_i2l F dL_drop_6 ?_
  refine g_setN (ci := 4) (fi := 0) (q := (RX4, TX4, 2)) F hO2 rfl (by decide) w_fn_RL_13 rfl (by rfl) (by rfl) (Nat.le_of_ble_eq_true rfl) dL_drop_7 ?_
  refine g_goto F 16 dL_drop_10 (by decide) ?_
  refine g_iconst F dL_drop_16 ?_
  refine g_iret F rfl (by omega) ?_ dL_drop_17
  exact Or.inl ⟨hk7, rfl, hC7.kb (Nat.le_refl _) (by intro j8 hj8; exact e_up_n (by omega)), by intro q8 h1 h2 h3; rw [e_up_n h3]; exact hF7 q8 h2, e_up_s⟩
set_option maxHeartbeats 4000000 in
set_option maxRecDepth 100000 in
theorem w_share {K : e_K} {l : Launch} {w : e_W} {n : Nat} {x wh : Nat} {kn : Int} {D : Nat → SD} (hC : CW w x wh kn D) {i : Int} (hi : e_r i) {h : Int} (hh : e_r h) {z : Int} {sv : Value} {o : Nat} (hO : w o = some (.inl (4, [.long (eJ z), sv]))) (hxo : x + 27 ≤ o) : g_Met K l yL_share (Cond.codeWith yL_share cL_share 5 (some .int) [(0, 11, 14, 28)] :: e_TB) (8) (2) [.ref x, .int (eI i), .int (eI h), .ref o] w n (fun r w' n' => (((0 ≤ i ∧ i < 6) ∧ (1 ≤ h ∧ h ≤ ho wh)) ∧ r = some (.int (eI 0)) ∧ CW w' x wh (kn) (D) ∧ LF w w' x o n ∧ w' o = some (.inl (4, [.long (eJ (LV ((D i.toNat).A h))), sv]))) ∨ ((¬ ((0 ≤ i ∧ i < 6) ∧ (1 ≤ h ∧ h ≤ ho wh))) ∧ r = some (.int (eI 1)) ∧ w' = w) ∨ (False ∧ r = some (.int (eI 2)) ∧ w' = w)) (e_px0) := by
  refine g_ofV rfl (Nat.le_of_ble_eq_true rfl) w_cw_L_share ?_
  intro P9 E9 S9 M9 A9 B9 T9 C9 F hnm
  refine g_aload_n F dL_share_0 rfl ?_
  refine g_aload_n F dL_share_1 rfl ?_
  refine g_iload_n F dL_share_2 rfl ?_
  refine g_iload_n F dL_share_3 rfl ?_
  refine g_callVV F u_X3_share (by rfl) (c_X3_share hC hi hh) hC.1 rfl rfl w_ml_RL_75 dL_share_4 (by rfl) (Nat.le_of_ble_eq_true rfl) (by decide) (by omega) (fun E8 w8 n8 h8 hn8 => ?_) (fun r7 w7 n7 h7 hn7 => ?_)
  · obtain ⟨⟨rfl, hc8⟩ | ⟨rfl, hc8⟩, rfl⟩ := h8
    · refine ⟨[], ⟨0, 11, 14, 28⟩, [], "java/lang/IndexOutOfBoundsException", rfl, (fun z9 hz9 => by cases hz9), by decide, by decide, w_cl_RL_28, w_ca_java_lang_IndexOutOfBoundsException_java_lang_IndexOutOfBoundsException, fun q9 => ?_⟩
      refine g_astore F dL_share_14 (by decide) ?_
      refine g_iconst F dL_share_16 ?_
      refine g_iret F rfl (by omega) ?_ dL_share_17
      exact Or.inr (Or.inl ⟨hc8, rfl, rfl⟩)
    · exact hc8.elim
  obtain ⟨hk7, rfl, rfl, hC7, hF7⟩ := h7
  have hO2 : w7 o = some (.inl (4, [.long (eJ z), sv])) := (hF7 o (Or.inr hxo)).trans hO
  refine g_i2l F dL_share_7 ?_
  refine g_setN (ci := 4) (fi := 0) (q := (RX4, TX4, 2)) F hO2 rfl (by decide) w_fn_RL_13 rfl (by rfl) (by rfl) (Nat.le_of_ble_eq_true rfl) dL_share_8 ?_
  refine g_goto F 18 dL_share_11 (by decide) ?_
  refine g_iconst F dL_share_18 ?_
  refine g_iret F rfl (by omega) ?_ dL_share_19
  exact Or.inl ⟨hk7, rfl, hC7.kb (Nat.le_refl _) (by intro j8 hj8; exact e_up_n (by omega)), by intro q8 h1 h2 h3; rw [e_up_n h3]; exact hF7 q8 h2, e_up_s⟩
set_option maxHeartbeats 4000000 in
set_option maxRecDepth 100000 in
theorem w_ofDeal {K : e_K} {l : Launch} {w : e_W} {n : Nat} {x wh : Nat} {kn : Int} {D : Nat → SD} (hC : CW w x wh kn D) {i9 : Int} (hi9 : e_r i9) {c9 : Int} (hc9 : e_r c9) {z : Int} {sv : Value} {o : Nat} (hO : w o = some (.inl (4, [.long (eJ z), sv]))) (hxo : x + 27 ≤ o) : g_Met K l yL_ofDeal (Cond.codeWith yL_ofDeal cL_ofDeal 5 (some .int) [(0, 11, 14, 28), (0, 11, 18, 19)] :: e_TB) (8) (2) [.ref x, .int (eI i9), .int (eI c9), .ref o] w n (fun r w' n' => (((0 ≤ i9 ∧ i9 < 6) ∧ (0 ≤ c9 ∧ c9 ≤ 5)) ∧ r = some (.int (eI 0)) ∧ CW w' x wh (kn) (D) ∧ LF w w' x o n ∧ w' o = some (.inl (4, [.long (eJ (LV (odV wh (D i9.toNat) c9))), sv]))) ∨ ((¬ (0 ≤ i9 ∧ i9 < 6)) ∧ r = some (.int (eI 1)) ∧ w' = w) ∨ (((0 ≤ i9 ∧ i9 < 6) ∧ ¬ (0 ≤ c9 ∧ c9 ≤ 5)) ∧ r = some (.int (eI 2)) ∧ w' = w)) (e_px0) := by
  refine g_ofV rfl (Nat.le_of_ble_eq_true rfl) w_cw_L_ofDeal ?_
  intro P9 E9 S9 M9 A9 B9 T9 C9 F hnm
  refine g_aload_n F dL_ofDeal_0 rfl ?_
  refine g_aload_n F dL_ofDeal_1 rfl ?_
  refine g_iload_n F dL_ofDeal_2 rfl ?_
  refine g_iload_n F dL_ofDeal_3 rfl ?_
  refine g_callVV F u_X3_ofDeal (by rfl) (c_X3_ofDeal hC hi9 hc9) hC.1 rfl rfl w_ml_RL_78 dL_ofDeal_4 (by rfl) (Nat.le_of_ble_eq_true rfl) (by decide) (by omega) (fun E8 w8 n8 h8 hn8 => ?_) (fun r7 w7 n7 h7 hn7 => ?_)
  · obtain ⟨⟨rfl, hc8⟩ | ⟨rfl, hc8⟩, rfl⟩ := h8
    · refine ⟨[], ⟨0, 11, 14, 28⟩, [⟨0, 11, 18, 19⟩], "java/lang/IndexOutOfBoundsException", rfl, (fun z9 hz9 => by cases hz9), by decide, by decide, w_cl_RL_28, w_ca_java_lang_IndexOutOfBoundsException_java_lang_IndexOutOfBoundsException, fun q9 => ?_⟩
      refine g_astore F dL_ofDeal_14 (by decide) ?_
      refine g_iconst F dL_ofDeal_16 ?_
      refine g_iret F rfl (by omega) ?_ dL_ofDeal_17
      exact Or.inr (Or.inl ⟨hc8, rfl, rfl⟩)
    · refine ⟨[⟨0, 11, 14, 28⟩], ⟨0, 11, 18, 19⟩, [], "java/lang/IllegalArgumentException", rfl, (fun z9 hz9 => by rw [List.mem_singleton.mp hz9]; exact Or.inr ⟨by decide, _, w_cl_RL_28, F.2.2.2.2.2.2.2.1.2⟩), by decide, by decide, w_cl_RL_19, w_ca_java_lang_IllegalArgumentException_java_lang_IllegalArgumentException, fun q9 => ?_⟩
      refine g_astore F dL_ofDeal_18 (by decide) ?_
      refine g_iconst F dL_ofDeal_20 ?_
      refine g_iret F rfl (by omega) ?_ dL_ofDeal_21
      exact Or.inr (Or.inr ⟨hc8, rfl, rfl⟩)
  obtain ⟨hk7, rfl, rfl, hC7, hF7⟩ := h7
  have hO2 : w7 o = some (.inl (4, [.long (eJ z), sv])) := (hF7 o (Or.inr hxo)).trans hO
  refine g_i2l F dL_ofDeal_7 ?_
  refine g_setN (ci := 4) (fi := 0) (q := (RX4, TX4, 2)) F hO2 rfl (by decide) w_fn_RL_13 rfl (by rfl) (by rfl) (Nat.le_of_ble_eq_true rfl) dL_ofDeal_8 ?_
  refine g_goto F 22 dL_ofDeal_11 (by decide) ?_
  refine g_iconst F dL_ofDeal_22 ?_
  refine g_iret F rfl (by omega) ?_ dL_ofDeal_23
  exact Or.inl ⟨hk7, rfl, hC7.kb (Nat.le_refl _) (by intro j8 hj8; exact e_up_n (by omega)), by intro q8 h1 h2 h3; rw [e_up_n h3]; exact hF7 q8 h2, e_up_s⟩
set_option maxHeartbeats 4000000 in
set_option maxRecDepth 100000 in
theorem w_told {K : e_K} {l : Launch} {w : e_W} {n : Nat} {x wh : Nat} {kn : Int} {D : Nat → SD} (hC : CW w x wh kn D) {i : Int} (hi : e_r i) {a : Int} (ha : e_r a) {c : Int} (hc : e_r c) {z : Int} {sv : Value} {o : Nat} (hO : w o = some (.inl (4, [.long (eJ z), sv]))) (hxo : x + 27 ≤ o) : g_Met K l yL_told (Cond.codeWith yL_told cL_told 6 (some .int) [(0, 13, 16, 28), (0, 13, 20, 19)] :: e_TB) (8) (2) [.ref x, .int (eI i), .int (eI a), .int (eI c), .ref o] w n (fun r w' n' => (((0 ≤ i ∧ i < 6) ∧ (1 ≤ a ∧ a ≤ fl wh)) ∧ r = some (.int (eI 0)) ∧ CW w' x wh (kn) (D) ∧ LF w w' x o n ∧ w' o = some (.inl (4, [.long (eJ (LV (if (D i.toNat).fl = 1 ∧ thr (D i.toNat).A a then tl wh a (D i.toNat).A c else -9))), sv]))) ∨ ((¬ (0 ≤ i ∧ i < 6)) ∧ r = some (.int (eI 1)) ∧ w' = w) ∨ (((0 ≤ i ∧ i < 6) ∧ ¬ (1 ≤ a ∧ a ≤ fl wh)) ∧ r = some (.int (eI 2)) ∧ w' = w)) (e_px0) := by
  refine g_ofV rfl (Nat.le_of_ble_eq_true rfl) w_cw_L_told ?_
  intro P9 E9 S9 M9 A9 B9 T9 C9 F hnm
  refine g_aload F dL_told_0 rfl ?_
  refine g_aload_n F dL_told_2 rfl ?_
  refine g_iload_n F dL_told_3 rfl ?_
  refine g_iload_n F dL_told_4 rfl ?_
  refine g_iload_n F dL_told_5 rfl ?_
  refine g_callVV F u_X3_told (by rfl) (c_X3_told hC hi ha hc) hC.1 rfl rfl w_ml_RL_81 dL_told_6 (by rfl) (Nat.le_of_ble_eq_true rfl) (by decide) (by omega) (fun E8 w8 n8 h8 hn8 => ?_) (fun r7 w7 n7 h7 hn7 => ?_)
  · obtain ⟨⟨rfl, hc8⟩ | ⟨rfl, hc8⟩, rfl⟩ := h8
    · refine ⟨[], ⟨0, 13, 16, 28⟩, [⟨0, 13, 20, 19⟩], "java/lang/IndexOutOfBoundsException", rfl, (fun z9 hz9 => by cases hz9), by decide, by decide, w_cl_RL_28, w_ca_java_lang_IndexOutOfBoundsException_java_lang_IndexOutOfBoundsException, fun q9 => ?_⟩
      refine g_astore F dL_told_16 (by decide) ?_
      refine g_iconst F dL_told_18 ?_
      refine g_iret F rfl (by omega) ?_ dL_told_19
      exact Or.inr (Or.inl ⟨hc8, rfl, rfl⟩)
    · refine ⟨[⟨0, 13, 16, 28⟩], ⟨0, 13, 20, 19⟩, [], "java/lang/IllegalArgumentException", rfl, (fun z9 hz9 => by rw [List.mem_singleton.mp hz9]; exact Or.inr ⟨by decide, _, w_cl_RL_28, F.2.2.2.2.2.2.2.1.2⟩), by decide, by decide, w_cl_RL_19, w_ca_java_lang_IllegalArgumentException_java_lang_IllegalArgumentException, fun q9 => ?_⟩
      refine g_astore F dL_told_20 (by decide) ?_
      refine g_iconst F dL_told_22 ?_
      refine g_iret F rfl (by omega) ?_ dL_told_23
      exact Or.inr (Or.inr ⟨hc8, rfl, rfl⟩)
  obtain ⟨hk7, rfl, rfl, hC7, hF7⟩ := h7
  have hO2 : w7 o = some (.inl (4, [.long (eJ z), sv])) := (hF7 o (Or.inr hxo)).trans hO
  refine g_i2l F dL_told_9 ?_
  refine g_setN (ci := 4) (fi := 0) (q := (RX4, TX4, 2)) F hO2 rfl (by decide) w_fn_RL_13 rfl (by rfl) (by rfl) (Nat.le_of_ble_eq_true rfl) dL_told_10 ?_
  refine g_goto F 24 dL_told_13 (by decide) ?_
  refine g_iconst F dL_told_24 ?_
  refine g_iret F rfl (by omega) ?_ dL_told_25
  exact Or.inl ⟨hk7, rfl, hC7.kb (Nat.le_refl _) (by intro j8 hj8; exact e_up_n (by omega)), by intro q8 h1 h2 h3; rw [e_up_n h3]; exact hF7 q8 h2, e_up_s⟩
set_option maxHeartbeats 4000000 in
set_option maxRecDepth 100000 in
theorem w_open {K : e_K} {l : Launch} {w : e_W} {n : Nat} {x wh : Nat} {kn : Int} {D : Nat → SD} (hC : CW w x wh kn D) {i : Int} (hi : e_r i) {a : Int} (ha : e_r a) {z : Int} {sv : Value} {o : Nat} (hO : w o = some (.inl (4, [.long (eJ z), sv]))) (hxo : x + 27 ≤ o) : g_Met K l yL_open (Cond.codeWith yL_open cL_open 5 (some .int) [(0, 11, 14, 28), (0, 11, 18, 19)] :: e_TB) (8) (2) [.ref x, .int (eI i), .int (eI a), .ref o] w n (fun r w' n' => (((0 ≤ i ∧ i < 6) ∧ (1 ≤ a ∧ a ≤ fl wh)) ∧ r = some (.int (eI 0)) ∧ CW w' x wh (kn) (D) ∧ LF w w' x o n ∧ w' o = some (.inl (4, [.long (eJ (LV (if ((D i.toNat).fl = 1 ∧ thr (D i.toNat).A a) ∧ (D i.toNat).dg < bc a then tl wh a (D i.toNat).A 0 else -9))), sv]))) ∨ ((¬ (0 ≤ i ∧ i < 6)) ∧ r = some (.int (eI 1)) ∧ w' = w) ∨ (((0 ≤ i ∧ i < 6) ∧ ¬ (1 ≤ a ∧ a ≤ fl wh)) ∧ r = some (.int (eI 2)) ∧ w' = w)) (e_px0) := by
  refine g_ofV rfl (Nat.le_of_ble_eq_true rfl) w_cw_L_open ?_
  intro P9 E9 S9 M9 A9 B9 T9 C9 F hnm
  refine g_aload_n F dL_open_0 rfl ?_
  refine g_aload_n F dL_open_1 rfl ?_
  refine g_iload_n F dL_open_2 rfl ?_
  refine g_iload_n F dL_open_3 rfl ?_
  refine g_callVV F u_X3_open (by rfl) (c_X3_open hC hi ha) hC.1 rfl rfl w_ml_RL_84 dL_open_4 (by rfl) (Nat.le_of_ble_eq_true rfl) (by decide) (by omega) (fun E8 w8 n8 h8 hn8 => ?_) (fun r7 w7 n7 h7 hn7 => ?_)
  · obtain ⟨⟨rfl, hc8⟩ | ⟨rfl, hc8⟩, rfl⟩ := h8
    · refine ⟨[], ⟨0, 11, 14, 28⟩, [⟨0, 11, 18, 19⟩], "java/lang/IndexOutOfBoundsException", rfl, (fun z9 hz9 => by cases hz9), by decide, by decide, w_cl_RL_28, w_ca_java_lang_IndexOutOfBoundsException_java_lang_IndexOutOfBoundsException, fun q9 => ?_⟩
      refine g_astore F dL_open_14 (by decide) ?_
      refine g_iconst F dL_open_16 ?_
      refine g_iret F rfl (by omega) ?_ dL_open_17
      exact Or.inr (Or.inl ⟨hc8, rfl, rfl⟩)
    · refine ⟨[⟨0, 11, 14, 28⟩], ⟨0, 11, 18, 19⟩, [], "java/lang/IllegalArgumentException", rfl, (fun z9 hz9 => by rw [List.mem_singleton.mp hz9]; exact Or.inr ⟨by decide, _, w_cl_RL_28, F.2.2.2.2.2.2.2.1.2⟩), by decide, by decide, w_cl_RL_19, w_ca_java_lang_IllegalArgumentException_java_lang_IllegalArgumentException, fun q9 => ?_⟩
      refine g_astore F dL_open_18 (by decide) ?_
      refine g_iconst F dL_open_20 ?_
      refine g_iret F rfl (by omega) ?_ dL_open_21
      exact Or.inr (Or.inr ⟨hc8, rfl, rfl⟩)
  obtain ⟨hk7, rfl, rfl, hC7, hF7⟩ := h7
  have hO2 : w7 o = some (.inl (4, [.long (eJ z), sv])) := (hF7 o (Or.inr hxo)).trans hO
  refine g_i2l F dL_open_7 ?_
  refine g_setN (ci := 4) (fi := 0) (q := (RX4, TX4, 2)) F hO2 rfl (by decide) w_fn_RL_13 rfl (by rfl) (by rfl) (Nat.le_of_ble_eq_true rfl) dL_open_8 ?_
  refine g_goto F 22 dL_open_11 (by decide) ?_
  refine g_iconst F dL_open_22 ?_
  refine g_iret F rfl (by omega) ?_ dL_open_23
  exact Or.inl ⟨hk7, rfl, hC7.kb (Nat.le_refl _) (by intro j8 hj8; exact e_up_n (by omega)), by intro q8 h1 h2 h3; rw [e_up_n h3]; exact hF7 q8 h2, e_up_s⟩
set_option maxHeartbeats 4000000 in
set_option maxRecDepth 100000 in
theorem w_coefficient {K : e_K} {l : Launch} {w : e_W} {n : Nat} {x wh : Nat} {kn : Int} {D : Nat → SD} (hC : CW w x wh kn D) {i : Int} (hi : e_r i) {a : Int} (ha : e_r a) {c : Int} (hc : e_r c) {z : Int} {sv : Value} {o : Nat} (hO : w o = some (.inl (4, [.long (eJ z), sv]))) (hxo : x + 27 ≤ o) : g_Met K l yL_coefficient (Cond.codeWith yL_coefficient cL_coefficient 6 (some .int) [(0, 13, 16, 28), (0, 13, 20, 19)] :: e_TB) (8) (3) [.ref x, .int (eI i), .int (eI a), .int (eI c), .ref o] w n (fun r w' n' => (((0 ≤ i ∧ i < 6) ∧ (1 ≤ a ∧ a ≤ fl wh) ∧ (0 ≤ c ∧ c ≤ 6)) ∧ r = some (.int (eI 0)) ∧ CW w' x wh (kn) (D) ∧ LF w w' x o n ∧ w' o = some (.inl (4, [.long (eJ (LV (if (D i.toNat).fl = 1 ∧ thr (D i.toNat).A a then gt wh a (D i.toNat).A (ho wh).toNat c else -9))), sv]))) ∨ ((¬ (0 ≤ i ∧ i < 6)) ∧ r = some (.int (eI 1)) ∧ w' = w) ∨ (((0 ≤ i ∧ i < 6) ∧ ¬ ((1 ≤ a ∧ a ≤ fl wh) ∧ (0 ≤ c ∧ c ≤ 6))) ∧ r = some (.int (eI 2)) ∧ w' = w)) (e_px0) := by
  refine g_ofV rfl (Nat.le_of_ble_eq_true rfl) w_cw_L_coefficient ?_
  intro P9 E9 S9 M9 A9 B9 T9 C9 F hnm
  refine g_aload F dL_coefficient_0 rfl ?_
  refine g_aload_n F dL_coefficient_2 rfl ?_
  refine g_iload_n F dL_coefficient_3 rfl ?_
  refine g_iload_n F dL_coefficient_4 rfl ?_
  refine g_iload_n F dL_coefficient_5 rfl ?_
  refine g_callVV F u_X3_coefficient (by rfl) (c_X3_coefficient hC hi ha hc) hC.1 rfl rfl w_ml_RL_87 dL_coefficient_6 (by rfl) (Nat.le_of_ble_eq_true rfl) (by decide) (by omega) (fun E8 w8 n8 h8 hn8 => ?_) (fun r7 w7 n7 h7 hn7 => ?_)
  · obtain ⟨⟨rfl, hc8⟩ | ⟨rfl, hc8⟩, rfl⟩ := h8
    · refine ⟨[], ⟨0, 13, 16, 28⟩, [⟨0, 13, 20, 19⟩], "java/lang/IndexOutOfBoundsException", rfl, (fun z9 hz9 => by cases hz9), by decide, by decide, w_cl_RL_28, w_ca_java_lang_IndexOutOfBoundsException_java_lang_IndexOutOfBoundsException, fun q9 => ?_⟩
      refine g_astore F dL_coefficient_16 (by decide) ?_
      refine g_iconst F dL_coefficient_18 ?_
      refine g_iret F rfl (by omega) ?_ dL_coefficient_19
      exact Or.inr (Or.inl ⟨hc8, rfl, rfl⟩)
    · refine ⟨[⟨0, 13, 16, 28⟩], ⟨0, 13, 20, 19⟩, [], "java/lang/IllegalArgumentException", rfl, (fun z9 hz9 => by rw [List.mem_singleton.mp hz9]; exact Or.inr ⟨by decide, _, w_cl_RL_28, F.2.2.2.2.2.2.2.1.2⟩), by decide, by decide, w_cl_RL_19, w_ca_java_lang_IllegalArgumentException_java_lang_IllegalArgumentException, fun q9 => ?_⟩
      refine g_astore F dL_coefficient_20 (by decide) ?_
      refine g_iconst F dL_coefficient_22 ?_
      refine g_iret F rfl (by omega) ?_ dL_coefficient_23
      exact Or.inr (Or.inr ⟨hc8, rfl, rfl⟩)
  obtain ⟨hk7, rfl, rfl, hC7, hF7⟩ := h7
  have hO2 : w7 o = some (.inl (4, [.long (eJ z), sv])) := (hF7 o (Or.inr hxo)).trans hO
  refine g_i2l F dL_coefficient_9 ?_
  refine g_setN (ci := 4) (fi := 0) (q := (RX4, TX4, 2)) F hO2 rfl (by decide) w_fn_RL_13 rfl (by rfl) (by rfl) (Nat.le_of_ble_eq_true rfl) dL_coefficient_10 ?_
  refine g_goto F 24 dL_coefficient_13 (by decide) ?_
  refine g_iconst F dL_coefficient_24 ?_
  refine g_iret F rfl (by omega) ?_ dL_coefficient_25
  exact Or.inl ⟨hk7, rfl, hC7.kb (Nat.le_refl _) (by intro j8 hj8; exact e_up_n (by omega)), by intro q8 h1 h2 h3; rw [e_up_n h3]; exact hF7 q8 h2, e_up_s⟩
set_option maxHeartbeats 4000000 in
set_option maxRecDepth 100000 in
theorem w_degreeBy {K : e_K} {l : Launch} {w : e_W} {n : Nat} {x wh : Nat} {kn : Int} {D : Nat → SD} (hC : CW w x wh kn D) {i : Int} (hi : e_r i) {a : Int} (ha : e_r a) {z : Int} {sv : Value} {o : Nat} (hO : w o = some (.inl (4, [.long (eJ z), sv]))) (hxo : x + 27 ≤ o) : g_Met K l yL_degreeBy (Cond.codeWith yL_degreeBy cL_degreeBy 5 (some .int) [(0, 11, 14, 28), (0, 11, 18, 19)] :: e_TB) (8) (2) [.ref x, .int (eI i), .int (eI a), .ref o] w n (fun r w' n' => (((0 ≤ i ∧ i < 6) ∧ (1 ≤ a ∧ a ≤ fl wh)) ∧ r = some (.int (eI 0)) ∧ CW w' x wh (kn) (D) ∧ LF w w' x o n ∧ w' o = some (.inl (4, [.long (eJ (LV (if (D i.toNat).fl = 1 ∧ thr (D i.toNat).A a then hiK (gt wh a (D i.toNat).A (ho wh).toNat) 7 else -9))), sv]))) ∨ ((¬ (0 ≤ i ∧ i < 6)) ∧ r = some (.int (eI 1)) ∧ w' = w) ∨ (((0 ≤ i ∧ i < 6) ∧ ¬ (1 ≤ a ∧ a ≤ fl wh)) ∧ r = some (.int (eI 2)) ∧ w' = w)) (e_px0) := by
  refine g_ofV rfl (Nat.le_of_ble_eq_true rfl) w_cw_L_degreeBy ?_
  intro P9 E9 S9 M9 A9 B9 T9 C9 F hnm
  refine g_aload_n F dL_degreeBy_0 rfl ?_
  refine g_aload_n F dL_degreeBy_1 rfl ?_
  refine g_iload_n F dL_degreeBy_2 rfl ?_
  refine g_iload_n F dL_degreeBy_3 rfl ?_
  refine g_callVV F u_X3_degreeBy (by rfl) (c_X3_degreeBy hC hi ha) hC.1 rfl rfl w_ml_RL_90 dL_degreeBy_4 (by rfl) (Nat.le_of_ble_eq_true rfl) (by decide) (by omega) (fun E8 w8 n8 h8 hn8 => ?_) (fun r7 w7 n7 h7 hn7 => ?_)
  · obtain ⟨⟨rfl, hc8⟩ | ⟨rfl, hc8⟩, rfl⟩ := h8
    · refine ⟨[], ⟨0, 11, 14, 28⟩, [⟨0, 11, 18, 19⟩], "java/lang/IndexOutOfBoundsException", rfl, (fun z9 hz9 => by cases hz9), by decide, by decide, w_cl_RL_28, w_ca_java_lang_IndexOutOfBoundsException_java_lang_IndexOutOfBoundsException, fun q9 => ?_⟩
      refine g_astore F dL_degreeBy_14 (by decide) ?_
      refine g_iconst F dL_degreeBy_16 ?_
      refine g_iret F rfl (by omega) ?_ dL_degreeBy_17
      exact Or.inr (Or.inl ⟨hc8, rfl, rfl⟩)
    · refine ⟨[⟨0, 11, 14, 28⟩], ⟨0, 11, 18, 19⟩, [], "java/lang/IllegalArgumentException", rfl, (fun z9 hz9 => by rw [List.mem_singleton.mp hz9]; exact Or.inr ⟨by decide, _, w_cl_RL_28, F.2.2.2.2.2.2.2.1.2⟩), by decide, by decide, w_cl_RL_19, w_ca_java_lang_IllegalArgumentException_java_lang_IllegalArgumentException, fun q9 => ?_⟩
      refine g_astore F dL_degreeBy_18 (by decide) ?_
      refine g_iconst F dL_degreeBy_20 ?_
      refine g_iret F rfl (by omega) ?_ dL_degreeBy_21
      exact Or.inr (Or.inr ⟨hc8, rfl, rfl⟩)
  obtain ⟨hk7, rfl, rfl, hC7, hF7⟩ := h7
  have hO2 : w7 o = some (.inl (4, [.long (eJ z), sv])) := (hF7 o (Or.inr hxo)).trans hO
  refine g_i2l F dL_degreeBy_7 ?_
  refine g_setN (ci := 4) (fi := 0) (q := (RX4, TX4, 2)) F hO2 rfl (by decide) w_fn_RL_13 rfl (by rfl) (by rfl) (Nat.le_of_ble_eq_true rfl) dL_degreeBy_8 ?_
  refine g_goto F 22 dL_degreeBy_11 (by decide) ?_
  refine g_iconst F dL_degreeBy_22 ?_
  refine g_iret F rfl (by omega) ?_ dL_degreeBy_23
  exact Or.inl ⟨hk7, rfl, hC7.kb (Nat.le_refl _) (by intro j8 hj8; exact e_up_n (by omega)), by intro q8 h1 h2 h3; rw [e_up_n h3]; exact hF7 q8 h2, e_up_s⟩
set_option maxHeartbeats 4000000 in
set_option maxRecDepth 100000 in
theorem w_agrees {K : e_K} {l : Launch} {w : e_W} {n : Nat} {x wh : Nat} {kn : Int} {D : Nat → SD} (hC : CW w x wh kn D) {i : Int} (hi : e_r i) {a : Int} (ha : e_r a) {z : Int} {sv : Value} {o : Nat} (hO : w o = some (.inl (4, [.long (eJ z), sv]))) (hxo : x + 27 ≤ o) : g_Met K l yL_agrees (Cond.codeWith yL_agrees cL_agrees 5 (some .int) [(0, 11, 14, 28), (0, 11, 18, 19)] :: e_TB) (8) (2) [.ref x, .int (eI i), .int (eI a), .ref o] w n (fun r w' n' => (((0 ≤ i ∧ i < 6) ∧ (1 ≤ a ∧ a ≤ fl wh)) ∧ r = some (.int (eI 0)) ∧ CW w' x wh (kn) (D) ∧ LF w w' x o n ∧ w' o = some (.inl (4, [.long (eJ (LV (if (D i.toNat).fl = 1 ∧ thr (D i.toNat).A a then b01 (il wh a (D i.toNat).A (D i.toNat).fl (D i.toNat).dg) else -9))), sv]))) ∨ ((¬ (0 ≤ i ∧ i < 6)) ∧ r = some (.int (eI 1)) ∧ w' = w) ∨ (((0 ≤ i ∧ i < 6) ∧ ¬ (1 ≤ a ∧ a ≤ fl wh)) ∧ r = some (.int (eI 2)) ∧ w' = w)) (e_px0) := by
  refine g_ofV rfl (Nat.le_of_ble_eq_true rfl) w_cw_L_agrees ?_
  intro P9 E9 S9 M9 A9 B9 T9 C9 F hnm
  refine g_aload_n F dL_agrees_0 rfl ?_
  refine g_aload_n F dL_agrees_1 rfl ?_
  refine g_iload_n F dL_agrees_2 rfl ?_
  refine g_iload_n F dL_agrees_3 rfl ?_
  refine g_callVV F u_X3_agrees (by rfl) (c_X3_agrees hC hi ha) hC.1 rfl rfl w_ml_RL_93 dL_agrees_4 (by rfl) (Nat.le_of_ble_eq_true rfl) (by decide) (by omega) (fun E8 w8 n8 h8 hn8 => ?_) (fun r7 w7 n7 h7 hn7 => ?_)
  · obtain ⟨⟨rfl, hc8⟩ | ⟨rfl, hc8⟩, rfl⟩ := h8
    · refine ⟨[], ⟨0, 11, 14, 28⟩, [⟨0, 11, 18, 19⟩], "java/lang/IndexOutOfBoundsException", rfl, (fun z9 hz9 => by cases hz9), by decide, by decide, w_cl_RL_28, w_ca_java_lang_IndexOutOfBoundsException_java_lang_IndexOutOfBoundsException, fun q9 => ?_⟩
      refine g_astore F dL_agrees_14 (by decide) ?_
      refine g_iconst F dL_agrees_16 ?_
      refine g_iret F rfl (by omega) ?_ dL_agrees_17
      exact Or.inr (Or.inl ⟨hc8, rfl, rfl⟩)
    · refine ⟨[⟨0, 11, 14, 28⟩], ⟨0, 11, 18, 19⟩, [], "java/lang/IllegalArgumentException", rfl, (fun z9 hz9 => by rw [List.mem_singleton.mp hz9]; exact Or.inr ⟨by decide, _, w_cl_RL_28, F.2.2.2.2.2.2.2.1.2⟩), by decide, by decide, w_cl_RL_19, w_ca_java_lang_IllegalArgumentException_java_lang_IllegalArgumentException, fun q9 => ?_⟩
      refine g_astore F dL_agrees_18 (by decide) ?_
      refine g_iconst F dL_agrees_20 ?_
      refine g_iret F rfl (by omega) ?_ dL_agrees_21
      exact Or.inr (Or.inr ⟨hc8, rfl, rfl⟩)
  obtain ⟨hk7, rfl, rfl, hC7, hF7⟩ := h7
  have hO2 : w7 o = some (.inl (4, [.long (eJ z), sv])) := (hF7 o (Or.inr hxo)).trans hO
  refine g_i2l F dL_agrees_7 ?_
  refine g_setN (ci := 4) (fi := 0) (q := (RX4, TX4, 2)) F hO2 rfl (by decide) w_fn_RL_13 rfl (by rfl) (by rfl) (Nat.le_of_ble_eq_true rfl) dL_agrees_8 ?_
  refine g_goto F 22 dL_agrees_11 (by decide) ?_
  refine g_iconst F dL_agrees_22 ?_
  refine g_iret F rfl (by omega) ?_ dL_agrees_23
  exact Or.inl ⟨hk7, rfl, hC7.kb (Nat.le_refl _) (by intro j8 hj8; exact e_up_n (by omega)), by intro q8 h1 h2 h3; rw [e_up_n h3]; exact hF7 q8 h2, e_up_s⟩
set_option maxHeartbeats 4000000 in
set_option maxRecDepth 100000 in
theorem w_suspects {K : e_K} {l : Launch} {w : e_W} {n : Nat} {x wh : Nat} {kn : Int} {D : Nat → SD} (hC : CW w x wh kn D) {i : Int} (hi : e_r i) {z : Int} {sv : Value} {o : Nat} (hO : w o = some (.inl (4, [.long (eJ z), sv]))) (hxo : x + 27 ≤ o) : g_Met K l yL_suspects (Cond.codeWith yL_suspects cL_suspects 4 (some .int) [(0, 10, 13, 28)] :: e_TB) (8) (1) [.ref x, .int (eI i), .ref o] w n (fun r w' n' => (((0 ≤ i ∧ i < 6)) ∧ r = some (.int (eI 0)) ∧ CW w' x wh (kn) (D) ∧ LF w w' x o n ∧ w' o = some (.inl (4, [.long (eJ (LV (if (D i.toNat).fl = 0 then -9 else ssK wh (D i.toNat).A (D i.toNat).fl (D i.toNat).dg (ho wh).toNat))), sv]))) ∨ ((¬ (0 ≤ i ∧ i < 6)) ∧ r = some (.int (eI 1)) ∧ w' = w) ∨ (False ∧ r = some (.int (eI 2)) ∧ w' = w)) (e_px0) := by
  refine g_ofV rfl (Nat.le_of_ble_eq_true rfl) w_cw_L_suspects ?_
  intro P9 E9 S9 M9 A9 B9 T9 C9 F hnm
  refine g_aload_n F dL_suspects_0 rfl ?_
  refine g_aload_n F dL_suspects_1 rfl ?_
  refine g_iload_n F dL_suspects_2 rfl ?_
  refine g_callVV F u_X3_suspects (by rfl) (c_X3_suspects hC hi) hC.1 rfl rfl w_ml_RL_96 dL_suspects_3 (by rfl) (Nat.le_of_ble_eq_true rfl) (by decide) (by omega) (fun E8 w8 n8 h8 hn8 => ?_) (fun r7 w7 n7 h7 hn7 => ?_)
  · obtain ⟨⟨rfl, hc8⟩ | ⟨rfl, hc8⟩, rfl⟩ := h8
    · refine ⟨[], ⟨0, 10, 13, 28⟩, [], "java/lang/IndexOutOfBoundsException", rfl, (fun z9 hz9 => by cases hz9), by decide, by decide, w_cl_RL_28, w_ca_java_lang_IndexOutOfBoundsException_java_lang_IndexOutOfBoundsException, fun q9 => ?_⟩
      refine g_astore_n F dL_suspects_13 (by decide) ?_
      refine g_iconst F dL_suspects_14 ?_
      refine g_iret F rfl (by omega) ?_ dL_suspects_15
      exact Or.inr (Or.inl ⟨hc8, rfl, rfl⟩)
    · exact hc8.elim
  obtain ⟨hk7, rfl, rfl, hC7, hF7⟩ := h7
  have hO2 : w7 o = some (.inl (4, [.long (eJ z), sv])) := (hF7 o (Or.inr hxo)).trans hO
  refine g_i2l F dL_suspects_6 ?_
  refine g_setN (ci := 4) (fi := 0) (q := (RX4, TX4, 2)) F hO2 rfl (by decide) w_fn_RL_13 rfl (by rfl) (by rfl) (Nat.le_of_ble_eq_true rfl) dL_suspects_7 ?_
  refine g_goto F 16 dL_suspects_10 (by decide) ?_
  refine g_iconst F dL_suspects_16 ?_
  refine g_iret F rfl (by omega) ?_ dL_suspects_17
  exact Or.inl ⟨hk7, rfl, hC7.kb (Nat.le_refl _) (by intro j8 hj8; exact e_up_n (by omega)), by intro q8 h1 h2 h3; rw [e_up_n h3]; exact hF7 q8 h2, e_up_s⟩
set_option maxHeartbeats 4000000 in
set_option maxRecDepth 100000 in
theorem w_wrong {K : e_K} {l : Launch} {w : e_W} {n : Nat} {x wh : Nat} {kn : Int} {D : Nat → SD} (hC : CW w x wh kn D) {i : Int} (hi : e_r i) {z : Int} {sv : Value} {o : Nat} (hO : w o = some (.inl (4, [.long (eJ z), sv]))) (hxo : x + 27 ≤ o) : g_Met K l yL_wrong (Cond.codeWith yL_wrong cL_wrong 4 (some .int) [(0, 10, 13, 28)] :: e_TB) (8) (1) [.ref x, .int (eI i), .ref o] w n (fun r w' n' => (((0 ≤ i ∧ i < 6)) ∧ r = some (.int (eI 0)) ∧ CW w' x wh (kn) (D) ∧ LF w w' x o n ∧ w' o = some (.inl (4, [.long (eJ (LV (wrf wh (D i.toNat).A (D i.toNat).fl (D i.toNat).dg))), sv]))) ∨ ((¬ (0 ≤ i ∧ i < 6)) ∧ r = some (.int (eI 1)) ∧ w' = w) ∨ (False ∧ r = some (.int (eI 2)) ∧ w' = w)) (e_px0) := by
  refine g_ofV rfl (Nat.le_of_ble_eq_true rfl) w_cw_L_wrong ?_
  intro P9 E9 S9 M9 A9 B9 T9 C9 F hnm
  refine g_aload_n F dL_wrong_0 rfl ?_
  refine g_aload_n F dL_wrong_1 rfl ?_
  refine g_iload_n F dL_wrong_2 rfl ?_
  refine g_callVV F u_X3_wrong (by rfl) (c_X3_wrong hC hi) hC.1 rfl rfl w_ml_RL_99 dL_wrong_3 (by rfl) (Nat.le_of_ble_eq_true rfl) (by decide) (by omega) (fun E8 w8 n8 h8 hn8 => ?_) (fun r7 w7 n7 h7 hn7 => ?_)
  · obtain ⟨⟨rfl, hc8⟩ | ⟨rfl, hc8⟩, rfl⟩ := h8
    · refine ⟨[], ⟨0, 10, 13, 28⟩, [], "java/lang/IndexOutOfBoundsException", rfl, (fun z9 hz9 => by cases hz9), by decide, by decide, w_cl_RL_28, w_ca_java_lang_IndexOutOfBoundsException_java_lang_IndexOutOfBoundsException, fun q9 => ?_⟩
      refine g_astore_n F dL_wrong_13 (by decide) ?_
      refine g_iconst F dL_wrong_14 ?_
      refine g_iret F rfl (by omega) ?_ dL_wrong_15
      exact Or.inr (Or.inl ⟨hc8, rfl, rfl⟩)
    · exact hc8.elim
  obtain ⟨hk7, rfl, rfl, hC7, hF7⟩ := h7
  have hO2 : w7 o = some (.inl (4, [.long (eJ z), sv])) := (hF7 o (Or.inr hxo)).trans hO
  refine g_i2l F dL_wrong_6 ?_
  refine g_setN (ci := 4) (fi := 0) (q := (RX4, TX4, 2)) F hO2 rfl (by decide) w_fn_RL_13 rfl (by rfl) (by rfl) (Nat.le_of_ble_eq_true rfl) dL_wrong_7 ?_
  refine g_goto F 16 dL_wrong_10 (by decide) ?_
  refine g_iconst F dL_wrong_16 ?_
  refine g_iret F rfl (by omega) ?_ dL_wrong_17
  exact Or.inl ⟨hk7, rfl, hC7.kb (Nat.le_refl _) (by intro j8 hj8; exact e_up_n (by omega)), by intro q8 h1 h2 h3; rw [e_up_n h3]; exact hF7 q8 h2, e_up_s⟩
set_option maxHeartbeats 4000000 in
set_option maxRecDepth 100000 in
theorem w_ways {K : e_K} {l : Launch} {w : e_W} {n : Nat} {x wh : Nat} {kn : Int} {D : Nat → SD} (hC : CW w x wh kn D) {i9 : Int} (hi9 : e_r i9) {a9 : Int} (ha9 : e_r a9) {c9 : Int} (hc9 : e_r c9) {z : Int} {sv : Value} {o : Nat} (hO : w o = some (.inl (4, [.long (eJ z), sv]))) (hxo : x + 27 ≤ o) : g_Met K l yL_ways (Cond.codeWith yL_ways cL_ways 6 (some .int) [(0, 13, 16, 28), (0, 13, 20, 19)] :: e_TB) (8) (2) [.ref x, .int (eI i9), .int (eI a9), .int (eI c9), .ref o] w n (fun r w' n' => (((0 ≤ i9 ∧ i9 < 6) ∧ (1 ≤ a9 ∧ a9 ≤ fl wh)) ∧ r = some (.int (eI 0)) ∧ CW w' x wh (kn) (D) ∧ LF w w' x o n ∧ w' o = some (.inl (4, [.long (eJ (LV (wyV wh (D i9.toNat) a9 c9))), sv]))) ∨ ((¬ (0 ≤ i9 ∧ i9 < 6)) ∧ r = some (.int (eI 1)) ∧ w' = w) ∨ (((0 ≤ i9 ∧ i9 < 6) ∧ ¬ (1 ≤ a9 ∧ a9 ≤ fl wh)) ∧ r = some (.int (eI 2)) ∧ w' = w)) (e_px0) := by
  refine g_ofV rfl (Nat.le_of_ble_eq_true rfl) w_cw_L_ways ?_
  intro P9 E9 S9 M9 A9 B9 T9 C9 F hnm
  refine g_aload F dL_ways_0 rfl ?_
  refine g_aload_n F dL_ways_2 rfl ?_
  refine g_iload_n F dL_ways_3 rfl ?_
  refine g_iload_n F dL_ways_4 rfl ?_
  refine g_iload_n F dL_ways_5 rfl ?_
  refine g_callVV F u_X3_ways (by rfl) (c_X3_ways hC hi9 ha9 hc9) hC.1 rfl rfl w_ml_RL_102 dL_ways_6 (by rfl) (Nat.le_of_ble_eq_true rfl) (by decide) (by omega) (fun E8 w8 n8 h8 hn8 => ?_) (fun r7 w7 n7 h7 hn7 => ?_)
  · obtain ⟨⟨rfl, hc8⟩ | ⟨rfl, hc8⟩, rfl⟩ := h8
    · refine ⟨[], ⟨0, 13, 16, 28⟩, [⟨0, 13, 20, 19⟩], "java/lang/IndexOutOfBoundsException", rfl, (fun z9 hz9 => by cases hz9), by decide, by decide, w_cl_RL_28, w_ca_java_lang_IndexOutOfBoundsException_java_lang_IndexOutOfBoundsException, fun q9 => ?_⟩
      refine g_astore F dL_ways_16 (by decide) ?_
      refine g_iconst F dL_ways_18 ?_
      refine g_iret F rfl (by omega) ?_ dL_ways_19
      exact Or.inr (Or.inl ⟨hc8, rfl, rfl⟩)
    · refine ⟨[⟨0, 13, 16, 28⟩], ⟨0, 13, 20, 19⟩, [], "java/lang/IllegalArgumentException", rfl, (fun z9 hz9 => by rw [List.mem_singleton.mp hz9]; exact Or.inr ⟨by decide, _, w_cl_RL_28, F.2.2.2.2.2.2.2.1.2⟩), by decide, by decide, w_cl_RL_19, w_ca_java_lang_IllegalArgumentException_java_lang_IllegalArgumentException, fun q9 => ?_⟩
      refine g_astore F dL_ways_20 (by decide) ?_
      refine g_iconst F dL_ways_22 ?_
      refine g_iret F rfl (by omega) ?_ dL_ways_23
      exact Or.inr (Or.inr ⟨hc8, rfl, rfl⟩)
  obtain ⟨hk7, rfl, rfl, hC7, hF7⟩ := h7
  have hO2 : w7 o = some (.inl (4, [.long (eJ z), sv])) := (hF7 o (Or.inr hxo)).trans hO
  refine g_i2l F dL_ways_9 ?_
  refine g_setN (ci := 4) (fi := 0) (q := (RX4, TX4, 2)) F hO2 rfl (by decide) w_fn_RL_13 rfl (by rfl) (by rfl) (Nat.le_of_ble_eq_true rfl) dL_ways_10 ?_
  refine g_goto F 24 dL_ways_13 (by decide) ?_
  refine g_iconst F dL_ways_24 ?_
  refine g_iret F rfl (by omega) ?_ dL_ways_25
  exact Or.inl ⟨hk7, rfl, hC7.kb (Nat.le_refl _) (by intro j8 hj8; exact e_up_n (by omega)), by intro q8 h1 h2 h3; rw [e_up_n h3]; exact hF7 q8 h2, e_up_s⟩
set_option maxHeartbeats 4000000 in
set_option maxRecDepth 100000 in
theorem w_total {K : e_K} {l : Launch} {w : e_W} {n : Nat} {x wh : Nat} {kn : Int} {D : Nat → SD} (hC : CW w x wh kn D) {i9 : Int} (hi9 : e_r i9) {a9 : Int} (ha9 : e_r a9) {z : Int} {sv : Value} {o : Nat} (hO : w o = some (.inl (4, [.long (eJ z), sv]))) (hxo : x + 27 ≤ o) : g_Met K l yL_total (Cond.codeWith yL_total cL_total 5 (some .int) [(0, 11, 14, 28), (0, 11, 18, 19)] :: e_TB) (8) (2) [.ref x, .int (eI i9), .int (eI a9), .ref o] w n (fun r w' n' => (((0 ≤ i9 ∧ i9 < 6) ∧ (1 ≤ a9 ∧ a9 ≤ fl wh)) ∧ r = some (.int (eI 0)) ∧ CW w' x wh (kn) (D) ∧ LF w w' x o n ∧ w' o = some (.inl (4, [.long (eJ (LV (if ((D i9.toNat).fl = 1 ∧ thr (D i9.toNat).A a9) then tsK a9 (D i9.toNat).A (ho wh).toNat else -9))), sv]))) ∨ ((¬ (0 ≤ i9 ∧ i9 < 6)) ∧ r = some (.int (eI 1)) ∧ w' = w) ∨ (((0 ≤ i9 ∧ i9 < 6) ∧ ¬ (1 ≤ a9 ∧ a9 ≤ fl wh)) ∧ r = some (.int (eI 2)) ∧ w' = w)) (e_px0) := by
  refine g_ofV rfl (Nat.le_of_ble_eq_true rfl) w_cw_L_total ?_
  intro P9 E9 S9 M9 A9 B9 T9 C9 F hnm
  refine g_aload_n F dL_total_0 rfl ?_
  refine g_aload_n F dL_total_1 rfl ?_
  refine g_iload_n F dL_total_2 rfl ?_
  refine g_iload_n F dL_total_3 rfl ?_
  refine g_callVV F u_X3_total (by rfl) (c_X3_total hC hi9 ha9) hC.1 rfl rfl w_ml_RL_105 dL_total_4 (by rfl) (Nat.le_of_ble_eq_true rfl) (by decide) (by omega) (fun E8 w8 n8 h8 hn8 => ?_) (fun r7 w7 n7 h7 hn7 => ?_)
  · obtain ⟨⟨rfl, hc8⟩ | ⟨rfl, hc8⟩, rfl⟩ := h8
    · refine ⟨[], ⟨0, 11, 14, 28⟩, [⟨0, 11, 18, 19⟩], "java/lang/IndexOutOfBoundsException", rfl, (fun z9 hz9 => by cases hz9), by decide, by decide, w_cl_RL_28, w_ca_java_lang_IndexOutOfBoundsException_java_lang_IndexOutOfBoundsException, fun q9 => ?_⟩
      refine g_astore F dL_total_14 (by decide) ?_
      refine g_iconst F dL_total_16 ?_
      refine g_iret F rfl (by omega) ?_ dL_total_17
      exact Or.inr (Or.inl ⟨hc8, rfl, rfl⟩)
    · refine ⟨[⟨0, 11, 14, 28⟩], ⟨0, 11, 18, 19⟩, [], "java/lang/IllegalArgumentException", rfl, (fun z9 hz9 => by rw [List.mem_singleton.mp hz9]; exact Or.inr ⟨by decide, _, w_cl_RL_28, F.2.2.2.2.2.2.2.1.2⟩), by decide, by decide, w_cl_RL_19, w_ca_java_lang_IllegalArgumentException_java_lang_IllegalArgumentException, fun q9 => ?_⟩
      refine g_astore F dL_total_18 (by decide) ?_
      refine g_iconst F dL_total_20 ?_
      refine g_iret F rfl (by omega) ?_ dL_total_21
      exact Or.inr (Or.inr ⟨hc8, rfl, rfl⟩)
  obtain ⟨hk7, rfl, rfl, hC7, hF7⟩ := h7
  have hO2 : w7 o = some (.inl (4, [.long (eJ z), sv])) := (hF7 o (Or.inr hxo)).trans hO
  refine g_i2l F dL_total_7 ?_
  refine g_setN (ci := 4) (fi := 0) (q := (RX4, TX4, 2)) F hO2 rfl (by decide) w_fn_RL_13 rfl (by rfl) (by rfl) (Nat.le_of_ble_eq_true rfl) dL_total_8 ?_
  refine g_goto F 22 dL_total_11 (by decide) ?_
  refine g_iconst F dL_total_22 ?_
  refine g_iret F rfl (by omega) ?_ dL_total_23
  exact Or.inl ⟨hk7, rfl, hC7.kb (Nat.le_refl _) (by intro j8 hj8; exact e_up_n (by omega)), by intro q8 h1 h2 h3; rw [e_up_n h3]; exact hF7 q8 h2, e_up_s⟩
set_option maxHeartbeats 4000000 in
set_option maxRecDepth 100000 in
theorem w_seal {K : e_K} {l : Launch} {w : e_W} {n : Nat} {x wh : Nat} {kn : Int} {D : Nat → SD} (hC : CW w x wh kn D) {i : Int} (hi : e_r i) {c : Int} (hc : e_r c) {z : Int} {sv : Value} {o : Nat} (hO : w o = some (.inl (4, [.long (eJ z), sv]))) (hxo : x + 27 ≤ o) : g_Met K l yL_seal (Cond.codeWith yL_seal cL_seal 5 (some .int) [(0, 11, 14, 28), (0, 11, 18, 19)] :: e_TB) (8) (2) [.ref x, .int (eI i), .int (eI c), .ref o] w n (fun r w' n' => (((0 ≤ i ∧ i < 6) ∧ (0 ≤ c ∧ c ≤ 6)) ∧ r = some (.int (eI 0)) ∧ CW w' x wh (kn) (D) ∧ LF w w' x o n ∧ w' o = some (.inl (4, [.long (eJ (LV (if 0 ≤ c ∧ c < (D i.toNat).sc then (D i.toNat).B c else -1))), sv]))) ∨ ((¬ (0 ≤ i ∧ i < 6)) ∧ r = some (.int (eI 1)) ∧ w' = w) ∨ (((0 ≤ i ∧ i < 6) ∧ ¬ (0 ≤ c ∧ c ≤ 6)) ∧ r = some (.int (eI 2)) ∧ w' = w)) (e_px0) := by
  refine g_ofV rfl (Nat.le_of_ble_eq_true rfl) w_cw_L_seal ?_
  intro P9 E9 S9 M9 A9 B9 T9 C9 F hnm
  refine g_aload_n F dL_seal_0 rfl ?_
  refine g_aload_n F dL_seal_1 rfl ?_
  refine g_iload_n F dL_seal_2 rfl ?_
  refine g_iload_n F dL_seal_3 rfl ?_
  refine g_callVV F u_X3_seal (by rfl) (c_X3_seal hC hi hc) hC.1 rfl rfl w_ml_RL_108 dL_seal_4 (by rfl) (Nat.le_of_ble_eq_true rfl) (by decide) (by omega) (fun E8 w8 n8 h8 hn8 => ?_) (fun r7 w7 n7 h7 hn7 => ?_)
  · obtain ⟨⟨rfl, hc8⟩ | ⟨rfl, hc8⟩, rfl⟩ := h8
    · refine ⟨[], ⟨0, 11, 14, 28⟩, [⟨0, 11, 18, 19⟩], "java/lang/IndexOutOfBoundsException", rfl, (fun z9 hz9 => by cases hz9), by decide, by decide, w_cl_RL_28, w_ca_java_lang_IndexOutOfBoundsException_java_lang_IndexOutOfBoundsException, fun q9 => ?_⟩
      refine g_astore F dL_seal_14 (by decide) ?_
      refine g_iconst F dL_seal_16 ?_
      refine g_iret F rfl (by omega) ?_ dL_seal_17
      exact Or.inr (Or.inl ⟨hc8, rfl, rfl⟩)
    · refine ⟨[⟨0, 11, 14, 28⟩], ⟨0, 11, 18, 19⟩, [], "java/lang/IllegalArgumentException", rfl, (fun z9 hz9 => by rw [List.mem_singleton.mp hz9]; exact Or.inr ⟨by decide, _, w_cl_RL_28, F.2.2.2.2.2.2.2.1.2⟩), by decide, by decide, w_cl_RL_19, w_ca_java_lang_IllegalArgumentException_java_lang_IllegalArgumentException, fun q9 => ?_⟩
      refine g_astore F dL_seal_18 (by decide) ?_
      refine g_iconst F dL_seal_20 ?_
      refine g_iret F rfl (by omega) ?_ dL_seal_21
      exact Or.inr (Or.inr ⟨hc8, rfl, rfl⟩)
  obtain ⟨hk7, rfl, rfl, hC7, hF7⟩ := h7
  have hO2 : w7 o = some (.inl (4, [.long (eJ z), sv])) := (hF7 o (Or.inr hxo)).trans hO
  refine g_i2l F dL_seal_7 ?_
  refine g_setN (ci := 4) (fi := 0) (q := (RX4, TX4, 2)) F hO2 rfl (by decide) w_fn_RL_13 rfl (by rfl) (by rfl) (Nat.le_of_ble_eq_true rfl) dL_seal_8 ?_
  refine g_goto F 22 dL_seal_11 (by decide) ?_
  refine g_iconst F dL_seal_22 ?_
  refine g_iret F rfl (by omega) ?_ dL_seal_23
  exact Or.inl ⟨hk7, rfl, hC7.kb (Nat.le_refl _) (by intro j8 hj8; exact e_up_n (by omega)), by intro q8 h1 h2 h3; rw [e_up_n h3]; exact hF7 q8 h2, e_up_s⟩
set_option maxHeartbeats 4000000 in
set_option maxRecDepth 100000 in
theorem w_fits {K : e_K} {l : Launch} {w : e_W} {n : Nat} {x wh : Nat} {kn : Int} {D : Nat → SD} (hC : CW w x wh kn D) {i : Int} (hi : e_r i) {h : Int} (hh : e_r h) {z : Int} {sv : Value} {o : Nat} (hO : w o = some (.inl (4, [.long (eJ z), sv]))) (hxo : x + 27 ≤ o) : g_Met K l yL_fits (Cond.codeWith yL_fits cL_fits 5 (some .int) [(0, 11, 14, 28)] :: e_TB) (8) (2) [.ref x, .int (eI i), .int (eI h), .ref o] w n (fun r w' n' => (((0 ≤ i ∧ i < 6) ∧ (1 ≤ h ∧ h ≤ ho wh)) ∧ r = some (.int (eI 0)) ∧ CW w' x wh (kn) (D) ∧ LF w w' x o n ∧ w' o = some (.inl (4, [.long (eJ (LV (if 0 < (D i.toNat).sc ∧ (D i.toNat).A h ≠ -1 then b01 (fit wh (D i.toNat).sc (D i.toNat).A (D i.toNat).B h) else -9))), sv]))) ∨ ((¬ ((0 ≤ i ∧ i < 6) ∧ (1 ≤ h ∧ h ≤ ho wh))) ∧ r = some (.int (eI 1)) ∧ w' = w) ∨ (False ∧ r = some (.int (eI 2)) ∧ w' = w)) (e_px0) := by
  refine g_ofV rfl (Nat.le_of_ble_eq_true rfl) w_cw_L_fits ?_
  intro P9 E9 S9 M9 A9 B9 T9 C9 F hnm
  refine g_aload_n F dL_fits_0 rfl ?_
  refine g_aload_n F dL_fits_1 rfl ?_
  refine g_iload_n F dL_fits_2 rfl ?_
  refine g_iload_n F dL_fits_3 rfl ?_
  refine g_callVV F u_X3_fits (by rfl) (c_X3_fits hC hi hh) hC.1 rfl rfl w_ml_RL_111 dL_fits_4 (by rfl) (Nat.le_of_ble_eq_true rfl) (by decide) (by omega) (fun E8 w8 n8 h8 hn8 => ?_) (fun r7 w7 n7 h7 hn7 => ?_)
  · obtain ⟨⟨rfl, hc8⟩ | ⟨rfl, hc8⟩, rfl⟩ := h8
    · refine ⟨[], ⟨0, 11, 14, 28⟩, [], "java/lang/IndexOutOfBoundsException", rfl, (fun z9 hz9 => by cases hz9), by decide, by decide, w_cl_RL_28, w_ca_java_lang_IndexOutOfBoundsException_java_lang_IndexOutOfBoundsException, fun q9 => ?_⟩
      refine g_astore F dL_fits_14 (by decide) ?_
      refine g_iconst F dL_fits_16 ?_
      refine g_iret F rfl (by omega) ?_ dL_fits_17
      exact Or.inr (Or.inl ⟨hc8, rfl, rfl⟩)
    · exact hc8.elim
  obtain ⟨hk7, rfl, rfl, hC7, hF7⟩ := h7
  have hO2 : w7 o = some (.inl (4, [.long (eJ z), sv])) := (hF7 o (Or.inr hxo)).trans hO
  refine g_i2l F dL_fits_7 ?_
  refine g_setN (ci := 4) (fi := 0) (q := (RX4, TX4, 2)) F hO2 rfl (by decide) w_fn_RL_13 rfl (by rfl) (by rfl) (Nat.le_of_ble_eq_true rfl) dL_fits_8 ?_
  refine g_goto F 18 dL_fits_11 (by decide) ?_
  refine g_iconst F dL_fits_18 ?_
  refine g_iret F rfl (by omega) ?_ dL_fits_19
  exact Or.inl ⟨hk7, rfl, hC7.kb (Nat.le_refl _) (by intro j8 hj8; exact e_up_n (by omega)), by intro q8 h1 h2 h3; rw [e_up_n h3]; exact hF7 q8 h2, e_up_s⟩
set_option maxHeartbeats 4000000 in
set_option maxRecDepth 100000 in
theorem w_order {K : e_K} {l : Launch} {w : e_W} {n : Nat} {x wh : Nat} {kn : Int} {D : Nat → SD} (hC : CW w x wh kn D) {i : Int} (hi : e_r i) {j : Int} (hj : e_r j) {h : Int} (hh : e_r h) {z : Int} {sv : Value} {o : Nat} (hO : w o = some (.inl (4, [.long (eJ z), sv]))) (hxo : x + 27 ≤ o) : g_Met K l yL_order (Cond.codeWith yL_order cL_order 6 (some .int) [(0, 13, 16, 28)] :: e_TB) (8) (3) [.ref x, .int (eI i), .int (eI j), .int (eI h), .ref o] w n (fun r w' n' => (((0 ≤ i ∧ i < 6) ∧ (0 ≤ j ∧ j < 6) ∧ (1 ≤ h ∧ h ≤ ho wh)) ∧ r = some (.int (eI 0)) ∧ CW w' x wh (kn) (D) ∧ LF w w' x o n ∧ w' o = some (.inl (4, [.long (eJ (LV (if (D i.toNat).A h ≠ -1 ∧ (D j.toNat).A h ≠ -1 then (if (D i.toNat).A h < (D j.toNat).A h then -1 else if (D j.toNat).A h < (D i.toNat).A h then 1 else 0) else -9))), sv]))) ∨ ((¬ ((0 ≤ i ∧ i < 6) ∧ (0 ≤ j ∧ j < 6) ∧ (1 ≤ h ∧ h ≤ ho wh))) ∧ r = some (.int (eI 1)) ∧ w' = w) ∨ (False ∧ r = some (.int (eI 2)) ∧ w' = w)) (e_px0) := by
  refine g_ofV rfl (Nat.le_of_ble_eq_true rfl) w_cw_L_order ?_
  intro P9 E9 S9 M9 A9 B9 T9 C9 F hnm
  refine g_aload F dL_order_0 rfl ?_
  refine g_aload_n F dL_order_2 rfl ?_
  refine g_iload_n F dL_order_3 rfl ?_
  refine g_iload_n F dL_order_4 rfl ?_
  refine g_iload_n F dL_order_5 rfl ?_
  refine g_callVV F u_X3_order (by rfl) (c_X3_order hC hi hj hh) hC.1 rfl rfl w_ml_RL_114 dL_order_6 (by rfl) (Nat.le_of_ble_eq_true rfl) (by decide) (by omega) (fun E8 w8 n8 h8 hn8 => ?_) (fun r7 w7 n7 h7 hn7 => ?_)
  · obtain ⟨⟨rfl, hc8⟩ | ⟨rfl, hc8⟩, rfl⟩ := h8
    · refine ⟨[], ⟨0, 13, 16, 28⟩, [], "java/lang/IndexOutOfBoundsException", rfl, (fun z9 hz9 => by cases hz9), by decide, by decide, w_cl_RL_28, w_ca_java_lang_IndexOutOfBoundsException_java_lang_IndexOutOfBoundsException, fun q9 => ?_⟩
      refine g_astore F dL_order_16 (by decide) ?_
      refine g_iconst F dL_order_18 ?_
      refine g_iret F rfl (by omega) ?_ dL_order_19
      exact Or.inr (Or.inl ⟨hc8, rfl, rfl⟩)
    · exact hc8.elim
  obtain ⟨hk7, rfl, rfl, hC7, hF7⟩ := h7
  have hO2 : w7 o = some (.inl (4, [.long (eJ z), sv])) := (hF7 o (Or.inr hxo)).trans hO
  refine g_i2l F dL_order_9 ?_
  refine g_setN (ci := 4) (fi := 0) (q := (RX4, TX4, 2)) F hO2 rfl (by decide) w_fn_RL_13 rfl (by rfl) (by rfl) (Nat.le_of_ble_eq_true rfl) dL_order_10 ?_
  refine g_goto F 20 dL_order_13 (by decide) ?_
  refine g_iconst F dL_order_20 ?_
  refine g_iret F rfl (by omega) ?_ dL_order_21
  exact Or.inl ⟨hk7, rfl, hC7.kb (Nat.le_refl _) (by intro j8 hj8; exact e_up_n (by omega)), by intro q8 h1 h2 h3; rw [e_up_n h3]; exact hF7 q8 h2, e_up_s⟩
set_option maxHeartbeats 4000000 in
set_option maxRecDepth 100000 in
theorem w_most {K : e_K} {l : Launch} {w : e_W} {n : Nat} {x wh : Nat} {kn : Int} {D : Nat → SD} (hC : CW w x wh kn D) {i9 : Int} (hi9 : e_r i9) {b9 : Int} (hb : b9 = 0 ∨ b9 = 1) {z : Int} {sv : Value} {o : Nat} (hO : w o = some (.inl (4, [.long (eJ z), sv]))) (hxo : x + 27 ≤ o) : g_Met K l yL_most (Cond.codeWith yL_most cL_most 5 (some .int) [(0, 11, 14, 28)] :: e_TB) (8) (1) [.ref x, .int (eI i9), .int (eI b9), .ref o] w n (fun r w' n' => (((0 ≤ i9 ∧ i9 < 6)) ∧ r = some (.int (eI 0)) ∧ CW w' x wh (kn) (D) ∧ LF w w' x o n ∧ w' o = some (.inl (4, [.long (eJ (LV (if (D i9.toNat).fl = 0 then -9 else (msK b9 (D i9.toNat).A (ho wh).toNat).1))), sv]))) ∨ ((¬ (0 ≤ i9 ∧ i9 < 6)) ∧ r = some (.int (eI 1)) ∧ w' = w) ∨ (False ∧ r = some (.int (eI 2)) ∧ w' = w)) (e_px0) := by
  refine g_ofV rfl (Nat.le_of_ble_eq_true rfl) w_cw_L_most ?_
  intro P9 E9 S9 M9 A9 B9 T9 C9 F hnm
  refine g_aload_n F dL_most_0 rfl ?_
  refine g_aload_n F dL_most_1 rfl ?_
  refine g_iload_n F dL_most_2 rfl ?_
  refine g_iload_n F dL_most_3 rfl ?_
  refine g_callVV F u_X3_most (by rfl) (c_X3_most hC hi9 hb) hC.1 rfl rfl w_ml_RL_117 dL_most_4 (by rfl) (Nat.le_of_ble_eq_true rfl) (by decide) (by omega) (fun E8 w8 n8 h8 hn8 => ?_) (fun r7 w7 n7 h7 hn7 => ?_)
  · obtain ⟨⟨rfl, hc8⟩ | ⟨rfl, hc8⟩, rfl⟩ := h8
    · refine ⟨[], ⟨0, 11, 14, 28⟩, [], "java/lang/IndexOutOfBoundsException", rfl, (fun z9 hz9 => by cases hz9), by decide, by decide, w_cl_RL_28, w_ca_java_lang_IndexOutOfBoundsException_java_lang_IndexOutOfBoundsException, fun q9 => ?_⟩
      refine g_astore F dL_most_14 (by decide) ?_
      refine g_iconst F dL_most_16 ?_
      refine g_iret F rfl (by omega) ?_ dL_most_17
      exact Or.inr (Or.inl ⟨hc8, rfl, rfl⟩)
    · exact hc8.elim
  obtain ⟨hk7, rfl, rfl, hC7, hF7⟩ := h7
  have hO2 : w7 o = some (.inl (4, [.long (eJ z), sv])) := (hF7 o (Or.inr hxo)).trans hO
  refine g_i2l F dL_most_7 ?_
  refine g_setN (ci := 4) (fi := 0) (q := (RX4, TX4, 2)) F hO2 rfl (by decide) w_fn_RL_13 rfl (by rfl) (by rfl) (Nat.le_of_ble_eq_true rfl) dL_most_8 ?_
  refine g_goto F 18 dL_most_11 (by decide) ?_
  refine g_iconst F dL_most_18 ?_
  refine g_iret F rfl (by omega) ?_ dL_most_19
  exact Or.inl ⟨hk7, rfl, hC7.kb (Nat.le_refl _) (by intro j8 hj8; exact e_up_n (by omega)), by intro q8 h1 h2 h3; rw [e_up_n h3]; exact hF7 q8 h2, e_up_s⟩
set_option maxHeartbeats 4000000 in
set_option maxRecDepth 100000 in
theorem w_text {K : e_K} {l : Launch} {w : e_W} {n : Nat} {x wh : Nat} {kn : Int} {D : Nat → SD} (hC : CW w x wh kn D) {i : Int} (hi : e_r i) {z : Int} {sv : Value} {o : Nat} (hO : w o = some (.inl (4, [.long (eJ z), sv]))) (hxo : x + 27 ≤ o) : g_Met K l yL_text (Cond.codeWith yL_text cL_text 4 (some .int) [(0, 9, 12, 28)] :: e_TB) (8) (24) [.ref x, .int (eI i), .ref o] w n (fun r w' n' => ((0 ≤ i ∧ i < 6) ∧ r = some (.int (eI 0)) ∧ CW w' x wh kn D ∧ LF w w' x o n ∧ ∃ q2 : Nat, w' o = some (.inl (4, [.long (eJ z), .ref q2]))) ∨ ((¬ (0 ≤ i ∧ i < 6)) ∧ r = some (.int (eI 1)) ∧ w' = w) ∨ (False ∧ r = some (.int (eI 2)) ∧ w' = w)) (e_px0) := by
  refine g_ofV rfl (Nat.le_of_ble_eq_true rfl) w_cw_L_text ?_
  intro P9 E9 S9 M9 A9 B9 T9 C9 F hnm
  refine e_dom (fun hdom => ?_)
  have hon : o < n := hdom o _ hO
  refine g_aload_n F dL_text_0 rfl ?_
  refine g_aload_n F dL_text_1 rfl ?_
  refine g_iload_n F dL_text_2 rfl ?_
  refine g_callVV F u_X3_text (by rfl) (c_X3_text hC hi) hC.1 rfl rfl w_ml_RL_121 dL_text_3 (by rfl) (Nat.le_of_ble_eq_true rfl) (by decide) (by omega) (fun E8 w8 n8 h8 hn8 => ?_) (fun r7 w7 n7 h7 hn7 => ?_)
  · obtain ⟨⟨rfl, hc8⟩ | ⟨rfl, hc8⟩, rfl⟩ := h8
    · refine ⟨[], ⟨0, 9, 12, 28⟩, [], "java/lang/IndexOutOfBoundsException", rfl, (fun z9 hz9 => by cases hz9), by decide, by decide, w_cl_RL_28, w_ca_java_lang_IndexOutOfBoundsException_java_lang_IndexOutOfBoundsException, fun q9 => ?_⟩
      refine g_astore_n F dL_text_12 (by decide) ?_
      refine g_iconst F dL_text_13 ?_
      refine g_iret F rfl (by omega) ?_ dL_text_14
      exact Or.inr (Or.inl ⟨hc8, rfl, rfl⟩)
    · exact hc8.elim
  obtain ⟨hk7, ⟨q7, rfl⟩, hC7, hB7⟩ := h7
  have hO2 : w7 o = some (.inl (4, [.long (eJ z), sv])) := (hB7 o hon).trans hO
  refine g_setN (ci := 4) (fi := 1) (q := (RX4, TX4, 2)) F hO2 rfl (by decide) w_fn_RL_125 rfl (by rfl) (by rfl) (Nat.le_of_ble_eq_true rfl) dL_text_6 ?_
  refine g_goto F 15 dL_text_9 (by decide) ?_
  refine g_iconst F dL_text_15 ?_
  refine g_iret F rfl (by omega) ?_ dL_text_16
  exact Or.inl ⟨hk7, rfl, hC7.kb (Nat.le_refl _) (by intro j8 hj8; exact e_up_n (by omega)), by intro q8 h1 h2 h3; rw [e_up_n h3]; exact hB7 q8 h1, ⟨q7, e_up_s⟩⟩
set_option maxHeartbeats 4000000 in
set_option maxRecDepth 100000 in
theorem w_seals {K : e_K} {l : Launch} {w : e_W} {n : Nat} {x wh : Nat} {kn : Int} {D : Nat → SD} (hC : CW w x wh kn D) {i : Int} (hi : e_r i) {z : Int} {sv : Value} {o : Nat} (hO : w o = some (.inl (4, [.long (eJ z), sv]))) (hxo : x + 27 ≤ o) : g_Met K l yL_seals (Cond.codeWith yL_seals cL_seals 4 (some .int) [(0, 9, 12, 28)] :: e_TB) (8) (24) [.ref x, .int (eI i), .ref o] w n (fun r w' n' => ((0 ≤ i ∧ i < 6) ∧ r = some (.int (eI 0)) ∧ CW w' x wh kn D ∧ LF w w' x o n ∧ ∃ q2 : Nat, w' o = some (.inl (4, [.long (eJ z), .ref q2]))) ∨ ((¬ (0 ≤ i ∧ i < 6)) ∧ r = some (.int (eI 1)) ∧ w' = w) ∨ (False ∧ r = some (.int (eI 2)) ∧ w' = w)) (e_px0) := by
  refine g_ofV rfl (Nat.le_of_ble_eq_true rfl) w_cw_L_seals ?_
  intro P9 E9 S9 M9 A9 B9 T9 C9 F hnm
  refine e_dom (fun hdom => ?_)
  have hon : o < n := hdom o _ hO
  refine g_aload_n F dL_seals_0 rfl ?_
  refine g_aload_n F dL_seals_1 rfl ?_
  refine g_iload_n F dL_seals_2 rfl ?_
  refine g_callVV F u_X3_seals (by rfl) (c_X3_seals hC hi) hC.1 rfl rfl w_ml_RL_129 dL_seals_3 (by rfl) (Nat.le_of_ble_eq_true rfl) (by decide) (by omega) (fun E8 w8 n8 h8 hn8 => ?_) (fun r7 w7 n7 h7 hn7 => ?_)
  · obtain ⟨⟨rfl, hc8⟩ | ⟨rfl, hc8⟩, rfl⟩ := h8
    · refine ⟨[], ⟨0, 9, 12, 28⟩, [], "java/lang/IndexOutOfBoundsException", rfl, (fun z9 hz9 => by cases hz9), by decide, by decide, w_cl_RL_28, w_ca_java_lang_IndexOutOfBoundsException_java_lang_IndexOutOfBoundsException, fun q9 => ?_⟩
      refine g_astore_n F dL_seals_12 (by decide) ?_
      refine g_iconst F dL_seals_13 ?_
      refine g_iret F rfl (by omega) ?_ dL_seals_14
      exact Or.inr (Or.inl ⟨hc8, rfl, rfl⟩)
    · exact hc8.elim
  obtain ⟨hk7, ⟨q7, rfl⟩, hC7, hB7⟩ := h7
  have hO2 : w7 o = some (.inl (4, [.long (eJ z), sv])) := (hB7 o hon).trans hO
  refine g_setN (ci := 4) (fi := 1) (q := (RX4, TX4, 2)) F hO2 rfl (by decide) w_fn_RL_125 rfl (by rfl) (by rfl) (Nat.le_of_ble_eq_true rfl) dL_seals_6 ?_
  refine g_goto F 15 dL_seals_9 (by decide) ?_
  refine g_iconst F dL_seals_15 ?_
  refine g_iret F rfl (by omega) ?_ dL_seals_16
  exact Or.inl ⟨hk7, rfl, hC7.kb (Nat.le_refl _) (by intro j8 hj8; exact e_up_n (by omega)), by intro q8 h1 h2 h3; rw [e_up_n h3]; exact hB7 q8 h1, ⟨q7, e_up_s⟩⟩
set_option maxHeartbeats 4000000 in
set_option maxRecDepth 100000 in
theorem w_isSame {K : e_K} {l : Launch} {w : e_W} {n : Nat} {x wh : Nat} {kn : Int} {D : Nat → SD} (hC : CW w x wh kn D) {i9 : Int} (hi9 : e_r i9) {j9 : Int} (hj9 : e_r j9) {z : Int} {sv : Value} {o : Nat} (hO : w o = some (.inl (4, [.long (eJ z), sv]))) (hxo : x + 27 ≤ o) : g_Met K l yL_isSame (Cond.codeWith yL_isSame cL_isSame 5 (some .int) [(0, 18, 21, 28)] :: e_TB) (8) (2) [.ref x, .int (eI i9), .int (eI j9), .ref o] w n (fun r w' n' => (((0 ≤ i9 ∧ i9 < 6) ∧ (0 ≤ j9 ∧ j9 < 6)) ∧ r = some (.int (eI 0)) ∧ CW w' x wh (kn) (D) ∧ LF w w' x o n ∧ w' o = some (.inl (4, [.long (eJ (if eI (smV wh (D i9.toNat) (D j9.toNat)) = eI 0 then 0 else 1)), sv]))) ∨ ((¬ ((0 ≤ i9 ∧ i9 < 6) ∧ (0 ≤ j9 ∧ j9 < 6))) ∧ r = some (.int (eI 1)) ∧ w' = w) ∨ (False ∧ r = some (.int (eI 2)) ∧ w' = w)) (e_px0) := by
  refine g_ofV rfl (Nat.le_of_ble_eq_true rfl) w_cw_L_isSame ?_
  intro P9 E9 S9 M9 A9 B9 T9 C9 F hnm
  refine g_aload_n F dL_isSame_0 rfl ?_
  refine g_aload_n F dL_isSame_1 rfl ?_
  refine g_iload_n F dL_isSame_2 rfl ?_
  refine g_iload_n F dL_isSame_3 rfl ?_
  refine g_callVV F u_X3_isSame (by rfl) (c_X3_isSame hC hi9 hj9) hC.1 rfl rfl w_ml_RL_132 dL_isSame_4 (by rfl) (Nat.le_of_ble_eq_true rfl) (by decide) (by omega) (fun E8 w8 n8 h8 hn8 => ?_) (fun r7 w7 n7 h7 hn7 => ?_)
  · obtain ⟨⟨rfl, hc8⟩ | ⟨rfl, hc8⟩, rfl⟩ := h8
    · refine ⟨[], ⟨0, 18, 21, 28⟩, [], "java/lang/IndexOutOfBoundsException", rfl, (fun z9 hz9 => by cases hz9), by decide, by decide, w_cl_RL_28, w_ca_java_lang_IndexOutOfBoundsException_java_lang_IndexOutOfBoundsException, fun q9 => ?_⟩
      refine g_astore F dL_isSame_21 (by decide) ?_
      refine g_iconst F dL_isSame_23 ?_
      refine g_iret F rfl (by omega) ?_ dL_isSame_24
      exact Or.inr (Or.inl ⟨hc8, rfl, rfl⟩)
    · exact hc8.elim
  obtain ⟨hk7, rfl, rfl, hC7, hF7⟩ := h7
  have hO2 : w7 o = some (.inl (4, [.long (eJ z), sv])) := (hF7 o (Or.inr hxo)).trans hO
  refine g_ifz F 14 dL_isSame_7 (by decide) (fun cz => ?_) (fun cz => ?_)
  · refine g_lconst F dL_isSame_14 (y := 0) (by decide) ?_
    refine g_setN (ci := 4) (fi := 0) (q := (RX4, TX4, 2)) F hO2 rfl (by decide) w_fn_RL_13 rfl (by rfl) (by rfl) (Nat.le_of_ble_eq_true rfl) dL_isSame_15 ?_
    refine g_goto F 25 dL_isSame_18 (by decide) ?_
    refine g_iconst F dL_isSame_25 ?_
    refine g_iret F rfl (by omega) ?_ dL_isSame_26
    exact Or.inl ⟨hk7, rfl, hC7.kb (Nat.le_refl _) (by intro j8 hj8; exact e_up_n (by omega)), by intro q8 h1 h2 h3; rw [e_up_n h3]; exact hF7 q8 h2, by rw [if_pos cz]; exact e_up_s⟩
  · refine g_lconst F dL_isSame_10 (y := 1) (by decide) ?_
    refine g_goto F 15 dL_isSame_11 (by decide) ?_
    refine g_setN (ci := 4) (fi := 0) (q := (RX4, TX4, 2)) F hO2 rfl (by decide) w_fn_RL_13 rfl (by rfl) (by rfl) (Nat.le_of_ble_eq_true rfl) dL_isSame_15 ?_
    refine g_goto F 25 dL_isSame_18 (by decide) ?_
    refine g_iconst F dL_isSame_25 ?_
    refine g_iret F rfl (by omega) ?_ dL_isSame_26
    exact Or.inl ⟨hk7, rfl, hC7.kb (Nat.le_refl _) (by intro j8 hj8; exact e_up_n (by omega)), by intro q8 h1 h2 h3; rw [e_up_n h3]; exact hF7 q8 h2, by rw [if_neg cz]; exact e_up_s⟩
set_option maxHeartbeats 4000000 in
set_option maxRecDepth 100000 in
theorem w_house {K : e_K} {l : Launch} {w : e_W} {n : Nat} {x wh : Nat} {kn : Int} {D : Nat → SD} (hC : CW w x wh kn D) {c9 : Int} (hc9 : e_r c9) {z : Int} {sv : Value} {o : Nat} (hO : w o = some (.inl (4, [.long (eJ z), sv]))) (hxo : x + 27 ≤ o) : g_Met K l yL_house (Cond.codeWith yL_house cL_house 4 (some .int) [(0, 10, 13, 19)] :: e_TB) (8) (1) [.ref x, .int (eI c9), .ref o] w n (fun r w' n' => ((0 ≤ c9 ∧ c9 ≤ 6) ∧ r = some (.int (eI 0)) ∧ CW w' x wh (kn) (D) ∧ LF w w' x o n ∧ w' o = some (.inl (4, [.long (eJ (LV (hsV wh kn D c9))), sv]))) ∨ ((¬ (0 ≤ c9 ∧ c9 ≤ 6)) ∧ r = some (.int (eI 1)) ∧ w' = w) ∨ (False ∧ r = some (.int (eI 2)) ∧ w' = w)) (e_px0) := by
  refine g_ofV rfl (Nat.le_of_ble_eq_true rfl) w_cw_L_house ?_
  intro P9 E9 S9 M9 A9 B9 T9 C9 F hnm
  refine g_aload_n F dL_house_0 rfl ?_
  refine g_aload_n F dL_house_1 rfl ?_
  refine g_iload_n F dL_house_2 rfl ?_
  refine g_callVV F u_X3_house (by rfl) (c_X3_house hC hc9) hC.1 rfl rfl w_ml_RL_136 dL_house_3 (by rfl) (Nat.le_of_ble_eq_true rfl) (by decide) (by omega) (fun E8 w8 n8 h8 hn8 => ?_) (fun r7 w7 n7 h7 hn7 => ?_)
  · obtain ⟨⟨rfl, hc8⟩ | ⟨rfl, hc8⟩, rfl⟩ := h8
    · exact hc8.elim
    · refine ⟨[], ⟨0, 10, 13, 19⟩, [], "java/lang/IllegalArgumentException", rfl, (fun z9 hz9 => by cases hz9), by decide, by decide, w_cl_RL_19, w_ca_java_lang_IllegalArgumentException_java_lang_IllegalArgumentException, fun q9 => ?_⟩
      refine g_astore_n F dL_house_13 (by decide) ?_
      refine g_iconst F dL_house_14 ?_
      refine g_iret F rfl (by omega) ?_ dL_house_15
      exact Or.inr (Or.inl ⟨hc8, rfl, rfl⟩)
  obtain ⟨hk7, rfl, rfl, hC7, hF7⟩ := h7
  have hO2 : w7 o = some (.inl (4, [.long (eJ z), sv])) := (hF7 o (Or.inr hxo)).trans hO
  refine g_i2l F dL_house_6 ?_
  refine g_setN (ci := 4) (fi := 0) (q := (RX4, TX4, 2)) F hO2 rfl (by decide) w_fn_RL_13 rfl (by rfl) (by rfl) (Nat.le_of_ble_eq_true rfl) dL_house_7 ?_
  refine g_goto F 16 dL_house_10 (by decide) ?_
  refine g_iconst F dL_house_16 ?_
  refine g_iret F rfl (by omega) ?_ dL_house_17
  exact Or.inl ⟨hk7, rfl, hC7.kb (Nat.le_refl _) (by intro j8 hj8; exact e_up_n (by omega)), by intro q8 h1 h2 h3; rw [e_up_n h3]; exact hF7 q8 h2, e_up_s⟩
