/-! act: what is done with the deals 0 to 4 -/
theorem po5 {wh i : Nat} {D : Nat → SD} {a b c d : Int} (h : i ≠ 5) : (poQ wh D i a b c d).2 5 = D 5 := by
  unfold poQ
  split
  · rfl
  · exact up_n (fun q => h q.symm)
theorem au5 {wh i j t : Nat} {D : Nat → SD} {b : Int} (h : t ≠ 5) : (auQ wh b D i j t).2 5 = D 5 := by
  unfold auQ
  split
  · rfl
  · exact up_n (fun q => h q.symm)
theorem ti5 {wh i j t : Nat} {D : Nat → SD} (h : t ≠ 5) : (tiQ wh D i j t).2 5 = D 5 := by
  unfold tiQ
  split
  · rfl
  · exact up_n (fun q => h q.symm)
theorem sc5 {wh i t : Nat} {D : Nat → SD} {b : Int} (h : t ≠ 5) : (scQ wh D i b t).2 5 = D 5 := by
  unfold scQ
  split
  · rfl
  · exact up_n (fun q => h q.symm)
theorem ha5 {wh i t : Nat} {D : Nat → SD} {u g a b : Int} (h : t ≠ 5) : (haQ wh D i u t g a b).2 5 = D 5 := by
  unfold haQ
  split
  · exact up_n (fun q => h q.symm)
  · rfl
theorem ls5 {i : Nat} {D : Nat → SD} {a : Int} (h : i ≠ 5) : (lsQ D i a).2 5 = D 5 := by
  unfold lsQ
  split
  · rfl
  · exact up_n (fun q => h q.symm)
theorem gi5 {wh i : Nat} {D : Nat → SD} {a v : Int} (h : i ≠ 5) : (giQ wh D i a v).2 5 = D 5 := by
  unfold giQ
  split
  · rfl
  · exact up_n (fun q => h q.symm)
theorem rg5 {wh i : Nat} {D : Nat → SD} {a v : Int} (h : i ≠ 5) : (rgQ wh D i a v).2 5 = D 5 := by
  unfold rgQ
  split
  · exact up_n (fun q => h q.symm)
  · rfl
theorem me5 {wh i : Nat} {D : Nat → SD} (h : i ≠ 5) : (meQ wh D i).2 5 = D 5 := by
  unfold meQ
  show (if _ then _ else D) 5 = D 5
  split
  · exact up_n (fun q => h q.symm)
  · rfl
set_option maxHeartbeats 4000000 in
set_option maxRecDepth 100000 in
theorem c_L_act {K : e_K} {l : Launch} {w : e_W} {n : Nat} {x wh : Nat} {D : Nat → SD} (hC : CW w x wh 0 D) (hQ : ∃ R, GG wh D R) {tn dl : Int} (ht : 0 ≤ tn ∧ tn < 16) (hd : 0 ≤ dl ∧ dl < 5) : g_Met K l yL_act (Cond.codeWith yL_act cL_act 10 none [(45, 338, 341, 105), (45, 338, 344, 107)] :: e_TB) (10) (20) [.ref x, .ref (K.2.2 20), .int (eI tn), .int (eI dl)] w n (fun r w' n' => r = none ∧ ∃ D2, QW w' x wh 0 D2 ∧ D2 5 = D 5) (e_px0) := by
  refine g_ofV rfl (Nat.le_of_ble_eq_true rfl) w_cw_L_act ?_
  intro P9 E9 S9 M9 A9 B9 T9 C9 F hnm
  obtain ⟨R, G⟩ := hQ
  have h5d : dl.toNat ≠ 5 := by omega
  have hfl := (fl_rg9 G.1).1
  -- locals 4 to 8 are drawn; then the switch
  refine g_aload_n F dL_act_0 rfl ?_
  refine g_iload_n F dL_act_1 rfl ?_
  refine g_iconst F dL_act_2 ?_
  refine g_callSS F u_L_draw (by rfl) (c_L_draw (by omega) (by omega) (by omega) (by omega)) w_ml_RL_26 dL_act_3 (by rfl) (Nat.le_of_ble_eq_true rfl) (by decide) (by omega) (fun _ _ _ h _ => False.elim h) (fun r_3 w_3 n_3 h_3 hn_3 => ?_)
  obtain ⟨⟨z3, rfl, hz3⟩, ew_3, en_3⟩ := h_3
  rw [ew_3, en_3]
  refine g_iconst F dL_act_6 ?_
  refine g_callSS F u_L_below (by rfl) (c_L_below (by first | assumption | exact eI_rg _ | (constructor <;> omega)) (by omega) (by omega)) w_ml_RL_18 dL_act_7 (by rfl) (Nat.le_of_ble_eq_true rfl) (by decide) (by omega) (fun _ _ _ h _ => False.elim h) (fun r_7 w_7 n_7 h_7 hn_7 => ?_)
  obtain ⟨⟨z7, rfl, hz7⟩, ew_7, en_7⟩ := h_7
  rw [ew_7, en_7]
  refine g_istore F dL_act_10 (by decide) ?_
  refine g_aload_n F dL_act_12 rfl ?_
  refine g_iload_n F dL_act_13 rfl ?_
  refine g_iconst F dL_act_14 ?_
  refine g_callSS F u_L_draw (by rfl) (c_L_draw (by omega) (by omega) (by omega) (by omega)) w_ml_RL_26 dL_act_15 (by rfl) (Nat.le_of_ble_eq_true rfl) (by decide) (by omega) (fun _ _ _ h _ => False.elim h) (fun r_15 w_15 n_15 h_15 hn_15 => ?_)
  obtain ⟨⟨z15, rfl, hz15⟩, ew_15, en_15⟩ := h_15
  rw [ew_15, en_15]
  refine g_istore F dL_act_18 (by decide) ?_
  refine g_aload_n F dL_act_20 rfl ?_
  refine g_iload_n F dL_act_21 rfl ?_
  refine g_iconst F dL_act_22 ?_
  refine g_callSS F u_L_draw (by rfl) (c_L_draw (by omega) (by omega) (by omega) (by omega)) w_ml_RL_26 dL_act_23 (by rfl) (Nat.le_of_ble_eq_true rfl) (by decide) (by omega) (fun _ _ _ h _ => False.elim h) (fun r_23 w_23 n_23 h_23 hn_23 => ?_)
  obtain ⟨⟨z23, rfl, hz23⟩, ew_23, en_23⟩ := h_23
  rw [ew_23, en_23]
  refine g_istore F dL_act_26 (by decide) ?_
  refine g_aload_n F dL_act_28 rfl ?_
  refine g_iload_n F dL_act_29 rfl ?_
  refine g_iconst F dL_act_30 ?_
  refine g_callSS F u_L_draw (by rfl) (c_L_draw (by omega) (by omega) (by omega) (by omega)) w_ml_RL_26 dL_act_31 (by rfl) (Nat.le_of_ble_eq_true rfl) (by decide) (by omega) (fun _ _ _ h _ => False.elim h) (fun r_31 w_31 n_31 h_31 hn_31 => ?_)
  obtain ⟨⟨z31, rfl, hz31⟩, ew_31, en_31⟩ := h_31
  rw [ew_31, en_31]
  refine g_istore F dL_act_34 (by decide) ?_
  refine g_aload_n F dL_act_36 rfl ?_
  refine g_iload_n F dL_act_37 rfl ?_
  refine g_bipush F dL_act_38 (by decide) ?_
  refine g_callSS F u_L_draw (by rfl) (c_L_draw (by omega) (by omega) (by omega) (by omega)) w_ml_RL_26 dL_act_40 (by rfl) (Nat.le_of_ble_eq_true rfl) (by decide) (by omega) (fun _ _ _ h _ => False.elim h) (fun r_40 w_40 n_40 h_40 hn_40 => ?_)
  obtain ⟨⟨z40, rfl, hz40⟩, ew_40, en_40⟩ := h_40
  rw [ew_40, en_40]
  refine g_istore F dL_act_43 (by decide) ?_
  have l65 : ∀ (z : Int) (k1 : Nat), 0 ≤ z → z < 13 → k1 ≤ 5 → e_V K P9 l E9 (10) (20) S9 M9 A9 B9 T9 C9 10 (fun r w' n' => r = none ∧ ∃ D2, QW w' x wh 0 D2 ∧ D2 5 = D 5) (e_px0) 65 [(0, .ref x), (1, .ref (K.2.2 20)), (2, .int (eI tn)), (3, .int (eI dl)), (4, .int (eI z7)), (5, .int (eI z15)), (6, .int (eI z23)), (7, .int (eI z31)), (8, .int (eI z40))] [.int (eI z)] w n (k1) := by
    intro z k1 hz0 hz1 hk1
    rcases (show z = 0 ∨ z = 1 ∨ z = 2 ∨ z = 3 ∨ z = 4 ∨ z = 5 ∨ z = 6 ∨ z = 7 ∨ z = 8 ∨ z = 9 ∨ z = 10 ∨ z = 11 ∨ z = 12 by omega) with rfl | rfl | rfl | rfl | rfl | rfl | rfl | rfl | rfl | rfl | rfl | rfl | rfl
    · refine g_tabIn F 128 dL_act_65 (by decide) (by decide) (by decide) (by rfl) (by decide) ?_
      refine g_aload_n F dL_act_128 rfl ?_
      refine g_iload_n F dL_act_129 rfl ?_
      refine g_iload F dL_act_130 rfl ?_
      refine g_iconst F dL_act_132 ?_
      refine g_callSS F u_L_below (by rfl) (c_L_below (by first | assumption | exact eI_rg _ | (constructor <;> omega)) (by omega) (by omega)) w_ml_RL_18 dL_act_133 (by rfl) (Nat.le_of_ble_eq_true rfl) (by decide) (by omega) (fun _ _ _ h _ => False.elim h) (fun r_133 w_133 n_133 h_133 hn_133 => ?_)
      obtain ⟨⟨z133, rfl, hz133⟩, ew_133, en_133⟩ := h_133
      rw [ew_133, en_133]
      refine g_iload F dL_act_136 rfl ?_
      refine g_iload F dL_act_138 rfl ?_
      refine g_iload F dL_act_140 rfl ?_
      refine g_iload F dL_act_142 rfl ?_
      refine g_iconst F dL_act_144 ?_
      refine g_ishr F dL_act_145 (eI_self _).symm ?_
      refine g_callVV F u_X3_hide (by rfl) (c_X3_hide hC (by first | assumption | exact eI_rg _ | (constructor <;> omega)) (by first | assumption | exact eI_rg _ | (constructor <;> omega)) (by first | assumption | exact eI_rg _ | (constructor <;> omega)) (by first | assumption | exact eI_rg _ | (constructor <;> omega)) (by first | assumption | exact eI_rg _ | (constructor <;> omega)) (by first | assumption | exact eI_rg _ | (constructor <;> omega))) hC.1 rfl rfl w_ml_RL_66 dL_act_146 (by rfl) (Nat.le_of_ble_eq_true rfl) (by decide) (by omega) (fun E8 w8 n8 h8 hn8 => ?_) (fun r7 w7 n7 h7 hn7 => ?_)
      · obtain ⟨⟨rfl, hc8⟩ | ⟨rfl, hc8⟩, rfl⟩ := h8
        · refine ⟨[], ⟨45, 338, 341, 105⟩, [⟨45, 338, 344, 107⟩], "java/lang/IndexOutOfBoundsException", rfl, (fun z9 hz9 => by cases hz9), by decide, by decide, w_cl_RL_105, w_ca_java_lang_IndexOutOfBoundsException_java_lang_IndexOutOfBoundsException, fun q9 => ?_⟩
          refine g_astore F dL_act_341 (by decide) ?_
          refine g_vret F rfl (by omega) ?_ dL_act_343
          exact ⟨rfl, D, ⟨hC, _, G⟩, rfl⟩
        · refine ⟨[⟨45, 338, 341, 105⟩], ⟨45, 338, 344, 107⟩, [], "java/lang/IllegalArgumentException", rfl, (fun z9 hz9 => by rw [List.mem_singleton.mp hz9]; exact Or.inr ⟨by decide, _, w_cl_RL_105, F.2.2.2.2.2.2.2.1.2⟩), by decide, by decide, w_cl_RL_107, w_ca_java_lang_IllegalArgumentException_java_lang_IllegalArgumentException, fun q9 => ?_⟩
          refine g_astore F dL_act_344 (by decide) ?_
          refine g_vret F rfl (by omega) ?_ dL_act_346
          exact ⟨rfl, D, ⟨hC, _, G⟩, rfl⟩
      obtain ⟨hc7, rfl, en7, hC7, -⟩ := h7
      refine g_pop F dL_act_149 rfl ?_
      refine g_goto F 338 dL_act_150 (by decide) ?_
      refine g_goto F 347 dL_act_338 (by decide) ?_
      refine g_vret F rfl (by omega) ?_ dL_act_347
      exact ⟨rfl, _, QW.of hC7 (y_hide G hc7).2, up_n (by omega)⟩
    · refine g_tabIn F 128 dL_act_65 (by decide) (by decide) (by decide) (by rfl) (by decide) ?_
      refine g_aload_n F dL_act_128 rfl ?_
      refine g_iload_n F dL_act_129 rfl ?_
      refine g_iload F dL_act_130 rfl ?_
      refine g_iconst F dL_act_132 ?_
      refine g_callSS F u_L_below (by rfl) (c_L_below (by first | assumption | exact eI_rg _ | (constructor <;> omega)) (by omega) (by omega)) w_ml_RL_18 dL_act_133 (by rfl) (Nat.le_of_ble_eq_true rfl) (by decide) (by omega) (fun _ _ _ h _ => False.elim h) (fun r_133 w_133 n_133 h_133 hn_133 => ?_)
      obtain ⟨⟨z133, rfl, hz133⟩, ew_133, en_133⟩ := h_133
      rw [ew_133, en_133]
      refine g_iload F dL_act_136 rfl ?_
      refine g_iload F dL_act_138 rfl ?_
      refine g_iload F dL_act_140 rfl ?_
      refine g_iload F dL_act_142 rfl ?_
      refine g_iconst F dL_act_144 ?_
      refine g_ishr F dL_act_145 (eI_self _).symm ?_
      refine g_callVV F u_X3_hide (by rfl) (c_X3_hide hC (by first | assumption | exact eI_rg _ | (constructor <;> omega)) (by first | assumption | exact eI_rg _ | (constructor <;> omega)) (by first | assumption | exact eI_rg _ | (constructor <;> omega)) (by first | assumption | exact eI_rg _ | (constructor <;> omega)) (by first | assumption | exact eI_rg _ | (constructor <;> omega)) (by first | assumption | exact eI_rg _ | (constructor <;> omega))) hC.1 rfl rfl w_ml_RL_66 dL_act_146 (by rfl) (Nat.le_of_ble_eq_true rfl) (by decide) (by omega) (fun E8 w8 n8 h8 hn8 => ?_) (fun r7 w7 n7 h7 hn7 => ?_)
      · obtain ⟨⟨rfl, hc8⟩ | ⟨rfl, hc8⟩, rfl⟩ := h8
        · refine ⟨[], ⟨45, 338, 341, 105⟩, [⟨45, 338, 344, 107⟩], "java/lang/IndexOutOfBoundsException", rfl, (fun z9 hz9 => by cases hz9), by decide, by decide, w_cl_RL_105, w_ca_java_lang_IndexOutOfBoundsException_java_lang_IndexOutOfBoundsException, fun q9 => ?_⟩
          refine g_astore F dL_act_341 (by decide) ?_
          refine g_vret F rfl (by omega) ?_ dL_act_343
          exact ⟨rfl, D, ⟨hC, _, G⟩, rfl⟩
        · refine ⟨[⟨45, 338, 341, 105⟩], ⟨45, 338, 344, 107⟩, [], "java/lang/IllegalArgumentException", rfl, (fun z9 hz9 => by rw [List.mem_singleton.mp hz9]; exact Or.inr ⟨by decide, _, w_cl_RL_105, F.2.2.2.2.2.2.2.1.2⟩), by decide, by decide, w_cl_RL_107, w_ca_java_lang_IllegalArgumentException_java_lang_IllegalArgumentException, fun q9 => ?_⟩
          refine g_astore F dL_act_344 (by decide) ?_
          refine g_vret F rfl (by omega) ?_ dL_act_346
          exact ⟨rfl, D, ⟨hC, _, G⟩, rfl⟩
      obtain ⟨hc7, rfl, en7, hC7, -⟩ := h7
      refine g_pop F dL_act_149 rfl ?_
      refine g_goto F 338 dL_act_150 (by decide) ?_
      refine g_goto F 347 dL_act_338 (by decide) ?_
      refine g_vret F rfl (by omega) ?_ dL_act_347
      exact ⟨rfl, _, QW.of hC7 (y_hide G hc7).2, up_n (by omega)⟩
    · refine g_tabIn F 153 dL_act_65 (by decide) (by decide) (by decide) (by rfl) (by decide) ?_
      refine g_aload_n F dL_act_153 rfl ?_
      refine g_iload_n F dL_act_154 rfl ?_
      refine g_iload F dL_act_155 rfl ?_
      refine g_iload F dL_act_157 rfl ?_
      refine g_iload F dL_act_159 rfl ?_
      refine g_iload F dL_act_161 rfl ?_
      refine g_callVV F u_X3_pour (by rfl) (c_X3_pour hC (by first | assumption | exact eI_rg _ | (constructor <;> omega)) (by first | assumption | exact eI_rg _ | (constructor <;> omega)) (by first | assumption | exact eI_rg _ | (constructor <;> omega)) (by first | assumption | exact eI_rg _ | (constructor <;> omega)) (by first | assumption | exact eI_rg _ | (constructor <;> omega))) hC.1 rfl rfl w_ml_RL_70 dL_act_163 (by rfl) (Nat.le_of_ble_eq_true rfl) (by decide) (by omega) (fun E8 w8 n8 h8 hn8 => ?_) (fun r7 w7 n7 h7 hn7 => ?_)
      · obtain ⟨⟨rfl, hc8⟩ | ⟨rfl, hc8⟩, rfl⟩ := h8
        · refine ⟨[], ⟨45, 338, 341, 105⟩, [⟨45, 338, 344, 107⟩], "java/lang/IndexOutOfBoundsException", rfl, (fun z9 hz9 => by cases hz9), by decide, by decide, w_cl_RL_105, w_ca_java_lang_IndexOutOfBoundsException_java_lang_IndexOutOfBoundsException, fun q9 => ?_⟩
          refine g_astore F dL_act_341 (by decide) ?_
          refine g_vret F rfl (by omega) ?_ dL_act_343
          exact ⟨rfl, D, ⟨hC, _, G⟩, rfl⟩
        · refine ⟨[⟨45, 338, 341, 105⟩], ⟨45, 338, 344, 107⟩, [], "java/lang/IllegalArgumentException", rfl, (fun z9 hz9 => by rw [List.mem_singleton.mp hz9]; exact Or.inr ⟨by decide, _, w_cl_RL_105, F.2.2.2.2.2.2.2.1.2⟩), by decide, by decide, w_cl_RL_107, w_ca_java_lang_IllegalArgumentException_java_lang_IllegalArgumentException, fun q9 => ?_⟩
          refine g_astore F dL_act_344 (by decide) ?_
          refine g_vret F rfl (by omega) ?_ dL_act_346
          exact ⟨rfl, D, ⟨hC, _, G⟩, rfl⟩
      obtain ⟨hc7, rfl, en7, hC7, -⟩ := h7
      refine g_pop F dL_act_166 rfl ?_
      refine g_goto F 338 dL_act_167 (by decide) ?_
      refine g_goto F 347 dL_act_338 (by decide) ?_
      refine g_vret F rfl (by omega) ?_ dL_act_347
      exact ⟨rfl, _, QW.of hC7 (y_pour G hc7).2, po5 h5d⟩
    · refine g_tabIn F 170 dL_act_65 (by decide) (by decide) (by decide) (by rfl) (by decide) ?_
      refine g_aload_n F dL_act_170 rfl ?_
      refine g_iload_n F dL_act_171 rfl ?_
      refine g_iload F dL_act_172 rfl ?_
      refine g_iload F dL_act_174 rfl ?_
      refine g_iconst F dL_act_176 ?_
      refine g_callSS F u_L_below (by rfl) (c_L_below (by first | assumption | exact eI_rg _ | (constructor <;> omega)) (by omega) (by omega)) w_ml_RL_18 dL_act_177 (by rfl) (Nat.le_of_ble_eq_true rfl) (by decide) (by omega) (fun _ _ _ h _ => False.elim h) (fun r_177 w_177 n_177 h_177 hn_177 => ?_)
      obtain ⟨⟨z177, rfl, hz177⟩, ew_177, en_177⟩ := h_177
      rw [ew_177, en_177]
      refine g_callVV F u_X3_plus (by rfl) (c_X3_plus hC (by first | assumption | exact eI_rg _ | (constructor <;> omega)) (by first | assumption | exact eI_rg _ | (constructor <;> omega)) (by first | assumption | exact eI_rg _ | (constructor <;> omega))) hC.1 rfl rfl w_ml_RL_74 dL_act_180 (by rfl) (Nat.le_of_ble_eq_true rfl) (by decide) (by omega) (fun E8 w8 n8 h8 hn8 => ?_) (fun r7 w7 n7 h7 hn7 => ?_)
      · obtain ⟨⟨rfl, hc8⟩ | ⟨rfl, hc8⟩, rfl⟩ := h8
        · refine ⟨[], ⟨45, 338, 341, 105⟩, [⟨45, 338, 344, 107⟩], "java/lang/IndexOutOfBoundsException", rfl, (fun z9 hz9 => by cases hz9), by decide, by decide, w_cl_RL_105, w_ca_java_lang_IndexOutOfBoundsException_java_lang_IndexOutOfBoundsException, fun q9 => ?_⟩
          refine g_astore F dL_act_341 (by decide) ?_
          refine g_vret F rfl (by omega) ?_ dL_act_343
          exact ⟨rfl, D, ⟨hC, _, G⟩, rfl⟩
        · refine ⟨[⟨45, 338, 341, 105⟩], ⟨45, 338, 344, 107⟩, [], "java/lang/IllegalArgumentException", rfl, (fun z9 hz9 => by rw [List.mem_singleton.mp hz9]; exact Or.inr ⟨by decide, _, w_cl_RL_105, F.2.2.2.2.2.2.2.1.2⟩), by decide, by decide, w_cl_RL_107, w_ca_java_lang_IllegalArgumentException_java_lang_IllegalArgumentException, fun q9 => ?_⟩
          refine g_astore F dL_act_344 (by decide) ?_
          refine g_vret F rfl (by omega) ?_ dL_act_346
          exact ⟨rfl, D, ⟨hC, _, G⟩, rfl⟩
      obtain ⟨hc7, rfl, en7, hC7, -⟩ := h7
      refine g_pop F dL_act_183 rfl ?_
      refine g_goto F 338 dL_act_184 (by decide) ?_
      refine g_goto F 347 dL_act_338 (by decide) ?_
      refine g_vret F rfl (by omega) ?_ dL_act_347
      exact ⟨rfl, _, QW.of hC7 (y_plus G hc7).2, au5 (by omega)⟩
    · refine g_tabIn F 187 dL_act_65 (by decide) (by decide) (by decide) (by rfl) (by decide) ?_
      refine g_aload_n F dL_act_187 rfl ?_
      refine g_iload_n F dL_act_188 rfl ?_
      refine g_iload F dL_act_189 rfl ?_
      refine g_iload F dL_act_191 rfl ?_
      refine g_iconst F dL_act_193 ?_
      refine g_callSS F u_L_below (by rfl) (c_L_below (by first | assumption | exact eI_rg _ | (constructor <;> omega)) (by omega) (by omega)) w_ml_RL_18 dL_act_194 (by rfl) (Nat.le_of_ble_eq_true rfl) (by decide) (by omega) (fun _ _ _ h _ => False.elim h) (fun r_194 w_194 n_194 h_194 hn_194 => ?_)
      obtain ⟨⟨z194, rfl, hz194⟩, ew_194, en_194⟩ := h_194
      rw [ew_194, en_194]
      refine g_callVV F u_X3_less (by rfl) (c_X3_less hC (by first | assumption | exact eI_rg _ | (constructor <;> omega)) (by first | assumption | exact eI_rg _ | (constructor <;> omega)) (by first | assumption | exact eI_rg _ | (constructor <;> omega))) hC.1 rfl rfl w_ml_RL_78 dL_act_197 (by rfl) (Nat.le_of_ble_eq_true rfl) (by decide) (by omega) (fun E8 w8 n8 h8 hn8 => ?_) (fun r7 w7 n7 h7 hn7 => ?_)
      · obtain ⟨⟨rfl, hc8⟩ | ⟨rfl, hc8⟩, rfl⟩ := h8
        · refine ⟨[], ⟨45, 338, 341, 105⟩, [⟨45, 338, 344, 107⟩], "java/lang/IndexOutOfBoundsException", rfl, (fun z9 hz9 => by cases hz9), by decide, by decide, w_cl_RL_105, w_ca_java_lang_IndexOutOfBoundsException_java_lang_IndexOutOfBoundsException, fun q9 => ?_⟩
          refine g_astore F dL_act_341 (by decide) ?_
          refine g_vret F rfl (by omega) ?_ dL_act_343
          exact ⟨rfl, D, ⟨hC, _, G⟩, rfl⟩
        · refine ⟨[⟨45, 338, 341, 105⟩], ⟨45, 338, 344, 107⟩, [], "java/lang/IllegalArgumentException", rfl, (fun z9 hz9 => by rw [List.mem_singleton.mp hz9]; exact Or.inr ⟨by decide, _, w_cl_RL_105, F.2.2.2.2.2.2.2.1.2⟩), by decide, by decide, w_cl_RL_107, w_ca_java_lang_IllegalArgumentException_java_lang_IllegalArgumentException, fun q9 => ?_⟩
          refine g_astore F dL_act_344 (by decide) ?_
          refine g_vret F rfl (by omega) ?_ dL_act_346
          exact ⟨rfl, D, ⟨hC, _, G⟩, rfl⟩
      obtain ⟨hc7, rfl, en7, hC7, -⟩ := h7
      refine g_pop F dL_act_200 rfl ?_
      refine g_goto F 338 dL_act_201 (by decide) ?_
      refine g_goto F 347 dL_act_338 (by decide) ?_
      refine g_vret F rfl (by omega) ?_ dL_act_347
      exact ⟨rfl, _, QW.of hC7 (y_less G hc7).2, au5 (by omega)⟩
    · refine g_tabIn F 204 dL_act_65 (by decide) (by decide) (by decide) (by rfl) (by decide) ?_
      refine g_aload_n F dL_act_204 rfl ?_
      refine g_iload_n F dL_act_205 rfl ?_
      refine g_iload F dL_act_206 rfl ?_
      refine g_iload F dL_act_208 rfl ?_
      refine g_iconst F dL_act_210 ?_
      refine g_callSS F u_L_below (by rfl) (c_L_below (by first | assumption | exact eI_rg _ | (constructor <;> omega)) (by omega) (by omega)) w_ml_RL_18 dL_act_211 (by rfl) (Nat.le_of_ble_eq_true rfl) (by decide) (by omega) (fun _ _ _ h _ => False.elim h) (fun r_211 w_211 n_211 h_211 hn_211 => ?_)
      obtain ⟨⟨z211, rfl, hz211⟩, ew_211, en_211⟩ := h_211
      rw [ew_211, en_211]
      refine g_callVV F u_X3_times (by rfl) (c_X3_times hC (by first | assumption | exact eI_rg _ | (constructor <;> omega)) (by first | assumption | exact eI_rg _ | (constructor <;> omega)) (by first | assumption | exact eI_rg _ | (constructor <;> omega))) hC.1 rfl rfl w_ml_RL_81 dL_act_214 (by rfl) (Nat.le_of_ble_eq_true rfl) (by decide) (by omega) (fun E8 w8 n8 h8 hn8 => ?_) (fun r7 w7 n7 h7 hn7 => ?_)
      · obtain ⟨⟨rfl, hc8⟩ | ⟨rfl, hc8⟩, rfl⟩ := h8
        · refine ⟨[], ⟨45, 338, 341, 105⟩, [⟨45, 338, 344, 107⟩], "java/lang/IndexOutOfBoundsException", rfl, (fun z9 hz9 => by cases hz9), by decide, by decide, w_cl_RL_105, w_ca_java_lang_IndexOutOfBoundsException_java_lang_IndexOutOfBoundsException, fun q9 => ?_⟩
          refine g_astore F dL_act_341 (by decide) ?_
          refine g_vret F rfl (by omega) ?_ dL_act_343
          exact ⟨rfl, D, ⟨hC, _, G⟩, rfl⟩
        · refine ⟨[⟨45, 338, 341, 105⟩], ⟨45, 338, 344, 107⟩, [], "java/lang/IllegalArgumentException", rfl, (fun z9 hz9 => by rw [List.mem_singleton.mp hz9]; exact Or.inr ⟨by decide, _, w_cl_RL_105, F.2.2.2.2.2.2.2.1.2⟩), by decide, by decide, w_cl_RL_107, w_ca_java_lang_IllegalArgumentException_java_lang_IllegalArgumentException, fun q9 => ?_⟩
          refine g_astore F dL_act_344 (by decide) ?_
          refine g_vret F rfl (by omega) ?_ dL_act_346
          exact ⟨rfl, D, ⟨hC, _, G⟩, rfl⟩
      obtain ⟨hc7, rfl, en7, hC7, -⟩ := h7
      refine g_pop F dL_act_217 rfl ?_
      refine g_goto F 338 dL_act_218 (by decide) ?_
      refine g_goto F 347 dL_act_338 (by decide) ?_
      refine g_vret F rfl (by omega) ?_ dL_act_347
      exact ⟨rfl, _, QW.of hC7 (y_times G hc7).2, ti5 (by omega)⟩
    · refine g_tabIn F 221 dL_act_65 (by decide) (by decide) (by decide) (by rfl) (by decide) ?_
      refine g_aload_n F dL_act_221 rfl ?_
      refine g_iload F dL_act_222 rfl ?_
      refine g_iload F dL_act_224 rfl ?_
      refine g_iload_n F dL_act_226 rfl ?_
      refine g_callVV F u_X3_scale (by rfl) (c_X3_scale hC (by first | assumption | exact eI_rg _ | (constructor <;> omega)) (by first | assumption | exact eI_rg _ | (constructor <;> omega)) (by first | assumption | exact eI_rg _ | (constructor <;> omega))) hC.1 rfl rfl w_ml_RL_84 dL_act_227 (by rfl) (Nat.le_of_ble_eq_true rfl) (by decide) (by omega) (fun E8 w8 n8 h8 hn8 => ?_) (fun r7 w7 n7 h7 hn7 => ?_)
      · obtain ⟨⟨rfl, hc8⟩ | ⟨rfl, hc8⟩, rfl⟩ := h8
        · refine ⟨[], ⟨45, 338, 341, 105⟩, [⟨45, 338, 344, 107⟩], "java/lang/IndexOutOfBoundsException", rfl, (fun z9 hz9 => by cases hz9), by decide, by decide, w_cl_RL_105, w_ca_java_lang_IndexOutOfBoundsException_java_lang_IndexOutOfBoundsException, fun q9 => ?_⟩
          refine g_astore F dL_act_341 (by decide) ?_
          refine g_vret F rfl (by omega) ?_ dL_act_343
          exact ⟨rfl, D, ⟨hC, _, G⟩, rfl⟩
        · refine ⟨[⟨45, 338, 341, 105⟩], ⟨45, 338, 344, 107⟩, [], "java/lang/IllegalArgumentException", rfl, (fun z9 hz9 => by rw [List.mem_singleton.mp hz9]; exact Or.inr ⟨by decide, _, w_cl_RL_105, F.2.2.2.2.2.2.2.1.2⟩), by decide, by decide, w_cl_RL_107, w_ca_java_lang_IllegalArgumentException_java_lang_IllegalArgumentException, fun q9 => ?_⟩
          refine g_astore F dL_act_344 (by decide) ?_
          refine g_vret F rfl (by omega) ?_ dL_act_346
          exact ⟨rfl, D, ⟨hC, _, G⟩, rfl⟩
      obtain ⟨hc7, rfl, en7, hC7, -⟩ := h7
      refine g_pop F dL_act_230 rfl ?_
      refine g_goto F 338 dL_act_231 (by decide) ?_
      refine g_goto F 347 dL_act_338 (by decide) ?_
      refine g_vret F rfl (by omega) ?_ dL_act_347
      exact ⟨rfl, _, QW.of hC7 (y_scale G hc7).2, sc5 h5d⟩
    · refine g_tabIn F 234 dL_act_65 (by decide) (by decide) (by decide) (by rfl) (by decide) ?_
      refine g_aload_n F dL_act_234 rfl ?_
      refine g_iload F dL_act_235 rfl ?_
      refine g_iload F dL_act_237 rfl ?_
      refine g_sipush F dL_act_239 (by decide) ?_
      refine g_callSS F u_L_below (by rfl) (c_L_below (by first | assumption | exact eI_rg _ | (constructor <;> omega)) (by omega) (by omega)) w_ml_RL_18 dL_act_242 (by rfl) (Nat.le_of_ble_eq_true rfl) (by decide) (by omega) (fun _ _ _ h _ => False.elim h) (fun r_242 w_242 n_242 h_242 hn_242 => ?_)
      obtain ⟨⟨z242, rfl, hz242⟩, ew_242, en_242⟩ := h_242
      rw [ew_242, en_242]
      refine g_iload_n F dL_act_245 rfl ?_
      refine g_iload F dL_act_246 rfl ?_
      refine g_iconst F dL_act_248 ?_
      refine g_callSS F u_L_below (by rfl) (c_L_below (by first | assumption | exact eI_rg _ | (constructor <;> omega)) (by omega) (by omega)) w_ml_RL_18 dL_act_249 (by rfl) (Nat.le_of_ble_eq_true rfl) (by decide) (by omega) (fun _ _ _ h _ => False.elim h) (fun r_249 w_249 n_249 h_249 hn_249 => ?_)
      obtain ⟨⟨z249, rfl, hz249⟩, ew_249, en_249⟩ := h_249
      rw [ew_249, en_249]
      refine g_iload F dL_act_252 rfl ?_
      refine g_iload F dL_act_254 rfl ?_
      refine g_callVV F u_X3_handOn (by rfl) (c_X3_handOn hC (by first | assumption | exact eI_rg _ | (constructor <;> omega)) (by first | assumption | exact eI_rg _ | (constructor <;> omega)) (by first | assumption | exact eI_rg _ | (constructor <;> omega)) (by first | assumption | exact eI_rg _ | (constructor <;> omega)) (by first | assumption | exact eI_rg _ | (constructor <;> omega)) (by first | assumption | exact eI_rg _ | (constructor <;> omega))) hC.1 rfl rfl w_ml_RL_87 dL_act_256 (by rfl) (Nat.le_of_ble_eq_true rfl) (by decide) (by omega) (fun E8 w8 n8 h8 hn8 => ?_) (fun r7 w7 n7 h7 hn7 => ?_)
      · obtain ⟨⟨rfl, hc8⟩ | ⟨rfl, hc8⟩, rfl⟩ := h8
        · refine ⟨[], ⟨45, 338, 341, 105⟩, [⟨45, 338, 344, 107⟩], "java/lang/IndexOutOfBoundsException", rfl, (fun z9 hz9 => by cases hz9), by decide, by decide, w_cl_RL_105, w_ca_java_lang_IndexOutOfBoundsException_java_lang_IndexOutOfBoundsException, fun q9 => ?_⟩
          refine g_astore F dL_act_341 (by decide) ?_
          refine g_vret F rfl (by omega) ?_ dL_act_343
          exact ⟨rfl, D, ⟨hC, _, G⟩, rfl⟩
        · refine ⟨[⟨45, 338, 341, 105⟩], ⟨45, 338, 344, 107⟩, [], "java/lang/IllegalArgumentException", rfl, (fun z9 hz9 => by rw [List.mem_singleton.mp hz9]; exact Or.inr ⟨by decide, _, w_cl_RL_105, F.2.2.2.2.2.2.2.1.2⟩), by decide, by decide, w_cl_RL_107, w_ca_java_lang_IllegalArgumentException_java_lang_IllegalArgumentException, fun q9 => ?_⟩
          refine g_astore F dL_act_344 (by decide) ?_
          refine g_vret F rfl (by omega) ?_ dL_act_346
          exact ⟨rfl, D, ⟨hC, _, G⟩, rfl⟩
      obtain ⟨hc7, rfl, en7, hC7, -⟩ := h7
      refine g_pop F dL_act_259 rfl ?_
      refine g_goto F 338 dL_act_260 (by decide) ?_
      refine g_goto F 347 dL_act_338 (by decide) ?_
      refine g_vret F rfl (by omega) ?_ dL_act_347
      exact ⟨rfl, _, QW.of hC7 (y_handOn G hc7).2, ha5 h5d⟩
    · refine g_tabIn F 263 dL_act_65 (by decide) (by decide) (by decide) (by rfl) (by decide) ?_
      refine g_aload_n F dL_act_263 rfl ?_
      refine g_iload_n F dL_act_264 rfl ?_
      refine g_iload F dL_act_265 rfl ?_
      refine g_bipush F dL_act_267 (by decide) ?_
      refine g_callSS F u_L_below (by rfl) (c_L_below (by first | assumption | exact eI_rg _ | (constructor <;> omega)) (by omega) (by omega)) w_ml_RL_18 dL_act_269 (by rfl) (Nat.le_of_ble_eq_true rfl) (by decide) (by omega) (fun _ _ _ h _ => False.elim h) (fun r_269 w_269 n_269 h_269 hn_269 => ?_)
      obtain ⟨⟨z269, rfl, hz269⟩, ew_269, en_269⟩ := h_269
      rw [ew_269, en_269]
      refine g_callVV F u_X3_lose (by rfl) (c_X3_lose hC (by first | assumption | exact eI_rg _ | (constructor <;> omega)) (by first | assumption | exact eI_rg _ | (constructor <;> omega))) hC.1 rfl rfl w_ml_RL_90 dL_act_272 (by rfl) (Nat.le_of_ble_eq_true rfl) (by decide) (by omega) (fun E8 w8 n8 h8 hn8 => ?_) (fun r7 w7 n7 h7 hn7 => ?_)
      · obtain ⟨⟨rfl, hc8⟩ | ⟨rfl, hc8⟩, rfl⟩ := h8
        · refine ⟨[], ⟨45, 338, 341, 105⟩, [⟨45, 338, 344, 107⟩], "java/lang/IndexOutOfBoundsException", rfl, (fun z9 hz9 => by cases hz9), by decide, by decide, w_cl_RL_105, w_ca_java_lang_IndexOutOfBoundsException_java_lang_IndexOutOfBoundsException, fun q9 => ?_⟩
          refine g_astore F dL_act_341 (by decide) ?_
          refine g_vret F rfl (by omega) ?_ dL_act_343
          exact ⟨rfl, D, ⟨hC, _, G⟩, rfl⟩
        · refine ⟨[⟨45, 338, 341, 105⟩], ⟨45, 338, 344, 107⟩, [], "java/lang/IllegalArgumentException", rfl, (fun z9 hz9 => by rw [List.mem_singleton.mp hz9]; exact Or.inr ⟨by decide, _, w_cl_RL_105, F.2.2.2.2.2.2.2.1.2⟩), by decide, by decide, w_cl_RL_107, w_ca_java_lang_IllegalArgumentException_java_lang_IllegalArgumentException, fun q9 => ?_⟩
          refine g_astore F dL_act_344 (by decide) ?_
          refine g_vret F rfl (by omega) ?_ dL_act_346
          exact ⟨rfl, D, ⟨hC, _, G⟩, rfl⟩
      obtain ⟨hc7, rfl, en7, hC7, -⟩ := h7
      refine g_pop F dL_act_275 rfl ?_
      refine g_goto F 338 dL_act_276 (by decide) ?_
      refine g_goto F 347 dL_act_338 (by decide) ?_
      refine g_vret F rfl (by omega) ?_ dL_act_347
      exact ⟨rfl, _, QW.of hC7 (y_lose G hc7).2, ls5 h5d⟩
    · refine g_tabIn F 279 dL_act_65 (by decide) (by decide) (by decide) (by rfl) (by decide) ?_
      refine g_aload_n F dL_act_279 rfl ?_
      refine g_iload_n F dL_act_280 rfl ?_
      refine g_iload F dL_act_281 rfl ?_
      refine g_bipush F dL_act_283 (by decide) ?_
      refine g_callSS F u_L_below (by rfl) (c_L_below (by first | assumption | exact eI_rg _ | (constructor <;> omega)) (by omega) (by omega)) w_ml_RL_18 dL_act_285 (by rfl) (Nat.le_of_ble_eq_true rfl) (by decide) (by omega) (fun _ _ _ h _ => False.elim h) (fun r_285 w_285 n_285 h_285 hn_285 => ?_)
      obtain ⟨⟨z285, rfl, hz285⟩, ew_285, en_285⟩ := h_285
      rw [ew_285, en_285]
      refine g_iload F dL_act_288 rfl ?_
      refine g_callVV F u_X3_give (by rfl) (c_X3_give hC (by first | assumption | exact eI_rg _ | (constructor <;> omega)) (by first | assumption | exact eI_rg _ | (constructor <;> omega)) (by first | assumption | exact eI_rg _ | (constructor <;> omega))) hC.1 rfl rfl w_ml_RL_93 dL_act_290 (by rfl) (Nat.le_of_ble_eq_true rfl) (by decide) (by omega) (fun E8 w8 n8 h8 hn8 => ?_) (fun r7 w7 n7 h7 hn7 => ?_)
      · obtain ⟨⟨rfl, hc8⟩ | ⟨rfl, hc8⟩, rfl⟩ := h8
        · refine ⟨[], ⟨45, 338, 341, 105⟩, [⟨45, 338, 344, 107⟩], "java/lang/IndexOutOfBoundsException", rfl, (fun z9 hz9 => by cases hz9), by decide, by decide, w_cl_RL_105, w_ca_java_lang_IndexOutOfBoundsException_java_lang_IndexOutOfBoundsException, fun q9 => ?_⟩
          refine g_astore F dL_act_341 (by decide) ?_
          refine g_vret F rfl (by omega) ?_ dL_act_343
          exact ⟨rfl, D, ⟨hC, _, G⟩, rfl⟩
        · refine ⟨[⟨45, 338, 341, 105⟩], ⟨45, 338, 344, 107⟩, [], "java/lang/IllegalArgumentException", rfl, (fun z9 hz9 => by rw [List.mem_singleton.mp hz9]; exact Or.inr ⟨by decide, _, w_cl_RL_105, F.2.2.2.2.2.2.2.1.2⟩), by decide, by decide, w_cl_RL_107, w_ca_java_lang_IllegalArgumentException_java_lang_IllegalArgumentException, fun q9 => ?_⟩
          refine g_astore F dL_act_344 (by decide) ?_
          refine g_vret F rfl (by omega) ?_ dL_act_346
          exact ⟨rfl, D, ⟨hC, _, G⟩, rfl⟩
      obtain ⟨hc7, rfl, en7, hC7, -⟩ := h7
      refine g_pop F dL_act_293 rfl ?_
      refine g_goto F 338 dL_act_294 (by decide) ?_
      refine g_goto F 347 dL_act_338 (by decide) ?_
      refine g_vret F rfl (by omega) ?_ dL_act_347
      exact ⟨rfl, _, QW.of hC7 (y_give G hc7).2, gi5 h5d⟩
    · refine g_tabIn F 297 dL_act_65 (by decide) (by decide) (by decide) (by rfl) (by decide) ?_
      refine g_aload_n F dL_act_297 rfl ?_
      refine g_iload_n F dL_act_298 rfl ?_
      refine g_iload F dL_act_299 rfl ?_
      refine g_bipush F dL_act_301 (by decide) ?_
      refine g_callSS F u_L_below (by rfl) (c_L_below (by first | assumption | exact eI_rg _ | (constructor <;> omega)) (by omega) (by omega)) w_ml_RL_18 dL_act_303 (by rfl) (Nat.le_of_ble_eq_true rfl) (by decide) (by omega) (fun _ _ _ h _ => False.elim h) (fun r_303 w_303 n_303 h_303 hn_303 => ?_)
      obtain ⟨⟨z303, rfl, hz303⟩, ew_303, en_303⟩ := h_303
      rw [ew_303, en_303]
      refine g_iload F dL_act_306 rfl ?_
      refine g_sipush F dL_act_308 (by decide) ?_
      refine g_callSS F u_L_below (by rfl) (c_L_below (by first | assumption | exact eI_rg _ | (constructor <;> omega)) (by omega) (by omega)) w_ml_RL_18 dL_act_311 (by rfl) (Nat.le_of_ble_eq_true rfl) (by decide) (by omega) (fun _ _ _ h _ => False.elim h) (fun r_311 w_311 n_311 h_311 hn_311 => ?_)
      obtain ⟨⟨z311, rfl, hz311⟩, ew_311, en_311⟩ := h_311
      rw [ew_311, en_311]
      refine g_callVV F u_X3_regain (by rfl) (c_X3_regain hC (by first | assumption | exact eI_rg _ | (constructor <;> omega)) (by first | assumption | exact eI_rg _ | (constructor <;> omega)) (by first | assumption | exact eI_rg _ | (constructor <;> omega))) hC.1 rfl rfl w_ml_RL_96 dL_act_314 (by rfl) (Nat.le_of_ble_eq_true rfl) (by decide) (by omega) (fun E8 w8 n8 h8 hn8 => ?_) (fun r7 w7 n7 h7 hn7 => ?_)
      · obtain ⟨⟨rfl, hc8⟩ | ⟨rfl, hc8⟩, rfl⟩ := h8
        · refine ⟨[], ⟨45, 338, 341, 105⟩, [⟨45, 338, 344, 107⟩], "java/lang/IndexOutOfBoundsException", rfl, (fun z9 hz9 => by cases hz9), by decide, by decide, w_cl_RL_105, w_ca_java_lang_IndexOutOfBoundsException_java_lang_IndexOutOfBoundsException, fun q9 => ?_⟩
          refine g_astore F dL_act_341 (by decide) ?_
          refine g_vret F rfl (by omega) ?_ dL_act_343
          exact ⟨rfl, D, ⟨hC, _, G⟩, rfl⟩
        · refine ⟨[⟨45, 338, 341, 105⟩], ⟨45, 338, 344, 107⟩, [], "java/lang/IllegalArgumentException", rfl, (fun z9 hz9 => by rw [List.mem_singleton.mp hz9]; exact Or.inr ⟨by decide, _, w_cl_RL_105, F.2.2.2.2.2.2.2.1.2⟩), by decide, by decide, w_cl_RL_107, w_ca_java_lang_IllegalArgumentException_java_lang_IllegalArgumentException, fun q9 => ?_⟩
          refine g_astore F dL_act_344 (by decide) ?_
          refine g_vret F rfl (by omega) ?_ dL_act_346
          exact ⟨rfl, D, ⟨hC, _, G⟩, rfl⟩
      obtain ⟨hc7, rfl, en7, hC7, -⟩ := h7
      refine g_pop F dL_act_317 rfl ?_
      refine g_goto F 338 dL_act_318 (by decide) ?_
      refine g_goto F 347 dL_act_338 (by decide) ?_
      refine g_vret F rfl (by omega) ?_ dL_act_347
      exact ⟨rfl, _, QW.of hC7 (y_regain G hc7).2, rg5 h5d⟩
    · refine g_tabIn F 321 dL_act_65 (by decide) (by decide) (by decide) (by rfl) (by decide) ?_
      refine g_aload_n F dL_act_321 rfl ?_
      refine g_iload_n F dL_act_322 rfl ?_
      refine g_callVV F u_X3_mend (by rfl) (c_X3_mend hC (by first | assumption | exact eI_rg _ | (constructor <;> omega))) hC.1 rfl rfl w_ml_RL_99 dL_act_323 (by rfl) (Nat.le_of_ble_eq_true rfl) (by decide) (by omega) (fun E8 w8 n8 h8 hn8 => ?_) (fun r7 w7 n7 h7 hn7 => ?_)
      · obtain ⟨⟨rfl, hc8⟩ | ⟨rfl, hc8⟩, rfl⟩ := h8
        · refine ⟨[], ⟨45, 338, 341, 105⟩, [⟨45, 338, 344, 107⟩], "java/lang/IndexOutOfBoundsException", rfl, (fun z9 hz9 => by cases hz9), by decide, by decide, w_cl_RL_105, w_ca_java_lang_IndexOutOfBoundsException_java_lang_IndexOutOfBoundsException, fun q9 => ?_⟩
          refine g_astore F dL_act_341 (by decide) ?_
          refine g_vret F rfl (by omega) ?_ dL_act_343
          exact ⟨rfl, D, ⟨hC, _, G⟩, rfl⟩
        · refine ⟨[⟨45, 338, 341, 105⟩], ⟨45, 338, 344, 107⟩, [], "java/lang/IllegalArgumentException", rfl, (fun z9 hz9 => by rw [List.mem_singleton.mp hz9]; exact Or.inr ⟨by decide, _, w_cl_RL_105, F.2.2.2.2.2.2.2.1.2⟩), by decide, by decide, w_cl_RL_107, w_ca_java_lang_IllegalArgumentException_java_lang_IllegalArgumentException, fun q9 => ?_⟩
          refine g_astore F dL_act_344 (by decide) ?_
          refine g_vret F rfl (by omega) ?_ dL_act_346
          exact ⟨rfl, D, ⟨hC, _, G⟩, rfl⟩
      obtain ⟨hc7, rfl, en7, hC7, -⟩ := h7
      refine g_pop F dL_act_326 rfl ?_
      refine g_goto F 338 dL_act_327 (by decide) ?_
      refine g_goto F 347 dL_act_338 (by decide) ?_
      refine g_vret F rfl (by omega) ?_ dL_act_347
      exact ⟨rfl, _, QW.of hC7 (y_mend G hc7).2, me5 h5d⟩
    · refine g_tabOut F 330 dL_act_65 (by decide) (Or.inr (by decide)) (by decide) ?_
      refine g_aload_n F dL_act_330 rfl ?_
      refine g_iload F dL_act_331 rfl ?_
      refine g_iload_n F dL_act_333 rfl ?_
      refine g_callVV F u_X3_copy (by rfl) (c_X3_copy hC (by first | assumption | exact eI_rg _ | (constructor <;> omega)) (by first | assumption | exact eI_rg _ | (constructor <;> omega))) hC.1 rfl rfl w_ml_RL_102 dL_act_334 (by rfl) (Nat.le_of_ble_eq_true rfl) (by decide) (by omega) (fun E8 w8 n8 h8 hn8 => ?_) (fun r7 w7 n7 h7 hn7 => ?_)
      · obtain ⟨⟨rfl, hc8⟩ | ⟨rfl, hc8⟩, rfl⟩ := h8
        · refine ⟨[], ⟨45, 338, 341, 105⟩, [⟨45, 338, 344, 107⟩], "java/lang/IndexOutOfBoundsException", rfl, (fun z9 hz9 => by cases hz9), by decide, by decide, w_cl_RL_105, w_ca_java_lang_IndexOutOfBoundsException_java_lang_IndexOutOfBoundsException, fun q9 => ?_⟩
          refine g_astore F dL_act_341 (by decide) ?_
          refine g_vret F rfl (by omega) ?_ dL_act_343
          exact ⟨rfl, D, ⟨hC, _, G⟩, rfl⟩
        · refine ⟨[⟨45, 338, 341, 105⟩], ⟨45, 338, 344, 107⟩, [], "java/lang/IllegalArgumentException", rfl, (fun z9 hz9 => by rw [List.mem_singleton.mp hz9]; exact Or.inr ⟨by decide, _, w_cl_RL_105, F.2.2.2.2.2.2.2.1.2⟩), by decide, by decide, w_cl_RL_107, w_ca_java_lang_IllegalArgumentException_java_lang_IllegalArgumentException, fun q9 => ?_⟩
          refine g_astore F dL_act_344 (by decide) ?_
          refine g_vret F rfl (by omega) ?_ dL_act_346
          exact ⟨rfl, D, ⟨hC, _, G⟩, rfl⟩
      obtain ⟨hc7, rfl, en7, hC7, -⟩ := h7
      refine g_pop F dL_act_337 rfl ?_
      refine g_goto F 347 dL_act_338 (by decide) ?_
      refine g_vret F rfl (by omega) ?_ dL_act_347
      exact ⟨rfl, _, QW.of hC7 (y_copy G hc7).2, up_n (by omega)⟩
  refine g_iload_n F dL_act_45 rfl ?_
  refine g_iconst F dL_act_46 ?_
  refine g_icmp_ge F 54 dL_act_47 (by decide) ⟨by omega, by omega⟩ (by decide) (fun c_47 => ?_) (fun c_47 => ?_)
  · refine g_aload_n F dL_act_54 rfl ?_
    refine g_iload_n F dL_act_55 rfl ?_
    refine g_iconst F dL_act_56 ?_
    refine g_callSS F u_L_draw (by rfl) (c_L_draw (by omega) (by omega) (by omega) (by omega)) w_ml_RL_26 dL_act_57 (by rfl) (Nat.le_of_ble_eq_true rfl) (by decide) (by omega) (fun _ _ _ h _ => False.elim h) (fun r_57 w_57 n_57 h_57 hn_57 => ?_)
    obtain ⟨⟨z57, rfl, hz57⟩, ew_57, en_57⟩ := h_57
    rw [ew_57, en_57]
    refine g_bipush F dL_act_60 (by decide) ?_
    refine g_callSS F u_L_below (by rfl) (c_L_below (by first | assumption | exact eI_rg _ | (constructor <;> omega)) (by omega) (by omega)) w_ml_RL_18 dL_act_62 (by rfl) (Nat.le_of_ble_eq_true rfl) (by decide) (by omega) (fun _ _ _ h _ => False.elim h) (fun r_62 w_62 n_62 h_62 hn_62 => ?_)
    obtain ⟨⟨z62, rfl, hz62⟩, ew_62, en_62⟩ := h_62
    rw [ew_62, en_62]
    exact e_go (l65 z62 _ (by omega) (by omega) (by omega)) (And.intro rfl (And.intro rfl (And.intro rfl (And.intro rfl (And.intro rfl (And.intro rfl (And.intro rfl (And.intro rfl (And.intro rfl (trivial))))))))))
  · refine g_iconst F dL_act_50 ?_
    refine g_goto F 65 dL_act_51 (by decide) ?_
    exact e_go (l65 0 _ (by omega) (by omega) (by omega)) (And.intro rfl (And.intro rfl (And.intro rfl (And.intro rfl (And.intro rfl (And.intro rfl (And.intro rfl (And.intro rfl (And.intro rfl (trivial))))))))))
