/-! StringBuilder: lengths alone -/
abbrev SBo (v : Nat) (c : Int) : e_C := .inl (6, [.ref v, .int (eI 0), .int (eI 0), .int (eI c)])
abbrev STo (v : Nat) : e_C := .inl (7, [.ref v, .int (eI 0), .int (eI 0), .int (eI 0)])
def BR (f : Int → Int) : Prop := ∀ j, -128 ≤ f j ∧ f j < 128
/-- a builder at b with c letters; its bytes lie behind it -/
def SB (w : e_W) (b : Nat) (c : Int) : Prop := ∃ (v m : Nat) (f : Int → Int), w b = some (SBo v c) ∧ w v = some (e_ba m f) ∧ b < v ∧ BR f ∧ 0 ≤ c ∧ c ≤ m ∧ m ≤ 256
def KB (w w' : e_W) (b : Nat) : Prop := ∀ j, j < b → w' j = w j
theorem BR.fu {f : Int → Int} {i x : Int} (h : BR f) (h1 : -128 ≤ x) (h2 : x < 128) : BR (e_fu f i x) := by
  intro j
  unfold e_fu
  split
  · exact ⟨h1, h2⟩
  · exact h j
theorem p10_mono {a b : Nat} (h : a ≤ b) : (10 : Int) ^ a ≤ 10 ^ b := by
  have h1 : (10 : Nat) ^ a ≤ 10 ^ b := Nat.pow_le_pow_right (by omega) h
  have h2 : (((10 : Nat) ^ a : Nat) : Int) ≤ (((10 : Nat) ^ b : Nat) : Int) := by exact_mod_cast h1
  rw [Int.natCast_pow, Int.natCast_pow] at h2
  exact h2
theorem p10_2 {y p : Int} (h1 : 1 ≤ p) (h : y < 10 ^ p.toNat) (h9 : 10 ≤ y) : 2 ≤ p := by
  apply Classical.byContradiction
  intro q
  have e : p.toNat = 1 := by omega
  rw [e] at h
  have : (10 : Int) ^ 1 = 10 := by decide
  omega
theorem p10_3 {y p : Int} (h1 : 1 ≤ p) (h : y < 10 ^ p.toNat) (h9 : 100 ≤ y) : 3 ≤ p ∧ y / 100 < 10 ^ (p + -1 + -1).toNat := by
  have h3 : 3 ≤ p := by
    apply Classical.byContradiction
    intro q
    have h4 := p10_mono (show p.toNat ≤ 2 by omega)
    have : (10 : Int) ^ 2 = 100 := by decide
    omega
  refine ⟨h3, ?_⟩
  have e : p.toNat = (p + -1 + -1).toNat + 1 + 1 := by omega
  rw [e, Int.pow_succ, Int.pow_succ] at h
  omega
set_option maxHeartbeats 4000000 in
set_option maxRecDepth 100000 in
theorem c_J8_newLength_cabcc {K : e_K} {l : Launch} {w : e_W} {n : Nat} {a b c : Int} (ha : 0 ≤ a) (ha2 : a ≤ 256) (hb : -1000 ≤ b) (hb2 : b ≤ 1000) (hc : 1 ≤ c) (hc2 : c ≤ 1000) : e_Met K l yJ8_newLength_cabcc (Cond.code yJ8_newLength_cabcc cJ8_newLength_cabcc 4 (Option.some .int) :: e_TB) (1) (0) [.int (eI a), .int (eI b), .int (eI c)] w n (fun r w' n' => r = some (.int (eI (a + (if b < c then c else b)))) ∧ w' = w ∧ n' = n) (e_px0) := by
  refine e_ofV rfl (Nat.le_of_ble_eq_true rfl) ?_
  intro P9 E9 S9 M9 A9 B9 T9 C9 F hnm
  have hx : 1 ≤ (if b < c then c else b) ∧ (if b < c then c else b) ≤ 1000 := by split <;> omega
  refine e_iload_n F dJ8_newLength_cabcc_0 rfl ?_
  refine e_iload_n F dJ8_newLength_cabcc_1 rfl ?_
  refine e_iload_n F dJ8_newLength_cabcc_2 rfl ?_
  refine e_mmax F ⟨by omega, by omega⟩ ⟨by omega, by omega⟩ w_ml_RJ8_194 w_sm_J9_max_7cf53 w_in_RJ9 w_co_J9_max_7cf53 dJ8_newLength_cabcc_3 (Nat.le_of_ble_eq_true rfl) (by decide) (by omega) ?_
  refine e_iadd F dJ8_newLength_cabcc_6 ?_
  refine e_istore_n F dJ8_newLength_cabcc_7 (by decide) ?_
  refine e_iconst F dJ8_newLength_cabcc_8 ?_
  refine e_iload_n F dJ8_newLength_cabcc_9 rfl ?_
  refine e_icmp_ge F 21 dJ8_newLength_cabcc_10 (by decide) (⟨by omega, by omega⟩) (⟨by omega, by omega⟩) (fun c_10 => ?_) (fun c_10 => ?_)
  · exact absurd c_10 (by omega)
  · refine e_iload_n F dJ8_newLength_cabcc_13 rfl ?_
    refine e_ldc F dJ8_newLength_cabcc_14 w_k_RJ8_200 ?_
    refine e_icmp_gt F 21 dJ8_newLength_cabcc_16 (by decide) (⟨by omega, by omega⟩) (⟨by omega, by omega⟩) (fun c_16 => ?_) (fun c_16 => ?_)
    · exact absurd c_16 (by omega)
    · refine e_iload_n F dJ8_newLength_cabcc_19 rfl ?_
      refine e_iret F rfl (by omega) ?_ dJ8_newLength_cabcc_20
      exact ⟨rfl, rfl, rfl⟩
set_option maxHeartbeats 4000000 in
set_option maxRecDepth 100000 in
theorem c_J5_newCapacity_0f7a4 {K : e_K} {l : Launch} {w : e_W} {n : Nat} {b v m : Nat} {c : Int} {f : Int → Int} (hb : w b = some (SBo v c)) (hv : w v = some (e_ba m f)) {q : Int} (hm : m ≤ 256) (hq : m < q) (hq2 : q ≤ 400) : e_Met K l yJ5_newCapacity_0f7a4 (Cond.code yJ5_newCapacity_0f7a4 cJ5_newCapacity_0f7a4 6 (Option.some .int) :: e_TB) (2) (0) [.ref b, .int (eI q)] w n (fun r w' n' => r = some (.int (eI ((m : Int) + (if q - m < (m : Int) + 2 then (m : Int) + 2 else q - m)))) ∧ w' = w ∧ n' = n) (e_px0) := by
  refine e_ofV rfl (Nat.le_of_ble_eq_true rfl) ?_
  intro P9 E9 S9 M9 A9 B9 T9 C9 F hnm
  have hx : 1 ≤ (if q - m < (m : Int) + 2 then (m : Int) + 2 else q - m) ∧ (if q - m < (m : Int) + 2 then (m : Int) + 2 else q - m) ≤ 1000 := by split <;> omega
  refine e_aload_n F dJ5_newCapacity_0f7a4_0 rfl ?_
  refine e_get (ci := 6) (fi := 0) (q := (RJ4, TJ4, 4)) F (by first | assumption | exact e_up_s | (rw [e_up_n (by first | assumption | omega)]; first | assumption | exact e_up_s | (rw [e_up_n (by first | assumption | omega)]; first | assumption | exact e_up_s | (rw [e_up_n (by first | assumption | omega)]; first | assumption | exact e_up_s))) | exact hD.1 | exact hD1.1 | exact hD2.1 | exact gD.1 | exact gD1.1 | exact gD2.1 | exact gQ.1 | exact hQ.1 | exact gS.1 | exact hS.1 | exact zD.1) rfl (by decide) w_fl_RJ5_15 (by rfl) dJ5_newCapacity_0f7a4_1 ?_
  refine e_alenB F (by first | assumption | exact e_up_s | (rw [e_up_n (by first | assumption | omega)]; first | assumption | exact e_up_s | (rw [e_up_n (by first | assumption | omega)]; first | assumption | exact e_up_s | (rw [e_up_n (by first | assumption | omega)]; first | assumption | exact e_up_s))) | exact hD.1 | exact hD1.1 | exact hD2.1 | exact gD.1 | exact gD1.1 | exact gD2.1 | exact gQ.1 | exact hQ.1 | exact gS.1 | exact hS.1 | exact zD.1) dJ5_newCapacity_0f7a4_4 ?_
  refine e_istore_n F dJ5_newCapacity_0f7a4_5 (by decide) ?_
  refine e_iload_n F dJ5_newCapacity_0f7a4_6 rfl ?_
  refine e_aload_n F dJ5_newCapacity_0f7a4_7 rfl ?_
  refine e_get (ci := 6) (fi := 1) (q := (RJ4, TJ4, 4)) F (by first | assumption | exact e_up_s | (rw [e_up_n (by first | assumption | omega)]; first | assumption | exact e_up_s | (rw [e_up_n (by first | assumption | omega)]; first | assumption | exact e_up_s | (rw [e_up_n (by first | assumption | omega)]; first | assumption | exact e_up_s))) | exact hD.1 | exact hD1.1 | exact hD2.1 | exact gD.1 | exact gD1.1 | exact gD2.1 | exact gQ.1 | exact hQ.1 | exact gS.1 | exact hS.1 | exact zD.1) rfl (by decide) w_fl_RJ5_22 (by rfl) dJ5_newCapacity_0f7a4_8 ?_
  refine e_ishl F dJ5_newCapacity_0f7a4_11 (e_shl0 _) ?_
  refine e_istore_n F dJ5_newCapacity_0f7a4_12 (by decide) ?_
  refine e_iload_n F dJ5_newCapacity_0f7a4_13 rfl ?_
  refine e_iload_n F dJ5_newCapacity_0f7a4_14 rfl ?_
  refine e_isub F dJ5_newCapacity_0f7a4_15 ?_
  refine e_istore F dJ5_newCapacity_0f7a4_16 (by decide) ?_
  refine e_iload_n F dJ5_newCapacity_0f7a4_18 rfl ?_
  refine e_iload F dJ5_newCapacity_0f7a4_19 rfl ?_
  refine e_iload_n F dJ5_newCapacity_0f7a4_21 rfl ?_
  refine e_iconst F dJ5_newCapacity_0f7a4_22 ?_
  refine e_aload_n F dJ5_newCapacity_0f7a4_23 rfl ?_
  refine e_get (ci := 6) (fi := 1) (q := (RJ4, TJ4, 4)) F (by first | assumption | exact e_up_s | (rw [e_up_n (by first | assumption | omega)]; first | assumption | exact e_up_s | (rw [e_up_n (by first | assumption | omega)]; first | assumption | exact e_up_s | (rw [e_up_n (by first | assumption | omega)]; first | assumption | exact e_up_s))) | exact hD.1 | exact hD1.1 | exact hD2.1 | exact gD.1 | exact gD1.1 | exact gD2.1 | exact gQ.1 | exact hQ.1 | exact gS.1 | exact hS.1 | exact zD.1) rfl (by decide) w_fl_RJ5_22 (by rfl) dJ5_newCapacity_0f7a4_24 ?_
  refine e_ishl F dJ5_newCapacity_0f7a4_27 (e_shl0 _) ?_
  refine e_iadd F dJ5_newCapacity_0f7a4_28 ?_
  refine e_callSS F u_J8_newLength_cabcc (by rfl) (c_J8_newLength_cabcc (a := (m : Int)) (b := q - m) (c := (m : Int) + 2) (by omega) (by omega) (by omega) (by omega) (by omega) (by omega)) w_ml_RJ5_114 dJ5_newCapacity_0f7a4_29 (by rfl) (Nat.le_of_ble_eq_true rfl) (by decide) (by omega) (fun _ _ _ h _ => False.elim h) (fun r_29 w_29 n_29 h_29 hn_29 => ?_)
  obtain ⟨rfl, ew_29, en_29⟩ := h_29
  rw [ew_29, en_29]
  refine e_istore F dJ5_newCapacity_0f7a4_32 (by decide) ?_
  refine e_iload F dJ5_newCapacity_0f7a4_34 rfl ?_
  refine e_ldc F dJ5_newCapacity_0f7a4_36 w_k_RJ5_39 ?_
  refine e_icmp_ne F 51 dJ5_newCapacity_0f7a4_38 (by decide) (⟨by omega, by omega⟩) (⟨by omega, by omega⟩) (fun c_38 => ?_) (fun c_38 => ?_)
  · refine e_iload F dJ5_newCapacity_0f7a4_51 rfl ?_
    refine e_aload_n F dJ5_newCapacity_0f7a4_53 rfl ?_
    refine e_get (ci := 6) (fi := 1) (q := (RJ4, TJ4, 4)) F (by first | assumption | exact e_up_s | (rw [e_up_n (by first | assumption | omega)]; first | assumption | exact e_up_s | (rw [e_up_n (by first | assumption | omega)]; first | assumption | exact e_up_s | (rw [e_up_n (by first | assumption | omega)]; first | assumption | exact e_up_s))) | exact hD.1 | exact hD1.1 | exact hD2.1 | exact gD.1 | exact gD1.1 | exact gD2.1 | exact gQ.1 | exact hQ.1 | exact gS.1 | exact hS.1 | exact zD.1) rfl (by decide) w_fl_RJ5_22 (by rfl) dJ5_newCapacity_0f7a4_54 ?_
    refine e_ishr F dJ5_newCapacity_0f7a4_57 (e_shr0 _) ?_
    refine e_iret F rfl (by omega) ?_ dJ5_newCapacity_0f7a4_58
    exact ⟨rfl, rfl, rfl⟩
  · exact absurd c_38 (by omega)
set_option maxHeartbeats 4000000 in
set_option maxRecDepth 100000 in
theorem c_J7_copyOf_9075b {K : e_K} {l : Launch} {w : e_W} {n : Nat} {a m : Nat} {f : Int → Int} (ha : w a = some (e_ba m f)) (hf : BR f) {q : Int} (hm : m < q) (hq : q ≤ 256) : e_Met K l yJ7_copyOf_9075b (Cond.code yJ7_copyOf_9075b cJ7_copyOf_9075b 3 (Option.some (.array .byte)) :: e_TB) (1) (1) [.ref a, .int (eI q)] w n (fun r w' n' => ∃ g, BR g ∧ r = some (.ref n) ∧ w' = e_up w n (e_ba q.toNat g) ∧ n' = n + 1) (e_px0) := by
  refine e_ofV rfl (Nat.le_of_ble_eq_true rfl) ?_
  intro P9 E9 S9 M9 A9 B9 T9 C9 F hnm
  refine e_dom ?_
  intro hdom
  have han := hdom _ _ ha
  refine e_iload_n F dJ7_copyOf_9075b_0 rfl ?_
  refine e_aload_n F dJ7_copyOf_9075b_1 rfl ?_
  refine e_alenB F (by first | assumption | exact e_up_s | (rw [e_up_n (by first | assumption | omega)]; first | assumption | exact e_up_s | (rw [e_up_n (by first | assumption | omega)]; first | assumption | exact e_up_s | (rw [e_up_n (by first | assumption | omega)]; first | assumption | exact e_up_s))) | exact hD.1 | exact hD1.1 | exact hD2.1 | exact gD.1 | exact gD1.1 | exact gD2.1 | exact gQ.1 | exact hQ.1 | exact gS.1 | exact hS.1 | exact zD.1) dJ7_copyOf_9075b_2 ?_
  refine e_icmp_ne F 14 dJ7_copyOf_9075b_3 (by decide) (⟨by omega, by omega⟩) (⟨by omega, by omega⟩) (fun c_3 => ?_) (fun c_3 => ?_)
  · refine e_iload_n F dJ7_copyOf_9075b_14 rfl ?_
    refine e_newB F (N := q.toNat) (by first | rfl | omega) (by omega) (by omega) w_ac_byte dJ7_copyOf_9075b_15 ?_
    refine e_astore_n F dJ7_copyOf_9075b_17 (by decide) ?_
    refine e_aload_n F dJ7_copyOf_9075b_18 rfl ?_
    refine e_iconst F dJ7_copyOf_9075b_19 ?_
    refine e_aload_n F dJ7_copyOf_9075b_20 rfl ?_
    refine e_iconst F dJ7_copyOf_9075b_21 ?_
    refine e_aload_n F dJ7_copyOf_9075b_22 rfl ?_
    refine e_alenB F (by first | assumption | exact e_up_s | (rw [e_up_n (by first | assumption | omega)]; first | assumption | exact e_up_s | (rw [e_up_n (by first | assumption | omega)]; first | assumption | exact e_up_s | (rw [e_up_n (by first | assumption | omega)]; first | assumption | exact e_up_s))) | exact hD.1 | exact hD1.1 | exact hD2.1 | exact gD.1 | exact gD1.1 | exact gD2.1 | exact gQ.1 | exact hQ.1 | exact gS.1 | exact hS.1 | exact zD.1) dJ7_copyOf_9075b_23 ?_
    refine e_iload_n F dJ7_copyOf_9075b_24 rfl ?_
    refine e_mmin F ⟨by omega, by omega⟩ ⟨by omega, by omega⟩ w_ml_RJ7_304 w_sm_J9_min_7cf53 w_in_RJ9 w_co_J9_min_7cf53 dJ7_copyOf_9075b_25 (Nat.le_of_ble_eq_true rfl) (by decide) (by omega) ?_
    rw [if_neg (show ¬ q < (m : Int) by omega)]
    refine e_copyB F (sp := 0) (dp := 0) (cnt := (m : Int)) (f := f) (g := fun _ => 0) (by rw [e_up_n (by omega)]; exact ha) e_up_s (by omega) (by omega) (by omega) (by omega) (by omega) (by omega) (by omega) hf w_ml_RJ7_150 w_nat_arraycopy_42 w_sm_java_lang_System_arraycopy__Ljava_lang_Object_ILjava_lang_Object_II_V w_in_RJ10 dJ7_copyOf_9075b_28 (Nat.le_of_ble_eq_true rfl) (by decide) ?_
    refine e_aload_n F dJ7_copyOf_9075b_31 rfl ?_
    refine e_aret F rfl (Or.inr ⟨_, rfl⟩) (Or.inr ⟨_, rfl⟩) (by omega) ?_ dJ7_copyOf_9075b_32
    refine ⟨_, ?_, rfl, e_up_up, rfl⟩
    intro j
    dsimp only
    split
    · exact hf _
    · decide
  · exact absurd c_3 (by omega)
set_option maxHeartbeats 4000000 in
set_option maxRecDepth 100000 in
theorem c_J5_ensureCapacityInternal_d00df {K : e_K} {l : Launch} {w : e_W} {n : Nat} {b v m : Nat} {c : Int} {f : Int → Int} (hb : w b = some (SBo v c)) (hv : w v = some (e_ba m f)) {q : Int} (hf : BR f) (hbv : b < v) (hm : m ≤ 256) (hq : 0 ≤ q) (hq2 : q ≤ 120) : e_Met K l yJ5_ensureCapacityInternal_d00df (Cond.code yJ5_ensureCapacityInternal_d00df cJ5_ensureCapacityInternal_d00df 3 none :: e_TB) (3) (1) [.ref b, .int (eI q)] w n (fun r w' n' => r = none ∧ ∃ (v' m' : Nat) (f' : Int → Int), w' b = some (SBo v' c) ∧ w' v' = some (e_ba m' f') ∧ b < v' ∧ BR f' ∧ q ≤ m' ∧ m' ≤ 256 ∧ KB w w' b) (e_px0) := by
  refine e_ofV rfl (Nat.le_of_ble_eq_true rfl) ?_
  intro P9 E9 S9 M9 A9 B9 T9 C9 F hnm
  refine e_dom ?_
  intro hdom
  have hbn := hdom _ _ hb
  have hx : ∀ y : Int, q = y → 0 < y - m → 0 < (m : Int) + (if y - m < (m : Int) + 2 then (m : Int) + 2 else y - m) ∧ y ≤ (m : Int) + (if y - m < (m : Int) + 2 then (m : Int) + 2 else y - m) ∧ (m : Int) < (m : Int) + (if y - m < (m : Int) + 2 then (m : Int) + 2 else y - m) ∧ (m : Int) + (if y - m < (m : Int) + 2 then (m : Int) + 2 else y - m) ≤ 256 := by
    intro y hy hp
    split <;> omega
  refine e_aload_n F dJ5_ensureCapacityInternal_d00df_0 rfl ?_
  refine e_get (ci := 6) (fi := 0) (q := (RJ4, TJ4, 4)) F (by first | assumption | exact e_up_s | (rw [e_up_n (by first | assumption | omega)]; first | assumption | exact e_up_s | (rw [e_up_n (by first | assumption | omega)]; first | assumption | exact e_up_s | (rw [e_up_n (by first | assumption | omega)]; first | assumption | exact e_up_s))) | exact hD.1 | exact hD1.1 | exact hD2.1 | exact gD.1 | exact gD1.1 | exact gD2.1 | exact gQ.1 | exact hQ.1 | exact gS.1 | exact hS.1 | exact zD.1) rfl (by decide) w_fl_RJ5_15 (by rfl) dJ5_ensureCapacityInternal_d00df_1 ?_
  refine e_alenB F (by first | assumption | exact e_up_s | (rw [e_up_n (by first | assumption | omega)]; first | assumption | exact e_up_s | (rw [e_up_n (by first | assumption | omega)]; first | assumption | exact e_up_s | (rw [e_up_n (by first | assumption | omega)]; first | assumption | exact e_up_s))) | exact hD.1 | exact hD1.1 | exact hD2.1 | exact gD.1 | exact gD1.1 | exact gD2.1 | exact gQ.1 | exact hQ.1 | exact gS.1 | exact hS.1 | exact zD.1) dJ5_ensureCapacityInternal_d00df_4 ?_
  refine e_aload_n F dJ5_ensureCapacityInternal_d00df_5 rfl ?_
  refine e_get (ci := 6) (fi := 1) (q := (RJ4, TJ4, 4)) F (by first | assumption | exact e_up_s | (rw [e_up_n (by first | assumption | omega)]; first | assumption | exact e_up_s | (rw [e_up_n (by first | assumption | omega)]; first | assumption | exact e_up_s | (rw [e_up_n (by first | assumption | omega)]; first | assumption | exact e_up_s))) | exact hD.1 | exact hD1.1 | exact hD2.1 | exact gD.1 | exact gD1.1 | exact gD2.1 | exact gQ.1 | exact hQ.1 | exact gS.1 | exact hS.1 | exact zD.1) rfl (by decide) w_fl_RJ5_22 (by rfl) dJ5_ensureCapacityInternal_d00df_6 ?_
  refine e_ishr F dJ5_ensureCapacityInternal_d00df_9 (e_shr0 _) ?_
  refine e_istore_n F dJ5_ensureCapacityInternal_d00df_10 (by decide) ?_
  refine e_iload_n F dJ5_ensureCapacityInternal_d00df_11 rfl ?_
  refine e_iload_n F dJ5_ensureCapacityInternal_d00df_12 rfl ?_
  refine e_isub F dJ5_ensureCapacityInternal_d00df_13 ?_
  refine e_if_le F 38 dJ5_ensureCapacityInternal_d00df_14 (by decide) (⟨by omega, by omega⟩) (fun c_14 => ?_) (fun c_14 => ?_)
  · refine e_vret F rfl (by omega) ?_ dJ5_ensureCapacityInternal_d00df_38
    first
    | exact ⟨rfl, v, m, f, hb, hv, hbv, hf, by omega, hm, fun j _ => rfl⟩
    | exact ⟨rfl, n, _, g, e_up_s, by rw [e_up_n (by omega)]; exact e_up_s, hbn, hg, by omega, by omega, fun j hj => by rw [e_up_n (by omega), e_up_n (by omega)]⟩
  ·
    have hz := hx q rfl (by omega)
    refine e_aload_n F dJ5_ensureCapacityInternal_d00df_17 rfl ?_
    refine e_aload_n F dJ5_ensureCapacityInternal_d00df_18 rfl ?_
    refine e_get (ci := 6) (fi := 0) (q := (RJ4, TJ4, 4)) F (by first | assumption | exact e_up_s | (rw [e_up_n (by first | assumption | omega)]; first | assumption | exact e_up_s | (rw [e_up_n (by first | assumption | omega)]; first | assumption | exact e_up_s | (rw [e_up_n (by first | assumption | omega)]; first | assumption | exact e_up_s))) | exact hD.1 | exact hD1.1 | exact hD2.1 | exact gD.1 | exact gD1.1 | exact gD2.1 | exact gQ.1 | exact hQ.1 | exact gS.1 | exact hS.1 | exact zD.1) rfl (by decide) w_fl_RJ5_15 (by rfl) dJ5_ensureCapacityInternal_d00df_19 ?_
    refine e_aload_n F dJ5_ensureCapacityInternal_d00df_22 rfl ?_
    refine e_iload_n F dJ5_ensureCapacityInternal_d00df_23 rfl ?_
    refine e_callVU F u_J5_newCapacity_0f7a4 w_im_J5_newCapacity_0f7a4 w_sx_RJ4_J5_newCapacity_0f7a4 w_sa_J5_newCapacity_0f7a4 (by rfl) (c_J5_newCapacity_0f7a4 hb hv hm (by omega) (by omega)) (by first | assumption | exact e_up_s | (rw [e_up_n (by first | assumption | omega)]; first | assumption | exact e_up_s | (rw [e_up_n (by first | assumption | omega)]; first | assumption | exact e_up_s | (rw [e_up_n (by first | assumption | omega)]; first | assumption | exact e_up_s))) | exact hD.1 | exact hD1.1 | exact hD2.1 | exact gD.1 | exact gD1.1 | exact gD2.1 | exact gQ.1 | exact hQ.1 | exact gS.1 | exact hS.1 | exact zD.1) w_ml_RJ5_104 dJ5_ensureCapacityInternal_d00df_24 (by rfl) (Nat.le_of_ble_eq_true rfl) (by decide) (by omega) (fun _ _ _ h _ => False.elim h) (fun r_24 w_24 n_24 h_24 hn_24 => ?_)
    obtain ⟨rfl, ew_24, en_24⟩ := h_24
    rw [ew_24, en_24]
    refine e_aload_n F dJ5_ensureCapacityInternal_d00df_27 rfl ?_
    refine e_get (ci := 6) (fi := 1) (q := (RJ4, TJ4, 4)) F (by first | assumption | exact e_up_s | (rw [e_up_n (by first | assumption | omega)]; first | assumption | exact e_up_s | (rw [e_up_n (by first | assumption | omega)]; first | assumption | exact e_up_s | (rw [e_up_n (by first | assumption | omega)]; first | assumption | exact e_up_s))) | exact hD.1 | exact hD1.1 | exact hD2.1 | exact gD.1 | exact gD1.1 | exact gD2.1 | exact gQ.1 | exact hQ.1 | exact gS.1 | exact hS.1 | exact zD.1) rfl (by decide) w_fl_RJ5_22 (by rfl) dJ5_ensureCapacityInternal_d00df_28 ?_
    refine e_ishl F dJ5_ensureCapacityInternal_d00df_31 (e_shl0 _) ?_
    refine e_callSS F u_J7_copyOf_9075b (by rfl) (c_J7_copyOf_9075b hv hf (by omega) (by omega)) w_ml_RJ5_108 dJ5_ensureCapacityInternal_d00df_32 (by rfl) (Nat.le_of_ble_eq_true rfl) (by decide) (by omega) (fun _ _ _ h _ => False.elim h) (fun r_32 w_32 n_32 h_32 hn_32 => ?_)
    obtain ⟨g, hg, rfl, ew_32, en_32⟩ := h_32
    rw [ew_32, en_32]
    refine e_set (host := "") (ci := 6) (fi := 0) (q := (RJ4, TJ4, 4)) F (show e_up w n _ b = _ by rw [e_up_n (by omega)]; exact hb) rfl (by decide) w_fl_RJ5_15 rfl (by rfl) (by rfl) (Nat.le_of_ble_eq_true rfl) dJ5_ensureCapacityInternal_d00df_35 ?_
    refine e_vret F rfl (by omega) ?_ dJ5_ensureCapacityInternal_d00df_38
    first
    | exact ⟨rfl, v, m, f, hb, hv, hbv, hf, by omega, hm, fun j _ => rfl⟩
    | exact ⟨rfl, n, _, g, e_up_s, by rw [e_up_n (by omega)]; exact e_up_s, hbn, hg, by omega, by omega, fun j hj => by rw [e_up_n (by omega), e_up_n (by omega)]⟩
set_option maxHeartbeats 4000000 in
set_option maxRecDepth 100000 in
theorem c_J5_isLatin1_aae02 {K : e_K} {l : Launch} {w : e_W} {n : Nat} {b v : Nat} {c : Int} (hb : w b = some (SBo v c)) : e_Met K l yJ5_isLatin1_aae02 (Cond.code yJ5_isLatin1_aae02 cJ5_isLatin1_aae02 1 (Option.some .boolean) :: e_TB) (0) (0) [.ref b] w n (fun r w' n' => r = some (.int (eI (1))) ∧ w' = w ∧ n' = n) (e_px0) := by
  refine e_ofV rfl (Nat.le_of_ble_eq_true rfl) ?_
  intro P9 E9 S9 M9 A9 B9 T9 C9 F hnm
  refine e_gets F (i := 8) rfl w_fl_RJ5_18 dJ5_isLatin1_aae02_0 ?_
  refine e_if_eq F 17 dJ5_isLatin1_aae02_3 (by decide) (by decide) (fun c_3 => ?_) (fun c_3 => ?_)
  · exact absurd c_3 (by decide)
  · refine e_aload_n F dJ5_isLatin1_aae02_6 rfl ?_
    refine e_get (ci := 6) (fi := 1) (q := (RJ4, TJ4, 4)) F (by first | assumption | exact e_up_s | (rw [e_up_n (by first | assumption | omega)]; first | assumption | exact e_up_s | (rw [e_up_n (by first | assumption | omega)]; first | assumption | exact e_up_s | (rw [e_up_n (by first | assumption | omega)]; first | assumption | exact e_up_s))) | exact hD.1 | exact hD1.1 | exact hD2.1 | exact gD.1 | exact gD1.1 | exact gD2.1 | exact gQ.1 | exact hQ.1 | exact gS.1 | exact hS.1 | exact zD.1) rfl (by decide) w_fl_RJ5_22 (by rfl) dJ5_isLatin1_aae02_7 ?_
    refine e_if_ne F 17 dJ5_isLatin1_aae02_10 (by decide) (by decide) (fun c_10 => ?_) (fun c_10 => ?_)
    · exact absurd c_10 (by decide)
    · refine e_iconst F dJ5_isLatin1_aae02_13 ?_
      refine e_goto F 18 dJ5_isLatin1_aae02_14 (by decide) ?_
      refine e_zret F rfl (by omega) (Or.inr rfl) ?_ dJ5_isLatin1_aae02_18
      exact ⟨rfl, rfl, rfl⟩
set_option maxHeartbeats 4000000 in
set_option maxRecDepth 100000 in
theorem c_J1_canEncode_fc78d {K : e_K} {l : Launch} {w : e_W} {n : Nat} {c : Int} (h0 : 0 ≤ c) (h1 : c ≤ 255) : e_Met K l yJ1_canEncode_fc78d (Cond.code yJ1_canEncode_fc78d cJ1_canEncode_fc78d 1 (Option.some .boolean) :: e_TB) (0) (0) [.int (eI c)] w n (fun r w' n' => r = some (.int (eI (1))) ∧ w' = w ∧ n' = n) (e_px0) := by
  refine e_ofV rfl (Nat.le_of_ble_eq_true rfl) ?_
  intro P9 E9 S9 M9 A9 B9 T9 C9 F hnm
  refine e_iload_n F dJ1_canEncode_fc78d_0 rfl ?_
  refine e_sipush F dJ1_canEncode_fc78d_1 (by decide) ?_
  refine e_icmp_gt F 11 dJ1_canEncode_fc78d_4 (by decide) (⟨by omega, by omega⟩) (⟨by omega, by omega⟩) (fun c_4 => ?_) (fun c_4 => ?_)
  · exact absurd c_4 (by omega)
  · refine e_iconst F dJ1_canEncode_fc78d_7 ?_
    refine e_goto F 12 dJ1_canEncode_fc78d_8 (by decide) ?_
    refine e_zret F rfl (by omega) (Or.inr rfl) ?_ dJ1_canEncode_fc78d_12
    exact ⟨rfl, rfl, rfl⟩
set_option maxHeartbeats 4000000 in
set_option maxRecDepth 100000 in
theorem c_J5_append_3fe6f {K : e_K} {l : Launch} {w : e_W} {n : Nat} {b : Nat} {c : Int} (hS : SB w b c) {x : Int} (hc : c ≤ 110) (h0 : 0 ≤ x) (h1 : x < 128) : e_Met K l yJ5_append_3fe6f (Cond.code yJ5_append_3fe6f cJ5_append_3fe6f 2 (Option.some (.object "java/lang/AbstractStringBuilder")) :: e_TB) (4) (1) [.ref b, .int (eI x)] w n (fun r w' n' => r = some (.ref b) ∧ SB w' b (c + 1) ∧ KB w w' b) (e_px0) := by
  refine e_ofV rfl (Nat.le_of_ble_eq_true rfl) ?_
  intro P9 E9 S9 M9 A9 B9 T9 C9 F hnm
  obtain ⟨v, m, f, hb, hv, hbv, hf, hc0, hcm, hm⟩ := hS
  refine e_aload_n F dJ5_append_3fe6f_0 rfl ?_
  refine e_aload_n F dJ5_append_3fe6f_1 rfl ?_
  refine e_get (ci := 6) (fi := 3) (q := (RJ4, TJ4, 4)) F hb rfl (by decide) w_fl_RJ5_79 (by rfl) dJ5_append_3fe6f_2 ?_
  refine e_iconst F dJ5_append_3fe6f_5 ?_
  refine e_iadd F dJ5_append_3fe6f_6 ?_
  refine e_callVU F u_J5_ensureCapacityInternal_d00df w_im_J5_ensureCapacityInternal_d00df w_sx_RJ4_J5_ensureCapacityInternal_d00df w_sa_J5_ensureCapacityInternal_d00df (by rfl) (c_J5_ensureCapacityInternal_d00df hb hv (q := c + 1) hf hbv hm (by omega) (by omega)) hb w_ml_RJ5_100 dJ5_append_3fe6f_7 (by rfl) (Nat.le_of_ble_eq_true rfl) (by decide) (by omega) (fun _ _ _ h _ => False.elim h) (fun r_7 w_7 n_7 h_7 hn_7 => ?_)
  obtain ⟨rfl, v2, m2, f2, gb, gv, gbv, gf, gq, gm, gK⟩ := h_7
  refine e_aload_n F dJ5_append_3fe6f_10 rfl ?_
  refine e_callVU F u_J5_isLatin1_aae02 w_im_J5_isLatin1_aae02 w_sx_RJ4_J5_isLatin1_aae02 w_sa_J5_isLatin1_aae02 (by rfl) (c_J5_isLatin1_aae02 gb) gb w_ml_RJ5_83 dJ5_append_3fe6f_11 (by rfl) (Nat.le_of_ble_eq_true rfl) (by decide) (by omega) (fun _ _ _ h _ => False.elim h) (fun r_11 w_11 n_11 h_11 hn_11 => ?_)
  obtain ⟨rfl, ew_11, en_11⟩ := h_11
  rw [ew_11, en_11]
  refine e_if_eq F 45 dJ5_append_3fe6f_14 (by decide) (by decide) (fun c_14 => ?_) (fun c_14 => ?_)
  · exact absurd c_14 (by decide)
  · refine e_iload_n F dJ5_append_3fe6f_17 rfl ?_
    refine e_callSS F u_J1_canEncode_fc78d (by rfl) (c_J1_canEncode_fc78d h0 (by omega)) w_ml_RJ5_191 dJ5_append_3fe6f_18 (by rfl) (Nat.le_of_ble_eq_true rfl) (by decide) (by omega) (fun _ _ _ h _ => False.elim h) (fun r_18 w_18 n_18 h_18 hn_18 => ?_)
    obtain ⟨rfl, ew_18, en_18⟩ := h_18
    rw [ew_18, en_18]
    refine e_if_eq F 45 dJ5_append_3fe6f_21 (by decide) (by decide) (fun c_21 => ?_) (fun c_21 => ?_)
    · exact absurd c_21 (by decide)
    · refine e_aload_n F dJ5_append_3fe6f_24 rfl ?_
      refine e_get (ci := 6) (fi := 0) (q := (RJ4, TJ4, 4)) F gb rfl (by decide) w_fl_RJ5_15 (by rfl) dJ5_append_3fe6f_25 ?_
      refine e_aload_n F dJ5_append_3fe6f_28 rfl ?_
      refine e_dup F dJ5_append_3fe6f_29 rfl ?_
      refine e_get (ci := 6) (fi := 3) (q := (RJ4, TJ4, 4)) F gb rfl (by decide) w_fl_RJ5_79 (by rfl) dJ5_append_3fe6f_30 ?_
      refine e_dup_x1 F dJ5_append_3fe6f_33 rfl rfl ?_
      refine e_iconst F dJ5_append_3fe6f_34 ?_
      refine e_iadd F dJ5_append_3fe6f_35 ?_
      refine e_set (host := "") (ci := 6) (fi := 3) (q := (RJ4, TJ4, 4)) F gb rfl (by decide) w_fl_RJ5_79 rfl (by rfl) (by rfl) (Nat.le_of_ble_eq_true rfl) dJ5_append_3fe6f_36 ?_
      refine e_iload_n F dJ5_append_3fe6f_39 rfl ?_
      refine e_i2b F dJ5_append_3fe6f_40 (by omega) (by omega) ?_
      refine e_bast F (show e_up w_7 b _ v2 = _ by rw [e_up_n (by omega)]; exact gv) (by omega) (by omega) (by omega) (⟨by omega, by omega⟩) dJ5_append_3fe6f_41 ?_
      refine e_goto F 75 dJ5_append_3fe6f_42 (by decide) ?_
      refine e_aload_n F dJ5_append_3fe6f_75 rfl ?_
      refine e_aret F rfl (Or.inl ⟨_, rfl⟩) (Or.inr ⟨_, rfl⟩) (by omega) ?_ dJ5_append_3fe6f_76
      exact ⟨rfl, ⟨v2, m2, _, by rw [e_up_n (by omega)]; exact e_up_s, e_up_s, gbv, gf.fu (by omega) (by omega), by omega, by omega, gm⟩, fun j hj => by rw [e_up_n (by omega), e_up_n (by omega)]; exact gK j hj⟩
set_option maxHeartbeats 4000000 in
set_option maxRecDepth 100000 in
theorem c_J6_stringSize_0f7a4 {K : e_K} {l : Launch} {w : e_W} {n : Nat} {x : Int} (h0 : 0 ≤ x) (h1 : x < 36000110) : e_Met K l yJ6_stringSize_0f7a4 (Cond.code yJ6_stringSize_0f7a4 cJ6_stringSize_0f7a4 4 (Option.some .int) :: e_TB) (0) (0) [.int (eI x)] w n (fun r w' n' => ∃ d : Int, r = some (.int (eI d)) ∧ w' = w ∧ n' = n ∧ 1 ≤ d ∧ d ≤ 8 ∧ x < 10 ^ d.toNat) (e_px0) := by
  refine e_ofV rfl (Nat.le_of_ble_eq_true rfl) ?_
  intro P9 E9 S9 M9 A9 B9 T9 C9 F hnm
  have s8 : 10000000 ≤ x → e_V K P9 l E9 (0) (0) S9 M9 A9 B9 T9 C9 4 (fun r w' n' => ∃ d : Int, r = some (.int (eI d)) ∧ w' = w ∧ n' = n ∧ 1 ≤ d ∧ d ≤ 8 ∧ x < 10 ^ d.toNat) (e_px0) 16 [(0, .int (eI (-x))), (1, .int (eI 0)), (2, .int (eI (-100000000))), (3, .int (eI 8))] [] w n (0) := by
    intro hlo
    refine e_iload_n F dJ6_stringSize_0f7a4_16 rfl ?_
    refine e_bipush F dJ6_stringSize_0f7a4_17 (by decide) ?_
    refine e_icmp_ge F 42 dJ6_stringSize_0f7a4_19 (by decide) (by decide) (by decide) (fun c_19 => ?_) (fun c_19 => ?_)
    · exact absurd c_19 (by decide)
    · refine e_iload_n F dJ6_stringSize_0f7a4_22 rfl ?_
      refine e_iload_n F dJ6_stringSize_0f7a4_23 rfl ?_
      refine e_icmp_le F 31 dJ6_stringSize_0f7a4_24 (by decide) (⟨by omega, by omega⟩) (by decide) (fun c_24 => ?_) (fun c_24 => ?_)
      · exact absurd c_24 (by omega)
      · refine e_iload_n F dJ6_stringSize_0f7a4_27 rfl ?_
        refine e_iload_n F dJ6_stringSize_0f7a4_28 rfl ?_
        refine e_iadd F dJ6_stringSize_0f7a4_29 ?_
        refine e_iret F rfl (by omega) ?_ dJ6_stringSize_0f7a4_30
        refine ⟨_, rfl, rfl, rfl, by decide, by decide, ?_⟩
        have e9 : (10 : Int) ^ ((8 : Int) + 0).toNat = 100000000 := by decide
        omega
  have s7 : 1000000 ≤ x → e_V K P9 l E9 (0) (0) S9 M9 A9 B9 T9 C9 4 (fun r w' n' => ∃ d : Int, r = some (.int (eI d)) ∧ w' = w ∧ n' = n ∧ 1 ≤ d ∧ d ≤ 8 ∧ x < 10 ^ d.toNat) (e_px0) 16 [(0, .int (eI (-x))), (1, .int (eI 0)), (2, .int (eI (-10000000))), (3, .int (eI 7))] [] w n (0) := by
    intro hlo
    refine e_iload_n F dJ6_stringSize_0f7a4_16 rfl ?_
    refine e_bipush F dJ6_stringSize_0f7a4_17 (by decide) ?_
    refine e_icmp_ge F 42 dJ6_stringSize_0f7a4_19 (by decide) (by decide) (by decide) (fun c_19 => ?_) (fun c_19 => ?_)
    · exact absurd c_19 (by decide)
    · refine e_iload_n F dJ6_stringSize_0f7a4_22 rfl ?_
      refine e_iload_n F dJ6_stringSize_0f7a4_23 rfl ?_
      refine e_icmp_le F 31 dJ6_stringSize_0f7a4_24 (by decide) (⟨by omega, by omega⟩) (by decide) (fun c_24 => ?_) (fun c_24 => ?_)
      · refine e_bipush F dJ6_stringSize_0f7a4_31 (by decide) ?_
        refine e_iload_n F dJ6_stringSize_0f7a4_33 rfl ?_
        refine e_imul F dJ6_stringSize_0f7a4_34 ?_
        refine e_istore_n F dJ6_stringSize_0f7a4_35 (by decide) ?_
        refine e_iinc F dJ6_stringSize_0f7a4_36 rfl (by decide) ?_
        refine e_goto F 16 dJ6_stringSize_0f7a4_39 (by decide) ?_
        exact e_go (s8 (by omega)) (And.intro rfl (And.intro rfl (And.intro rfl (And.intro rfl (trivial)))))
      · refine e_iload_n F dJ6_stringSize_0f7a4_27 rfl ?_
        refine e_iload_n F dJ6_stringSize_0f7a4_28 rfl ?_
        refine e_iadd F dJ6_stringSize_0f7a4_29 ?_
        refine e_iret F rfl (by omega) ?_ dJ6_stringSize_0f7a4_30
        refine ⟨_, rfl, rfl, rfl, by decide, by decide, ?_⟩
        have e9 : (10 : Int) ^ ((7 : Int) + 0).toNat = 10000000 := by decide
        omega
  have s6 : 100000 ≤ x → e_V K P9 l E9 (0) (0) S9 M9 A9 B9 T9 C9 4 (fun r w' n' => ∃ d : Int, r = some (.int (eI d)) ∧ w' = w ∧ n' = n ∧ 1 ≤ d ∧ d ≤ 8 ∧ x < 10 ^ d.toNat) (e_px0) 16 [(0, .int (eI (-x))), (1, .int (eI 0)), (2, .int (eI (-1000000))), (3, .int (eI 6))] [] w n (0) := by
    intro hlo
    refine e_iload_n F dJ6_stringSize_0f7a4_16 rfl ?_
    refine e_bipush F dJ6_stringSize_0f7a4_17 (by decide) ?_
    refine e_icmp_ge F 42 dJ6_stringSize_0f7a4_19 (by decide) (by decide) (by decide) (fun c_19 => ?_) (fun c_19 => ?_)
    · exact absurd c_19 (by decide)
    · refine e_iload_n F dJ6_stringSize_0f7a4_22 rfl ?_
      refine e_iload_n F dJ6_stringSize_0f7a4_23 rfl ?_
      refine e_icmp_le F 31 dJ6_stringSize_0f7a4_24 (by decide) (⟨by omega, by omega⟩) (by decide) (fun c_24 => ?_) (fun c_24 => ?_)
      · refine e_bipush F dJ6_stringSize_0f7a4_31 (by decide) ?_
        refine e_iload_n F dJ6_stringSize_0f7a4_33 rfl ?_
        refine e_imul F dJ6_stringSize_0f7a4_34 ?_
        refine e_istore_n F dJ6_stringSize_0f7a4_35 (by decide) ?_
        refine e_iinc F dJ6_stringSize_0f7a4_36 rfl (by decide) ?_
        refine e_goto F 16 dJ6_stringSize_0f7a4_39 (by decide) ?_
        exact e_go (s7 (by omega)) (And.intro rfl (And.intro rfl (And.intro rfl (And.intro rfl (trivial)))))
      · refine e_iload_n F dJ6_stringSize_0f7a4_27 rfl ?_
        refine e_iload_n F dJ6_stringSize_0f7a4_28 rfl ?_
        refine e_iadd F dJ6_stringSize_0f7a4_29 ?_
        refine e_iret F rfl (by omega) ?_ dJ6_stringSize_0f7a4_30
        refine ⟨_, rfl, rfl, rfl, by decide, by decide, ?_⟩
        have e9 : (10 : Int) ^ ((6 : Int) + 0).toNat = 1000000 := by decide
        omega
  have s5 : 10000 ≤ x → e_V K P9 l E9 (0) (0) S9 M9 A9 B9 T9 C9 4 (fun r w' n' => ∃ d : Int, r = some (.int (eI d)) ∧ w' = w ∧ n' = n ∧ 1 ≤ d ∧ d ≤ 8 ∧ x < 10 ^ d.toNat) (e_px0) 16 [(0, .int (eI (-x))), (1, .int (eI 0)), (2, .int (eI (-100000))), (3, .int (eI 5))] [] w n (0) := by
    intro hlo
    refine e_iload_n F dJ6_stringSize_0f7a4_16 rfl ?_
    refine e_bipush F dJ6_stringSize_0f7a4_17 (by decide) ?_
    refine e_icmp_ge F 42 dJ6_stringSize_0f7a4_19 (by decide) (by decide) (by decide) (fun c_19 => ?_) (fun c_19 => ?_)
    · exact absurd c_19 (by decide)
    · refine e_iload_n F dJ6_stringSize_0f7a4_22 rfl ?_
      refine e_iload_n F dJ6_stringSize_0f7a4_23 rfl ?_
      refine e_icmp_le F 31 dJ6_stringSize_0f7a4_24 (by decide) (⟨by omega, by omega⟩) (by decide) (fun c_24 => ?_) (fun c_24 => ?_)
      · refine e_bipush F dJ6_stringSize_0f7a4_31 (by decide) ?_
        refine e_iload_n F dJ6_stringSize_0f7a4_33 rfl ?_
        refine e_imul F dJ6_stringSize_0f7a4_34 ?_
        refine e_istore_n F dJ6_stringSize_0f7a4_35 (by decide) ?_
        refine e_iinc F dJ6_stringSize_0f7a4_36 rfl (by decide) ?_
        refine e_goto F 16 dJ6_stringSize_0f7a4_39 (by decide) ?_
        exact e_go (s6 (by omega)) (And.intro rfl (And.intro rfl (And.intro rfl (And.intro rfl (trivial)))))
      · refine e_iload_n F dJ6_stringSize_0f7a4_27 rfl ?_
        refine e_iload_n F dJ6_stringSize_0f7a4_28 rfl ?_
        refine e_iadd F dJ6_stringSize_0f7a4_29 ?_
        refine e_iret F rfl (by omega) ?_ dJ6_stringSize_0f7a4_30
        refine ⟨_, rfl, rfl, rfl, by decide, by decide, ?_⟩
        have e9 : (10 : Int) ^ ((5 : Int) + 0).toNat = 100000 := by decide
        omega
  have s4 : 1000 ≤ x → e_V K P9 l E9 (0) (0) S9 M9 A9 B9 T9 C9 4 (fun r w' n' => ∃ d : Int, r = some (.int (eI d)) ∧ w' = w ∧ n' = n ∧ 1 ≤ d ∧ d ≤ 8 ∧ x < 10 ^ d.toNat) (e_px0) 16 [(0, .int (eI (-x))), (1, .int (eI 0)), (2, .int (eI (-10000))), (3, .int (eI 4))] [] w n (0) := by
    intro hlo
    refine e_iload_n F dJ6_stringSize_0f7a4_16 rfl ?_
    refine e_bipush F dJ6_stringSize_0f7a4_17 (by decide) ?_
    refine e_icmp_ge F 42 dJ6_stringSize_0f7a4_19 (by decide) (by decide) (by decide) (fun c_19 => ?_) (fun c_19 => ?_)
    · exact absurd c_19 (by decide)
    · refine e_iload_n F dJ6_stringSize_0f7a4_22 rfl ?_
      refine e_iload_n F dJ6_stringSize_0f7a4_23 rfl ?_
      refine e_icmp_le F 31 dJ6_stringSize_0f7a4_24 (by decide) (⟨by omega, by omega⟩) (by decide) (fun c_24 => ?_) (fun c_24 => ?_)
      · refine e_bipush F dJ6_stringSize_0f7a4_31 (by decide) ?_
        refine e_iload_n F dJ6_stringSize_0f7a4_33 rfl ?_
        refine e_imul F dJ6_stringSize_0f7a4_34 ?_
        refine e_istore_n F dJ6_stringSize_0f7a4_35 (by decide) ?_
        refine e_iinc F dJ6_stringSize_0f7a4_36 rfl (by decide) ?_
        refine e_goto F 16 dJ6_stringSize_0f7a4_39 (by decide) ?_
        exact e_go (s5 (by omega)) (And.intro rfl (And.intro rfl (And.intro rfl (And.intro rfl (trivial)))))
      · refine e_iload_n F dJ6_stringSize_0f7a4_27 rfl ?_
        refine e_iload_n F dJ6_stringSize_0f7a4_28 rfl ?_
        refine e_iadd F dJ6_stringSize_0f7a4_29 ?_
        refine e_iret F rfl (by omega) ?_ dJ6_stringSize_0f7a4_30
        refine ⟨_, rfl, rfl, rfl, by decide, by decide, ?_⟩
        have e9 : (10 : Int) ^ ((4 : Int) + 0).toNat = 10000 := by decide
        omega
  have s3 : 100 ≤ x → e_V K P9 l E9 (0) (0) S9 M9 A9 B9 T9 C9 4 (fun r w' n' => ∃ d : Int, r = some (.int (eI d)) ∧ w' = w ∧ n' = n ∧ 1 ≤ d ∧ d ≤ 8 ∧ x < 10 ^ d.toNat) (e_px0) 16 [(0, .int (eI (-x))), (1, .int (eI 0)), (2, .int (eI (-1000))), (3, .int (eI 3))] [] w n (0) := by
    intro hlo
    refine e_iload_n F dJ6_stringSize_0f7a4_16 rfl ?_
    refine e_bipush F dJ6_stringSize_0f7a4_17 (by decide) ?_
    refine e_icmp_ge F 42 dJ6_stringSize_0f7a4_19 (by decide) (by decide) (by decide) (fun c_19 => ?_) (fun c_19 => ?_)
    · exact absurd c_19 (by decide)
    · refine e_iload_n F dJ6_stringSize_0f7a4_22 rfl ?_
      refine e_iload_n F dJ6_stringSize_0f7a4_23 rfl ?_
      refine e_icmp_le F 31 dJ6_stringSize_0f7a4_24 (by decide) (⟨by omega, by omega⟩) (by decide) (fun c_24 => ?_) (fun c_24 => ?_)
      · refine e_bipush F dJ6_stringSize_0f7a4_31 (by decide) ?_
        refine e_iload_n F dJ6_stringSize_0f7a4_33 rfl ?_
        refine e_imul F dJ6_stringSize_0f7a4_34 ?_
        refine e_istore_n F dJ6_stringSize_0f7a4_35 (by decide) ?_
        refine e_iinc F dJ6_stringSize_0f7a4_36 rfl (by decide) ?_
        refine e_goto F 16 dJ6_stringSize_0f7a4_39 (by decide) ?_
        exact e_go (s4 (by omega)) (And.intro rfl (And.intro rfl (And.intro rfl (And.intro rfl (trivial)))))
      · refine e_iload_n F dJ6_stringSize_0f7a4_27 rfl ?_
        refine e_iload_n F dJ6_stringSize_0f7a4_28 rfl ?_
        refine e_iadd F dJ6_stringSize_0f7a4_29 ?_
        refine e_iret F rfl (by omega) ?_ dJ6_stringSize_0f7a4_30
        refine ⟨_, rfl, rfl, rfl, by decide, by decide, ?_⟩
        have e9 : (10 : Int) ^ ((3 : Int) + 0).toNat = 1000 := by decide
        omega
  have s2 : 10 ≤ x → e_V K P9 l E9 (0) (0) S9 M9 A9 B9 T9 C9 4 (fun r w' n' => ∃ d : Int, r = some (.int (eI d)) ∧ w' = w ∧ n' = n ∧ 1 ≤ d ∧ d ≤ 8 ∧ x < 10 ^ d.toNat) (e_px0) 16 [(0, .int (eI (-x))), (1, .int (eI 0)), (2, .int (eI (-100))), (3, .int (eI 2))] [] w n (0) := by
    intro hlo
    refine e_iload_n F dJ6_stringSize_0f7a4_16 rfl ?_
    refine e_bipush F dJ6_stringSize_0f7a4_17 (by decide) ?_
    refine e_icmp_ge F 42 dJ6_stringSize_0f7a4_19 (by decide) (by decide) (by decide) (fun c_19 => ?_) (fun c_19 => ?_)
    · exact absurd c_19 (by decide)
    · refine e_iload_n F dJ6_stringSize_0f7a4_22 rfl ?_
      refine e_iload_n F dJ6_stringSize_0f7a4_23 rfl ?_
      refine e_icmp_le F 31 dJ6_stringSize_0f7a4_24 (by decide) (⟨by omega, by omega⟩) (by decide) (fun c_24 => ?_) (fun c_24 => ?_)
      · refine e_bipush F dJ6_stringSize_0f7a4_31 (by decide) ?_
        refine e_iload_n F dJ6_stringSize_0f7a4_33 rfl ?_
        refine e_imul F dJ6_stringSize_0f7a4_34 ?_
        refine e_istore_n F dJ6_stringSize_0f7a4_35 (by decide) ?_
        refine e_iinc F dJ6_stringSize_0f7a4_36 rfl (by decide) ?_
        refine e_goto F 16 dJ6_stringSize_0f7a4_39 (by decide) ?_
        exact e_go (s3 (by omega)) (And.intro rfl (And.intro rfl (And.intro rfl (And.intro rfl (trivial)))))
      · refine e_iload_n F dJ6_stringSize_0f7a4_27 rfl ?_
        refine e_iload_n F dJ6_stringSize_0f7a4_28 rfl ?_
        refine e_iadd F dJ6_stringSize_0f7a4_29 ?_
        refine e_iret F rfl (by omega) ?_ dJ6_stringSize_0f7a4_30
        refine ⟨_, rfl, rfl, rfl, by decide, by decide, ?_⟩
        have e9 : (10 : Int) ^ ((2 : Int) + 0).toNat = 100 := by decide
        omega
  have s1 : 0 ≤ x → e_V K P9 l E9 (0) (0) S9 M9 A9 B9 T9 C9 4 (fun r w' n' => ∃ d : Int, r = some (.int (eI d)) ∧ w' = w ∧ n' = n ∧ 1 ≤ d ∧ d ≤ 8 ∧ x < 10 ^ d.toNat) (e_px0) 16 [(0, .int (eI (-x))), (1, .int (eI 0)), (2, .int (eI (-10))), (3, .int (eI 1))] [] w n (0) := by
    intro hlo
    refine e_iload_n F dJ6_stringSize_0f7a4_16 rfl ?_
    refine e_bipush F dJ6_stringSize_0f7a4_17 (by decide) ?_
    refine e_icmp_ge F 42 dJ6_stringSize_0f7a4_19 (by decide) (by decide) (by decide) (fun c_19 => ?_) (fun c_19 => ?_)
    · exact absurd c_19 (by decide)
    · refine e_iload_n F dJ6_stringSize_0f7a4_22 rfl ?_
      refine e_iload_n F dJ6_stringSize_0f7a4_23 rfl ?_
      refine e_icmp_le F 31 dJ6_stringSize_0f7a4_24 (by decide) (⟨by omega, by omega⟩) (by decide) (fun c_24 => ?_) (fun c_24 => ?_)
      · refine e_bipush F dJ6_stringSize_0f7a4_31 (by decide) ?_
        refine e_iload_n F dJ6_stringSize_0f7a4_33 rfl ?_
        refine e_imul F dJ6_stringSize_0f7a4_34 ?_
        refine e_istore_n F dJ6_stringSize_0f7a4_35 (by decide) ?_
        refine e_iinc F dJ6_stringSize_0f7a4_36 rfl (by decide) ?_
        refine e_goto F 16 dJ6_stringSize_0f7a4_39 (by decide) ?_
        exact e_go (s2 (by omega)) (And.intro rfl (And.intro rfl (And.intro rfl (And.intro rfl (trivial)))))
      · refine e_iload_n F dJ6_stringSize_0f7a4_27 rfl ?_
        refine e_iload_n F dJ6_stringSize_0f7a4_28 rfl ?_
        refine e_iadd F dJ6_stringSize_0f7a4_29 ?_
        refine e_iret F rfl (by omega) ?_ dJ6_stringSize_0f7a4_30
        refine ⟨_, rfl, rfl, rfl, by decide, by decide, ?_⟩
        have e9 : (10 : Int) ^ ((1 : Int) + 0).toNat = 10 := by decide
        omega
  refine e_iconst F dJ6_stringSize_0f7a4_0 ?_
  refine e_istore_n F dJ6_stringSize_0f7a4_1 (by decide) ?_
  refine e_iload_n F dJ6_stringSize_0f7a4_2 rfl ?_
  refine e_if_lt F 11 dJ6_stringSize_0f7a4_3 (by decide) (⟨by omega, by omega⟩) (fun c_3 => ?_) (fun c_3 => ?_)
  · exact absurd c_3 (by omega)
  · refine e_iconst F dJ6_stringSize_0f7a4_6 ?_
    refine e_istore_n F dJ6_stringSize_0f7a4_7 (by decide) ?_
    refine e_iload_n F dJ6_stringSize_0f7a4_8 rfl ?_
    refine e_ineg F dJ6_stringSize_0f7a4_9 ?_
    refine e_istore_n F dJ6_stringSize_0f7a4_10 (by decide) ?_
    refine e_bipush F dJ6_stringSize_0f7a4_11 (by decide) ?_
    refine e_istore_n F dJ6_stringSize_0f7a4_13 (by decide) ?_
    refine e_iconst F dJ6_stringSize_0f7a4_14 ?_
    refine e_istore_n F dJ6_stringSize_0f7a4_15 (by decide) ?_
    exact e_go (s1 (by omega)) (And.intro rfl (And.intro rfl (And.intro rfl (And.intro rfl (trivial)))))
set_option maxHeartbeats 4000000 in
set_option maxRecDepth 100000 in
theorem c_J6_getChars_ba4f3 {K : e_K} {l : Launch} {w : e_W} {n : Nat} {v m : Nat} {f : Int → Int} {y idx : Int} (hv : w v = some (e_ba m f)) (hf : BR f) (hm : m ≤ 256) (h0 : 0 ≤ y) (h1 : y < 36000110) (hi : 1 ≤ idx) (hi2 : idx ≤ m) (hlt : y < 10 ^ idx.toNat) : e_Met K l yJ6_getChars_ba4f3 (Cond.code yJ6_getChars_ba4f3 cJ6_getChars_ba4f3 7 (Option.some .int) :: e_TB) (0) (0) [.int (eI y), .int (eI idx), .ref v] w n (fun r w' n' => (∃ z : Int, r = some (.int (eI z))) ∧ n' = n ∧ ∃ f', BR f' ∧ w' v = some (e_ba m f') ∧ ∀ j, j ≠ v → w' j = w j) (e_px0) := by
  refine e_ofV rfl (Nat.le_of_ble_eq_true rfl) ?_
  intro P9 E9 S9 M9 A9 B9 T9 C9 F hnm
  have lp : ∀ (N : Nat) (y p : Int) (wl : e_W) (f : Int → Int), y.toNat < N → (0 ≤ y ∧ y < 36000110 ∧ 1 ≤ p ∧ p ≤ m ∧ y < 10 ^ p.toNat ∧ wl v = some (e_ba m f) ∧ BR f ∧ ∀ j, j ≠ v → wl j = w j) → e_V K P9 l E9 (0) (0) S9 M9 A9 B9 T9 C9 7 (fun r w' n' => (∃ z : Int, r = some (.int (eI z))) ∧ n' = n ∧ ∃ f', BR f' ∧ w' v = some (e_ba m f') ∧ ∀ j, j ≠ v → w' j = w j) (e_px0) 22 [(0, .int (eI (-y))), (2, .ref v), (5, .int (eI p)), (6, .int (eI 0))] [] wl n (0) := by
    intro N
    induction N with
    | zero => intro y p wl f hN; exact absurd hN (Nat.not_lt_zero _)
    | succ N ih =>
      intro y p wl f hN ⟨k1, k2, k3, k4, k5, gv, gf, gK⟩
      refine e_iload_n F dJ6_getChars_ba4f3_22 rfl ?_
      refine e_bipush F dJ6_getChars_ba4f3_23 (by decide) ?_
      refine e_icmp_gt F 72 dJ6_getChars_ba4f3_25 (by decide) (⟨by omega, by omega⟩) (⟨by omega, by omega⟩) (fun c_25 => ?_) (fun c_25 => ?_)
      · refine e_aload_n F dJ6_getChars_ba4f3_72 rfl ?_
        refine e_iinc F dJ6_getChars_ba4f3_73 rfl (by decide) ?_
        refine e_iload F dJ6_getChars_ba4f3_76 rfl ?_
        refine e_gets F (i := 6) rfl w_fl_RJ6_83 dJ6_getChars_ba4f3_78 ?_
        refine e_iload_n F dJ6_getChars_ba4f3_81 rfl ?_
        refine e_ineg F dJ6_getChars_ba4f3_82 ?_
        rw [Int.neg_neg]
        refine e_baldS F (i := 6) (by decide) (by omega) (by omega) dJ6_getChars_ba4f3_83 ?_
        rw [if_pos rfl]
        refine e_bast F gv (by omega) (by omega) (by omega) (⟨by omega, by omega⟩) dJ6_getChars_ba4f3_84 ?_
        refine e_iload_n F dJ6_getChars_ba4f3_85 rfl ?_
        refine e_bipush F dJ6_getChars_ba4f3_86 (by decide) ?_
        refine e_icmp_ge F 104 dJ6_getChars_ba4f3_88 (by decide) (⟨by omega, by omega⟩) (⟨by omega, by omega⟩) (fun c_88 => ?_) (fun c_88 => ?_)
        · refine e_iload F dJ6_getChars_ba4f3_104 rfl ?_
          refine e_if_eq F 118 dJ6_getChars_ba4f3_106 (by decide) (by decide) (fun c_106 => ?_) (fun c_106 => ?_)
          · refine e_iload F dJ6_getChars_ba4f3_118 rfl ?_
            refine e_iret F rfl (by omega) ?_ dJ6_getChars_ba4f3_120
            first
            | exact ⟨⟨_, rfl⟩, rfl, _, gf.fu (by omega) (by omega), e_up_s, fun j hj => by rw [e_up_n hj]; exact gK j hj⟩
            | exact ⟨⟨_, rfl⟩, rfl, _, (gf.fu (by omega) (by omega)).fu (by omega) (by omega), e_up_s, fun j hj => by rw [e_up_n hj, e_up_n hj]; exact gK j hj⟩
          · exact absurd c_106 (by decide)
        ·
          have h2 := p10_2 k3 k5 (by omega)
          refine e_aload_n F dJ6_getChars_ba4f3_91 rfl ?_
          refine e_iinc F dJ6_getChars_ba4f3_92 rfl (by decide) ?_
          refine e_iload F dJ6_getChars_ba4f3_95 rfl ?_
          refine e_gets F (i := 7) rfl w_fl_RJ6_87 dJ6_getChars_ba4f3_97 ?_
          refine e_iload_n F dJ6_getChars_ba4f3_100 rfl ?_
          refine e_ineg F dJ6_getChars_ba4f3_101 ?_
          rw [Int.neg_neg]
          refine e_baldS F (i := 7) (by decide) (by omega) (by omega) dJ6_getChars_ba4f3_102 ?_
          rw [if_neg (by decide)]
          refine e_bast F e_up_s (by omega) (by omega) (by omega) (⟨by omega, by omega⟩) dJ6_getChars_ba4f3_103 ?_
          refine e_iload F dJ6_getChars_ba4f3_104 rfl ?_
          refine e_if_eq F 118 dJ6_getChars_ba4f3_106 (by decide) (by decide) (fun c_106 => ?_) (fun c_106 => ?_)
          · refine e_iload F dJ6_getChars_ba4f3_118 rfl ?_
            refine e_iret F rfl (by omega) ?_ dJ6_getChars_ba4f3_120
            first
            | exact ⟨⟨_, rfl⟩, rfl, _, gf.fu (by omega) (by omega), e_up_s, fun j hj => by rw [e_up_n hj]; exact gK j hj⟩
            | exact ⟨⟨_, rfl⟩, rfl, _, (gf.fu (by omega) (by omega)).fu (by omega) (by omega), e_up_s, fun j hj => by rw [e_up_n hj, e_up_n hj]; exact gK j hj⟩
          · exact absurd c_106 (by decide)
      ·
        have h3 := p10_3 k3 k5 (by omega)
        have e1 : (-y).tdiv 100 = -(y / 100) := by rw [Int.neg_tdiv, Int.tdiv_eq_ediv_of_nonneg k1]
        refine e_iload_n F dJ6_getChars_ba4f3_28 rfl ?_
        refine e_bipush F dJ6_getChars_ba4f3_29 (by decide) ?_
        refine e_idiv F dJ6_getChars_ba4f3_31 (⟨by omega, by omega⟩) (⟨by omega, by omega⟩) (by omega) ?_
        rw [e1]
        refine e_istore_n F dJ6_getChars_ba4f3_32 (by decide) ?_
        refine e_iload_n F dJ6_getChars_ba4f3_33 rfl ?_
        refine e_bipush F dJ6_getChars_ba4f3_34 (by decide) ?_
        refine e_imul F dJ6_getChars_ba4f3_36 ?_
        refine e_iload_n F dJ6_getChars_ba4f3_37 rfl ?_
        refine e_isub F dJ6_getChars_ba4f3_38 ?_
        refine e_istore F dJ6_getChars_ba4f3_39 (by decide) ?_
        refine e_iload_n F dJ6_getChars_ba4f3_41 rfl ?_
        refine e_istore_n F dJ6_getChars_ba4f3_42 (by decide) ?_
        refine e_aload_n F dJ6_getChars_ba4f3_43 rfl ?_
        refine e_iinc F dJ6_getChars_ba4f3_44 rfl (by decide) ?_
        refine e_iload F dJ6_getChars_ba4f3_47 rfl ?_
        refine e_gets F (i := 6) rfl w_fl_RJ6_83 dJ6_getChars_ba4f3_49 ?_
        refine e_iload F dJ6_getChars_ba4f3_52 rfl ?_
        refine e_baldS F (i := 6) (by decide) (by omega) (by omega) dJ6_getChars_ba4f3_54 ?_
        rw [if_pos rfl]
        refine e_bast F gv (by omega) (by omega) (by omega) (⟨by omega, by omega⟩) dJ6_getChars_ba4f3_55 ?_
        refine e_aload_n F dJ6_getChars_ba4f3_56 rfl ?_
        refine e_iinc F dJ6_getChars_ba4f3_57 rfl (by decide) ?_
        refine e_iload F dJ6_getChars_ba4f3_60 rfl ?_
        refine e_gets F (i := 7) rfl w_fl_RJ6_87 dJ6_getChars_ba4f3_62 ?_
        refine e_iload F dJ6_getChars_ba4f3_65 rfl ?_
        refine e_baldS F (i := 7) (by decide) (by omega) (by omega) dJ6_getChars_ba4f3_67 ?_
        rw [if_neg (by decide)]
        refine e_bast F e_up_s (by omega) (by omega) (by omega) (⟨by omega, by omega⟩) dJ6_getChars_ba4f3_68 ?_
        refine e_goto F 22 dJ6_getChars_ba4f3_69 (by decide) ?_
        refine e_go (ih (y / 100) (p + -1 + -1) _ _ (by omega) ⟨by omega, by omega, by omega, by omega, h3.2, e_up_s, (gf.fu (by omega) (by omega)).fu (by omega) (by omega), fun j hj => by rw [e_up_n hj, e_up_n hj]; exact gK j hj⟩) (And.intro rfl (And.intro rfl (And.intro rfl (And.intro rfl (trivial)))))
  refine e_iload_n F dJ6_getChars_ba4f3_0 rfl ?_
  refine e_istore F dJ6_getChars_ba4f3_1 (by decide) ?_
  refine e_iload_n F dJ6_getChars_ba4f3_3 rfl ?_
  refine e_if_ge F 11 dJ6_getChars_ba4f3_4 (by decide) (⟨by omega, by omega⟩) (fun c_4 => ?_) (fun c_4 => ?_)
  · refine e_iconst F dJ6_getChars_ba4f3_11 ?_
    refine e_istore F dJ6_getChars_ba4f3_12 (by decide) ?_
    refine e_iload F dJ6_getChars_ba4f3_14 rfl ?_
    refine e_if_ne F 22 dJ6_getChars_ba4f3_16 (by decide) (by decide) (fun c_16 => ?_) (fun c_16 => ?_)
    · exact absurd c_16 (by decide)
    · refine e_iload_n F dJ6_getChars_ba4f3_19 rfl ?_
      refine e_ineg F dJ6_getChars_ba4f3_20 ?_
      refine e_istore_n F dJ6_getChars_ba4f3_21 (by decide) ?_
      exact e_go (lp 36000110 y idx w f (by omega) ⟨h0, h1, hi, hi2, hlt, hv, hf, fun _ _ => rfl⟩) (And.intro rfl (And.intro rfl (And.intro rfl (And.intro rfl (trivial)))))
  · exact absurd c_4 (by omega)
set_option maxHeartbeats 4000000 in
set_option maxRecDepth 100000 in
theorem c_J5_append_c97b9 {K : e_K} {l : Launch} {w : e_W} {n : Nat} {b : Nat} {c : Int} (hS : SB w b c) {x : Int} (hc : c ≤ 110) (h0 : 0 ≤ x) (h1 : x < 36000110) : e_Met K l yJ5_append_c97b9 (Cond.code yJ5_append_c97b9 cJ5_append_c97b9 4 (Option.some (.object "java/lang/AbstractStringBuilder")) :: e_TB) (4) (1) [.ref b, .int (eI x)] w n (fun r w' n' => r = some (.ref b) ∧ (∃ c' : Int, c < c' ∧ c' ≤ c + 8 ∧ SB w' b c') ∧ KB w w' b) (e_px0) := by
  refine e_ofV rfl (Nat.le_of_ble_eq_true rfl) ?_
  intro P9 E9 S9 M9 A9 B9 T9 C9 F hnm
  obtain ⟨v, m, f, hb, hv, hbv, hf, hc0, hcm, hm⟩ := hS
  refine e_aload_n F dJ5_append_c97b9_0 rfl ?_
  refine e_get (ci := 6) (fi := 3) (q := (RJ4, TJ4, 4)) F hb rfl (by decide) w_fl_RJ5_79 (by rfl) dJ5_append_c97b9_1 ?_
  refine e_istore_n F dJ5_append_c97b9_4 (by decide) ?_
  refine e_iload_n F dJ5_append_c97b9_5 rfl ?_
  refine e_iload_n F dJ5_append_c97b9_6 rfl ?_
  refine e_callSS F u_J6_stringSize_0f7a4 (by rfl) (c_J6_stringSize_0f7a4 h0 h1) w_ml_RJ5_245 dJ5_append_c97b9_7 (by rfl) (Nat.le_of_ble_eq_true rfl) (by decide) (by omega) (fun _ _ _ h _ => False.elim h) (fun r_7 w_7 n_7 h_7 hn_7 => ?_)
  obtain ⟨dg, rfl, ew_7, en_7, d1, d8, dlt⟩ := h_7
  rw [ew_7, en_7]
  refine e_iadd F dJ5_append_c97b9_10 ?_
  refine e_istore_n F dJ5_append_c97b9_11 (by decide) ?_
  refine e_aload_n F dJ5_append_c97b9_12 rfl ?_
  refine e_iload_n F dJ5_append_c97b9_13 rfl ?_
  refine e_callVU F u_J5_ensureCapacityInternal_d00df w_im_J5_ensureCapacityInternal_d00df w_sx_RJ4_J5_ensureCapacityInternal_d00df w_sa_J5_ensureCapacityInternal_d00df (by rfl) (c_J5_ensureCapacityInternal_d00df hb hv (q := c + dg) hf hbv hm (by omega) (by omega)) hb w_ml_RJ5_100 dJ5_append_c97b9_14 (by rfl) (Nat.le_of_ble_eq_true rfl) (by decide) (by omega) (fun _ _ _ h _ => False.elim h) (fun r_14 w_14 n_14 h_14 hn_14 => ?_)
  obtain ⟨rfl, v2, m2, f2, gb, gv, gbv, gf, gq, gm, gK⟩ := h_14
  refine e_aload_n F dJ5_append_c97b9_17 rfl ?_
  refine e_callVU F u_J5_isLatin1_aae02 w_im_J5_isLatin1_aae02 w_sx_RJ4_J5_isLatin1_aae02 w_sa_J5_isLatin1_aae02 (by rfl) (c_J5_isLatin1_aae02 gb) gb w_ml_RJ5_83 dJ5_append_c97b9_18 (by rfl) (Nat.le_of_ble_eq_true rfl) (by decide) (by omega) (fun _ _ _ h _ => False.elim h) (fun r_18 w_18 n_18 h_18 hn_18 => ?_)
  obtain ⟨rfl, ew_18, en_18⟩ := h_18
  rw [ew_18, en_18]
  refine e_if_eq F 37 dJ5_append_c97b9_21 (by decide) (by decide) (fun c_21 => ?_) (fun c_21 => ?_)
  · exact absurd c_21 (by decide)
  · refine e_iload_n F dJ5_append_c97b9_24 rfl ?_
    refine e_iload_n F dJ5_append_c97b9_25 rfl ?_
    refine e_aload_n F dJ5_append_c97b9_26 rfl ?_
    refine e_get (ci := 6) (fi := 0) (q := (RJ4, TJ4, 4)) F gb rfl (by decide) w_fl_RJ5_15 (by rfl) dJ5_append_c97b9_27 ?_
    refine e_callSS F u_J6_getChars_ba4f3 (by rfl) (c_J6_getChars_ba4f3 (y := x) (idx := c + dg) gv gf gm h0 h1 (by omega) (by omega) (Int.lt_of_lt_of_le dlt (p10_mono (by omega)))) w_ml_RJ5_248 dJ5_append_c97b9_30 (by rfl) (Nat.le_of_ble_eq_true rfl) (by decide) (by omega) (fun _ _ _ h _ => False.elim h) (fun r_30 w_30 n_30 h_30 hn_30 => ?_)
    obtain ⟨⟨z, rfl⟩, en_30, f3, zf, zv, zK⟩ := h_30
    rw [en_30]
    refine e_pop F dJ5_append_c97b9_33 rfl ?_
    refine e_goto F 48 dJ5_append_c97b9_34 (by decide) ?_
    refine e_aload_n F dJ5_append_c97b9_48 rfl ?_
    refine e_iload_n F dJ5_append_c97b9_49 rfl ?_
    refine e_set (host := "") (ci := 6) (fi := 3) (q := (RJ4, TJ4, 4)) F (show w_30 b = _ by rw [zK b (by omega)]; exact gb) rfl (by decide) w_fl_RJ5_79 rfl (by rfl) (by rfl) (Nat.le_of_ble_eq_true rfl) dJ5_append_c97b9_50 ?_
    refine e_aload_n F dJ5_append_c97b9_53 rfl ?_
    refine e_aret F rfl (Or.inl ⟨_, rfl⟩) (Or.inr ⟨_, rfl⟩) (by omega) ?_ dJ5_append_c97b9_54
    exact ⟨rfl, ⟨c + dg, by omega, by omega, v2, m2, f3, e_up_s, by rw [e_up_n (by omega)]; exact zv, gbv, zf, by omega, by omega, gm⟩, fun j hj => by rw [e_up_n (by omega), zK j (by omega)]; exact gK j hj⟩
set_option maxHeartbeats 4000000 in
set_option maxRecDepth 100000 in
theorem c_J4_append_cf468 {K : e_K} {l : Launch} {w : e_W} {n : Nat} {b : Nat} {c : Int} (hS : SB w b c) {x : Int} (hc : c ≤ 110) (h0 : 0 ≤ x) (h1 : x < 128) : e_Met K l yJ4_append_cf468 (Cond.code yJ4_append_cf468 cJ4_append_cf468 2 (Option.some (.object "java/lang/StringBuilder")) :: e_TB) (5) (1) [.ref b, .int (eI x)] w n (fun r w' n' => r = some (.ref b) ∧ SB w' b (c + 1) ∧ KB w w' b) (e_px0) := by
  refine e_ofV rfl (Nat.le_of_ble_eq_true rfl) ?_
  intro P9 E9 S9 M9 A9 B9 T9 C9 F hnm
  have hS0 := hS
  obtain ⟨v, m, f, hb, hv, hbv, hf, hc0, hcm, hm⟩ := hS
  refine e_aload_n F dJ4_append_cf468_0 rfl ?_
  refine e_iload_n F dJ4_append_cf468_1 rfl ?_
  refine e_callSU F u_J5_append_3fe6f (by decide +kernel) w_im_J5_append_3fe6f w_su_RJ4_RJ5 w_sa_J5_append_3fe6f (by rfl) (c_J5_append_3fe6f hS0 hc h0 h1) hb w_ml_RJ4_50 dJ4_append_cf468_2 (by rfl) (Nat.le_of_ble_eq_true rfl) (by decide) (by omega) (fun _ _ _ h _ => False.elim h) (fun r_2 w_2 n_2 h_2 hn_2 => ?_)
  obtain ⟨rfl, gS, gK⟩ := h_2
  refine e_pop F dJ4_append_cf468_5 rfl ?_
  refine e_aload_n F dJ4_append_cf468_6 rfl ?_
  refine e_aret F rfl (Or.inl ⟨_, rfl⟩) (Or.inr ⟨_, rfl⟩) (by omega) ?_ dJ4_append_cf468_7
  exact ⟨rfl, gS, gK⟩
set_option maxHeartbeats 4000000 in
set_option maxRecDepth 100000 in
theorem c_J4_append_bf812 {K : e_K} {l : Launch} {w : e_W} {n : Nat} {b : Nat} {c : Int} (hS : SB w b c) {x : Int} (hc : c ≤ 110) (h0 : 0 ≤ x) (h1 : x < 36000110) : e_Met K l yJ4_append_bf812 (Cond.code yJ4_append_bf812 cJ4_append_bf812 2 (Option.some (.object "java/lang/StringBuilder")) :: e_TB) (5) (1) [.ref b, .int (eI x)] w n (fun r w' n' => r = some (.ref b) ∧ (∃ c' : Int, c < c' ∧ c' ≤ c + 8 ∧ SB w' b c') ∧ KB w w' b) (e_px0) := by
  refine e_ofV rfl (Nat.le_of_ble_eq_true rfl) ?_
  intro P9 E9 S9 M9 A9 B9 T9 C9 F hnm
  have hS0 := hS
  obtain ⟨v, m, f, hb, hv, hbv, hf, hc0, hcm, hm⟩ := hS
  refine e_aload_n F dJ4_append_bf812_0 rfl ?_
  refine e_iload_n F dJ4_append_bf812_1 rfl ?_
  refine e_callSU F u_J5_append_c97b9 (by decide +kernel) w_im_J5_append_c97b9 w_su_RJ4_RJ5 w_sa_J5_append_c97b9 (by rfl) (c_J5_append_c97b9 hS0 hc h0 h1) hb w_ml_RJ4_53 dJ4_append_bf812_2 (by rfl) (Nat.le_of_ble_eq_true rfl) (by decide) (by omega) (fun _ _ _ h _ => False.elim h) (fun r_2 w_2 n_2 h_2 hn_2 => ?_)
  obtain ⟨rfl, gS, gK⟩ := h_2
  refine e_pop F dJ4_append_bf812_5 rfl ?_
  refine e_aload_n F dJ4_append_bf812_6 rfl ?_
  refine e_aret F rfl (Or.inl ⟨_, rfl⟩) (Or.inr ⟨_, rfl⟩) (by omega) ?_ dJ4_append_bf812_7
  exact ⟨rfl, gS, gK⟩
set_option maxHeartbeats 4000000 in
set_option maxRecDepth 100000 in
theorem c_J5_init_d00df {K : e_K} {l : Launch} {w : e_W} {n : Nat} {b : Nat} (hb : w b = some (.inl (6, [.null, .int (eI 0), .int (eI 0), .int (eI 0)]))) : e_Met K l yJ5_init_d00df (Cond.code yJ5_init_d00df cJ5_init_d00df 2 none :: e_TB) (1) (1) [.ref b, .int (eI 16)] w n (fun r w' n' => r = none ∧ n' = n + 1 ∧ SB w' b 0 ∧ ∀ j, j ≠ b → j < n → w' j = w j) (e_px0) := by
  refine e_ofV rfl (Nat.le_of_ble_eq_true rfl) ?_
  intro P9 E9 S9 M9 A9 B9 T9 C9 F hnm
  refine e_dom ?_
  intro hdom
  have hbn := hdom _ _ hb
  refine e_aload_n F dJ5_init_d00df_0 rfl ?_
  refine e_oinit F w_ml_RJ5_3 w_im_java_lang_Object__init____V w_co_oinit (Nat.le_of_ble_eq_true rfl) (by decide) dJ5_init_d00df_1 ?_
  refine e_gets F (i := 8) rfl w_fl_RJ5_18 dJ5_init_d00df_4 ?_
  refine e_if_eq F 25 dJ5_init_d00df_7 (by decide) (by decide) (fun c_7 => ?_) (fun c_7 => ?_)
  · exact absurd c_7 (by decide)
  · refine e_aload_n F dJ5_init_d00df_10 rfl ?_
    refine e_iload_n F dJ5_init_d00df_11 rfl ?_
    refine e_newB F (N := 16) (by first | rfl | omega) (by omega) (by omega) w_ac_byte dJ5_init_d00df_12 ?_
    refine e_set (host := "") (ci := 6) (fi := 0) (q := (RJ4, TJ4, 4)) F (show e_up w n _ b = _ by rw [e_up_n (by omega)]; exact hb) rfl (by decide) w_fl_RJ5_15 rfl (by rfl) (by rfl) (Nat.le_of_ble_eq_true rfl) dJ5_init_d00df_14 ?_
    refine e_aload_n F dJ5_init_d00df_17 rfl ?_
    refine e_iconst F dJ5_init_d00df_18 ?_
    refine e_set (host := "") (ci := 6) (fi := 1) (q := (RJ4, TJ4, 4)) F e_up_s rfl (by decide) w_fl_RJ5_22 rfl (by rfl) (by rfl) (Nat.le_of_ble_eq_true rfl) dJ5_init_d00df_19 ?_
    refine e_goto F 38 dJ5_init_d00df_22 (by decide) ?_
    refine e_vret F rfl (by omega) ?_ dJ5_init_d00df_38
    exact ⟨rfl, rfl, ⟨n, 16, fun _ => 0, e_up_s, by rw [e_up_n (by omega), e_up_n (by omega)]; exact e_up_s, hbn, fun _ => show (-128 : Int) ≤ 0 ∧ (0 : Int) < 128 by decide, by decide, by decide, by decide⟩, fun j h1 h2 => by rw [e_up_n h1, e_up_n h1, e_up_n (by omega)]⟩
set_option maxHeartbeats 4000000 in
set_option maxRecDepth 100000 in
theorem c_J4_init_da8c8 {K : e_K} {l : Launch} {w : e_W} {n : Nat} {b : Nat} (hb : w b = some (.inl (6, [.null, .int (eI 0), .int (eI 0), .int (eI 0)]))) : e_Met K l yJ4_init_da8c8 (Cond.code yJ4_init_da8c8 cJ4_init_da8c8 1 none :: e_TB) (2) (1) [.ref b] w n (fun r w' n' => r = none ∧ n' = n + 1 ∧ SB w' b 0 ∧ ∀ j, j ≠ b → j < n → w' j = w j) (e_px0) := by
  refine e_ofV rfl (Nat.le_of_ble_eq_true rfl) ?_
  intro P9 E9 S9 M9 A9 B9 T9 C9 F hnm
  refine e_aload_n F dJ4_init_da8c8_0 rfl ?_
  refine e_bipush F dJ4_init_da8c8_1 (by decide) ?_
  refine e_callII F u_J5_init_d00df (by rfl) (c_J5_init_d00df hb) w_ml_RJ4_1 dJ4_init_da8c8_3 (by rfl) (Nat.le_of_ble_eq_true rfl) (by decide) (by omega) (fun _ _ _ h _ => False.elim h) (fun r_3 w_3 n_3 h_3 hn_3 => ?_)
  obtain ⟨rfl, en_3, gS, gK⟩ := h_3
  rw [en_3]
  refine e_vret F rfl (by omega) ?_ dJ4_init_da8c8_6
  exact ⟨rfl, rfl, gS, gK⟩
set_option maxHeartbeats 4000000 in
set_option maxRecDepth 100000 in
theorem c_J7_checkLength_df160 {K : e_K} {l : Launch} {w : e_W} {n : Nat} {a b : Int} (ha : e_r a) (hb : e_r b) (h : a ≤ b) : e_Met K l yJ7_checkLength_df160 (Cond.code yJ7_checkLength_df160 cJ7_checkLength_df160 2 none :: e_TB) (0) (0) [.int (eI a), .int (eI b)] w n (fun r w' n' => r = none ∧ w' = w ∧ n' = n) (e_px0) := by
  refine e_ofV rfl (Nat.le_of_ble_eq_true rfl) ?_
  intro P9 E9 S9 M9 A9 B9 T9 C9 F hnm
  refine e_iload_n F dJ7_checkLength_df160_0 rfl ?_
  refine e_iload_n F dJ7_checkLength_df160_1 rfl ?_
  refine e_icmp_ge F 37 dJ7_checkLength_df160_2 (by decide) (hb) (ha) (fun c_2 => ?_) (fun c_2 => ?_)
  · refine e_vret F rfl (by omega) ?_ dJ7_checkLength_df160_37
    exact ⟨rfl, rfl, rfl⟩
  · exact absurd c_2 (by omega)
set_option maxHeartbeats 4000000 in
set_option maxRecDepth 100000 in
theorem c_J7_copyOfRangeByte_39247 {K : e_K} {l : Launch} {w : e_W} {n : Nat} {a m : Nat} {f : Int → Int} (ha : w a = some (e_ba m f)) (hf : BR f) {c : Int} (hc0 : 0 ≤ c) (hcm : c ≤ m) (hm : m ≤ 256) : e_Met K l yJ7_copyOfRangeByte_39247 (Cond.code yJ7_copyOfRangeByte_39247 cJ7_copyOfRangeByte_39247 5 (Option.some (.array .byte)) :: e_TB) (1) (1) [.ref a, .int (eI 0), .int (eI c)] w n (fun r w' n' => ∃ g, BR g ∧ r = some (.ref n) ∧ w' = e_up w n (e_ba c.toNat g) ∧ n' = n + 1) (e_px0) := by
  refine e_ofV rfl (Nat.le_of_ble_eq_true rfl) ?_
  intro P9 E9 S9 M9 A9 B9 T9 C9 F hnm
  refine e_dom ?_
  intro hdom
  have han := hdom _ _ ha
  refine e_iload_n F dJ7_copyOfRangeByte_39247_0 rfl ?_
  refine e_iload_n F dJ7_copyOfRangeByte_39247_1 rfl ?_
  refine e_callSS F u_J7_checkLength_df160 (by rfl) (c_J7_checkLength_df160 (a := 0) (b := c) (by decide) ⟨by omega, by omega⟩ hc0) w_ml_RJ7_343 dJ7_copyOfRangeByte_39247_2 (by rfl) (Nat.le_of_ble_eq_true rfl) (by decide) (by omega) (fun _ _ _ h _ => False.elim h) (fun r_2 w_2 n_2 h_2 hn_2 => ?_)
  obtain ⟨rfl, ew_2, en_2⟩ := h_2
  rw [ew_2, en_2]
  refine e_iload_n F dJ7_copyOfRangeByte_39247_5 rfl ?_
  refine e_iload_n F dJ7_copyOfRangeByte_39247_6 rfl ?_
  refine e_isub F dJ7_copyOfRangeByte_39247_7 ?_
  rw [Int.sub_zero]
  refine e_istore_n F dJ7_copyOfRangeByte_39247_8 (by decide) ?_
  refine e_iload_n F dJ7_copyOfRangeByte_39247_9 rfl ?_
  refine e_newB F (N := c.toNat) (by first | rfl | omega) (by omega) (by omega) w_ac_byte dJ7_copyOfRangeByte_39247_10 ?_
  refine e_astore F dJ7_copyOfRangeByte_39247_12 (by decide) ?_
  refine e_aload_n F dJ7_copyOfRangeByte_39247_14 rfl ?_
  refine e_iload_n F dJ7_copyOfRangeByte_39247_15 rfl ?_
  refine e_aload F dJ7_copyOfRangeByte_39247_16 rfl ?_
  refine e_iconst F dJ7_copyOfRangeByte_39247_18 ?_
  refine e_aload_n F dJ7_copyOfRangeByte_39247_19 rfl ?_
  refine e_alenB F (by first | assumption | exact e_up_s | (rw [e_up_n (by first | assumption | omega)]; first | assumption | exact e_up_s | (rw [e_up_n (by first | assumption | omega)]; first | assumption | exact e_up_s | (rw [e_up_n (by first | assumption | omega)]; first | assumption | exact e_up_s))) | exact hD.1 | exact hD1.1 | exact hD2.1 | exact gD.1 | exact gD1.1 | exact gD2.1 | exact gQ.1 | exact hQ.1 | exact gS.1 | exact hS.1 | exact zD.1) dJ7_copyOfRangeByte_39247_20 ?_
  refine e_iload_n F dJ7_copyOfRangeByte_39247_21 rfl ?_
  refine e_isub F dJ7_copyOfRangeByte_39247_22 ?_
  refine e_iload_n F dJ7_copyOfRangeByte_39247_23 rfl ?_
  rw [Int.sub_zero]
  refine e_mmin F ⟨by omega, by omega⟩ ⟨by omega, by omega⟩ w_ml_RJ7_304 w_sm_J9_min_7cf53 w_in_RJ9 w_co_J9_min_7cf53 dJ7_copyOfRangeByte_39247_24 (Nat.le_of_ble_eq_true rfl) (by decide) (by omega) ?_
  rw [show (if c < (m : Int) then c else (m : Int)) = c by split <;> omega]
  refine e_copyB F (sp := 0) (dp := 0) (cnt := c) (f := f) (g := fun _ => 0) (by rw [e_up_n (by omega)]; exact ha) e_up_s (by omega) (by omega) (by omega) (by omega) (by omega) (by omega) (by omega) hf w_ml_RJ7_150 w_nat_arraycopy_42 w_sm_java_lang_System_arraycopy__Ljava_lang_Object_ILjava_lang_Object_II_V w_in_RJ10 dJ7_copyOfRangeByte_39247_27 (Nat.le_of_ble_eq_true rfl) (by decide) ?_
  refine e_aload F dJ7_copyOfRangeByte_39247_30 rfl ?_
  refine e_aret F rfl (Or.inr ⟨_, rfl⟩) (Or.inr ⟨_, rfl⟩) (by omega) ?_ dJ7_copyOfRangeByte_39247_32
  refine ⟨_, ?_, rfl, e_up_up, rfl⟩
  intro j
  dsimp only
  split
  · exact hf _
  · decide
set_option maxHeartbeats 4000000 in
set_option maxRecDepth 100000 in
theorem c_J7_copyOfRange_39247 {K : e_K} {l : Launch} {w : e_W} {n : Nat} {a m : Nat} {f : Int → Int} (ha : w a = some (e_ba m f)) (hf : BR f) {c : Int} (hc0 : 0 ≤ c) (hcm : c ≤ m) (hm : m ≤ 256) : e_Met K l yJ7_copyOfRange_39247 (Cond.code yJ7_copyOfRange_39247 cJ7_copyOfRange_39247 3 (Option.some (.array .byte)) :: e_TB) (2) (1) [.ref a, .int (eI 0), .int (eI c)] w n (fun r w' n' => ∃ g, BR g ∧ r = some (.ref n) ∧ w' = e_up w n (e_ba c.toNat g) ∧ n' = n + 1) (e_px0) := by
  refine e_ofV rfl (Nat.le_of_ble_eq_true rfl) ?_
  intro P9 E9 S9 M9 A9 B9 T9 C9 F hnm
  refine e_iload_n F dJ7_copyOfRange_39247_0 rfl ?_
  refine e_if_ne F 10 dJ7_copyOfRange_39247_1 (by decide) (by decide) (fun c_1 => ?_) (fun c_1 => ?_)
  · exact absurd c_1 (by decide)
  · refine e_iload_n F dJ7_copyOfRange_39247_4 rfl ?_
    refine e_aload_n F dJ7_copyOfRange_39247_5 rfl ?_
    refine e_alenB F (by first | assumption | exact e_up_s | (rw [e_up_n (by first | assumption | omega)]; first | assumption | exact e_up_s | (rw [e_up_n (by first | assumption | omega)]; first | assumption | exact e_up_s | (rw [e_up_n (by first | assumption | omega)]; first | assumption | exact e_up_s))) | exact hD.1 | exact hD1.1 | exact hD2.1 | exact gD.1 | exact gD1.1 | exact gD2.1 | exact gQ.1 | exact hQ.1 | exact gS.1 | exact hS.1 | exact zD.1) dJ7_copyOfRange_39247_6 ?_
    refine e_icmp_eq F 17 dJ7_copyOfRange_39247_7 (by decide) (⟨by omega, by omega⟩) (⟨by omega, by omega⟩) (fun c_7 => ?_) (fun c_7 => ?_)
    · refine e_aload_n F dJ7_copyOfRange_39247_17 rfl ?_
      refine e_cloneX F (i0 := 3) (ty := .byte) (ai := 11) rfl ha (by omega) (by omega) (e_nmB F) (fun j _ => e_fitB (hf _).1 (hf _).2) w_ml_RJ7_310 w_sa__B_clone w_nat_clone_20 w_im_java_lang_Object_clone___Ljava_lang_Object_ w_sx__B__B_clone___Ljava_lang_Object_ w_ca__B_RJx8e188 dJ7_copyOfRange_39247_18 (Nat.le_of_ble_eq_true rfl) (by decide) ?_
      refine e_castA F (ai := 11) e_up_s (e_nmB F) w_cl_RJ7_311 dJ7_copyOfRange_39247_21 ?_
      refine e_aret F rfl (Or.inr ⟨_, rfl⟩) (Or.inr ⟨_, rfl⟩) (by omega) ?_ dJ7_copyOfRange_39247_24
      obtain rfl : m = c.toNat := by omega
      exact ⟨f, hf, rfl, rfl, rfl⟩
    · refine e_aload_n F dJ7_copyOfRange_39247_10 rfl ?_
      refine e_iload_n F dJ7_copyOfRange_39247_11 rfl ?_
      refine e_iload_n F dJ7_copyOfRange_39247_12 rfl ?_
      refine e_callSS F u_J7_copyOfRangeByte_39247 (by rfl) (c_J7_copyOfRangeByte_39247 ha hf hc0 hcm hm) w_ml_RJ7_339 dJ7_copyOfRange_39247_13 (by rfl) (Nat.le_of_ble_eq_true rfl) (by decide) (by omega) (fun _ _ _ h _ => False.elim h) (fun r_13 w_13 n_13 h_13 hn_13 => ?_)
      obtain ⟨g, hg, rfl, ew_13, en_13⟩ := h_13
      rw [ew_13, en_13]
      refine e_aret F rfl (Or.inr ⟨_, rfl⟩) (Or.inr ⟨_, rfl⟩) (by omega) ?_ dJ7_copyOfRange_39247_16
      exact ⟨g, hg, rfl, rfl, rfl⟩
set_option maxHeartbeats 4000000 in
set_option maxRecDepth 100000 in
theorem c_J5_getValue_6d5f1 {K : e_K} {l : Launch} {w : e_W} {n : Nat} {b v : Nat} {c : Int} (hb : w b = some (SBo v c)) : e_Met K l yJ5_getValue_6d5f1 (Cond.code yJ5_getValue_6d5f1 cJ5_getValue_6d5f1 1 (Option.some (.array .byte)) :: e_TB) (0) (0) [.ref b] w n (fun r w' n' => r = some (.ref v) ∧ w' = w ∧ n' = n) (e_px0) := by
  refine e_ofV rfl (Nat.le_of_ble_eq_true rfl) ?_
  intro P9 E9 S9 M9 A9 B9 T9 C9 F hnm
  refine e_aload_n F dJ5_getValue_6d5f1_0 rfl ?_
  refine e_get (ci := 6) (fi := 0) (q := (RJ4, TJ4, 4)) F hb rfl (by decide) w_fl_RJ5_15 (by rfl) dJ5_getValue_6d5f1_1 ?_
  refine e_aret F rfl (Or.inr ⟨_, rfl⟩) (Or.inr ⟨_, rfl⟩) (by omega) ?_ dJ5_getValue_6d5f1_4
  exact ⟨rfl, rfl, rfl⟩
set_option maxHeartbeats 4000000 in
set_option maxRecDepth 100000 in
theorem c_J5_length_8abf5 {K : e_K} {l : Launch} {w : e_W} {n : Nat} {b v : Nat} {c : Int} (hb : w b = some (SBo v c)) : e_Met K l yJ5_length_8abf5 (Cond.code yJ5_length_8abf5 cJ5_length_8abf5 1 (Option.some .int) :: e_TB) (0) (0) [.ref b] w n (fun r w' n' => r = some (.int (eI (c))) ∧ w' = w ∧ n' = n) (e_px0) := by
  refine e_ofV rfl (Nat.le_of_ble_eq_true rfl) ?_
  intro P9 E9 S9 M9 A9 B9 T9 C9 F hnm
  refine e_aload_n F dJ5_length_8abf5_0 rfl ?_
  refine e_get (ci := 6) (fi := 3) (q := (RJ4, TJ4, 4)) F hb rfl (by decide) w_fl_RJ5_79 (by rfl) dJ5_length_8abf5_1 ?_
  refine e_iret F rfl (by omega) ?_ dJ5_length_8abf5_4
  exact ⟨rfl, rfl, rfl⟩
set_option maxHeartbeats 4000000 in
set_option maxRecDepth 100000 in
theorem c_J4_length_8abf5 {K : e_K} {l : Launch} {w : e_W} {n : Nat} {b v : Nat} {c : Int} (hb : w b = some (SBo v c)) : e_Met K l yJ4_length_8abf5 (Cond.code yJ4_length_8abf5 cJ4_length_8abf5 1 (Option.some .int) :: e_TB) (1) (0) [.ref b] w n (fun r w' n' => r = some (.int (eI (c))) ∧ w' = w ∧ n' = n) (e_px0) := by
  refine e_ofV rfl (Nat.le_of_ble_eq_true rfl) ?_
  intro P9 E9 S9 M9 A9 B9 T9 C9 F hnm
  refine e_aload_n F dJ4_length_8abf5_0 rfl ?_
  refine e_callSU F u_J5_length_8abf5 (by decide +kernel) w_im_J5_length_8abf5 w_su_RJ4_RJ5 w_sa_J5_length_8abf5 (by rfl) (c_J5_length_8abf5 hb) hb w_ml_RJ4_343 dJ4_length_8abf5_1 (by rfl) (Nat.le_of_ble_eq_true rfl) (by decide) (by omega) (fun _ _ _ h _ => False.elim h) (fun r_1 w_1 n_1 h_1 hn_1 => ?_)
  obtain ⟨rfl, ew_1, en_1⟩ := h_1
  rw [ew_1, en_1]
  refine e_iret F rfl (by omega) ?_ dJ4_length_8abf5_4
  exact ⟨rfl, rfl, rfl⟩
set_option maxHeartbeats 4000000 in
set_option maxRecDepth 100000 in
theorem c_J0_init_db425 {K : e_K} {l : Launch} {w : e_W} {n : Nat} {q b : Nat} {c : Int} (hq : w q = some (.inl (7, [.null, .int (eI 0), .int (eI 0), .int (eI 0)]))) (hS : SB w b c) : e_Met K l yJ0_init_db425 (Cond.code yJ0_init_db425 cJ0_init_db425 5 none :: e_TB) (4) (1) [.ref q, .ref b, .null] w n (fun r w' n' => r = none ∧ n' = n + 1 ∧ w' q = some (STo n) ∧ (∃ g, w' n = some (e_ba c.toNat g)) ∧ ∀ j, j ≠ q → j < n → w' j = w j) (e_px0) := by
  refine e_ofV rfl (Nat.le_of_ble_eq_true rfl) ?_
  intro P9 E9 S9 M9 A9 B9 T9 C9 F hnm
  obtain ⟨v, m, f, hb, hv, hbv, hf, hc0, hcm, hm⟩ := hS
  refine e_dom ?_
  intro hdom
  have hqn := hdom _ _ hq
  have hqv : q ≠ v := fun e => by rw [e, hv] at hq; cases hq
  refine e_aload_n F dJ0_init_db425_0 rfl ?_
  refine e_oinit F w_ml_RJ0_1 w_im_java_lang_Object__init____V w_co_oinit (Nat.le_of_ble_eq_true rfl) (by decide) dJ0_init_db425_1 ?_
  refine e_aload_n F dJ0_init_db425_4 rfl ?_
  refine e_callVU F u_J5_getValue_6d5f1 w_im_J5_getValue_6d5f1 w_sx_RJ4_J5_getValue_6d5f1 w_sa_J5_getValue_6d5f1 (by rfl) (c_J5_getValue_6d5f1 hb) hb w_ml_RJ0_552 dJ0_init_db425_5 (by rfl) (Nat.le_of_ble_eq_true rfl) (by decide) (by omega) (fun _ _ _ h _ => False.elim h) (fun r_5 w_5 n_5 h_5 hn_5 => ?_)
  obtain ⟨rfl, ew_5, en_5⟩ := h_5
  rw [ew_5, en_5]
  refine e_astore_n F dJ0_init_db425_8 (by decide) ?_
  refine e_aload_n F dJ0_init_db425_9 rfl ?_
  refine e_callVO F (x := yJ5_length_8abf5) u_J4_length_8abf5 w_im_J4_length_8abf5 w_sx_RJ4_J5_length_8abf5 w_sa_J5_length_8abf5 w_co_J5_length_8abf5 w_im_J5_length_8abf5 ⟨by decide +kernel, by decide +kernel, by decide +kernel⟩ (by rfl) (c_J4_length_8abf5 hb) hb w_ml_RJ0_549 dJ0_init_db425_10 (by rfl) (Nat.le_of_ble_eq_true rfl) (by decide) (by omega) (fun _ _ _ h _ => False.elim h) (fun r_10 w_10 n_10 h_10 hn_10 => ?_)
  obtain ⟨rfl, ew_10, en_10⟩ := h_10
  rw [ew_10, en_10]
  refine e_istore F dJ0_init_db425_13 (by decide) ?_
  refine e_aload_n F dJ0_init_db425_15 rfl ?_
  refine e_callVU F u_J5_isLatin1_aae02 w_im_J5_isLatin1_aae02 w_sx_RJ4_J5_isLatin1_aae02 w_sa_J5_isLatin1_aae02 (by rfl) (c_J5_isLatin1_aae02 hb) hb w_ml_RJ0_1047 dJ0_init_db425_16 (by rfl) (Nat.le_of_ble_eq_true rfl) (by decide) (by omega) (fun _ _ _ h _ => False.elim h) (fun r_16 w_16 n_16 h_16 hn_16 => ?_)
  obtain ⟨rfl, ew_16, en_16⟩ := h_16
  rw [ew_16, en_16]
  refine e_if_eq F 41 dJ0_init_db425_19 (by decide) (by decide) (fun c_19 => ?_) (fun c_19 => ?_)
  · exact absurd c_19 (by decide)
  · refine e_aload_n F dJ0_init_db425_22 rfl ?_
    refine e_iconst F dJ0_init_db425_23 ?_
    refine e_setF (host := "") (ci := 7) (fi := 1) (q := (RJ0, TJ0, 4)) F hq rfl (by decide) w_fl_RJ0_15 hnm rfl rfl rfl (by rfl) (Nat.le_of_ble_eq_true rfl) dJ0_init_db425_24 ?_
    refine e_aload_n F dJ0_init_db425_27 rfl ?_
    refine e_aload_n F dJ0_init_db425_28 rfl ?_
    refine e_iconst F dJ0_init_db425_29 ?_
    refine e_iload F dJ0_init_db425_30 rfl ?_
    refine e_callSS F u_J7_copyOfRange_39247 (by rfl) (c_J7_copyOfRange_39247 (a := v) (c := c) (m := m) (f := f) (by rw [e_up_n (Ne.symm hqv)]; exact hv) hf hc0 hcm hm) w_ml_RJ0_54 dJ0_init_db425_32 (by rfl) (Nat.le_of_ble_eq_true rfl) (by decide) (by omega) (fun _ _ _ h _ => False.elim h) (fun r_32 w_32 n_32 h_32 hn_32 => ?_)
    obtain ⟨g, hg, rfl, ew_32, en_32⟩ := h_32
    rw [ew_32, en_32]
    refine e_setF (host := "") (ci := 7) (fi := 0) (q := (RJ0, TJ0, 4)) F (show e_up (e_up w q _) n _ q = _ by rw [e_up_n (by omega)]; exact e_up_s) rfl (by decide) w_fl_RJ0_9 hnm rfl rfl rfl (by rfl) (Nat.le_of_ble_eq_true rfl) dJ0_init_db425_35 ?_
    refine e_goto F 97 dJ0_init_db425_38 (by decide) ?_
    refine e_vret F rfl (by omega) ?_ dJ0_init_db425_97
    exact ⟨rfl, rfl, e_up_s, ⟨g, by rw [e_up_n (by omega)]; exact e_up_s⟩, fun j h1 h2 => by rw [e_up_n h1, e_up_n (by omega), e_up_n h1]⟩
set_option maxHeartbeats 4000000 in
set_option maxRecDepth 100000 in
theorem c_J0_init_81219 {K : e_K} {l : Launch} {w : e_W} {n : Nat} {q b : Nat} {c : Int} (hq : w q = some (.inl (7, [.null, .int (eI 0), .int (eI 0), .int (eI 0)]))) (hS : SB w b c) : e_Met K l yJ0_init_81219 (Cond.code yJ0_init_81219 cJ0_init_81219 2 none :: e_TB) (5) (1) [.ref q, .ref b] w n (fun r w' n' => r = none ∧ n' = n + 1 ∧ w' q = some (STo n) ∧ (∃ g, w' n = some (e_ba c.toNat g)) ∧ ∀ j, j ≠ q → j < n → w' j = w j) (e_px0) := by
  refine e_ofV rfl (Nat.le_of_ble_eq_true rfl) ?_
  intro P9 E9 S9 M9 A9 B9 T9 C9 F hnm
  refine e_aload_n F dJ0_init_81219_0 rfl ?_
  refine e_aload_n F dJ0_init_81219_1 rfl ?_
  refine e_null F dJ0_init_81219_2 ?_
  refine e_callII F u_J0_init_db425 (by rfl) (c_J0_init_db425 hq hS) w_ml_RJ0_489 dJ0_init_81219_3 (by rfl) (Nat.le_of_ble_eq_true rfl) (by decide) (by omega) (fun _ _ _ h _ => False.elim h) (fun r_3 w_3 n_3 h_3 hn_3 => ?_)
  obtain ⟨rfl, en_3, h9⟩ := h_3
  rw [en_3]
  refine e_vret F rfl (by omega) ?_ dJ0_init_81219_6
  exact ⟨rfl, rfl, h9⟩
set_option maxHeartbeats 4000000 in
set_option maxRecDepth 100000 in
theorem c_J4_toString_0e30d {K : e_K} {l : Launch} {w : e_W} {n : Nat} {b : Nat} {c : Int} (hS : SB w b c) : e_Met K l yJ4_toString_0e30d (Cond.code yJ4_toString_0e30d cJ4_toString_0e30d 1 (Option.some (.object "java/lang/String")) :: e_TB) (6) (2) [.ref b] w n (fun r w' n' => r = some (.ref n) ∧ n' = n + 2 ∧ w' n = some (STo (n + 1)) ∧ (∃ g, w' (n + 1) = some (e_ba c.toNat g)) ∧ ∀ j, j < n → w' j = w j) (e_px0) := by
  refine e_ofV rfl (Nat.le_of_ble_eq_true rfl) ?_
  intro P9 E9 S9 M9 A9 B9 T9 C9 F hnm
  obtain ⟨v, m, f, hb, hv, hbv, hf, hc0, hcm, hm⟩ := hS
  refine e_dom ?_
  intro hdom
  have hbn := hdom _ _ hb
  have hvn := hdom _ _ hv
  refine e_newO F (ci := 7) (q := (RJ0, TJ0, 4)) (fs := [.null, .int (eI 0), .int (eI 0), .int (eI 0)]) rfl (by omega) w_cl_RJ4_18 w_is_RJ0 w_in_RJ0 (by decide) (by intro j hj; have hj9 : j < 4 := hj; rcases j with _ | _ | _ | _ | j <;> first | rfl | omega) dJ4_toString_0e30d_0 ?_
  refine e_dup F dJ4_toString_0e30d_3 rfl ?_
  refine e_aload_n F dJ4_toString_0e30d_4 rfl ?_
  refine e_callII F u_J0_init_81219 (by rfl) (c_J0_init_81219 (c := c) e_up_s ⟨v, m, f, by rw [e_up_n (by omega)]; exact hb, by rw [e_up_n (by omega)]; exact hv, hbv, hf, hc0, hcm, hm⟩) w_ml_RJ4_137 dJ4_toString_0e30d_5 (by rfl) (Nat.le_of_ble_eq_true rfl) (by decide) (by omega) (fun _ _ _ h _ => False.elim h) (fun r_5 w_5 n_5 h_5 hn_5 => ?_)
  obtain ⟨rfl, en_5, g1, g2, g3⟩ := h_5
  rw [en_5]
  refine e_aret F rfl (Or.inl ⟨_, rfl⟩) (Or.inr ⟨_, rfl⟩) (by omega) ?_ dJ4_toString_0e30d_8
  exact ⟨rfl, rfl, g1, g2, fun j hj => by rw [g3 j (by omega) (by omega), e_up_n (by omega)]⟩
