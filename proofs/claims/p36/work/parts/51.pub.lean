/-! the reference: public methods -/
def pwR (wh : Nat) (a e : Int) : Int := if a % pr wh = 0 then (if e < 0 then -9 else b01 (e = 0)) else e_pw (a % pr wh) (e % (pr wh - 1)).toNat (pr wh)
def rcp (wh : Nat) (a : Int) : Int := if a % pr wh = 0 then -9 else iv wh (a % pr wh)
abbrev thQ (wh : Nat) (r : RD) (set : Int) : Prop := thB set (st7 r.A) (ho wh).toNat = true ∧ r.dg ≠ -1
def orV (a b : Int) : Int := if a = -1 ∨ b = -1 then -9 else b01 (b < a) - b01 (a < b)
def moK (b : Int) (A : Int → Int) (M : Nat) : Nat → Int
  | 0 => 0
  | j + 1 => if A ((M : Int) - (j : Int)) ≠ -1 ∧ (moK b A M j = 0 ∨ (if b = 0 then A (moK b A M j) ≤ A ((M : Int) - (j : Int)) else A ((M : Int) - (j : Int)) ≤ A (moK b A M j))) then (M : Int) - (j : Int) else moK b A M j
theorem moK_rg (b : Int) (A : Int → Int) (M : Nat) (j : Nat) (h : j ≤ M) : moK b A M j = 0 ∨ (1 ≤ moK b A M j ∧ moK b A M j ≤ M ∧ A (moK b A M j) ≠ -1) := by
  induction j with
  | zero => exact Or.inl rfl
  | succ j ih =>
    have h2 := ih (by omega)
    have e : moK b A M (j + 1) = if A ((M : Int) - (j : Int)) ≠ -1 ∧ (moK b A M j = 0 ∨ (if b = 0 then A (moK b A M j) ≤ A ((M : Int) - (j : Int)) else A ((M : Int) - (j : Int)) ≤ A (moK b A M j))) then (M : Int) - (j : Int) else moK b A M j := rfl
    rw [e]
    by_cases q : A ((M : Int) - (j : Int)) ≠ -1 ∧ (moK b A M j = 0 ∨ (if b = 0 then A (moK b A M j) ≤ A ((M : Int) - (j : Int)) else A ((M : Int) - (j : Int)) ≤ A (moK b A M j)))
    · rw [if_pos q]; exact Or.inr ⟨by omega, by omega, q.1⟩
    · rw [if_neg q]; exact h2
def saB (r1 r2 : RD) : Nat → Bool
  | 0 => decide (r1.dg = r2.dg)
  | k + 1 => saB r1 r2 k && decide (r1.A ((k : Int) + 1) = r2.A ((k : Int) + 1))
theorem sl_mod {wh : Nat} (a : Int) : sl wh (a % pr wh) = sl wh a := by unfold sl; rw [Int.emod_emod_of_dvd _ (Int.dvd_refl _)]
set_option maxHeartbeats 4000000 in
set_option maxRecDepth 100000 in
theorem c_X5_rest {K : e_K} {l : Launch} {w : e_W} {n : Nat} {y wh : Nat} {t kn : Int} {R : Nat → RD} (hM : MW w y wh kn t R) {a9 : Int} (ha9 : e_r a9) : e_Met K l yX5_rest (Cond.code yX5_rest cX5_rest 2 (Option.some .int) :: e_TB) (2) (0) [.ref y, .int (eI a9)] w n (fun r w' n' => FM w w' y n ∧ r = some (.int (eI (a9 % pr wh))) ∧ MW w' y wh kn 0 R) (e_px0) := by
  refine e_ofV rfl (Nat.le_of_ble_eq_true rfl) ?_
  intro P9 E9 S9 M9 A9 B9 T9 C9 F hnm
  have hwh := hM.2.1
  have hY := hM.1
  have hp := pr_rg wh hwh
  have hho := ho_rg wh hwh
  have hf9 := fl_rg wh hwh
  refine e_aload_n F dX5_rest_0 rfl ?_
  refine e_iconst F dX5_rest_1 ?_
  refine e_set (host := "") (ci := 5) (fi := 0) (q := (RX5, TX5, 6)) F hM.1 rfl (by decide) w_fl_RX5_25 rfl (by rfl) (by rfl) (Nat.le_of_ble_eq_true rfl) dX5_rest_2 ?_
  have gM := hM.th (t2 := 0) (kn2 := kn)
  change e_V _ _ _ _ _ _ _ _ _ _ _ _ _ _ _ _ _ _ (e_up w y (MO y 0 wh kn)) _ _
  refine e_aload_n F dX5_rest_5 rfl ?_
  refine e_iload_n F dX5_rest_6 rfl ?_
  refine e_i2l F dX5_rest_7 (ha9) ?_
  refine e_callVV F u_X5_mod (by rfl) (c_X5_mod gM.1 hwh (v := a9) (by constructor <;> omega)) gM.1 rfl rfl w_ml_RX5_55 dX5_rest_8 (by rfl) (Nat.le_of_ble_eq_true rfl) (by decide) (by omega) (fun _ _ _ h _ => False.elim h) (fun r_8 w_8 n_8 h_8 hn_8 => ?_)
  obtain ⟨rfl, ew_8, en_8⟩ := h_8
  rw [ew_8, en_8]
  refine e_iret F rfl (by omega) ?_ dX5_rest_11
  exact ⟨FM.th, rfl, gM⟩
set_option maxHeartbeats 4000000 in
set_option maxRecDepth 100000 in
theorem c_X5_sealOf {K : e_K} {l : Launch} {w : e_W} {n : Nat} {y wh : Nat} {t kn : Int} {R : Nat → RD} (hM : MW w y wh kn t R) {a9 : Int} (ha9 : e_r a9) : e_Met K l yX5_sealOf (Cond.code yX5_sealOf cX5_sealOf 2 (Option.some .int) :: e_TB) (2) (0) [.ref y, .int (eI a9)] w n (fun r w' n' => FM w w' y n ∧ r = some (.int (eI (sl wh a9))) ∧ MW w' y wh kn 0 R) (e_px0) := by
  refine e_ofV rfl (Nat.le_of_ble_eq_true rfl) ?_
  intro P9 E9 S9 M9 A9 B9 T9 C9 F hnm
  have hwh := hM.2.1
  have hY := hM.1
  have hp := pr_rg wh hwh
  have hho := ho_rg wh hwh
  have hf9 := fl_rg wh hwh
  have hm := emod_rg a9 hwh
  refine e_aload_n F dX5_sealOf_0 rfl ?_
  refine e_iconst F dX5_sealOf_1 ?_
  refine e_set (host := "") (ci := 5) (fi := 0) (q := (RX5, TX5, 6)) F hM.1 rfl (by decide) w_fl_RX5_25 rfl (by rfl) (by rfl) (Nat.le_of_ble_eq_true rfl) dX5_sealOf_2 ?_
  have gM := hM.th (t2 := 0) (kn2 := kn)
  change e_V _ _ _ _ _ _ _ _ _ _ _ _ _ _ _ _ _ _ (e_up w y (MO y 0 wh kn)) _ _
  refine e_aload_n F dX5_sealOf_5 rfl ?_
  refine e_aload_n F dX5_sealOf_6 rfl ?_
  refine e_iload_n F dX5_sealOf_7 rfl ?_
  refine e_i2l F dX5_sealOf_8 (ha9) ?_
  refine e_callVV F u_X5_mod (by rfl) (c_X5_mod gM.1 hwh (v := a9) (by constructor <;> omega)) gM.1 rfl rfl w_ml_RX5_55 dX5_sealOf_9 (by rfl) (Nat.le_of_ble_eq_true rfl) (by decide) (by omega) (fun _ _ _ h _ => False.elim h) (fun r_9 w_9 n_9 h_9 hn_9 => ?_)
  obtain ⟨rfl, ew_9, en_9⟩ := h_9
  rw [ew_9, en_9]
  refine e_callVV F u_X5_sealBy (by rfl) (c_X5_sealBy gM.1 hwh hm.1 hm.2) gM.1 rfl rfl w_ml_RX5_84 dX5_sealOf_12 (by rfl) (Nat.le_of_ble_eq_true rfl) (by decide) (by omega) (fun _ _ _ h _ => False.elim h) (fun r_12 w_12 n_12 h_12 hn_12 => ?_)
  obtain ⟨rfl, ew_12, en_12⟩ := h_12
  rw [ew_12, en_12]
  refine e_iret F rfl (by omega) ?_ dX5_sealOf_15
  exact ⟨FM.th, by rw [sl_mod], gM⟩
set_option maxHeartbeats 4000000 in
set_option maxRecDepth 100000 in
theorem c_X5_reciprocal {K : e_K} {l : Launch} {w : e_W} {n : Nat} {y wh : Nat} {t kn : Int} {R : Nat → RD} (hM : MW w y wh kn t R) {a9 : Int} (ha9 : e_r a9) : e_Met K l yX5_reciprocal (Cond.code yX5_reciprocal cX5_reciprocal 2 (Option.some .int) :: e_TB) (3) (0) [.ref y, .int (eI a9)] w n (fun r w' n' => FM w w' y n ∧ r = some (.int (eI (rcp wh a9))) ∧ MW w' y wh kn 0 R) (e_px0) := by
  refine e_ofV rfl (Nat.le_of_ble_eq_true rfl) ?_
  intro P9 E9 S9 M9 A9 B9 T9 C9 F hnm
  have hwh := hM.2.1
  have hY := hM.1
  have hp := pr_rg wh hwh
  have hho := ho_rg wh hwh
  have hf9 := fl_rg wh hwh
  have hm := emod_rg a9 hwh
  refine e_aload_n F dX5_reciprocal_0 rfl ?_
  refine e_iconst F dX5_reciprocal_1 ?_
  refine e_set (host := "") (ci := 5) (fi := 0) (q := (RX5, TX5, 6)) F hM.1 rfl (by decide) w_fl_RX5_25 rfl (by rfl) (by rfl) (Nat.le_of_ble_eq_true rfl) dX5_reciprocal_2 ?_
  have gM := hM.th (t2 := 0) (kn2 := kn)
  change e_V _ _ _ _ _ _ _ _ _ _ _ _ _ _ _ _ _ _ (e_up w y (MO y 0 wh kn)) _ _
  refine e_aload_n F dX5_reciprocal_5 rfl ?_
  refine e_iload_n F dX5_reciprocal_6 rfl ?_
  refine e_i2l F dX5_reciprocal_7 (ha9) ?_
  refine e_callVV F u_X5_mod (by rfl) (c_X5_mod gM.1 hwh (v := a9) (by constructor <;> omega)) gM.1 rfl rfl w_ml_RX5_55 dX5_reciprocal_8 (by rfl) (Nat.le_of_ble_eq_true rfl) (by decide) (by omega) (fun _ _ _ h _ => False.elim h) (fun r_8 w_8 n_8 h_8 hn_8 => ?_)
  obtain ⟨rfl, ew_8, en_8⟩ := h_8
  rw [ew_8, en_8]
  refine e_if_ne F 19 dX5_reciprocal_11 (by decide) (⟨by omega, by omega⟩) (fun c_11 => ?_) (fun c_11 => ?_)
  · refine e_aload_n F dX5_reciprocal_19 rfl ?_
    refine e_aload_n F dX5_reciprocal_20 rfl ?_
    refine e_iload_n F dX5_reciprocal_21 rfl ?_
    refine e_i2l F dX5_reciprocal_22 (ha9) ?_
    refine e_callVV F u_X5_mod (by rfl) (c_X5_mod gM.1 hwh (v := a9) (by constructor <;> omega)) gM.1 rfl rfl w_ml_RX5_55 dX5_reciprocal_23 (by rfl) (Nat.le_of_ble_eq_true rfl) (by decide) (by omega) (fun _ _ _ h _ => False.elim h) (fun r_23 w_23 n_23 h_23 hn_23 => ?_)
    obtain ⟨rfl, ew_23, en_23⟩ := h_23
    rw [ew_23, en_23]
    refine e_callVV F u_X5_inverse (by rfl) (c_X5_inverse gM.1 hwh hm.1 hm.2) gM.1 rfl rfl w_ml_RX5_76 dX5_reciprocal_26 (by rfl) (Nat.le_of_ble_eq_true rfl) (by decide) (by omega) (fun _ _ _ h _ => False.elim h) (fun r_26 w_26 n_26 h_26 hn_26 => ?_)
    obtain ⟨rfl, ew_26, en_26⟩ := h_26
    rw [ew_26, en_26]
    refine e_iret F rfl (by omega) ?_ dX5_reciprocal_29
    refine ⟨FM.th, ?_, gM⟩
    unfold rcp
    first | rw [if_pos c_11] | rw [if_neg c_11]
  · refine e_bipush F dX5_reciprocal_14 (by decide) ?_
    refine e_goto F 29 dX5_reciprocal_16 (by decide) ?_
    refine e_iret F rfl (by omega) ?_ dX5_reciprocal_29
    refine ⟨FM.th, ?_, gM⟩
    unfold rcp
    first | rw [if_pos c_11] | rw [if_neg c_11]
set_option maxHeartbeats 4000000 in
set_option maxRecDepth 100000 in
theorem c_X5_power {K : e_K} {l : Launch} {w : e_W} {n : Nat} {y wh : Nat} {t kn : Int} {R : Nat → RD} (hM : MW w y wh kn t R) {a9 : Int} (ha9 : e_r a9) {e9 : Int} (he9 : e_r e9) : e_Met K l yX5_power (Cond.code yX5_power cX5_power 5 (Option.some .int) :: e_TB) (2) (0) [.ref y, .int (eI a9), .int (eI e9)] w n (fun r w' n' => FM w w' y n ∧ r = some (.int (eI (pwR wh a9 e9))) ∧ MW w' y wh kn 0 R) (e_px0) := by
  refine e_ofV rfl (Nat.le_of_ble_eq_true rfl) ?_
  intro P9 E9 S9 M9 A9 B9 T9 C9 F hnm
  have hwh := hM.2.1
  have hY := hM.1
  have hp := pr_rg wh hwh
  have hho := ho_rg wh hwh
  have hf9 := fl_rg wh hwh
  have hm := emod_rg a9 hwh
  refine e_aload_n F dX5_power_0 rfl ?_
  refine e_iconst F dX5_power_1 ?_
  refine e_set (host := "") (ci := 5) (fi := 0) (q := (RX5, TX5, 6)) F hM.1 rfl (by decide) w_fl_RX5_25 rfl (by rfl) (by rfl) (Nat.le_of_ble_eq_true rfl) dX5_power_2 ?_
  have gM := hM.th (t2 := 0) (kn2 := kn)
  change e_V _ _ _ _ _ _ _ _ _ _ _ _ _ _ _ _ _ _ (e_up w y (MO y 0 wh kn)) _ _
  refine e_aload_n F dX5_power_5 rfl ?_
  refine e_iload_n F dX5_power_6 rfl ?_
  refine e_i2l F dX5_power_7 (ha9) ?_
  refine e_callVV F u_X5_mod (by rfl) (c_X5_mod gM.1 hwh (v := a9) (by constructor <;> omega)) gM.1 rfl rfl w_ml_RX5_55 dX5_power_8 (by rfl) (Nat.le_of_ble_eq_true rfl) (by decide) (by omega) (fun _ _ _ h _ => False.elim h) (fun r_8 w_8 n_8 h_8 hn_8 => ?_)
  obtain ⟨rfl, ew_8, en_8⟩ := h_8
  rw [ew_8, en_8]
  refine e_istore_n F dX5_power_11 (by decide) ?_
  refine e_iload_n F dX5_power_12 rfl ?_
  refine e_if_ne F 38 dX5_power_13 (by decide) (⟨by omega, by omega⟩) (fun c_13 => ?_) (fun c_13 => ?_)
  · refine e_iload_n F dX5_power_38 rfl ?_
    refine e_aload_n F dX5_power_39 rfl ?_
    refine e_callVV F u_X5_p (by rfl) (c_X5_p gM.1 hwh) gM.1 rfl rfl w_ml_RX5_38 dX5_power_40 (by rfl) (Nat.le_of_ble_eq_true rfl) (by decide) (by omega) (fun _ _ _ h _ => False.elim h) (fun r_40 w_40 n_40 h_40 hn_40 => ?_)
    obtain ⟨rfl, ew_40, en_40⟩ := h_40
    rw [ew_40, en_40]
    refine e_iconst F dX5_power_43 ?_
    refine e_isub F dX5_power_44 ?_
    refine e_irem F dX5_power_45 (he9) (⟨by omega, by omega⟩) (by omega) ?_
    have hb := tmod_bounds (a := e9) (show 0 < pr wh - 1 by omega)
    have hm2 := emod_of_tmod (a := e9) (show 0 < pr wh - 1 by omega)
    have hm3 : 0 ≤ e9 % (pr wh - 1) ∧ e9 % (pr wh - 1) < pr wh - 1 := ⟨Int.emod_nonneg _ (by omega), Int.emod_lt_of_pos _ (by omega)⟩
    refine e_istore F dX5_power_46 (by decide) ?_
    refine e_iload_n F dX5_power_48 rfl ?_
    refine e_iload F dX5_power_49 rfl ?_
    refine e_if_ge F 66 dX5_power_51 (by decide) (⟨by omega, by omega⟩) (fun c_51 => ?_) (fun c_51 => ?_)
    ·
      rw [if_neg (by omega)] at hm2
      refine e_iload F dX5_power_66 rfl ?_
      refine e_aload_n F dX5_power_68 rfl ?_
      refine e_callVV F u_X5_p (by rfl) (c_X5_p gM.1 hwh) gM.1 rfl rfl w_ml_RX5_38 dX5_power_69 (by rfl) (Nat.le_of_ble_eq_true rfl) (by decide) (by omega) (fun _ _ _ h _ => False.elim h) (fun r_69 w_69 n_69 h_69 hn_69 => ?_)
      obtain ⟨rfl, ew_69, en_69⟩ := h_69
      rw [ew_69, en_69]
      have e7 : (e9.tmod (pr wh - 1) + pr wh - 1 = e9 % (pr wh - 1)) ∨ (e9.tmod (pr wh - 1) = e9 % (pr wh - 1)) := by omega
      first | rw [show e9.tmod (pr wh - 1) + pr wh - 1 = e9 % (pr wh - 1) by omega] | rw [show e9.tmod (pr wh - 1) = e9 % (pr wh - 1) by omega]
      refine e_callSS F u_X5_raised (by rfl) (c_X5_raised (b := a9 % pr wh) (k := e9 % (pr wh - 1)) (m := pr wh) hm.1 (by omega) (by omega) (by omega) hm3.1 (by omega)) w_ml_RX5_65 dX5_power_72 (by rfl) (Nat.le_of_ble_eq_true rfl) (by decide) (by omega) (fun _ _ _ h _ => False.elim h) (fun r_72 w_72 n_72 h_72 hn_72 => ?_)
      obtain ⟨rfl, ew_72, en_72⟩ := h_72
      rw [ew_72, en_72]
      refine e_iret F rfl (by omega) ?_ dX5_power_75
      refine ⟨FM.th, ?_, gM⟩
      unfold pwR
      rw [if_neg (show ¬ a9 % pr wh = 0 by omega)]
    ·
      rw [if_pos (by omega)] at hm2
      refine e_iload F dX5_power_54 rfl ?_
      refine e_aload_n F dX5_power_56 rfl ?_
      refine e_callVV F u_X5_p (by rfl) (c_X5_p gM.1 hwh) gM.1 rfl rfl w_ml_RX5_38 dX5_power_57 (by rfl) (Nat.le_of_ble_eq_true rfl) (by decide) (by omega) (fun _ _ _ h _ => False.elim h) (fun r_57 w_57 n_57 h_57 hn_57 => ?_)
      obtain ⟨rfl, ew_57, en_57⟩ := h_57
      rw [ew_57, en_57]
      refine e_iadd F dX5_power_60 ?_
      refine e_iconst F dX5_power_61 ?_
      refine e_isub F dX5_power_62 ?_
      refine e_goto F 68 dX5_power_63 (by decide) ?_
      refine e_aload_n F dX5_power_68 rfl ?_
      refine e_callVV F u_X5_p (by rfl) (c_X5_p gM.1 hwh) gM.1 rfl rfl w_ml_RX5_38 dX5_power_69 (by rfl) (Nat.le_of_ble_eq_true rfl) (by decide) (by omega) (fun _ _ _ h _ => False.elim h) (fun r_69 w_69 n_69 h_69 hn_69 => ?_)
      obtain ⟨rfl, ew_69, en_69⟩ := h_69
      rw [ew_69, en_69]
      have e7 : (e9.tmod (pr wh - 1) + pr wh - 1 = e9 % (pr wh - 1)) ∨ (e9.tmod (pr wh - 1) = e9 % (pr wh - 1)) := by omega
      first | rw [show e9.tmod (pr wh - 1) + pr wh - 1 = e9 % (pr wh - 1) by omega] | rw [show e9.tmod (pr wh - 1) = e9 % (pr wh - 1) by omega]
      refine e_callSS F u_X5_raised (by rfl) (c_X5_raised (b := a9 % pr wh) (k := e9 % (pr wh - 1)) (m := pr wh) hm.1 (by omega) (by omega) (by omega) hm3.1 (by omega)) w_ml_RX5_65 dX5_power_72 (by rfl) (Nat.le_of_ble_eq_true rfl) (by decide) (by omega) (fun _ _ _ h _ => False.elim h) (fun r_72 w_72 n_72 h_72 hn_72 => ?_)
      obtain ⟨rfl, ew_72, en_72⟩ := h_72
      rw [ew_72, en_72]
      refine e_iret F rfl (by omega) ?_ dX5_power_75
      refine ⟨FM.th, ?_, gM⟩
      unfold pwR
      rw [if_neg (show ¬ a9 % pr wh = 0 by omega)]
  · refine e_iload_n F dX5_power_16 rfl ?_
    refine e_if_ge F 25 dX5_power_17 (by decide) (he9) (fun c_17 => ?_) (fun c_17 => ?_)
    · refine e_iload_n F dX5_power_25 rfl ?_
      refine e_if_ne F 33 dX5_power_26 (by decide) (he9) (fun c_26 => ?_) (fun c_26 => ?_)
      · refine e_iconst F dX5_power_33 ?_
        refine e_callSS F u_X5_one (by rfl) (c_X5_one (b := _) (by first | exact Or.inl rfl | exact Or.inr rfl)) w_ml_RX5_80 dX5_power_34 (by rfl) (Nat.le_of_ble_eq_true rfl) (by decide) (by omega) (fun _ _ _ h _ => False.elim h) (fun r_34 w_34 n_34 h_34 hn_34 => ?_)
        obtain ⟨rfl, ew_34, en_34⟩ := h_34
        rw [ew_34, en_34]
        refine e_iret F rfl (by omega) ?_ dX5_power_37
        refine ⟨FM.th, ?_, gM⟩
        unfold pwR
        rw [if_pos (show a9 % pr wh = 0 by omega)]
        first | rw [if_pos (show e9 < 0 by omega)] | (rw [if_neg (show ¬ e9 < 0 by omega)]; first | rw [b01_t (show e9 = 0 by omega)] | rw [b01_f (show ¬ e9 = 0 by omega)])
      · refine e_iconst F dX5_power_29 ?_
        refine e_goto F 34 dX5_power_30 (by decide) ?_
        refine e_callSS F u_X5_one (by rfl) (c_X5_one (b := _) (by first | exact Or.inl rfl | exact Or.inr rfl)) w_ml_RX5_80 dX5_power_34 (by rfl) (Nat.le_of_ble_eq_true rfl) (by decide) (by omega) (fun _ _ _ h _ => False.elim h) (fun r_34 w_34 n_34 h_34 hn_34 => ?_)
        obtain ⟨rfl, ew_34, en_34⟩ := h_34
        rw [ew_34, en_34]
        refine e_iret F rfl (by omega) ?_ dX5_power_37
        refine ⟨FM.th, ?_, gM⟩
        unfold pwR
        rw [if_pos (show a9 % pr wh = 0 by omega)]
        first | rw [if_pos (show e9 < 0 by omega)] | (rw [if_neg (show ¬ e9 < 0 by omega)]; first | rw [b01_t (show e9 = 0 by omega)] | rw [b01_f (show ¬ e9 = 0 by omega)])
    · refine e_bipush F dX5_power_20 (by decide) ?_
      refine e_goto F 37 dX5_power_22 (by decide) ?_
      refine e_iret F rfl (by omega) ?_ dX5_power_37
      refine ⟨FM.th, ?_, gM⟩
      unfold pwR
      rw [if_pos (show a9 % pr wh = 0 by omega)]
      first | rw [if_pos (show e9 < 0 by omega)] | (rw [if_neg (show ¬ e9 < 0 by omega)]; first | rw [b01_t (show e9 = 0 by omega)] | rw [b01_f (show ¬ e9 = 0 by omega)])
set_option maxHeartbeats 4000000 in
set_option maxRecDepth 100000 in
theorem c_X5_knock {K : e_K} {l : Launch} {w : e_W} {n : Nat} {y wh : Nat} {t kn : Int} {R : Nat → RD} (hM : MW w y wh kn t R) : e_Met K l yX5_knock (Cond.code yX5_knock cX5_knock 1 (Option.some .int) :: e_TB) (0) (0) [.ref y] w n (fun r w' n' => FM w w' y n ∧ r = some (.int (eI (kn + 1))) ∧ MW w' y wh (kn + 1) 0 R) (e_px0) := by
  refine e_ofV rfl (Nat.le_of_ble_eq_true rfl) ?_
  intro P9 E9 S9 M9 A9 B9 T9 C9 F hnm
  have hwh := hM.2.1
  have hY := hM.1
  have hp := pr_rg wh hwh
  have hho := ho_rg wh hwh
  have hf9 := fl_rg wh hwh
  refine e_aload_n F dX5_knock_0 rfl ?_
  refine e_iconst F dX5_knock_1 ?_
  refine e_set (host := "") (ci := 5) (fi := 0) (q := (RX5, TX5, 6)) F hM.1 rfl (by decide) w_fl_RX5_25 rfl (by rfl) (by rfl) (Nat.le_of_ble_eq_true rfl) dX5_knock_2 ?_
  refine e_aload_n F dX5_knock_5 rfl ?_
  refine e_dup F dX5_knock_6 rfl ?_
  refine e_get (ci := 5) (fi := 2) (q := (RX5, TX5, 6)) F e_up_s rfl (by decide) w_fl_RX5_177 (by rfl) dX5_knock_7 ?_
  refine e_iconst F dX5_knock_10 ?_
  refine e_iadd F dX5_knock_11 ?_
  refine e_set (host := "") (ci := 5) (fi := 2) (q := (RX5, TX5, 6)) F e_up_s rfl (by decide) w_fl_RX5_177 rfl (by rfl) (by rfl) (Nat.le_of_ble_eq_true rfl) dX5_knock_12 ?_
  refine e_aload_n F dX5_knock_15 rfl ?_
  refine e_get (ci := 5) (fi := 2) (q := (RX5, TX5, 6)) F e_up_s rfl (by decide) w_fl_RX5_177 (by rfl) dX5_knock_16 ?_
  refine e_iret F rfl (by omega) ?_ dX5_knock_19
  exact ⟨fun q q1 q2 => by rw [e_up_n (by omega), e_up_n (by omega)], rfl, by rw [e_up_up]; exact hM.th⟩
set_option maxHeartbeats 4000000 in
set_option maxRecDepth 100000 in
theorem c_X5_reckon {K : e_K} {l : Launch} {w : e_W} {n : Nat} {y wh : Nat} {t kn : Int} {R : Nat → RD} (hM : MW w y wh kn t R) {a9 : Int} (ha9 : e_r a9) {b9 : Int} (hb9 : e_r b9) {c9 : Int} (hc9 : e_r c9) : e_Met K l yX5_reckon (Cond.code yX5_reckon cX5_reckon 4 (Option.some .int) :: e_TB) (3) (0) [.ref y, .int (eI a9), .int (eI b9), .int (eI c9)] w n (fun r w' n' => FM w w' y n ∧ ((¬ (0 ≤ c9 ∧ c9 ≤ 3) ∧ r = some (.int (eI 0)) ∧ MW w' y wh kn 1 R) ∨ ((0 ≤ c9 ∧ c9 ≤ 3) ∧ r = some (.int (eI (rcV wh a9 b9 c9))) ∧ MW w' y wh (kn) 0 (R)))) (e_px0) := by
  refine e_ofV rfl (Nat.le_of_ble_eq_true rfl) ?_
  intro P9 E9 S9 M9 A9 B9 T9 C9 F hnm
  have hwh := hM.2.1
  have hY := hM.1
  have hp := pr_rg wh hwh
  have hho := ho_rg wh hwh
  have hf9 := fl_rg wh hwh
  have hma := emod_rg a9 hwh
  have hmb := emod_rg b9 hwh
  refine e_aload_n F dX5_reckon_0 rfl ?_
  refine e_iload_n F dX5_reckon_1 rfl ?_
  refine e_iconst F dX5_reckon_2 ?_
  refine e_iconst F dX5_reckon_3 ?_
  refine e_callSS F u_X5_isIn (by rfl) (c_X5_isIn (v := c9) (a := 0) (b := 3) hc9 (by decide) (by decide)) w_ml_RX5_48 dX5_reckon_4 (by rfl) (Nat.le_of_ble_eq_true rfl) (by decide) (by omega) (fun _ _ _ h _ => False.elim h) (fun r_4 w_4 n_4 h_4 hn_4 => ?_)
  obtain ⟨rfl, ew_4, en_4⟩ := h_4
  rw [ew_4, en_4]
  refine e_if_ne F 14 dX5_reckon_7 (by decide) (b01_r _) (fun c_7 => ?_) (fun c_7 => ?_)
  ·
    rw [ne_eq, b01_0, Classical.not_not] at c_7
    refine e_iconst F dX5_reckon_14 ?_
    refine e_iconst F dX5_reckon_15 ?_
    refine e_callVV F u_X5_start (by rfl) (c_X5_start hY (by first | exact Or.inl rfl | exact Or.inr rfl) (by decide) (by decide)) hY rfl rfl w_ml_RX5_69 dX5_reckon_16 (by rfl) (Nat.le_of_ble_eq_true rfl) (by decide) (by omega) (fun _ _ _ h _ => False.elim h) (fun r_16 w_16 n_16 h_16 hn_16 => ?_)
    obtain ⟨rfl, en_16, ew_16⟩ := h_16
    rw [en_16, ew_16]
    first | rw [if_pos (show (1 : Int) = 1 from rfl)] | rw [if_neg (show ¬ ((0 : Int) = 1) by decide)]
    have gM := hM.th (t2 := 0) (kn2 := kn)
    refine e_if_eq F 24 dX5_reckon_19 (by decide) (by decide) (fun c_19 => ?_) (fun c_19 => ?_)
    · refine e_iload_n F dX5_reckon_24 rfl ?_
      refine e_if_ne F 38 dX5_reckon_25 (by decide) (⟨by omega, by omega⟩) (fun c_25 => ?_) (fun c_25 => ?_)
      · refine e_iload_n F dX5_reckon_38 rfl ?_
        refine e_iconst F dX5_reckon_39 ?_
        refine e_icmp_ne F 53 dX5_reckon_40 (by decide) (⟨by omega, by omega⟩) (⟨by omega, by omega⟩) (fun c_40 => ?_) (fun c_40 => ?_)
        · refine e_iload_n F dX5_reckon_53 rfl ?_
          refine e_iconst F dX5_reckon_54 ?_
          refine e_icmp_ne F 68 dX5_reckon_55 (by decide) (⟨by omega, by omega⟩) (⟨by omega, by omega⟩) (fun c_55 => ?_) (fun c_55 => ?_)
          · refine e_aload_n F dX5_reckon_68 rfl ?_
            refine e_iload_n F dX5_reckon_69 rfl ?_
            refine e_i2l F dX5_reckon_70 (hb9) ?_
            refine e_callVV F u_X5_mod (by rfl) (c_X5_mod gM.1 hwh (v := b9) (by constructor <;> omega)) gM.1 rfl rfl w_ml_RX5_55 dX5_reckon_71 (by rfl) (Nat.le_of_ble_eq_true rfl) (by decide) (by omega) (fun _ _ _ h _ => False.elim h) (fun r_71 w_71 n_71 h_71 hn_71 => ?_)
            obtain ⟨rfl, ew_71, en_71⟩ := h_71
            rw [ew_71, en_71]
            refine e_if_ne F 82 dX5_reckon_74 (by decide) (⟨by omega, by omega⟩) (fun c_74 => ?_) (fun c_74 => ?_)
            · refine e_aload_n F dX5_reckon_82 rfl ?_
              refine e_aload_n F dX5_reckon_83 rfl ?_
              refine e_iload_n F dX5_reckon_84 rfl ?_
              refine e_i2l F dX5_reckon_85 (ha9) ?_
              refine e_callVV F u_X5_mod (by rfl) (c_X5_mod gM.1 hwh (v := a9) (by constructor <;> omega)) gM.1 rfl rfl w_ml_RX5_55 dX5_reckon_86 (by rfl) (Nat.le_of_ble_eq_true rfl) (by decide) (by omega) (fun _ _ _ h _ => False.elim h) (fun r_86 w_86 n_86 h_86 hn_86 => ?_)
              obtain ⟨rfl, ew_86, en_86⟩ := h_86
              rw [ew_86, en_86]
              refine e_i2l F dX5_reckon_89 (⟨by omega, by omega⟩) ?_
              refine e_aload_n F dX5_reckon_90 rfl ?_
              refine e_aload_n F dX5_reckon_91 rfl ?_
              refine e_iload_n F dX5_reckon_92 rfl ?_
              refine e_i2l F dX5_reckon_93 (hb9) ?_
              refine e_callVV F u_X5_mod (by rfl) (c_X5_mod gM.1 hwh (v := b9) (by constructor <;> omega)) gM.1 rfl rfl w_ml_RX5_55 dX5_reckon_94 (by rfl) (Nat.le_of_ble_eq_true rfl) (by decide) (by omega) (fun _ _ _ h _ => False.elim h) (fun r_94 w_94 n_94 h_94 hn_94 => ?_)
              obtain ⟨rfl, ew_94, en_94⟩ := h_94
              rw [ew_94, en_94]
              refine e_callVV F u_X5_inverse (by rfl) (c_X5_inverse gM.1 hwh hmb.1 hmb.2) gM.1 rfl rfl w_ml_RX5_76 dX5_reckon_97 (by rfl) (Nat.le_of_ble_eq_true rfl) (by decide) (by omega) (fun _ _ _ h _ => False.elim h) (fun r_97 w_97 n_97 h_97 hn_97 => ?_)
              obtain ⟨rfl, ew_97, en_97⟩ := h_97
              rw [ew_97, en_97]
              have hiv := iv_rg (v := b9 % pr wh) hwh
              refine e_i2l F dX5_reckon_100 (⟨by omega, by omega⟩) ?_
              refine e_lmul F dX5_reckon_101 ?_
              refine e_callVV F u_X5_mod (by rfl) (c_X5_mod gM.1 hwh (mul_rg (m := 1000003) hma.1 (by omega) hiv.1 (by omega) (by omega)).2) gM.1 rfl rfl w_ml_RX5_55 dX5_reckon_102 (by rfl) (Nat.le_of_ble_eq_true rfl) (by decide) (by omega) (fun _ _ _ h _ => False.elim h) (fun r_102 w_102 n_102 h_102 hn_102 => ?_)
              obtain ⟨rfl, ew_102, en_102⟩ := h_102
              rw [ew_102, en_102]
              refine e_iret F rfl (by omega) ?_ dX5_reckon_105
              refine ⟨FM.th, Or.inr ⟨c_7, ?_, gM⟩⟩
              unfold rcV qv
              rw [if_neg (by omega), if_neg (by omega), if_neg (by omega)]
              first | rw [if_pos c_74] | rw [if_neg c_74]
            · refine e_bipush F dX5_reckon_77 (by decide) ?_
              refine e_goto F 105 dX5_reckon_79 (by decide) ?_
              refine e_iret F rfl (by omega) ?_ dX5_reckon_105
              refine ⟨FM.th, Or.inr ⟨c_7, ?_, gM⟩⟩
              unfold rcV qv
              rw [if_neg (by omega), if_neg (by omega), if_neg (by omega)]
              first | rw [if_pos c_74] | rw [if_neg c_74]
          · refine e_aload_n F dX5_reckon_58 rfl ?_
            refine e_iload_n F dX5_reckon_59 rfl ?_
            refine e_i2l F dX5_reckon_60 (ha9) ?_
            refine e_iload_n F dX5_reckon_61 rfl ?_
            refine e_i2l F dX5_reckon_62 (hb9) ?_
            refine e_lmul F dX5_reckon_63 ?_
            refine e_callVV F u_X5_mod (by rfl) (c_X5_mod gM.1 hwh (v := a9 * b9) (mulI_rg ha9 hb9)) gM.1 rfl rfl w_ml_RX5_55 dX5_reckon_64 (by rfl) (Nat.le_of_ble_eq_true rfl) (by decide) (by omega) (fun _ _ _ h _ => False.elim h) (fun r_64 w_64 n_64 h_64 hn_64 => ?_)
            obtain ⟨rfl, ew_64, en_64⟩ := h_64
            rw [ew_64, en_64]
            refine e_iret F rfl (by omega) ?_ dX5_reckon_67
            refine ⟨FM.th, Or.inr ⟨c_7, ?_, gM⟩⟩
            unfold rcV
            rw [if_neg (by omega), if_neg (by omega), if_pos (by omega)]
        · refine e_aload_n F dX5_reckon_43 rfl ?_
          refine e_iload_n F dX5_reckon_44 rfl ?_
          refine e_i2l F dX5_reckon_45 (ha9) ?_
          refine e_iload_n F dX5_reckon_46 rfl ?_
          refine e_i2l F dX5_reckon_47 (hb9) ?_
          refine e_lsub F dX5_reckon_48 ?_
          refine e_callVV F u_X5_mod (by rfl) (c_X5_mod gM.1 hwh (v := a9 - b9) (by constructor <;> omega)) gM.1 rfl rfl w_ml_RX5_55 dX5_reckon_49 (by rfl) (Nat.le_of_ble_eq_true rfl) (by decide) (by omega) (fun _ _ _ h _ => False.elim h) (fun r_49 w_49 n_49 h_49 hn_49 => ?_)
          obtain ⟨rfl, ew_49, en_49⟩ := h_49
          rw [ew_49, en_49]
          refine e_iret F rfl (by omega) ?_ dX5_reckon_52
          refine ⟨FM.th, Or.inr ⟨c_7, ?_, gM⟩⟩
          unfold rcV
          rw [if_neg (by omega), if_pos (by omega)]
      · refine e_aload_n F dX5_reckon_28 rfl ?_
        refine e_iload_n F dX5_reckon_29 rfl ?_
        refine e_i2l F dX5_reckon_30 (ha9) ?_
        refine e_iload_n F dX5_reckon_31 rfl ?_
        refine e_i2l F dX5_reckon_32 (hb9) ?_
        refine e_ladd F dX5_reckon_33 ?_
        refine e_callVV F u_X5_mod (by rfl) (c_X5_mod gM.1 hwh (v := a9 + b9) (by constructor <;> omega)) gM.1 rfl rfl w_ml_RX5_55 dX5_reckon_34 (by rfl) (Nat.le_of_ble_eq_true rfl) (by decide) (by omega) (fun _ _ _ h _ => False.elim h) (fun r_34 w_34 n_34 h_34 hn_34 => ?_)
        obtain ⟨rfl, ew_34, en_34⟩ := h_34
        rw [ew_34, en_34]
        refine e_iret F rfl (by omega) ?_ dX5_reckon_37
        refine ⟨FM.th, Or.inr ⟨c_7, ?_, gM⟩⟩
        unfold rcV
        rw [if_pos (by omega)]
    · exact absurd c_19 (by decide)
  ·
    rw [b01_0] at c_7
    refine e_iconst F dX5_reckon_10 ?_
    refine e_goto F 15 dX5_reckon_11 (by decide) ?_
    refine e_iconst F dX5_reckon_15 ?_
    refine e_callVV F u_X5_start (by rfl) (c_X5_start hY (by first | exact Or.inl rfl | exact Or.inr rfl) (by decide) (by decide)) hY rfl rfl w_ml_RX5_69 dX5_reckon_16 (by rfl) (Nat.le_of_ble_eq_true rfl) (by decide) (by omega) (fun _ _ _ h _ => False.elim h) (fun r_16 w_16 n_16 h_16 hn_16 => ?_)
    obtain ⟨rfl, en_16, ew_16⟩ := h_16
    rw [en_16, ew_16]
    first | rw [if_pos (show (1 : Int) = 1 from rfl)] | rw [if_neg (show ¬ ((0 : Int) = 1) by decide)]
    have gM := hM.th (t2 := 0) (kn2 := kn)
    refine e_if_eq F 24 dX5_reckon_19 (by decide) (by decide) (fun c_19 => ?_) (fun c_19 => ?_)
    · exact absurd c_19 (by decide)
    · refine e_iconst F dX5_reckon_22 ?_
      refine e_iret F rfl (by omega) ?_ dX5_reckon_23
      exact ⟨FM.th, Or.inl ⟨c_7, rfl, hM.th⟩⟩
set_option maxHeartbeats 4000000 in
set_option maxRecDepth 100000 in
theorem c_X5_weights {K : e_K} {l : Launch} {w : e_W} {n : Nat} {y wh : Nat} {t kn : Int} {R : Nat → RD} (hM : MW w y wh kn t R) {s9 : Int} (hs9 : e_r s9) {x9 : Int} (hx9 : e_r x9) : e_Met K l yX5_weights (Cond.code yX5_weights cX5_weights 3 (Option.some .int) :: e_TB) (6) (3) [.ref y, .int (eI s9), .int (eI x9)] w n (fun r w' n' => FM w w' y n ∧ ((¬ (1 ≤ s9 ∧ s9 ≤ fl wh) ∧ r = some (.int (eI 0)) ∧ MW w' y wh kn 1 R) ∨ ((1 ≤ s9 ∧ s9 ≤ fl wh) ∧ r = some (.int (eI (atV wh s9 (fun _ => 1) x9))) ∧ MW w' y wh (kn) 0 (R)))) (e_px0) := by
  refine e_ofV rfl (Nat.le_of_ble_eq_true rfl) ?_
  intro P9 E9 S9 M9 A9 B9 T9 C9 F hnm
  have hwh := hM.2.1
  have hY := hM.1
  have hp := pr_rg wh hwh
  have hho := ho_rg wh hwh
  have hf9 := fl_rg wh hwh
  refine e_aload_n F dX5_weights_0 rfl ?_
  refine e_aload_n F dX5_weights_1 rfl ?_
  refine e_iload_n F dX5_weights_2 rfl ?_
  refine e_callVV F u_X5_isNoSet (by rfl) (c_X5_isNoSet hY hwh hs9) hY rfl rfl w_ml_RX5_103 dX5_weights_3 (by rfl) (Nat.le_of_ble_eq_true rfl) (by decide) (by omega) (fun _ _ _ h _ => False.elim h) (fun r_3 w_3 n_3 h_3 hn_3 => ?_)
  obtain ⟨rfl, ew_3, en_3⟩ := h_3
  rw [ew_3, en_3]
  refine e_iconst F dX5_weights_6 ?_
  refine e_callVV F u_X5_start (by rfl) (c_X5_start hY (b01_or _) (by decide) (by decide)) hY rfl rfl w_ml_RX5_69 dX5_weights_7 (by rfl) (Nat.le_of_ble_eq_true rfl) (by decide) (by omega) (fun _ _ _ h _ => False.elim h) (fun r_7 w_7 n_7 h_7 hn_7 => ?_)
  obtain ⟨rfl, en_7, ew_7⟩ := h_7
  rw [en_7, ew_7, st1]
  refine e_if_eq F 17 dX5_weights_10 (by decide) (b01_r _) (fun c_10 => ?_) (fun c_10 => ?_)
  ·
    rw [b01_0, Classical.not_not] at c_10
    rw [if_pos c_10]
    have gM := hM.th (t2 := 0) (kn2 := kn)
    refine e_aload_n F dX5_weights_17 rfl ?_
    refine e_iload_n F dX5_weights_18 rfl ?_
    refine e_iload_n F dX5_weights_19 rfl ?_
    refine e_dom ?_
    intro hdm
    refine e_callVV F u_X5_weightsAt (by rfl) (c_X5_weightsAt gM.1 hwh (set := s9) (x := x9) (by omega) (by omega) hx9) gM.1 rfl rfl w_ml_RX5_110 dX5_weights_20 (by rfl) (Nat.le_of_ble_eq_true rfl) (by decide) (by omega) (fun _ _ _ h _ => False.elim h) (fun r_20 w_20 n_20 h_20 hn_20 => ?_)
    obtain ⟨rfl, gK⟩ := h_20
    refine e_iret F rfl (by omega) ?_ dX5_weights_23
    first
    | exact ⟨FM.th, Or.inl ⟨c_10, rfl, hM.th⟩⟩
    | exact ⟨FM.th.kb (Nat.le_refl _) gK, Or.inr ⟨c_10, rfl, gM.kb hdm gK⟩⟩
  ·
    rw [b01_0, Classical.not_not] at c_10
    rw [if_neg c_10]
    refine e_iconst F dX5_weights_13 ?_
    refine e_goto F 23 dX5_weights_14 (by decide) ?_
    refine e_iret F rfl (by omega) ?_ dX5_weights_23
    first
    | exact ⟨FM.th, Or.inl ⟨c_10, rfl, hM.th⟩⟩
    | exact ⟨FM.th.kb (Nat.le_refl _) gK, Or.inr ⟨c_10, rfl, gM.kb hdm gK⟩⟩
set_option maxHeartbeats 4000000 in
set_option maxRecDepth 100000 in
theorem c_X5_weight {K : e_K} {l : Launch} {w : e_W} {n : Nat} {y wh : Nat} {t kn : Int} {R : Nat → RD} (hM : MW w y wh kn t R) {s9 : Int} (hs9 : e_r s9) {h9 : Int} (hh9 : e_r h9) {x9 : Int} (hx9 : e_r x9) : e_Met K l yX5_weight (Cond.code yX5_weight cX5_weight 5 (Option.some .int) :: e_TB) (5) (3) [.ref y, .int (eI s9), .int (eI h9), .int (eI x9)] w n (fun r w' n' => FM w w' y n ∧ ((¬ (1 ≤ h9 ∧ h9 ≤ ho wh) ∧ r = some (.int (eI 0)) ∧ MW w' y wh kn 1 R) ∨ ((1 ≤ h9 ∧ h9 ≤ ho wh) ∧ ¬ (1 ≤ s9 ∧ s9 ≤ fl wh) ∧ r = some (.int (eI 0)) ∧ MW w' y wh kn 2 R) ∨ ((1 ≤ h9 ∧ h9 ≤ ho wh) ∧ (1 ≤ s9 ∧ s9 ≤ fl wh) ∧ r = some (.int (eI (if hs s9 h9 then atV wh s9 (fun j => if j = h9 then 1 else 0) x9 else -9))) ∧ MW w' y wh (kn) 0 (R)))) (e_px0) := by
  refine e_ofV rfl (Nat.le_of_ble_eq_true rfl) ?_
  intro P9 E9 S9 M9 A9 B9 T9 C9 F hnm
  have hwh := hM.2.1
  have hY := hM.1
  have hp := pr_rg wh hwh
  have hho := ho_rg wh hwh
  have hf9 := fl_rg wh hwh
  refine e_aload_n F dX5_weight_0 rfl ?_
  refine e_aload_n F dX5_weight_1 rfl ?_
  refine e_iload_n F dX5_weight_2 rfl ?_
  refine e_callVV F u_X5_isNoHolder (by rfl) (c_X5_isNoHolder hY hwh hh9) hY rfl rfl w_ml_RX5_99 dX5_weight_3 (by rfl) (Nat.le_of_ble_eq_true rfl) (by decide) (by omega) (fun _ _ _ h _ => False.elim h) (fun r_3 w_3 n_3 h_3 hn_3 => ?_)
  obtain ⟨rfl, ew_3, en_3⟩ := h_3
  rw [ew_3, en_3]
  refine e_iconst F dX5_weight_6 ?_
  refine e_callVV F u_X5_start (by rfl) (c_X5_start hY (b01_or _) (by decide) (by decide)) hY rfl rfl w_ml_RX5_69 dX5_weight_7 (by rfl) (Nat.le_of_ble_eq_true rfl) (by decide) (by omega) (fun _ _ _ h _ => False.elim h) (fun r_7 w_7 n_7 h_7 hn_7 => ?_)
  obtain ⟨rfl, en_7, ew_7⟩ := h_7
  rw [en_7, ew_7, st1]
  refine e_if_ne F 26 dX5_weight_10 (by decide) (b01_r _) (fun c_10 => ?_) (fun c_10 => ?_)
  ·
    rw [ne_eq, b01_0, Classical.not_not] at c_10
    rw [if_neg c_10]
    refine e_iconst F dX5_weight_26 ?_
    refine e_iret F rfl (by omega) ?_ dX5_weight_27
    first
    | exact ⟨FM.th, Or.inl ⟨c_10, rfl, hM.th⟩⟩
    | exact ⟨FM.th, Or.inr (Or.inl ⟨c_10, c_23, rfl, hM.th⟩)⟩
  ·
    rw [b01_0, Classical.not_not] at c_10
    rw [if_pos c_10]
    have gM := hM.th (t2 := 0) (kn2 := kn)
    refine e_aload_n F dX5_weight_13 rfl ?_
    refine e_aload_n F dX5_weight_14 rfl ?_
    refine e_iload_n F dX5_weight_15 rfl ?_
    refine e_callVV F u_X5_isNoSet (by rfl) (c_X5_isNoSet gM.1 hwh hs9) gM.1 rfl rfl w_ml_RX5_103 dX5_weight_16 (by rfl) (Nat.le_of_ble_eq_true rfl) (by decide) (by omega) (fun _ _ _ h _ => False.elim h) (fun r_16 w_16 n_16 h_16 hn_16 => ?_)
    obtain ⟨rfl, ew_16, en_16⟩ := h_16
    rw [ew_16, en_16]
    refine e_iconst F dX5_weight_19 ?_
    refine e_callVV F u_X5_refuse (by rfl) (c_X5_refuse (t := 0) (kn := kn) (wh := wh) (y := y) gM.1 (by decide) (by decide) (b01_or _) (by decide) (by decide)) gM.1 rfl rfl w_ml_RX5_28 dX5_weight_20 (by rfl) (Nat.le_of_ble_eq_true rfl) (by decide) (by omega) (fun _ _ _ h _ => False.elim h) (fun r_20 w_20 n_20 h_20 hn_20 => ?_)
    obtain ⟨rfl, en_20, ew_20⟩ := h_20
    rw [en_20, ew_20, e_up_up, rf2, rf3]
    refine e_if_eq F 28 dX5_weight_23 (by decide) (b01_r _) (fun c_23 => ?_) (fun c_23 => ?_)
    ·
      rw [b01_0, Classical.not_not] at c_23
      rw [if_pos c_23]
      refine e_iload_n F dX5_weight_28 rfl ?_
      refine e_iload_n F dX5_weight_29 rfl ?_
      refine e_callSS F u_X5_has (by rfl) (c_X5_has (s9 := s9) (h := h9) (by omega) (by omega) (by omega) (by omega)) w_ml_RX5_87 dX5_weight_30 (by rfl) (Nat.le_of_ble_eq_true rfl) (by decide) (by omega) (fun _ _ _ h _ => False.elim h) (fun r_30 w_30 n_30 h_30 hn_30 => ?_)
      obtain ⟨rfl, ew_30, en_30⟩ := h_30
      rw [ew_30, en_30]
      refine e_if_ne F 39 dX5_weight_33 (by decide) (b01_r _) (fun c_33 => ?_) (fun c_33 => ?_)
      ·
        rw [ne_eq, b01_0, Classical.not_not] at c_33
        refine e_dom ?_
        intro hdm0
        have hyn0 := hdm0 y _ gM.1
        refine e_aload_n F dX5_weight_39 rfl ?_
        refine e_callVV F u_X5_holders (by rfl) (c_X5_holders gM.1 hwh) gM.1 rfl rfl w_ml_RX5_52 dX5_weight_40 (by rfl) (Nat.le_of_ble_eq_true rfl) (by decide) (by omega) (fun _ _ _ h _ => False.elim h) (fun r_40 w_40 n_40 h_40 hn_40 => ?_)
        obtain ⟨rfl, ew_40, en_40⟩ := h_40
        rw [ew_40, en_40]
        refine e_iconst F dX5_weight_43 ?_
        refine e_iadd F dX5_weight_44 ?_
        refine e_newI F (N := ((ho wh).toNat + 1)) (by omega) (by omega) (by omega) w_ac_int dX5_weight_45 ?_
        refine e_astore F dX5_weight_47 (by decide) ?_
        refine e_aload F dX5_weight_49 rfl ?_
        refine e_iload_n F dX5_weight_51 rfl ?_
        refine e_iconst F dX5_weight_52 ?_
        refine e_dom ?_
        intro hdm
        have hyn := hdm y _ (by rw [e_up_n (by intro e; have := hdm0 y _ gM.1; omega)]; exact gM.1)
        refine e_iast F e_up_s (by omega) (by omega) (by first | decide | omega) dX5_weight_53 ?_
        refine e_aload_n F dX5_weight_54 rfl ?_
        refine e_aload F dX5_weight_55 rfl ?_
        refine e_iload_n F dX5_weight_57 rfl ?_
        refine e_iload_n F dX5_weight_58 rfl ?_
        have gY : e_up (e_up (e_up w y (MO y 0 wh kn)) n (e_ia ((ho wh).toNat + 1) (fun _ => 0))) n (e_ia ((ho wh).toNat + 1) (e_fu (fun _ => 0) h9 1)) y = some (MO y 0 wh kn) := by rw [e_up_n (by omega), e_up_n (by omega)]; exact gM.1
        refine e_callVV F u_X5_at (by rfl) (c_X5_at gY hwh (a := n) (NA := ((ho wh).toNat + 1)) (f := e_fu (fun _ => 0) h9 1) (set := s9) (x := x9) e_up_s (by omega) (fun j j0 j1 => by rw [show e_fu (fun _ => (0 : Int)) h9 1 j = if j = h9 then 1 else 0 from rfl]; split <;> omega) (by omega) (by omega) hx9) gY rfl rfl w_ml_RX5_106 dX5_weight_59 (by rfl) (Nat.le_of_ble_eq_true rfl) (by decide) (by omega) (fun _ _ _ h _ => False.elim h) (fun r_59 w_59 n_59 h_59 hn_59 => ?_)
        obtain ⟨rfl, gK⟩ := h_59
        have gK3 : KB (e_up w y (MO y 0 wh kn)) w_59 n := fun j hj => by rw [gK j (by omega), e_up_n (by omega), e_up_n (by omega)]
        have e59 : (e_fu (fun _ => 0) h9 1 : Int → Int) = (fun j => if j = h9 then 1 else 0) := rfl
        rw [e59]
        refine e_iret F rfl (by omega) ?_ dX5_weight_62
        exact ⟨FM.th.kb (Nat.le_refl _) gK3, Or.inr (Or.inr ⟨c_10, c_23, by rw [if_pos c_33], gM.kb hdm0 gK3⟩)⟩
      ·
        rw [b01_0] at c_33
        refine e_bipush F dX5_weight_36 (by decide) ?_
        refine e_iret F rfl (by omega) ?_ dX5_weight_38
        exact ⟨FM.th, Or.inr (Or.inr ⟨c_10, c_23, by rw [if_neg c_33], gM⟩)⟩
    ·
      rw [b01_0, Classical.not_not] at c_23
      rw [if_neg c_23]
      refine e_iconst F dX5_weight_26 ?_
      refine e_iret F rfl (by omega) ?_ dX5_weight_27
      first
      | exact ⟨FM.th, Or.inl ⟨c_10, rfl, hM.th⟩⟩
      | exact ⟨FM.th, Or.inr (Or.inl ⟨c_10, c_23, rfl, hM.th⟩)⟩
set_option maxHeartbeats 4000000 in
set_option maxRecDepth 100000 in
theorem c_X5_house {K : e_K} {l : Launch} {w : e_W} {n : Nat} {y wh : Nat} {t kn : Int} {R : Nat → RD} (hM : MW w y wh kn t R) {c9 : Int} (hc9 : e_r c9) : e_Met K l yX5_house (Cond.code yX5_house cX5_house 2 (Option.some .int) :: e_TB) (3) (0) [.ref y, .int (eI c9)] w n (fun r w' n' => FM w w' y n ∧ ((¬ (0 ≤ c9 ∧ c9 ≤ 6) ∧ r = some (.int (eI 0)) ∧ MW w' y wh kn 1 R) ∨ ((0 ≤ c9 ∧ c9 ≤ 6) ∧ r = some (.int (eI (hoR wh kn R c9))) ∧ MW w' y wh (kn) 0 (R)))) (e_px0) := by
  refine e_ofV rfl (Nat.le_of_ble_eq_true rfl) ?_
  intro P9 E9 S9 M9 A9 B9 T9 C9 F hnm
  have hwh := hM.2.1
  have hY := hM.1
  have hp := pr_rg wh hwh
  have hho := ho_rg wh hwh
  have hf9 := fl_rg wh hwh
  refine e_aload_n F dX5_house_0 rfl ?_
  refine e_iload_n F dX5_house_1 rfl ?_
  refine e_iconst F dX5_house_2 ?_
  refine e_bipush F dX5_house_3 (by decide) ?_
  refine e_callSS F u_X5_isIn (by rfl) (c_X5_isIn (v := c9) (a := 0) (b := 6) hc9 (by decide) (by decide)) w_ml_RX5_48 dX5_house_5 (by rfl) (Nat.le_of_ble_eq_true rfl) (by decide) (by omega) (fun _ _ _ h _ => False.elim h) (fun r_5 w_5 n_5 h_5 hn_5 => ?_)
  obtain ⟨rfl, ew_5, en_5⟩ := h_5
  rw [ew_5, en_5]
  refine e_if_ne F 15 dX5_house_8 (by decide) (b01_r _) (fun c_8 => ?_) (fun c_8 => ?_)
  ·
    rw [ne_eq, b01_0, Classical.not_not] at c_8
    refine e_iconst F dX5_house_15 ?_
    refine e_iconst F dX5_house_16 ?_
    refine e_callVV F u_X5_start (by rfl) (c_X5_start hY (by first | exact Or.inl rfl | exact Or.inr rfl) (by decide) (by decide)) hY rfl rfl w_ml_RX5_69 dX5_house_17 (by rfl) (Nat.le_of_ble_eq_true rfl) (by decide) (by omega) (fun _ _ _ h _ => False.elim h) (fun r_17 w_17 n_17 h_17 hn_17 => ?_)
    obtain ⟨rfl, en_17, ew_17⟩ := h_17
    rw [en_17, ew_17]
    first | rw [if_pos (show (1 : Int) = 1 from rfl)] | rw [if_neg (show ¬ ((0 : Int) = 1) by decide)]
    have gM := hM.th (t2 := 0) (kn2 := kn)
    refine e_if_eq F 27 dX5_house_20 (by decide) (by decide) (fun c_20 => ?_) (fun c_20 => ?_)
    · refine e_aload_n F dX5_house_27 rfl ?_
      refine e_iload_n F dX5_house_28 rfl ?_
      refine e_callVV F u_X5_houseTold (by rfl) (c_X5_houseTold gM hc9) gM.1 rfl rfl w_ml_RX5_216 dX5_house_29 (by rfl) (Nat.le_of_ble_eq_true rfl) (by decide) (by omega) (fun _ _ _ h _ => False.elim h) (fun r_29 w_29 n_29 h_29 hn_29 => ?_)
      obtain ⟨rfl, ew_29, en_29⟩ := h_29
      rw [ew_29, en_29]
      refine e_iret F rfl (by omega) ?_ dX5_house_32
      first
      | exact ⟨FM.th, Or.inl ⟨c_8, rfl, hM.th⟩⟩
      | exact ⟨FM.th, Or.inr ⟨c_8, rfl, gM⟩⟩
    · exact absurd c_20 (by decide)
  ·
    rw [b01_0] at c_8
    refine e_iconst F dX5_house_11 ?_
    refine e_goto F 16 dX5_house_12 (by decide) ?_
    refine e_iconst F dX5_house_16 ?_
    refine e_callVV F u_X5_start (by rfl) (c_X5_start hY (by first | exact Or.inl rfl | exact Or.inr rfl) (by decide) (by decide)) hY rfl rfl w_ml_RX5_69 dX5_house_17 (by rfl) (Nat.le_of_ble_eq_true rfl) (by decide) (by omega) (fun _ _ _ h _ => False.elim h) (fun r_17 w_17 n_17 h_17 hn_17 => ?_)
    obtain ⟨rfl, en_17, ew_17⟩ := h_17
    rw [en_17, ew_17]
    first | rw [if_pos (show (1 : Int) = 1 from rfl)] | rw [if_neg (show ¬ ((0 : Int) = 1) by decide)]
    have gM := hM.th (t2 := 0) (kn2 := kn)
    refine e_if_eq F 27 dX5_house_20 (by decide) (by decide) (fun c_20 => ?_) (fun c_20 => ?_)
    · exact absurd c_20 (by decide)
    · refine e_iconst F dX5_house_23 ?_
      refine e_goto F 32 dX5_house_24 (by decide) ?_
      refine e_iret F rfl (by omega) ?_ dX5_house_32
      first
      | exact ⟨FM.th, Or.inl ⟨c_8, rfl, hM.th⟩⟩
      | exact ⟨FM.th, Or.inr ⟨c_8, rfl, gM⟩⟩
set_option maxHeartbeats 4000000 in
set_option maxRecDepth 100000 in
theorem c_X5_share {K : e_K} {l : Launch} {w : e_W} {n : Nat} {y wh : Nat} {t kn : Int} {R : Nat → RD} (hM : MW w y wh kn t R) {i9 : Int} (hi9 : e_r i9) {h9 : Int} (hh9 : e_r h9) : e_Met K l yX5_share (Cond.code yX5_share cX5_share 3 (Option.some .int) :: e_TB) (3) (0) [.ref y, .int (eI i9), .int (eI h9)] w n (fun r w' n' => FM w w' y n ∧ ((¬ ((0 ≤ i9 ∧ i9 < 6) ∧ (1 ≤ h9 ∧ h9 ≤ ho wh)) ∧ r = some (.int (eI 0)) ∧ MW w' y wh kn 1 R) ∨ (((0 ≤ i9 ∧ i9 < 6) ∧ (1 ≤ h9 ∧ h9 ≤ ho wh)) ∧ r = some (.int (eI ((R i9.toNat).A h9))) ∧ MW w' y wh (kn) 0 (R)))) (e_px0) := by
  refine e_ofV rfl (Nat.le_of_ble_eq_true rfl) ?_
  intro P9 E9 S9 M9 A9 B9 T9 C9 F hnm
  have hwh := hM.2.1
  have hY := hM.1
  have hp := pr_rg wh hwh
  have hho := ho_rg wh hwh
  have hf9 := fl_rg wh hwh
  refine e_aload_n F dX5_share_0 rfl ?_
  refine e_iload_n F dX5_share_1 rfl ?_
  refine e_callSS F u_X5_isNoDeal (by rfl) (c_X5_isNoDeal hi9) w_ml_RX5_129 dX5_share_2 (by rfl) (Nat.le_of_ble_eq_true rfl) (by decide) (by omega) (fun _ _ _ h _ => False.elim h) (fun r_2 w_2 n_2 h_2 hn_2 => ?_)
  obtain ⟨rfl, ew_2, en_2⟩ := h_2
  rw [ew_2, en_2]
  refine e_if_ne F 16 dX5_share_5 (by decide) (b01_r _) (fun c_5 => ?_) (fun c_5 => ?_)
  ·
    rw [ne_eq, b01_0, Classical.not_not] at c_5
    refine e_iconst F dX5_share_16 ?_
    refine e_goto F 21 dX5_share_17 (by decide) ?_
    refine e_iconst F dX5_share_21 ?_
    refine e_callVV F u_X5_start (by rfl) (c_X5_start hY (by first | exact Or.inl rfl | exact Or.inr rfl) (by decide) (by decide)) hY rfl rfl w_ml_RX5_69 dX5_share_22 (by rfl) (Nat.le_of_ble_eq_true rfl) (by decide) (by omega) (fun _ _ _ h _ => False.elim h) (fun r_22 w_22 n_22 h_22 hn_22 => ?_)
    obtain ⟨rfl, en_22, ew_22⟩ := h_22
    rw [en_22, ew_22]
    first | rw [if_pos (show (1 : Int) = 1 from rfl)] | rw [if_neg (show ¬ ((0 : Int) = 1) by decide)]
    have gM := hM.th (t2 := 0) (kn2 := kn)
    refine e_if_eq F 32 dX5_share_25 (by decide) (by decide) (fun c_25 => ?_) (fun c_25 => ?_)
    · exact absurd c_25 (by decide)
    · refine e_iconst F dX5_share_28 ?_
      refine e_goto F 38 dX5_share_29 (by decide) ?_
      refine e_iret F rfl (by omega) ?_ dX5_share_38
      first
      | exact ⟨FM.th, Or.inl ⟨(fun q => by omega), rfl, hM.th⟩⟩
      | exact ⟨FM.th, Or.inr ⟨⟨by omega, by omega⟩, rfl, gM⟩⟩
  ·
    rw [b01_0, Classical.not_not] at c_5
    refine e_aload_n F dX5_share_8 rfl ?_
    refine e_iload_n F dX5_share_9 rfl ?_
    refine e_callVV F u_X5_isNoHolder (by rfl) (c_X5_isNoHolder hY hwh hh9) hY rfl rfl w_ml_RX5_99 dX5_share_10 (by rfl) (Nat.le_of_ble_eq_true rfl) (by decide) (by omega) (fun _ _ _ h _ => False.elim h) (fun r_10 w_10 n_10 h_10 hn_10 => ?_)
    obtain ⟨rfl, ew_10, en_10⟩ := h_10
    rw [ew_10, en_10]
    refine e_if_eq F 20 dX5_share_13 (by decide) (b01_r _) (fun c_13 => ?_) (fun c_13 => ?_)
    ·
      rw [b01_0, Classical.not_not] at c_13
      refine e_iconst F dX5_share_20 ?_
      refine e_iconst F dX5_share_21 ?_
      refine e_callVV F u_X5_start (by rfl) (c_X5_start hY (by first | exact Or.inl rfl | exact Or.inr rfl) (by decide) (by decide)) hY rfl rfl w_ml_RX5_69 dX5_share_22 (by rfl) (Nat.le_of_ble_eq_true rfl) (by decide) (by omega) (fun _ _ _ h _ => False.elim h) (fun r_22 w_22 n_22 h_22 hn_22 => ?_)
      obtain ⟨rfl, en_22, ew_22⟩ := h_22
      rw [en_22, ew_22]
      first | rw [if_pos (show (1 : Int) = 1 from rfl)] | rw [if_neg (show ¬ ((0 : Int) = 1) by decide)]
      have gM := hM.th (t2 := 0) (kn2 := kn)
      refine e_if_eq F 32 dX5_share_25 (by decide) (by decide) (fun c_25 => ?_) (fun c_25 => ?_)
      · refine e_aload_n F dX5_share_32 rfl ?_
        refine e_iload_n F dX5_share_33 rfl ?_
        refine e_iload_n F dX5_share_34 rfl ?_
        obtain ⟨ki9, rfl⟩ : ∃ k : Nat, i9 = (k : Int) := ⟨i9.toNat, by omega⟩
        have hki9 : ki9 < 6 := by omega
        refine e_callVV F u_X5_shareOf (by rfl) (c_X5_shareOf gM hki9 (h := h9) (by omega) (by omega)) gM.1 rfl rfl w_ml_RX5_180 dX5_share_35 (by rfl) (Nat.le_of_ble_eq_true rfl) (by decide) (by omega) (fun _ _ _ h _ => False.elim h) (fun r_35 w_35 n_35 h_35 hn_35 => ?_)
        obtain ⟨rfl, ew_35, en_35⟩ := h_35
        rw [ew_35, en_35]
        refine e_iret F rfl (by omega) ?_ dX5_share_38
        first
        | exact ⟨FM.th, Or.inl ⟨(fun q => by omega), rfl, hM.th⟩⟩
        | exact ⟨FM.th, Or.inr ⟨⟨by omega, by omega⟩, rfl, gM⟩⟩
      · exact absurd c_25 (by decide)
    ·
      rw [b01_0, Classical.not_not] at c_13
      refine e_iconst F dX5_share_16 ?_
      refine e_goto F 21 dX5_share_17 (by decide) ?_
      refine e_iconst F dX5_share_21 ?_
      refine e_callVV F u_X5_start (by rfl) (c_X5_start hY (by first | exact Or.inl rfl | exact Or.inr rfl) (by decide) (by decide)) hY rfl rfl w_ml_RX5_69 dX5_share_22 (by rfl) (Nat.le_of_ble_eq_true rfl) (by decide) (by omega) (fun _ _ _ h _ => False.elim h) (fun r_22 w_22 n_22 h_22 hn_22 => ?_)
      obtain ⟨rfl, en_22, ew_22⟩ := h_22
      rw [en_22, ew_22]
      first | rw [if_pos (show (1 : Int) = 1 from rfl)] | rw [if_neg (show ¬ ((0 : Int) = 1) by decide)]
      have gM := hM.th (t2 := 0) (kn2 := kn)
      refine e_if_eq F 32 dX5_share_25 (by decide) (by decide) (fun c_25 => ?_) (fun c_25 => ?_)
      · exact absurd c_25 (by decide)
      · refine e_iconst F dX5_share_28 ?_
        refine e_goto F 38 dX5_share_29 (by decide) ?_
        refine e_iret F rfl (by omega) ?_ dX5_share_38
        first
        | exact ⟨FM.th, Or.inl ⟨(fun q => by omega), rfl, hM.th⟩⟩
        | exact ⟨FM.th, Or.inr ⟨⟨by omega, by omega⟩, rfl, gM⟩⟩
set_option maxHeartbeats 4000000 in
set_option maxRecDepth 100000 in
theorem c_X5_wrong {K : e_K} {l : Launch} {w : e_W} {n : Nat} {y wh : Nat} {t kn : Int} {R : Nat → RD} (hM : MW w y wh kn t R) {i9 : Int} (hi9 : e_r i9) : e_Met K l yX5_wrong (Cond.code yX5_wrong cX5_wrong 2 (Option.some .int) :: e_TB) (7) (16) [.ref y, .int (eI i9)] w n (fun r w' n' => FM w w' y n ∧ ((¬ (0 ≤ i9 ∧ i9 < 6) ∧ r = some (.int (eI 0)) ∧ MW w' y wh kn 1 R) ∨ ((0 ≤ i9 ∧ i9 < 6) ∧ r = some (.int (eI (wrV wh (R i9.toNat)))) ∧ MW w' y wh (kn) 0 (R)))) (e_px0) := by
  refine e_ofV rfl (Nat.le_of_ble_eq_true rfl) ?_
  intro P9 E9 S9 M9 A9 B9 T9 C9 F hnm
  have hwh := hM.2.1
  have hY := hM.1
  have hp := pr_rg wh hwh
  have hho := ho_rg wh hwh
  have hf9 := fl_rg wh hwh
  refine e_aload_n F dX5_wrong_0 rfl ?_
  refine e_iload_n F dX5_wrong_1 rfl ?_
  refine e_callSS F u_X5_isNoDeal (by rfl) (c_X5_isNoDeal hi9) w_ml_RX5_129 dX5_wrong_2 (by rfl) (Nat.le_of_ble_eq_true rfl) (by decide) (by omega) (fun _ _ _ h _ => False.elim h) (fun r_2 w_2 n_2 h_2 hn_2 => ?_)
  obtain ⟨rfl, ew_2, en_2⟩ := h_2
  rw [ew_2, en_2]
  refine e_iconst F dX5_wrong_5 ?_
  refine e_callVV F u_X5_start (by rfl) (c_X5_start hY (b01_or _) (by decide) (by decide)) hY rfl rfl w_ml_RX5_69 dX5_wrong_6 (by rfl) (Nat.le_of_ble_eq_true rfl) (by decide) (by omega) (fun _ _ _ h _ => False.elim h) (fun r_6 w_6 n_6 h_6 hn_6 => ?_)
  obtain ⟨rfl, en_6, ew_6⟩ := h_6
  rw [en_6, ew_6, st1]
  refine e_if_eq F 16 dX5_wrong_9 (by decide) (b01_r _) (fun c_9 => ?_) (fun c_9 => ?_)
  ·
    rw [b01_0, Classical.not_not] at c_9
    rw [if_pos c_9]
    have gM := hM.th (t2 := 0) (kn2 := kn)
    refine e_aload_n F dX5_wrong_16 rfl ?_
    refine e_iload_n F dX5_wrong_17 rfl ?_
    obtain ⟨ki9, rfl⟩ : ∃ k : Nat, i9 = (k : Int) := ⟨i9.toNat, by omega⟩
    have hki9 : ki9 < 6 := by omega
    refine e_dom ?_
    intro hdm
    refine e_callVV F u_X5_wrongOf (by rfl) (c_X5_wrongOf gM hki9) gM.1 rfl rfl w_ml_RX5_174 dX5_wrong_18 (by rfl) (Nat.le_of_ble_eq_true rfl) (by decide) (by omega) (fun _ _ _ h _ => False.elim h) (fun r_18 w_18 n_18 h_18 hn_18 => ?_)
    obtain ⟨rfl, gK⟩ := h_18
    refine e_iret F rfl (by omega) ?_ dX5_wrong_21
    first
    | exact ⟨FM.th, Or.inl ⟨c_9, rfl, hM.th⟩⟩
    | exact ⟨FM.th.kb (Nat.le_refl _) gK, Or.inr ⟨(by omega), rfl, gM.kb hdm gK⟩⟩
  ·
    rw [b01_0, Classical.not_not] at c_9
    rw [if_neg c_9]
    refine e_iconst F dX5_wrong_12 ?_
    refine e_goto F 21 dX5_wrong_13 (by decide) ?_
    refine e_iret F rfl (by omega) ?_ dX5_wrong_21
    first
    | exact ⟨FM.th, Or.inl ⟨c_9, rfl, hM.th⟩⟩
    | exact ⟨FM.th.kb (Nat.le_refl _) gK, Or.inr ⟨(by omega), rfl, gM.kb hdm gK⟩⟩
set_option maxHeartbeats 4000000 in
set_option maxRecDepth 100000 in
theorem c_X5_suspects {K : e_K} {l : Launch} {w : e_W} {n : Nat} {y wh : Nat} {t kn : Int} {R : Nat → RD} (hM : MW w y wh kn t R) {i9 : Int} (hi9 : e_r i9) : e_Met K l yX5_suspects (Cond.code yX5_suspects cX5_suspects 2 (Option.some .int) :: e_TB) (7) (16) [.ref y, .int (eI i9)] w n (fun r w' n' => FM w w' y n ∧ ((¬ (0 ≤ i9 ∧ i9 < 6) ∧ r = some (.int (eI 0)) ∧ MW w' y wh kn 1 R) ∨ ((0 ≤ i9 ∧ i9 < 6) ∧ r = some (.int (eI (if (R i9.toNat).dg = -1 then -9 else suK wh (R i9.toNat) (ho wh).toNat))) ∧ MW w' y wh (kn) 0 (R)))) (e_px0) := by
  refine e_ofV rfl (Nat.le_of_ble_eq_true rfl) ?_
  intro P9 E9 S9 M9 A9 B9 T9 C9 F hnm
  have hwh := hM.2.1
  have hY := hM.1
  have hp := pr_rg wh hwh
  have hho := ho_rg wh hwh
  have hf9 := fl_rg wh hwh
  refine e_aload_n F dX5_suspects_0 rfl ?_
  refine e_iload_n F dX5_suspects_1 rfl ?_
  refine e_callSS F u_X5_isNoDeal (by rfl) (c_X5_isNoDeal hi9) w_ml_RX5_129 dX5_suspects_2 (by rfl) (Nat.le_of_ble_eq_true rfl) (by decide) (by omega) (fun _ _ _ h _ => False.elim h) (fun r_2 w_2 n_2 h_2 hn_2 => ?_)
  obtain ⟨rfl, ew_2, en_2⟩ := h_2
  rw [ew_2, en_2]
  refine e_iconst F dX5_suspects_5 ?_
  refine e_callVV F u_X5_start (by rfl) (c_X5_start hY (b01_or _) (by decide) (by decide)) hY rfl rfl w_ml_RX5_69 dX5_suspects_6 (by rfl) (Nat.le_of_ble_eq_true rfl) (by decide) (by omega) (fun _ _ _ h _ => False.elim h) (fun r_6 w_6 n_6 h_6 hn_6 => ?_)
  obtain ⟨rfl, en_6, ew_6⟩ := h_6
  rw [en_6, ew_6, st1]
  refine e_if_eq F 14 dX5_suspects_9 (by decide) (b01_r _) (fun c_9 => ?_) (fun c_9 => ?_)
  ·
    rw [b01_0, Classical.not_not] at c_9
    rw [if_pos c_9]
    have gM := hM.th (t2 := 0) (kn2 := kn)
    obtain ⟨ki9, rfl⟩ : ∃ k : Nat, i9 = (k : Int) := ⟨i9.toNat, by omega⟩
    have hki9 : ki9 < 6 := by omega
    refine e_dom ?_
    intro hdm
    refine e_aload_n F dX5_suspects_14 rfl ?_
    refine e_iload_n F dX5_suspects_15 rfl ?_
    refine e_callVV F u_X5_isEmpty (by rfl) (c_X5_isEmpty gM (i := ki9) hki9) gM.1 rfl rfl w_ml_RX5_113 dX5_suspects_16 (by rfl) (Nat.le_of_ble_eq_true rfl) (by decide) (by omega) (fun _ _ _ h _ => False.elim h) (fun r_16 w_16 n_16 h_16 hn_16 => ?_)
    obtain ⟨rfl, ew_16, en_16⟩ := h_16
    rw [ew_16, en_16]
    refine e_if_eq F 27 dX5_suspects_19 (by decide) (b01_r _) (fun c_19 => ?_) (fun c_19 => ?_)
    ·
      rw [b01_0] at c_19
      refine e_aload_n F dX5_suspects_27 rfl ?_
      refine e_iload_n F dX5_suspects_28 rfl ?_
      refine e_callVV F u_X5_suspectsOf (by rfl) (c_X5_suspectsOf gM hki9 c_19) gM.1 rfl rfl w_ml_RX5_171 dX5_suspects_29 (by rfl) (Nat.le_of_ble_eq_true rfl) (by decide) (by omega) (fun _ _ _ h _ => False.elim h) (fun r_29 w_29 n_29 h_29 hn_29 => ?_)
      obtain ⟨rfl, gK⟩ := h_29
      refine e_iret F rfl (by omega) ?_ dX5_suspects_32
      first
      | (refine ⟨FM.th.kb (Nat.le_refl _) gK, Or.inr ⟨by omega, ?_, gM.kb hdm gK⟩⟩
         rw [if_neg (show ¬ (R ((ki9 : Nat) : Int).toNat).dg = -1 from c_19)]
         rfl)
      | (refine ⟨FM.th, Or.inr ⟨by omega, ?_, gM⟩⟩
         rw [if_pos (show (R ((ki9 : Nat) : Int).toNat).dg = -1 from c_19)])
    ·
      rw [b01_0, Classical.not_not] at c_19
      refine e_bipush F dX5_suspects_22 (by decide) ?_
      refine e_goto F 32 dX5_suspects_24 (by decide) ?_
      refine e_iret F rfl (by omega) ?_ dX5_suspects_32
      first
      | (refine ⟨FM.th.kb (Nat.le_refl _) gK, Or.inr ⟨by omega, ?_, gM.kb hdm gK⟩⟩
         rw [if_neg (show ¬ (R ((ki9 : Nat) : Int).toNat).dg = -1 from c_19)]
         rfl)
      | (refine ⟨FM.th, Or.inr ⟨by omega, ?_, gM⟩⟩
         rw [if_pos (show (R ((ki9 : Nat) : Int).toNat).dg = -1 from c_19)])
  ·
    rw [b01_0, Classical.not_not] at c_9
    rw [if_neg c_9]
    refine e_iconst F dX5_suspects_12 ?_
    refine e_iret F rfl (by omega) ?_ dX5_suspects_13
    exact ⟨FM.th, Or.inl ⟨c_9, rfl, hM.th⟩⟩
