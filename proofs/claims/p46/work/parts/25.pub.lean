/-! Secretshares: public methods -/
def pxd (w : e_W) (c1 c2 : Prop) : String → e_W → Nat → Prop := fun E w2 _ => ((E = xIO ∧ c1) ∨ (E = xIA ∧ c2)) ∧ w2 = w
def qv (wh : Nat) (a b : Int) : Int := if b = 0 then -9 else a * iv wh b % pr wh
theorem qv_rg {wh : Nat} (hwh : wh < 7) (a b : Int) : (qv wh a b = -9 ∧ b = 0) ∨ (b ≠ 0 ∧ 0 ≤ qv wh a b ∧ qv wh a b < pr wh) := by
  unfold qv
  split
  · exact Or.inl ⟨rfl, by assumption⟩
  · exact Or.inr ⟨by assumption, emod_rg _ hwh⟩
def rcV (wh : Nat) (a b how : Int) : Int := if how = 0 then (a + b) % pr wh else if how = 1 then (a - b) % pr wh else if how = 2 then a * b % pr wh else qv wh (a % pr wh) (b % pr wh)
def pwV (wh : Nat) (a e : Int) : Int := if 0 ≤ e then e_pw (a % pr wh) e.toNat (pr wh) else if a % pr wh = 0 then -9 else e_pw (qv wh 1 (a % pr wh)) (-e).toNat (pr wh)
theorem mulI_rg {a b : Int} (ha : e_r a) (hb : e_r b) : e_r8 (a * b) := by
  obtain ⟨a1, a2⟩ := ha
  obtain ⟨b1, b2⟩ := hb
  have h1 : (a + 2147483648) * (b + 2147483648) ≤ 4294967295 * 4294967295 := Int.mul_le_mul (by omega) (by omega) (by omega) (by omega)
  have h2 : 0 ≤ (a + 2147483648) * (b + 2147483648) := Int.mul_nonneg (by omega) (by omega)
  have h3 : (a + 2147483648) * (b + 2147483648) = a * b + 2147483648 * a + 2147483648 * b + 2147483648 * 2147483648 := by
    rw [Int.add_mul, Int.mul_add, Int.mul_add, Int.mul_comm a 2147483648]; omega
  have h4 : (a + 2147483648) * (2147483647 - b) ≤ 4294967295 * 4294967295 := Int.mul_le_mul (by omega) (by omega) (by omega) (by omega)
  have h5 : 0 ≤ (a + 2147483648) * (2147483647 - b) := Int.mul_nonneg (by omega) (by omega)
  have h6 : (a + 2147483648) * (2147483647 - b) = a * 2147483647 - a * b + 2147483648 * 2147483647 - 2147483648 * b := by
    rw [Int.add_mul, Int.mul_sub, Int.mul_sub]; omega
  have h7 : (2147483647 - a) * (b + 2147483648) = 2147483647 * b + 2147483647 * 2147483648 - a * b - a * 2147483648 := by
    rw [Int.sub_mul, Int.mul_add, Int.mul_add]; omega
  have h8 : 0 ≤ (2147483647 - a) * (b + 2147483648) := Int.mul_nonneg (by omega) (by omega)
  have h9 : (2147483647 - a) * (2147483647 - b) = 2147483647 * 2147483647 - 2147483647 * b - a * 2147483647 + a * b := by
    rw [Int.sub_mul, Int.mul_sub, Int.mul_sub]; omega
  have h10 : 0 ≤ (2147483647 - a) * (2147483647 - b) := Int.mul_nonneg (by omega) (by omega)
  constructor <;> omega
set_option maxHeartbeats 4000000 in
set_option maxRecDepth 100000 in
theorem c_X3_rest {K : e_K} {l : Launch} {w : e_W} {n : Nat} {x wh : Nat} {kn : Int} {D : Nat → SD} (hC : CW w x wh kn D) {a : Int} (ha : e_r a) : e_Met K l yX3_rest (Cond.code yX3_rest cX3_rest 2 (Option.some .int) :: e_TB) (1) (0) [.ref x, .int (eI a)] w n (fun r w' n' => r = some (.int (eI (a % pr wh))) ∧ n' = n ∧ CW w' x wh (kn) (D) ∧ FR w w' x) (e_px0) := by
  refine e_ofV rfl (Nat.le_of_ble_eq_true rfl) ?_
  intro P9 E9 S9 M9 A9 B9 T9 C9 F hnm
  have hC0 := hC
  have hDA := hC.2.2.2.2.1
  obtain ⟨hX, hF, hwh, ⟨P0, hQ⟩, ⟨ga, hga, hgj⟩, hDs, s0, hS⟩ := hC
  have hp := pr_rg wh hwh
  have ho9 := ho_rg wh hwh
  have hg9 := gr_rg wh hwh
  have hf9 := fl_rg wh hwh
  refine e_aload_n F dX3_rest_0 rfl ?_
  refine e_get (ci := 3) (fi := 0) (q := (RX3, TX3, 5)) F (by first | assumption | exact e_up_s | (rw [e_up_n (by first | assumption | omega)]; first | assumption | exact e_up_s | (rw [e_up_n (by first | assumption | omega)]; first | assumption | exact e_up_s | (rw [e_up_n (by first | assumption | omega)]; first | assumption | exact e_up_s))) | exact hD.1 | exact hD1.1 | exact hD2.1 | exact gD.1 | exact gD1.1 | exact gD2.1 | exact gQ.1 | exact hQ.1 | exact gS.1 | exact hS.1 | exact zD.1) rfl (by decide) w_fl_RX3_10 (by rfl) dX3_rest_1 ?_
  refine e_iload_n F dX3_rest_4 rfl ?_
  refine e_i2l F dX3_rest_5 (⟨by omega, by omega⟩) ?_
  refine e_callVN F u_X1_modPrime (by rfl) (c_X1_modPrime hF hwh (v := a) (by constructor <;> omega)) (by first | assumption | exact e_up_s | (rw [e_up_n (by first | assumption | omega)]; first | assumption | exact e_up_s | (rw [e_up_n (by first | assumption | omega)]; first | assumption | exact e_up_s | (rw [e_up_n (by first | assumption | omega)]; first | assumption | exact e_up_s))) | exact hD.1 | exact hD1.1 | exact hD2.1 | exact gD.1 | exact gD1.1 | exact gD2.1 | exact gQ.1 | exact hQ.1 | exact gS.1 | exact hS.1 | exact zD.1) rfl rfl w_mn_RX3_59 dX3_rest_6 (by rfl) (Nat.le_of_ble_eq_true rfl) (by decide) (by omega) (fun _ _ _ h _ => False.elim h) (fun r_6 w_6 n_6 h_6 hn_6 => ?_)
  obtain ⟨rfl, ew_6, en_6⟩ := h_6
  rw [ew_6, en_6]
  refine e_iret F rfl (by omega) ?_ dX3_rest_9
  exact ⟨rfl, rfl, hC0, FR.rf⟩
set_option maxHeartbeats 4000000 in
set_option maxRecDepth 100000 in
theorem c_X3_reciprocal {K : e_K} {l : Launch} {w : e_W} {n : Nat} {x wh : Nat} {kn : Int} {D : Nat → SD} (hC : CW w x wh kn D) {a : Int} (ha : e_r a) : e_Met K l yX3_reciprocal (Cond.code yX3_reciprocal cX3_reciprocal 2 (Option.some .int) :: e_TB) (3) (0) [.ref x, .int (eI a)] w n (fun r w' n' => r = some (.int (eI (qv wh 1 (a % pr wh)))) ∧ n' = n ∧ CW w' x wh (kn) (D) ∧ FR w w' x) (e_px0) := by
  refine e_ofV rfl (Nat.le_of_ble_eq_true rfl) ?_
  intro P9 E9 S9 M9 A9 B9 T9 C9 F hnm
  have hC0 := hC
  have hDA := hC.2.2.2.2.1
  obtain ⟨hX, hF, hwh, ⟨P0, hQ⟩, ⟨ga, hga, hgj⟩, hDs, s0, hS⟩ := hC
  have hp := pr_rg wh hwh
  have ho9 := ho_rg wh hwh
  have hg9 := gr_rg wh hwh
  have hf9 := fl_rg wh hwh
  have hm := emod_rg a hwh
  refine e_aload_n F dX3_reciprocal_0 rfl ?_
  refine e_iconst F dX3_reciprocal_1 ?_
  refine e_aload_n F dX3_reciprocal_2 rfl ?_
  refine e_get (ci := 3) (fi := 0) (q := (RX3, TX3, 5)) F (by first | assumption | exact e_up_s | (rw [e_up_n (by first | assumption | omega)]; first | assumption | exact e_up_s | (rw [e_up_n (by first | assumption | omega)]; first | assumption | exact e_up_s | (rw [e_up_n (by first | assumption | omega)]; first | assumption | exact e_up_s))) | exact hD.1 | exact hD1.1 | exact hD2.1 | exact gD.1 | exact gD1.1 | exact gD2.1 | exact gQ.1 | exact hQ.1 | exact gS.1 | exact hS.1 | exact zD.1) rfl (by decide) w_fl_RX3_10 (by rfl) dX3_reciprocal_3 ?_
  refine e_iload_n F dX3_reciprocal_6 rfl ?_
  refine e_i2l F dX3_reciprocal_7 (⟨by omega, by omega⟩) ?_
  refine e_callVN F u_X1_modPrime (by rfl) (c_X1_modPrime hF hwh (v := a) (by constructor <;> omega)) (by first | assumption | exact e_up_s | (rw [e_up_n (by first | assumption | omega)]; first | assumption | exact e_up_s | (rw [e_up_n (by first | assumption | omega)]; first | assumption | exact e_up_s | (rw [e_up_n (by first | assumption | omega)]; first | assumption | exact e_up_s))) | exact hD.1 | exact hD1.1 | exact hD2.1 | exact gD.1 | exact gD1.1 | exact gD2.1 | exact gQ.1 | exact hQ.1 | exact gS.1 | exact hS.1 | exact zD.1) rfl rfl w_mn_RX3_59 dX3_reciprocal_8 (by rfl) (Nat.le_of_ble_eq_true rfl) (by decide) (by omega) (fun _ _ _ h _ => False.elim h) (fun r_8 w_8 n_8 h_8 hn_8 => ?_)
  obtain ⟨rfl, ew_8, en_8⟩ := h_8
  rw [ew_8, en_8]
  refine e_callVV F u_X3_quotient (by rfl) (c_X3_quotient hX hF hwh (a := 1) (b := a % pr wh) (by omega) hm) hX rfl rfl w_ml_RX3_63 dX3_reciprocal_11 (by rfl) (Nat.le_of_ble_eq_true rfl) (by decide) (by omega) (fun _ _ _ h _ => False.elim h) (fun r_11 w_11 n_11 h_11 hn_11 => ?_)
  obtain ⟨rfl, ew_11, en_11⟩ := h_11
  rw [ew_11, en_11]
  refine e_iret F rfl (by omega) ?_ dX3_reciprocal_14
  exact ⟨rfl, rfl, hC0, FR.rf⟩
set_option maxHeartbeats 4000000 in
set_option maxRecDepth 100000 in
theorem c_X3_sealOf {K : e_K} {l : Launch} {w : e_W} {n : Nat} {x wh : Nat} {kn : Int} {D : Nat → SD} (hC : CW w x wh kn D) {a : Int} (ha : e_r a) : e_Met K l yX3_sealOf (Cond.code yX3_sealOf cX3_sealOf 2 (Option.some .int) :: e_TB) (3) (0) [.ref x, .int (eI a)] w n (fun r w' n' => r = some (.int (eI (sl wh a))) ∧ n' = n ∧ CW w' x wh (kn) (D) ∧ FR w w' x) (e_px0) := by
  refine e_ofV rfl (Nat.le_of_ble_eq_true rfl) ?_
  intro P9 E9 S9 M9 A9 B9 T9 C9 F hnm
  have hC0 := hC
  have hDA := hC.2.2.2.2.1
  obtain ⟨hX, hF, hwh, ⟨P0, hQ⟩, ⟨ga, hga, hgj⟩, hDs, s0, hS⟩ := hC
  have hp := pr_rg wh hwh
  have ho9 := ho_rg wh hwh
  have hg9 := gr_rg wh hwh
  have hf9 := fl_rg wh hwh
  refine e_aload_n F dX3_sealOf_0 rfl ?_
  refine e_get (ci := 3) (fi := 0) (q := (RX3, TX3, 5)) F (by first | assumption | exact e_up_s | (rw [e_up_n (by first | assumption | omega)]; first | assumption | exact e_up_s | (rw [e_up_n (by first | assumption | omega)]; first | assumption | exact e_up_s | (rw [e_up_n (by first | assumption | omega)]; first | assumption | exact e_up_s))) | exact hD.1 | exact hD1.1 | exact hD2.1 | exact gD.1 | exact gD1.1 | exact gD2.1 | exact gQ.1 | exact hQ.1 | exact gS.1 | exact hS.1 | exact zD.1) rfl (by decide) w_fl_RX3_10 (by rfl) dX3_sealOf_1 ?_
  refine e_iload_n F dX3_sealOf_4 rfl ?_
  refine e_callVN F u_X1_sealFor (by rfl) (c_X1_sealFor hF hwh ha) (by first | assumption | exact e_up_s | (rw [e_up_n (by first | assumption | omega)]; first | assumption | exact e_up_s | (rw [e_up_n (by first | assumption | omega)]; first | assumption | exact e_up_s | (rw [e_up_n (by first | assumption | omega)]; first | assumption | exact e_up_s))) | exact hD.1 | exact hD1.1 | exact hD2.1 | exact gD.1 | exact gD1.1 | exact gD2.1 | exact gQ.1 | exact hQ.1 | exact gS.1 | exact hS.1 | exact zD.1) rfl rfl w_mn_RX3_73 dX3_sealOf_5 (by rfl) (Nat.le_of_ble_eq_true rfl) (by decide) (by omega) (fun _ _ _ h _ => False.elim h) (fun r_5 w_5 n_5 h_5 hn_5 => ?_)
  obtain ⟨rfl, ew_5, en_5⟩ := h_5
  rw [ew_5, en_5]
  refine e_iret F rfl (by omega) ?_ dX3_sealOf_8
  exact ⟨rfl, rfl, hC0, FR.rf⟩
set_option maxHeartbeats 4000000 in
set_option maxRecDepth 100000 in
theorem c_X3_power {K : e_K} {l : Launch} {w : e_W} {n : Nat} {x wh : Nat} {kn : Int} {D : Nat → SD} (hC : CW w x wh kn D) {a : Int} (ha : e_r a) {e : Int} (he : e_r e) : e_Met K l yX3_power (Cond.code yX3_power cX3_power 5 (Option.some .int) :: e_TB) (3) (0) [.ref x, .int (eI a), .int (eI e)] w n (fun r w' n' => r = some (.int (eI (pwV wh a e))) ∧ n' = n ∧ CW w' x wh (kn) (D) ∧ FR w w' x) (e_px0) := by
  refine e_ofV rfl (Nat.le_of_ble_eq_true rfl) ?_
  intro P9 E9 S9 M9 A9 B9 T9 C9 F hnm
  have hC0 := hC
  have hDA := hC.2.2.2.2.1
  obtain ⟨hX, hF, hwh, ⟨P0, hQ⟩, ⟨ga, hga, hgj⟩, hDs, s0, hS⟩ := hC
  have hp := pr_rg wh hwh
  have ho9 := ho_rg wh hwh
  have hg9 := gr_rg wh hwh
  have hf9 := fl_rg wh hwh
  have hm := emod_rg a hwh
  have hq := qv_rg hwh 1 (a % pr wh)
  refine e_aload_n F dX3_power_0 rfl ?_
  refine e_get (ci := 3) (fi := 0) (q := (RX3, TX3, 5)) F (by first | assumption | exact e_up_s | (rw [e_up_n (by first | assumption | omega)]; first | assumption | exact e_up_s | (rw [e_up_n (by first | assumption | omega)]; first | assumption | exact e_up_s | (rw [e_up_n (by first | assumption | omega)]; first | assumption | exact e_up_s))) | exact hD.1 | exact hD1.1 | exact hD2.1 | exact gD.1 | exact gD1.1 | exact gD2.1 | exact gQ.1 | exact hQ.1 | exact gS.1 | exact hS.1 | exact zD.1) rfl (by decide) w_fl_RX3_10 (by rfl) dX3_power_1 ?_
  refine e_iload_n F dX3_power_4 rfl ?_
  refine e_i2l F dX3_power_5 (⟨by omega, by omega⟩) ?_
  refine e_callVN F u_X1_modPrime (by rfl) (c_X1_modPrime hF hwh (v := a) (by constructor <;> omega)) (by first | assumption | exact e_up_s | (rw [e_up_n (by first | assumption | omega)]; first | assumption | exact e_up_s | (rw [e_up_n (by first | assumption | omega)]; first | assumption | exact e_up_s | (rw [e_up_n (by first | assumption | omega)]; first | assumption | exact e_up_s))) | exact hD.1 | exact hD1.1 | exact hD2.1 | exact gD.1 | exact gD1.1 | exact gD2.1 | exact gQ.1 | exact hQ.1 | exact gS.1 | exact hS.1 | exact zD.1) rfl rfl w_mn_RX3_59 dX3_power_6 (by rfl) (Nat.le_of_ble_eq_true rfl) (by decide) (by omega) (fun _ _ _ h _ => False.elim h) (fun r_6 w_6 n_6 h_6 hn_6 => ?_)
  obtain ⟨rfl, ew_6, en_6⟩ := h_6
  rw [ew_6, en_6]
  refine e_istore_n F dX3_power_9 (by decide) ?_
  refine e_iload_n F dX3_power_10 rfl ?_
  refine e_if_lt F 28 dX3_power_11 (by decide) (he) (fun c_11 => ?_) (fun c_11 => ?_)
  · refine e_aload_n F dX3_power_28 rfl ?_
    refine e_iconst F dX3_power_29 ?_
    refine e_iload_n F dX3_power_30 rfl ?_
    refine e_callVV F u_X3_quotient (by rfl) (c_X3_quotient hX hF hwh (a := 1) (b := a % pr wh) (by omega) hm) hX rfl rfl w_ml_RX3_63 dX3_power_31 (by rfl) (Nat.le_of_ble_eq_true rfl) (by decide) (by omega) (fun _ _ _ h _ => False.elim h) (fun r_31 w_31 n_31 h_31 hn_31 => ?_)
    obtain ⟨rfl, ew_31, en_31⟩ := h_31
    rw [ew_31, en_31]
    change e_V _ _ _ _ _ _ _ _ _ _ _ _ _ _ _ _ _ (.int (eI (qv wh 1 (a % pr wh))) :: _) _ _ _
    refine e_istore F dX3_power_34 (by decide) ?_
    refine e_iload F dX3_power_36 rfl ?_
    refine e_bipush F dX3_power_38 (by decide) ?_
    refine e_icmp_ne F 48 dX3_power_40 (by decide) (⟨by omega, by omega⟩) (⟨by omega, by omega⟩) (fun c_40 => ?_) (fun c_40 => ?_)
    · refine e_iload F dX3_power_48 rfl ?_
      refine e_iload_n F dX3_power_50 rfl ?_
      refine e_i2l F dX3_power_51 (⟨by omega, by omega⟩) ?_
      refine e_lneg F dX3_power_52 ?_
      refine e_aload_n F dX3_power_53 rfl ?_
      refine e_get (ci := 3) (fi := 0) (q := (RX3, TX3, 5)) F (by first | assumption | exact e_up_s | (rw [e_up_n (by first | assumption | omega)]; first | assumption | exact e_up_s | (rw [e_up_n (by first | assumption | omega)]; first | assumption | exact e_up_s | (rw [e_up_n (by first | assumption | omega)]; first | assumption | exact e_up_s))) | exact hD.1 | exact hD1.1 | exact hD2.1 | exact gD.1 | exact gD1.1 | exact gD2.1 | exact gQ.1 | exact hQ.1 | exact gS.1 | exact hS.1 | exact zD.1) rfl (by decide) w_fl_RX3_10 (by rfl) dX3_power_54 ?_
      refine e_getN (ci := 1) (fi := 1) (q := (RX1, TX1, 5)) F (by first | assumption | exact e_up_s | (rw [e_up_n (by first | assumption | omega)]; first | assumption | exact e_up_s | (rw [e_up_n (by first | assumption | omega)]; first | assumption | exact e_up_s | (rw [e_up_n (by first | assumption | omega)]; first | assumption | exact e_up_s))) | exact hD.1 | exact hD1.1 | exact hD2.1 | exact gD.1 | exact gD1.1 | exact gD2.1 | exact gQ.1 | exact hQ.1 | exact gS.1 | exact hS.1 | exact zD.1) rfl (by decide) w_fn_RX3_49 (by rfl) dX3_power_57 ?_
      refine e_callSN F u_X1_raise (by rfl) (c_X1_raise (b := qv wh 1 (a % pr wh)) (k := -e) (m := pr wh) (by omega) (by omega) (by omega) (by omega) (by omega) (by omega)) w_mn_RX3_69 dX3_power_60 (by rfl) (Nat.le_of_ble_eq_true rfl) (by decide) (by omega) (fun _ _ _ h _ => False.elim h) (fun r_60 w_60 n_60 h_60 hn_60 => ?_)
      obtain ⟨rfl, ew_60, en_60⟩ := h_60
      rw [ew_60, en_60]
      refine e_iret F rfl (by omega) ?_ dX3_power_63
      refine ⟨?_, rfl, hC0, FR.rf⟩
      unfold pwV
      rw [if_neg (by omega)]
      first | (rw [if_neg (by omega)]; done) | rw [if_pos (by omega)]
    · refine e_bipush F dX3_power_43 (by decide) ?_
      refine e_goto F 63 dX3_power_45 (by decide) ?_
      refine e_iret F rfl (by omega) ?_ dX3_power_63
      refine ⟨?_, rfl, hC0, FR.rf⟩
      unfold pwV
      rw [if_neg (by omega)]
      first | (rw [if_neg (by omega)]; done) | rw [if_pos (by omega)]
  · refine e_iload_n F dX3_power_14 rfl ?_
    refine e_iload_n F dX3_power_15 rfl ?_
    refine e_i2l F dX3_power_16 (⟨by omega, by omega⟩) ?_
    refine e_aload_n F dX3_power_17 rfl ?_
    refine e_get (ci := 3) (fi := 0) (q := (RX3, TX3, 5)) F (by first | assumption | exact e_up_s | (rw [e_up_n (by first | assumption | omega)]; first | assumption | exact e_up_s | (rw [e_up_n (by first | assumption | omega)]; first | assumption | exact e_up_s | (rw [e_up_n (by first | assumption | omega)]; first | assumption | exact e_up_s))) | exact hD.1 | exact hD1.1 | exact hD2.1 | exact gD.1 | exact gD1.1 | exact gD2.1 | exact gQ.1 | exact hQ.1 | exact gS.1 | exact hS.1 | exact zD.1) rfl (by decide) w_fl_RX3_10 (by rfl) dX3_power_18 ?_
    refine e_getN (ci := 1) (fi := 1) (q := (RX1, TX1, 5)) F (by first | assumption | exact e_up_s | (rw [e_up_n (by first | assumption | omega)]; first | assumption | exact e_up_s | (rw [e_up_n (by first | assumption | omega)]; first | assumption | exact e_up_s | (rw [e_up_n (by first | assumption | omega)]; first | assumption | exact e_up_s))) | exact hD.1 | exact hD1.1 | exact hD2.1 | exact gD.1 | exact gD1.1 | exact gD2.1 | exact gQ.1 | exact hQ.1 | exact gS.1 | exact hS.1 | exact zD.1) rfl (by decide) w_fn_RX3_49 (by rfl) dX3_power_21 ?_
    refine e_callSN F u_X1_raise (by rfl) (c_X1_raise (b := a % pr wh) (k := e) (m := pr wh) hm.1 hm.2 (by omega) (by omega) (by omega) (by omega)) w_mn_RX3_69 dX3_power_24 (by rfl) (Nat.le_of_ble_eq_true rfl) (by decide) (by omega) (fun _ _ _ h _ => False.elim h) (fun r_24 w_24 n_24 h_24 hn_24 => ?_)
    obtain ⟨rfl, ew_24, en_24⟩ := h_24
    rw [ew_24, en_24]
    refine e_iret F rfl (by omega) ?_ dX3_power_27
    refine ⟨?_, rfl, hC0, FR.rf⟩
    unfold pwV
    rw [if_pos (by omega)]
set_option maxHeartbeats 4000000 in
set_option maxRecDepth 100000 in
theorem c_X3_reckon {K : e_K} {l : Launch} {w : e_W} {n : Nat} {x wh : Nat} {kn : Int} {D : Nat → SD} (hC : CW w x wh kn D) {a : Int} (ha : e_r a) {b : Int} (hb : e_r b) {c : Int} (hc : e_r c) : e_Met K l yX3_reckon (Cond.code yX3_reckon cX3_reckon 4 (Option.some .int) :: e_TB) (6) (1) [.ref x, .int (eI a), .int (eI b), .int (eI c)] w n (fun r w' n' => (0 ≤ c ∧ c ≤ 3) ∧ r = some (.int (eI (rcV wh a b c))) ∧ n' = n ∧ CW w' x wh (kn) (D) ∧ FR w w' x) (pxd w False (¬ (0 ≤ c ∧ c ≤ 3))) := by
  refine e_ofV rfl (Nat.le_of_ble_eq_true rfl) ?_
  intro P9 E9 S9 M9 A9 B9 T9 C9 F hnm
  have hC0 := hC
  have hDA := hC.2.2.2.2.1
  obtain ⟨hX, hF, hwh, ⟨P0, hQ⟩, ⟨ga, hga, hgj⟩, hDs, s0, hS⟩ := hC
  have hp := pr_rg wh hwh
  have ho9 := ho_rg wh hwh
  have hg9 := gr_rg wh hwh
  have hf9 := fl_rg wh hwh
  have hma := emod_rg a hwh
  have hmb := emod_rg b hwh
  refine e_iload_n F dX3_reckon_0 rfl ?_
  rcases (show c = 0 ∨ c = 1 ∨ c = 2 ∨ c = 3 ∨ (c < 0 ∨ 3 < c) by omega) with rfl | rfl | rfl | rfl | ho
  · refine e_tabIn F 32 dX3_reckon_1 (by decide) (by decide) (by decide) (by rfl) (by decide) ?_
    refine e_aload_n F dX3_reckon_32 rfl ?_
    refine e_get (ci := 3) (fi := 0) (q := (RX3, TX3, 5)) F (by first | assumption | exact e_up_s | (rw [e_up_n (by first | assumption | omega)]; first | assumption | exact e_up_s | (rw [e_up_n (by first | assumption | omega)]; first | assumption | exact e_up_s | (rw [e_up_n (by first | assumption | omega)]; first | assumption | exact e_up_s))) | exact hD.1 | exact hD1.1 | exact hD2.1 | exact gD.1 | exact gD1.1 | exact gD2.1 | exact gQ.1 | exact hQ.1 | exact gS.1 | exact hS.1 | exact zD.1) rfl (by decide) w_fl_RX3_10 (by rfl) dX3_reckon_33 ?_
    refine e_iload_n F dX3_reckon_36 rfl ?_
    refine e_i2l F dX3_reckon_37 (⟨by omega, by omega⟩) ?_
    refine e_iload_n F dX3_reckon_38 rfl ?_
    refine e_i2l F dX3_reckon_39 (⟨by omega, by omega⟩) ?_
    refine e_ladd F dX3_reckon_40 ?_
    refine e_callVN F u_X1_modPrime (by rfl) (c_X1_modPrime hF hwh (by constructor <;> omega)) (by first | assumption | exact e_up_s | (rw [e_up_n (by first | assumption | omega)]; first | assumption | exact e_up_s | (rw [e_up_n (by first | assumption | omega)]; first | assumption | exact e_up_s | (rw [e_up_n (by first | assumption | omega)]; first | assumption | exact e_up_s))) | exact hD.1 | exact hD1.1 | exact hD2.1 | exact gD.1 | exact gD1.1 | exact gD2.1 | exact gQ.1 | exact hQ.1 | exact gS.1 | exact hS.1 | exact zD.1) rfl rfl w_mn_RX3_59 dX3_reckon_41 (by rfl) (Nat.le_of_ble_eq_true rfl) (by decide) (by omega) (fun _ _ _ h _ => False.elim h) (fun r_41 w_41 n_41 h_41 hn_41 => ?_)
    obtain ⟨rfl, ew_41, en_41⟩ := h_41
    rw [ew_41, en_41]
    refine e_iret F rfl (by omega) ?_ dX3_reckon_44
    exact ⟨by decide, rfl, rfl, hC0, FR.rf⟩
  · refine e_tabIn F 45 dX3_reckon_1 (by decide) (by decide) (by decide) (by rfl) (by decide) ?_
    refine e_aload_n F dX3_reckon_45 rfl ?_
    refine e_get (ci := 3) (fi := 0) (q := (RX3, TX3, 5)) F (by first | assumption | exact e_up_s | (rw [e_up_n (by first | assumption | omega)]; first | assumption | exact e_up_s | (rw [e_up_n (by first | assumption | omega)]; first | assumption | exact e_up_s | (rw [e_up_n (by first | assumption | omega)]; first | assumption | exact e_up_s))) | exact hD.1 | exact hD1.1 | exact hD2.1 | exact gD.1 | exact gD1.1 | exact gD2.1 | exact gQ.1 | exact hQ.1 | exact gS.1 | exact hS.1 | exact zD.1) rfl (by decide) w_fl_RX3_10 (by rfl) dX3_reckon_46 ?_
    refine e_iload_n F dX3_reckon_49 rfl ?_
    refine e_i2l F dX3_reckon_50 (⟨by omega, by omega⟩) ?_
    refine e_iload_n F dX3_reckon_51 rfl ?_
    refine e_i2l F dX3_reckon_52 (⟨by omega, by omega⟩) ?_
    refine e_lsub F dX3_reckon_53 ?_
    refine e_callVN F u_X1_modPrime (by rfl) (c_X1_modPrime hF hwh (by constructor <;> omega)) (by first | assumption | exact e_up_s | (rw [e_up_n (by first | assumption | omega)]; first | assumption | exact e_up_s | (rw [e_up_n (by first | assumption | omega)]; first | assumption | exact e_up_s | (rw [e_up_n (by first | assumption | omega)]; first | assumption | exact e_up_s))) | exact hD.1 | exact hD1.1 | exact hD2.1 | exact gD.1 | exact gD1.1 | exact gD2.1 | exact gQ.1 | exact hQ.1 | exact gS.1 | exact hS.1 | exact zD.1) rfl rfl w_mn_RX3_59 dX3_reckon_54 (by rfl) (Nat.le_of_ble_eq_true rfl) (by decide) (by omega) (fun _ _ _ h _ => False.elim h) (fun r_54 w_54 n_54 h_54 hn_54 => ?_)
    obtain ⟨rfl, ew_54, en_54⟩ := h_54
    rw [ew_54, en_54]
    refine e_iret F rfl (by omega) ?_ dX3_reckon_57
    exact ⟨by decide, rfl, rfl, hC0, FR.rf⟩
  · refine e_tabIn F 58 dX3_reckon_1 (by decide) (by decide) (by decide) (by rfl) (by decide) ?_
    refine e_aload_n F dX3_reckon_58 rfl ?_
    refine e_get (ci := 3) (fi := 0) (q := (RX3, TX3, 5)) F (by first | assumption | exact e_up_s | (rw [e_up_n (by first | assumption | omega)]; first | assumption | exact e_up_s | (rw [e_up_n (by first | assumption | omega)]; first | assumption | exact e_up_s | (rw [e_up_n (by first | assumption | omega)]; first | assumption | exact e_up_s))) | exact hD.1 | exact hD1.1 | exact hD2.1 | exact gD.1 | exact gD1.1 | exact gD2.1 | exact gQ.1 | exact hQ.1 | exact gS.1 | exact hS.1 | exact zD.1) rfl (by decide) w_fl_RX3_10 (by rfl) dX3_reckon_59 ?_
    refine e_iload_n F dX3_reckon_62 rfl ?_
    refine e_i2l F dX3_reckon_63 (⟨by omega, by omega⟩) ?_
    refine e_iload_n F dX3_reckon_64 rfl ?_
    refine e_i2l F dX3_reckon_65 (⟨by omega, by omega⟩) ?_
    refine e_lmul F dX3_reckon_66 ?_
    refine e_callVN F u_X1_modPrime (by rfl) (c_X1_modPrime hF hwh (mulI_rg ha hb)) (by first | assumption | exact e_up_s | (rw [e_up_n (by first | assumption | omega)]; first | assumption | exact e_up_s | (rw [e_up_n (by first | assumption | omega)]; first | assumption | exact e_up_s | (rw [e_up_n (by first | assumption | omega)]; first | assumption | exact e_up_s))) | exact hD.1 | exact hD1.1 | exact hD2.1 | exact gD.1 | exact gD1.1 | exact gD2.1 | exact gQ.1 | exact hQ.1 | exact gS.1 | exact hS.1 | exact zD.1) rfl rfl w_mn_RX3_59 dX3_reckon_67 (by rfl) (Nat.le_of_ble_eq_true rfl) (by decide) (by omega) (fun _ _ _ h _ => False.elim h) (fun r_67 w_67 n_67 h_67 hn_67 => ?_)
    obtain ⟨rfl, ew_67, en_67⟩ := h_67
    rw [ew_67, en_67]
    refine e_iret F rfl (by omega) ?_ dX3_reckon_70
    exact ⟨by decide, rfl, rfl, hC0, FR.rf⟩
  · refine e_tabIn F 71 dX3_reckon_1 (by decide) (by decide) (by decide) (by rfl) (by decide) ?_
    refine e_aload_n F dX3_reckon_71 rfl ?_
    refine e_aload_n F dX3_reckon_72 rfl ?_
    refine e_get (ci := 3) (fi := 0) (q := (RX3, TX3, 5)) F (by first | assumption | exact e_up_s | (rw [e_up_n (by first | assumption | omega)]; first | assumption | exact e_up_s | (rw [e_up_n (by first | assumption | omega)]; first | assumption | exact e_up_s | (rw [e_up_n (by first | assumption | omega)]; first | assumption | exact e_up_s))) | exact hD.1 | exact hD1.1 | exact hD2.1 | exact gD.1 | exact gD1.1 | exact gD2.1 | exact gQ.1 | exact hQ.1 | exact gS.1 | exact hS.1 | exact zD.1) rfl (by decide) w_fl_RX3_10 (by rfl) dX3_reckon_73 ?_
    refine e_iload_n F dX3_reckon_76 rfl ?_
    refine e_i2l F dX3_reckon_77 (⟨by omega, by omega⟩) ?_
    refine e_callVN F u_X1_modPrime (by rfl) (c_X1_modPrime hF hwh (v := a) (by constructor <;> omega)) (by first | assumption | exact e_up_s | (rw [e_up_n (by first | assumption | omega)]; first | assumption | exact e_up_s | (rw [e_up_n (by first | assumption | omega)]; first | assumption | exact e_up_s | (rw [e_up_n (by first | assumption | omega)]; first | assumption | exact e_up_s))) | exact hD.1 | exact hD1.1 | exact hD2.1 | exact gD.1 | exact gD1.1 | exact gD2.1 | exact gQ.1 | exact hQ.1 | exact gS.1 | exact hS.1 | exact zD.1) rfl rfl w_mn_RX3_59 dX3_reckon_78 (by rfl) (Nat.le_of_ble_eq_true rfl) (by decide) (by omega) (fun _ _ _ h _ => False.elim h) (fun r_78 w_78 n_78 h_78 hn_78 => ?_)
    obtain ⟨rfl, ew_78, en_78⟩ := h_78
    rw [ew_78, en_78]
    refine e_aload_n F dX3_reckon_81 rfl ?_
    refine e_get (ci := 3) (fi := 0) (q := (RX3, TX3, 5)) F (by first | assumption | exact e_up_s | (rw [e_up_n (by first | assumption | omega)]; first | assumption | exact e_up_s | (rw [e_up_n (by first | assumption | omega)]; first | assumption | exact e_up_s | (rw [e_up_n (by first | assumption | omega)]; first | assumption | exact e_up_s))) | exact hD.1 | exact hD1.1 | exact hD2.1 | exact gD.1 | exact gD1.1 | exact gD2.1 | exact gQ.1 | exact hQ.1 | exact gS.1 | exact hS.1 | exact zD.1) rfl (by decide) w_fl_RX3_10 (by rfl) dX3_reckon_82 ?_
    refine e_iload_n F dX3_reckon_85 rfl ?_
    refine e_i2l F dX3_reckon_86 (⟨by omega, by omega⟩) ?_
    refine e_callVN F u_X1_modPrime (by rfl) (c_X1_modPrime hF hwh (v := b) (by constructor <;> omega)) (by first | assumption | exact e_up_s | (rw [e_up_n (by first | assumption | omega)]; first | assumption | exact e_up_s | (rw [e_up_n (by first | assumption | omega)]; first | assumption | exact e_up_s | (rw [e_up_n (by first | assumption | omega)]; first | assumption | exact e_up_s))) | exact hD.1 | exact hD1.1 | exact hD2.1 | exact gD.1 | exact gD1.1 | exact gD2.1 | exact gQ.1 | exact hQ.1 | exact gS.1 | exact hS.1 | exact zD.1) rfl rfl w_mn_RX3_59 dX3_reckon_87 (by rfl) (Nat.le_of_ble_eq_true rfl) (by decide) (by omega) (fun _ _ _ h _ => False.elim h) (fun r_87 w_87 n_87 h_87 hn_87 => ?_)
    obtain ⟨rfl, ew_87, en_87⟩ := h_87
    rw [ew_87, en_87]
    refine e_callVV F u_X3_quotient (by rfl) (c_X3_quotient hX hF hwh (a := a % pr wh) (b := b % pr wh) hma hmb) hX rfl rfl w_ml_RX3_63 dX3_reckon_90 (by rfl) (Nat.le_of_ble_eq_true rfl) (by decide) (by omega) (fun _ _ _ h _ => False.elim h) (fun r_90 w_90 n_90 h_90 hn_90 => ?_)
    obtain ⟨rfl, ew_90, en_90⟩ := h_90
    rw [ew_90, en_90]
    refine e_iret F rfl (by omega) ?_ dX3_reckon_93
    exact ⟨by decide, rfl, rfl, hC0, FR.rf⟩
  · refine e_tabOut F 94 dX3_reckon_1 hc ho (by decide) ?_
    exact e_throwS (text := "how is not 0 to 3") F (by decide +kernel) w_cl_RX3_42 w_in_java_lang_IllegalArgumentException (by decide +kernel) hat_ia hgood_ia dX3_reckon_94 dX3_reckon_97 dX3_reckon_98 dX3_reckon_100 dX3_reckon_103 (Nat.le_of_ble_eq_true rfl) (by decide) (by omega) (fun n2 hn2 => ⟨Or.inr ⟨rfl, by omega⟩, rfl⟩)
set_option maxHeartbeats 4000000 in
set_option maxRecDepth 100000 in
theorem c_X3_weights {K : e_K} {l : Launch} {w : e_W} {n : Nat} {x wh : Nat} {kn : Int} {D : Nat → SD} (hC : CW w x wh kn D) {a : Int} (ha : e_r a) {c : Int} (hc : e_r c) : e_Met K l yX3_weights (Cond.code yX3_weights cX3_weights 3 (Option.some .int) :: e_TB) (7) (1) [.ref x, .int (eI a), .int (eI c)] w n (fun r w' n' => (1 ≤ a ∧ a ≤ fl wh) ∧ r = some (.int (eI (tl wh a (fun _ => 1) c))) ∧ n' = n ∧ CW w' x wh (kn) (D) ∧ FR w w' x) (pxd w False (¬ (1 ≤ a ∧ a ≤ fl wh))) := by
  refine e_ofV rfl (Nat.le_of_ble_eq_true rfl) ?_
  intro P9 E9 S9 M9 A9 B9 T9 C9 F hnm
  have hC0 := hC
  have hDA := hC.2.2.2.2.1
  obtain ⟨hX, hF, hwh, ⟨P0, hQ⟩, ⟨ga, hga, hgj⟩, hDs, s0, hS⟩ := hC
  have hp := pr_rg wh hwh
  have ho9 := ho_rg wh hwh
  have hg9 := gr_rg wh hwh
  have hf9 := fl_rg wh hwh
  refine e_aload_n F dX3_weights_0 rfl ?_
  refine e_iload_n F dX3_weights_1 rfl ?_
  refine e_callVV F u_X3_requireSet (by rfl) (c_X3_requireSet hX hF hwh (s9 := a) ha) hX rfl rfl w_ml_RX3_80 dX3_weights_2 (by rfl) (Nat.le_of_ble_eq_true rfl) (by decide) (by omega) (fun E w2 n2 h _ => ⟨Or.inr ⟨h.1, by have q := h.2.1; omega⟩, h.2.2⟩) (fun r_2 w_2 n_2 h_2 hn_2 => ?_)
  obtain ⟨hrs, rfl, ew_2, en_2⟩ := h_2
  rw [ew_2, en_2]
  refine e_aload_n F dX3_weights_5 rfl ?_
  refine e_iload_n F dX3_weights_6 rfl ?_
  refine e_iload_n F dX3_weights_7 rfl ?_
  refine e_callVV F u_X3_weightSum (by rfl) (c_X3_weightSum hX hF hwh (set := a) (pl := c) (by omega) (by omega) hc) hX rfl rfl w_ml_RX3_91 dX3_weights_8 (by rfl) (Nat.le_of_ble_eq_true rfl) (by decide) (by omega) (fun _ _ _ h _ => False.elim h) (fun r_8 w_8 n_8 h_8 hn_8 => ?_)
  obtain ⟨rfl, ew_8, en_8⟩ := h_8
  rw [ew_8, en_8]
  refine e_iret F rfl (by omega) ?_ dX3_weights_11
  exact ⟨hrs, rfl, rfl, hC0, FR.rf⟩
set_option maxHeartbeats 4000000 in
set_option maxRecDepth 100000 in
theorem c_X3_share {K : e_K} {l : Launch} {w : e_W} {n : Nat} {x wh : Nat} {kn : Int} {D : Nat → SD} (hC : CW w x wh kn D) {i : Int} (hi : e_r i) {h : Int} (hh : e_r h) : e_Met K l yX3_share (Cond.code yX3_share cX3_share 4 (Option.some .int) :: e_TB) (7) (2) [.ref x, .int (eI i), .int (eI h)] w n (fun r w' n' => ((0 ≤ i ∧ i < 6) ∧ (1 ≤ h ∧ h ≤ ho wh)) ∧ r = some (.int (eI ((D i.toNat).A h))) ∧ n' = n ∧ CW w' x wh (kn) (D) ∧ FR w w' x) (pxd w (¬ ((0 ≤ i ∧ i < 6) ∧ (1 ≤ h ∧ h ≤ ho wh))) False) := by
  refine e_ofV rfl (Nat.le_of_ble_eq_true rfl) ?_
  intro P9 E9 S9 M9 A9 B9 T9 C9 F hnm
  have hC0 := hC
  have hDA := hC.2.2.2.2.1
  obtain ⟨hX, hF, hwh, ⟨P0, hQ⟩, ⟨ga, hga, hgj⟩, hDs, s0, hS⟩ := hC
  have hp := pr_rg wh hwh
  have ho9 := ho_rg wh hwh
  have hg9 := gr_rg wh hwh
  have hf9 := fl_rg wh hwh
  refine e_aload_n F dX3_share_0 rfl ?_
  refine e_iload_n F dX3_share_1 rfl ?_
  refine e_callVV F u_X3_dealAt (by rfl) (c_X3_dealAt hX hDA (i := i) hi) hX rfl rfl w_ml_RX3_94 dX3_share_2 (by rfl) (Nat.le_of_ble_eq_true rfl) (by decide) (by omega) (fun E w2 n2 h _ => ⟨Or.inl ⟨h.1, by have q := h.2.1; omega⟩, h.2.2⟩) (fun r_2 w_2 n_2 h_2 hn_2 => ?_)
  obtain ⟨hi1, rfl, ew_2, en_2⟩ := h_2
  rw [ew_2, en_2]
  obtain ⟨hD1, hW1⟩ := hDs i.toNat (by omega)
  refine e_astore_n F dX3_share_5 (by decide) ?_
  refine e_aload_n F dX3_share_6 rfl ?_
  refine e_iload_n F dX3_share_7 rfl ?_
  refine e_callVV F u_X3_requireHolder (by rfl) (c_X3_requireHolder hX hF hwh (h := h) hh) hX rfl rfl w_ml_RX3_77 dX3_share_8 (by rfl) (Nat.le_of_ble_eq_true rfl) (by decide) (by omega) (fun E w2 n2 h _ => ⟨Or.inl ⟨h.1, by have q := h.2.1; omega⟩, h.2.2⟩) (fun r_8 w_8 n_8 h_8 hn_8 => ?_)
  obtain ⟨hrh, rfl, ew_8, en_8⟩ := h_8
  rw [ew_8, en_8]
  refine e_aload_n F dX3_share_11 rfl ?_
  refine e_iload_n F dX3_share_12 rfl ?_
  refine e_callVN F u_X0_shareAt (by rfl) (c_X0_shareAt hD1 (h := h) (by omega) (by omega)) (by first | assumption | exact e_up_s | (rw [e_up_n (by first | assumption | omega)]; first | assumption | exact e_up_s | (rw [e_up_n (by first | assumption | omega)]; first | assumption | exact e_up_s | (rw [e_up_n (by first | assumption | omega)]; first | assumption | exact e_up_s))) | exact hD.1 | exact hD1.1 | exact hD2.1 | exact gD.1 | exact gD1.1 | exact gD2.1 | exact gQ.1 | exact hQ.1 | exact gS.1 | exact hS.1 | exact zD.1) rfl rfl w_mn_RX3_123 dX3_share_13 (by rfl) (Nat.le_of_ble_eq_true rfl) (by decide) (by omega) (fun _ _ _ h _ => False.elim h) (fun r_13 w_13 n_13 h_13 hn_13 => ?_)
  obtain ⟨rfl, ew_13, en_13⟩ := h_13
  rw [ew_13, en_13]
  refine e_iret F rfl (by omega) ?_ dX3_share_16
  exact ⟨⟨hi1, hrh⟩, rfl, rfl, hC0, FR.rf⟩
set_option maxHeartbeats 4000000 in
set_option maxRecDepth 100000 in
theorem c_X3_told {K : e_K} {l : Launch} {w : e_W} {n : Nat} {x wh : Nat} {kn : Int} {D : Nat → SD} (hC : CW w x wh kn D) {i : Int} (hi : e_r i) {a : Int} (ha : e_r a) {c : Int} (hc : e_r c) : e_Met K l yX3_told (Cond.code yX3_told cX3_told 5 (Option.some .int) :: e_TB) (7) (2) [.ref x, .int (eI i), .int (eI a), .int (eI c)] w n (fun r w' n' => ((0 ≤ i ∧ i < 6) ∧ (1 ≤ a ∧ a ≤ fl wh)) ∧ r = some (.int (eI (if (D i.toNat).fl = 1 ∧ thr (D i.toNat).A a then tl wh a (D i.toNat).A c else -9))) ∧ n' = n ∧ CW w' x wh (kn) (D) ∧ FR w w' x) (pxd w (¬ (0 ≤ i ∧ i < 6)) ((0 ≤ i ∧ i < 6) ∧ ¬ (1 ≤ a ∧ a ≤ fl wh))) := by
  refine e_ofV rfl (Nat.le_of_ble_eq_true rfl) ?_
  intro P9 E9 S9 M9 A9 B9 T9 C9 F hnm
  have hC0 := hC
  have hDA := hC.2.2.2.2.1
  obtain ⟨hX, hF, hwh, ⟨P0, hQ⟩, ⟨ga, hga, hgj⟩, hDs, s0, hS⟩ := hC
  have hp := pr_rg wh hwh
  have ho9 := ho_rg wh hwh
  have hg9 := gr_rg wh hwh
  have hf9 := fl_rg wh hwh
  refine e_aload_n F dX3_told_0 rfl ?_
  refine e_iload_n F dX3_told_1 rfl ?_
  refine e_callVV F u_X3_dealAt (by rfl) (c_X3_dealAt hX hDA (i := i) hi) hX rfl rfl w_ml_RX3_94 dX3_told_2 (by rfl) (Nat.le_of_ble_eq_true rfl) (by decide) (by omega) (fun E w2 n2 h _ => ⟨Or.inl ⟨h.1, by have q := h.2.1; omega⟩, h.2.2⟩) (fun r_2 w_2 n_2 h_2 hn_2 => ?_)
  obtain ⟨hi1, rfl, ew_2, en_2⟩ := h_2
  rw [ew_2, en_2]
  obtain ⟨hD1, hW1⟩ := hDs i.toNat (by omega)
  refine e_astore F dX3_told_5 (by decide) ?_
  refine e_aload_n F dX3_told_7 rfl ?_
  refine e_iload_n F dX3_told_8 rfl ?_
  refine e_callVV F u_X3_requireSet (by rfl) (c_X3_requireSet hX hF hwh (s9 := a) ha) hX rfl rfl w_ml_RX3_80 dX3_told_9 (by rfl) (Nat.le_of_ble_eq_true rfl) (by decide) (by omega) (fun E w2 n2 h _ => ⟨Or.inr ⟨h.1, by have q := h.2.1; omega⟩, h.2.2⟩) (fun r_9 w_9 n_9 h_9 hn_9 => ?_)
  obtain ⟨hrs, rfl, ew_9, en_9⟩ := h_9
  rw [ew_9, en_9]
  refine e_aload F dX3_told_12 rfl ?_
  refine e_iload_n F dX3_told_14 rfl ?_
  refine e_callVN F u_X0_isThere (by rfl) (c_X0_isThere hD1 (set := a) (by omega) (by omega)) (by first | assumption | exact e_up_s | (rw [e_up_n (by first | assumption | omega)]; first | assumption | exact e_up_s | (rw [e_up_n (by first | assumption | omega)]; first | assumption | exact e_up_s | (rw [e_up_n (by first | assumption | omega)]; first | assumption | exact e_up_s))) | exact hD.1 | exact hD1.1 | exact hD2.1 | exact gD.1 | exact gD1.1 | exact gD2.1 | exact gQ.1 | exact hQ.1 | exact gS.1 | exact hS.1 | exact zD.1) rfl rfl w_mn_RX3_207 dX3_told_15 (by rfl) (Nat.le_of_ble_eq_true rfl) (by decide) (by omega) (fun _ _ _ h _ => False.elim h) (fun r_15 w_15 n_15 h_15 hn_15 => ?_)
  obtain ⟨rfl, ew_15, en_15⟩ := h_15
  rw [ew_15, en_15]
  refine e_if_eq F 32 dX3_told_18 (by decide) (b01_r _) (fun c_18 => ?_) (fun c_18 => ?_)
  ·
    rw [b01_0] at c_18
    refine e_bipush F dX3_told_32 (by decide) ?_
    refine e_iret F rfl (by omega) ?_ dX3_told_34
    refine ⟨⟨hi1, hrs⟩, ?_, rfl, hC0, FR.rf⟩
    first | rw [if_neg c_18] | rw [if_pos c_18]
  ·
    rw [b01_0, Classical.not_not] at c_18
    refine e_aload_n F dX3_told_21 rfl ?_
    refine e_aload F dX3_told_22 rfl ?_
    refine e_iload_n F dX3_told_24 rfl ?_
    refine e_iload_n F dX3_told_25 rfl ?_
    refine e_callVV F u_X3_tell (by rfl) (c_X3_tell hX hF hwh hD1 (set := a) (pl := c) (by omega) (by omega) hc) hX rfl rfl w_ml_RX3_178 dX3_told_26 (by rfl) (Nat.le_of_ble_eq_true rfl) (by decide) (by omega) (fun _ _ _ h _ => False.elim h) (fun r_26 w_26 n_26 h_26 hn_26 => ?_)
    obtain ⟨rfl, ew_26, en_26⟩ := h_26
    rw [ew_26, en_26]
    refine e_goto F 34 dX3_told_29 (by decide) ?_
    refine e_iret F rfl (by omega) ?_ dX3_told_34
    refine ⟨⟨hi1, hrs⟩, ?_, rfl, hC0, FR.rf⟩
    first | rw [if_neg c_18] | rw [if_pos c_18]
set_option maxHeartbeats 4000000 in
set_option maxRecDepth 100000 in
theorem c_X3_open {K : e_K} {l : Launch} {w : e_W} {n : Nat} {x wh : Nat} {kn : Int} {D : Nat → SD} (hC : CW w x wh kn D) {i : Int} (hi : e_r i) {a : Int} (ha : e_r a) : e_Met K l yX3_open (Cond.code yX3_open cX3_open 4 (Option.some .int) :: e_TB) (7) (2) [.ref x, .int (eI i), .int (eI a)] w n (fun r w' n' => ((0 ≤ i ∧ i < 6) ∧ (1 ≤ a ∧ a ≤ fl wh)) ∧ r = some (.int (eI (if ((D i.toNat).fl = 1 ∧ thr (D i.toNat).A a) ∧ (D i.toNat).dg < bc a then tl wh a (D i.toNat).A 0 else -9))) ∧ n' = n ∧ CW w' x wh (kn) (D) ∧ FR w w' x) (pxd w (¬ (0 ≤ i ∧ i < 6)) ((0 ≤ i ∧ i < 6) ∧ ¬ (1 ≤ a ∧ a ≤ fl wh))) := by
  refine e_ofV rfl (Nat.le_of_ble_eq_true rfl) ?_
  intro P9 E9 S9 M9 A9 B9 T9 C9 F hnm
  have hC0 := hC
  have hDA := hC.2.2.2.2.1
  obtain ⟨hX, hF, hwh, ⟨P0, hQ⟩, ⟨ga, hga, hgj⟩, hDs, s0, hS⟩ := hC
  have hp := pr_rg wh hwh
  have ho9 := ho_rg wh hwh
  have hg9 := gr_rg wh hwh
  have hf9 := fl_rg wh hwh
  refine e_aload_n F dX3_open_0 rfl ?_
  refine e_iload_n F dX3_open_1 rfl ?_
  refine e_callVV F u_X3_dealAt (by rfl) (c_X3_dealAt hX hDA (i := i) hi) hX rfl rfl w_ml_RX3_94 dX3_open_2 (by rfl) (Nat.le_of_ble_eq_true rfl) (by decide) (by omega) (fun E w2 n2 h _ => ⟨Or.inl ⟨h.1, by have q := h.2.1; omega⟩, h.2.2⟩) (fun r_2 w_2 n_2 h_2 hn_2 => ?_)
  obtain ⟨hi1, rfl, ew_2, en_2⟩ := h_2
  rw [ew_2, en_2]
  obtain ⟨hD1, hW1⟩ := hDs i.toNat (by omega)
  refine e_astore_n F dX3_open_5 (by decide) ?_
  refine e_aload_n F dX3_open_6 rfl ?_
  refine e_iload_n F dX3_open_7 rfl ?_
  refine e_callVV F u_X3_requireSet (by rfl) (c_X3_requireSet hX hF hwh (s9 := a) ha) hX rfl rfl w_ml_RX3_80 dX3_open_8 (by rfl) (Nat.le_of_ble_eq_true rfl) (by decide) (by omega) (fun E w2 n2 h _ => ⟨Or.inr ⟨h.1, by have q := h.2.1; omega⟩, h.2.2⟩) (fun r_8 w_8 n_8 h_8 hn_8 => ?_)
  obtain ⟨hrs, rfl, ew_8, en_8⟩ := h_8
  rw [ew_8, en_8]
  refine e_aload_n F dX3_open_11 rfl ?_
  refine e_iload_n F dX3_open_12 rfl ?_
  refine e_callVN F u_X0_isEnough (by rfl) (c_X0_isEnough hD1 (set := a) (by omega) (by omega)) (by first | assumption | exact e_up_s | (rw [e_up_n (by first | assumption | omega)]; first | assumption | exact e_up_s | (rw [e_up_n (by first | assumption | omega)]; first | assumption | exact e_up_s | (rw [e_up_n (by first | assumption | omega)]; first | assumption | exact e_up_s))) | exact hD.1 | exact hD1.1 | exact hD2.1 | exact gD.1 | exact gD1.1 | exact gD2.1 | exact gQ.1 | exact hQ.1 | exact gS.1 | exact hS.1 | exact zD.1) rfl rfl w_mn_RX3_170 dX3_open_13 (by rfl) (Nat.le_of_ble_eq_true rfl) (by decide) (by omega) (fun _ _ _ h _ => False.elim h) (fun r_13 w_13 n_13 h_13 hn_13 => ?_)
  obtain ⟨rfl, ew_13, en_13⟩ := h_13
  rw [ew_13, en_13]
  refine e_if_eq F 29 dX3_open_16 (by decide) (b01_r _) (fun c_16 => ?_) (fun c_16 => ?_)
  ·
    rw [b01_0] at c_16
    refine e_bipush F dX3_open_29 (by decide) ?_
    refine e_iret F rfl (by omega) ?_ dX3_open_31
    refine ⟨⟨hi1, hrs⟩, ?_, rfl, hC0, FR.rf⟩
    first | rw [if_neg c_16] | rw [if_pos c_16]
  ·
    rw [b01_0, Classical.not_not] at c_16
    refine e_aload_n F dX3_open_19 rfl ?_
    refine e_aload_n F dX3_open_20 rfl ?_
    refine e_iload_n F dX3_open_21 rfl ?_
    refine e_iconst F dX3_open_22 ?_
    refine e_callVV F u_X3_tell (by rfl) (c_X3_tell hX hF hwh hD1 (set := a) (pl := 0) (by omega) (by omega) (by decide)) hX rfl rfl w_ml_RX3_178 dX3_open_23 (by rfl) (Nat.le_of_ble_eq_true rfl) (by decide) (by omega) (fun _ _ _ h _ => False.elim h) (fun r_23 w_23 n_23 h_23 hn_23 => ?_)
    obtain ⟨rfl, ew_23, en_23⟩ := h_23
    rw [ew_23, en_23]
    refine e_goto F 31 dX3_open_26 (by decide) ?_
    refine e_iret F rfl (by omega) ?_ dX3_open_31
    refine ⟨⟨hi1, hrs⟩, ?_, rfl, hC0, FR.rf⟩
    first | rw [if_neg c_16] | rw [if_pos c_16]
set_option maxHeartbeats 4000000 in
set_option maxRecDepth 100000 in
theorem c_X3_degreeBy {K : e_K} {l : Launch} {w : e_W} {n : Nat} {x wh : Nat} {kn : Int} {D : Nat → SD} (hC : CW w x wh kn D) {i : Int} (hi : e_r i) {a : Int} (ha : e_r a) : e_Met K l yX3_degreeBy (Cond.code yX3_degreeBy cX3_degreeBy 4 (Option.some .int) :: e_TB) (7) (2) [.ref x, .int (eI i), .int (eI a)] w n (fun r w' n' => ((0 ≤ i ∧ i < 6) ∧ (1 ≤ a ∧ a ≤ fl wh)) ∧ r = some (.int (eI (if (D i.toNat).fl = 1 ∧ thr (D i.toNat).A a then hiK (gt wh a (D i.toNat).A (ho wh).toNat) 7 else -9))) ∧ n' = n ∧ CW w' x wh (kn) (D) ∧ FR w w' x) (pxd w (¬ (0 ≤ i ∧ i < 6)) ((0 ≤ i ∧ i < 6) ∧ ¬ (1 ≤ a ∧ a ≤ fl wh))) := by
  refine e_ofV rfl (Nat.le_of_ble_eq_true rfl) ?_
  intro P9 E9 S9 M9 A9 B9 T9 C9 F hnm
  have hC0 := hC
  have hDA := hC.2.2.2.2.1
  obtain ⟨hX, hF, hwh, ⟨P0, hQ⟩, ⟨ga, hga, hgj⟩, hDs, s0, hS⟩ := hC
  have hp := pr_rg wh hwh
  have ho9 := ho_rg wh hwh
  have hg9 := gr_rg wh hwh
  have hf9 := fl_rg wh hwh
  refine e_aload_n F dX3_degreeBy_0 rfl ?_
  refine e_iload_n F dX3_degreeBy_1 rfl ?_
  refine e_callVV F u_X3_dealAt (by rfl) (c_X3_dealAt hX hDA (i := i) hi) hX rfl rfl w_ml_RX3_94 dX3_degreeBy_2 (by rfl) (Nat.le_of_ble_eq_true rfl) (by decide) (by omega) (fun E w2 n2 h _ => ⟨Or.inl ⟨h.1, by have q := h.2.1; omega⟩, h.2.2⟩) (fun r_2 w_2 n_2 h_2 hn_2 => ?_)
  obtain ⟨hi1, rfl, ew_2, en_2⟩ := h_2
  rw [ew_2, en_2]
  obtain ⟨hD1, hW1⟩ := hDs i.toNat (by omega)
  refine e_astore_n F dX3_degreeBy_5 (by decide) ?_
  refine e_aload_n F dX3_degreeBy_6 rfl ?_
  refine e_iload_n F dX3_degreeBy_7 rfl ?_
  refine e_callVV F u_X3_requireSet (by rfl) (c_X3_requireSet hX hF hwh (s9 := a) ha) hX rfl rfl w_ml_RX3_80 dX3_degreeBy_8 (by rfl) (Nat.le_of_ble_eq_true rfl) (by decide) (by omega) (fun E w2 n2 h _ => ⟨Or.inr ⟨h.1, by have q := h.2.1; omega⟩, h.2.2⟩) (fun r_8 w_8 n_8 h_8 hn_8 => ?_)
  obtain ⟨hrs, rfl, ew_8, en_8⟩ := h_8
  rw [ew_8, en_8]
  refine e_aload_n F dX3_degreeBy_11 rfl ?_
  refine e_iload_n F dX3_degreeBy_12 rfl ?_
  refine e_callVN F u_X0_isThere (by rfl) (c_X0_isThere hD1 (set := a) (by omega) (by omega)) (by first | assumption | exact e_up_s | (rw [e_up_n (by first | assumption | omega)]; first | assumption | exact e_up_s | (rw [e_up_n (by first | assumption | omega)]; first | assumption | exact e_up_s | (rw [e_up_n (by first | assumption | omega)]; first | assumption | exact e_up_s))) | exact hD.1 | exact hD1.1 | exact hD2.1 | exact gD.1 | exact gD1.1 | exact gD2.1 | exact gQ.1 | exact hQ.1 | exact gS.1 | exact hS.1 | exact zD.1) rfl rfl w_mn_RX3_207 dX3_degreeBy_13 (by rfl) (Nat.le_of_ble_eq_true rfl) (by decide) (by omega) (fun _ _ _ h _ => False.elim h) (fun r_13 w_13 n_13 h_13 hn_13 => ?_)
  obtain ⟨rfl, ew_13, en_13⟩ := h_13
  rw [ew_13, en_13]
  refine e_if_ne F 22 dX3_degreeBy_16 (by decide) (b01_r _) (fun c_16 => ?_) (fun c_16 => ?_)
  ·
    rw [ne_eq, b01_0, Classical.not_not] at c_16
    refine e_aload_n F dX3_degreeBy_22 rfl ?_
    refine e_get (ci := 3) (fi := 1) (q := (RX3, TX3, 5)) F (by first | assumption | exact e_up_s | (rw [e_up_n (by first | assumption | omega)]; first | assumption | exact e_up_s | (rw [e_up_n (by first | assumption | omega)]; first | assumption | exact e_up_s | (rw [e_up_n (by first | assumption | omega)]; first | assumption | exact e_up_s))) | exact hD.1 | exact hD1.1 | exact hD2.1 | exact gD.1 | exact gD1.1 | exact gD2.1 | exact gQ.1 | exact hQ.1 | exact gS.1 | exact hS.1 | exact zD.1) rfl (by decide) w_fl_RX3_19 (by rfl) dX3_degreeBy_23 ?_
    refine e_aload_n F dX3_degreeBy_26 rfl ?_
    refine e_get (ci := 3) (fi := 0) (q := (RX3, TX3, 5)) F (by first | assumption | exact e_up_s | (rw [e_up_n (by first | assumption | omega)]; first | assumption | exact e_up_s | (rw [e_up_n (by first | assumption | omega)]; first | assumption | exact e_up_s | (rw [e_up_n (by first | assumption | omega)]; first | assumption | exact e_up_s))) | exact hD.1 | exact hD1.1 | exact hD2.1 | exact gD.1 | exact gD1.1 | exact gD2.1 | exact gQ.1 | exact hQ.1 | exact gS.1 | exact hS.1 | exact zD.1) rfl (by decide) w_fl_RX3_10 (by rfl) dX3_degreeBy_27 ?_
    refine e_aload_n F dX3_degreeBy_30 rfl ?_
    refine e_iload_n F dX3_degreeBy_31 rfl ?_
    refine e_callVN F u_X2_goThrough (by rfl) (c_X2_goThrough hQ hF hwh hD1 (set := a) (by omega) (by omega)) (by first | assumption | exact e_up_s | (rw [e_up_n (by first | assumption | omega)]; first | assumption | exact e_up_s | (rw [e_up_n (by first | assumption | omega)]; first | assumption | exact e_up_s | (rw [e_up_n (by first | assumption | omega)]; first | assumption | exact e_up_s))) | exact hD.1 | exact hD1.1 | exact hD2.1 | exact gD.1 | exact gD1.1 | exact gD2.1 | exact gQ.1 | exact hQ.1 | exact gS.1 | exact hS.1 | exact zD.1) rfl rfl w_mn_RX3_213 dX3_degreeBy_32 (by rfl) (Nat.le_of_ble_eq_true rfl) (by decide) (by omega) (fun _ _ _ h _ => False.elim h) (fun r_32 w_32 n_32 h_32 hn_32 => ?_)
    obtain ⟨rfl, en_32, gQ, gF⟩ := h_32
    rw [en_32]
    have gX : w_32 x = some (SO x kn) := by rw [gF x (by omega) (by omega)]; exact hX
    have hres := hC0.px ⟨⟨_, gQ⟩, gF⟩
    refine e_aload_n F dX3_degreeBy_35 rfl ?_
    refine e_get (ci := 3) (fi := 1) (q := (RX3, TX3, 5)) F (by first | assumption | exact e_up_s | (rw [e_up_n (by first | assumption | omega)]; first | assumption | exact e_up_s | (rw [e_up_n (by first | assumption | omega)]; first | assumption | exact e_up_s | (rw [e_up_n (by first | assumption | omega)]; first | assumption | exact e_up_s))) | exact hD.1 | exact hD1.1 | exact hD2.1 | exact gD.1 | exact gD1.1 | exact gD2.1 | exact gQ.1 | exact hQ.1 | exact gS.1 | exact hS.1 | exact zD.1) rfl (by decide) w_fl_RX3_19 (by rfl) dX3_degreeBy_36 ?_
    refine e_callVN F u_X2_highest (by rfl) (c_X2_highest gQ) (by first | assumption | exact e_up_s | (rw [e_up_n (by first | assumption | omega)]; first | assumption | exact e_up_s | (rw [e_up_n (by first | assumption | omega)]; first | assumption | exact e_up_s | (rw [e_up_n (by first | assumption | omega)]; first | assumption | exact e_up_s))) | exact hD.1 | exact hD1.1 | exact hD2.1 | exact gD.1 | exact gD1.1 | exact gD2.1 | exact gQ.1 | exact hQ.1 | exact gS.1 | exact hS.1 | exact zD.1) rfl rfl w_mn_RX3_217 dX3_degreeBy_39 (by rfl) (Nat.le_of_ble_eq_true rfl) (by decide) (by omega) (fun _ _ _ h _ => False.elim h) (fun r_39 w_39 n_39 h_39 hn_39 => ?_)
    obtain ⟨rfl, ew_39, en_39⟩ := h_39
    rw [ew_39, en_39]
    refine e_iret F rfl (by omega) ?_ dX3_degreeBy_42
    refine ⟨⟨hi1, hrs⟩, ?_, rfl, hres⟩
    rw [if_pos c_16]
  ·
    rw [b01_0] at c_16
    refine e_bipush F dX3_degreeBy_19 (by decide) ?_
    refine e_iret F rfl (by omega) ?_ dX3_degreeBy_21
    refine ⟨⟨hi1, hrs⟩, ?_, rfl, hC0, FR.rf⟩
    rw [if_neg c_16]
set_option maxHeartbeats 4000000 in
set_option maxRecDepth 100000 in
theorem c_X3_suspects {K : e_K} {l : Launch} {w : e_W} {n : Nat} {x wh : Nat} {kn : Int} {D : Nat → SD} (hC : CW w x wh kn D) {i : Int} (hi : e_r i) : e_Met K l yX3_suspects (Cond.code yX3_suspects cX3_suspects 3 (Option.some .int) :: e_TB) (7) (1) [.ref x, .int (eI i)] w n (fun r w' n' => ((0 ≤ i ∧ i < 6)) ∧ r = some (.int (eI (if (D i.toNat).fl = 0 then -9 else ssK wh (D i.toNat).A (D i.toNat).fl (D i.toNat).dg (ho wh).toNat))) ∧ n' = n ∧ CW w' x wh (kn) (D) ∧ FR w w' x) (pxd w (¬ (0 ≤ i ∧ i < 6)) False) := by
  refine e_ofV rfl (Nat.le_of_ble_eq_true rfl) ?_
  intro P9 E9 S9 M9 A9 B9 T9 C9 F hnm
  have hC0 := hC
  have hDA := hC.2.2.2.2.1
  obtain ⟨hX, hF, hwh, ⟨P0, hQ⟩, ⟨ga, hga, hgj⟩, hDs, s0, hS⟩ := hC
  have hp := pr_rg wh hwh
  have ho9 := ho_rg wh hwh
  have hg9 := gr_rg wh hwh
  have hf9 := fl_rg wh hwh
  refine e_aload_n F dX3_suspects_0 rfl ?_
  refine e_iload_n F dX3_suspects_1 rfl ?_
  refine e_callVV F u_X3_dealAt (by rfl) (c_X3_dealAt hX hDA (i := i) hi) hX rfl rfl w_ml_RX3_94 dX3_suspects_2 (by rfl) (Nat.le_of_ble_eq_true rfl) (by decide) (by omega) (fun E w2 n2 h _ => ⟨Or.inl ⟨h.1, by have q := h.2.1; omega⟩, h.2.2⟩) (fun r_2 w_2 n_2 h_2 hn_2 => ?_)
  obtain ⟨hi1, rfl, ew_2, en_2⟩ := h_2
  rw [ew_2, en_2]
  obtain ⟨hD1, hW1⟩ := hDs i.toNat (by omega)
  refine e_astore_n F dX3_suspects_5 (by decide) ?_
  refine e_aload_n F dX3_suspects_6 rfl ?_
  refine e_callVN F u_X0_isEmpty (by rfl) (c_X0_isEmpty hD1) (by first | assumption | exact e_up_s | (rw [e_up_n (by first | assumption | omega)]; first | assumption | exact e_up_s | (rw [e_up_n (by first | assumption | omega)]; first | assumption | exact e_up_s | (rw [e_up_n (by first | assumption | omega)]; first | assumption | exact e_up_s))) | exact hD.1 | exact hD1.1 | exact hD2.1 | exact gD.1 | exact gD1.1 | exact gD2.1 | exact gQ.1 | exact hQ.1 | exact gS.1 | exact hS.1 | exact zD.1) rfl rfl w_mn_RX3_109 dX3_suspects_7 (by rfl) (Nat.le_of_ble_eq_true rfl) (by decide) (by omega) (fun _ _ _ h _ => False.elim h) (fun r_7 w_7 n_7 h_7 hn_7 => ?_)
  obtain ⟨rfl, ew_7, en_7⟩ := h_7
  rw [ew_7, en_7]
  refine e_if_eq F 18 dX3_suspects_10 (by decide) (b01_r _) (fun c_10 => ?_) (fun c_10 => ?_)
  ·
    rw [b01_0] at c_10
    refine e_aload_n F dX3_suspects_18 rfl ?_
    refine e_aload_n F dX3_suspects_19 rfl ?_
    refine e_callVV F u_X3_suspectSet (by rfl) (c_X3_suspectSet hX hF hwh hQ hD1 (by omega)) hX rfl rfl w_ml_RX3_220 dX3_suspects_20 (by rfl) (Nat.le_of_ble_eq_true rfl) (by decide) (by omega) (fun _ _ _ h _ => False.elim h) (fun r_20 w_20 n_20 h_20 hn_20 => ?_)
    obtain ⟨rfl, en_20, gP⟩ := h_20
    rw [en_20]
    have hres := hC0.px gP
    refine e_iret F rfl (by omega) ?_ dX3_suspects_23
    first
    | (refine ⟨hi1, ?_, rfl, hres⟩
       rw [if_neg c_10])
    | (refine ⟨hi1, ?_, rfl, hC0, FR.rf⟩
       rw [if_pos c_10])
  ·
    rw [b01_0, Classical.not_not] at c_10
    refine e_bipush F dX3_suspects_13 (by decide) ?_
    refine e_goto F 23 dX3_suspects_15 (by decide) ?_
    refine e_iret F rfl (by omega) ?_ dX3_suspects_23
    first
    | (refine ⟨hi1, ?_, rfl, hres⟩
       rw [if_neg c_10])
    | (refine ⟨hi1, ?_, rfl, hC0, FR.rf⟩
       rw [if_pos c_10])
set_option maxHeartbeats 4000000 in
set_option maxRecDepth 100000 in
theorem c_X3_wrong {K : e_K} {l : Launch} {w : e_W} {n : Nat} {x wh : Nat} {kn : Int} {D : Nat → SD} (hC : CW w x wh kn D) {i : Int} (hi : e_r i) : e_Met K l yX3_wrong (Cond.code yX3_wrong cX3_wrong 2 (Option.some .int) :: e_TB) (7) (1) [.ref x, .int (eI i)] w n (fun r w' n' => ((0 ≤ i ∧ i < 6)) ∧ r = some (.int (eI (wrf wh (D i.toNat).A (D i.toNat).fl (D i.toNat).dg))) ∧ n' = n ∧ CW w' x wh (kn) (D) ∧ FR w w' x) (pxd w (¬ (0 ≤ i ∧ i < 6)) False) := by
  refine e_ofV rfl (Nat.le_of_ble_eq_true rfl) ?_
  intro P9 E9 S9 M9 A9 B9 T9 C9 F hnm
  have hC0 := hC
  have hDA := hC.2.2.2.2.1
  obtain ⟨hX, hF, hwh, ⟨P0, hQ⟩, ⟨ga, hga, hgj⟩, hDs, s0, hS⟩ := hC
  have hp := pr_rg wh hwh
  have ho9 := ho_rg wh hwh
  have hg9 := gr_rg wh hwh
  have hf9 := fl_rg wh hwh
  refine e_aload_n F dX3_wrong_0 rfl ?_
  refine e_aload_n F dX3_wrong_1 rfl ?_
  refine e_iload_n F dX3_wrong_2 rfl ?_
  refine e_callVV F u_X3_dealAt (by rfl) (c_X3_dealAt hX hDA (i := i) hi) hX rfl rfl w_ml_RX3_94 dX3_wrong_3 (by rfl) (Nat.le_of_ble_eq_true rfl) (by decide) (by omega) (fun E w2 n2 h _ => ⟨Or.inl ⟨h.1, by have q := h.2.1; omega⟩, h.2.2⟩) (fun r_3 w_3 n_3 h_3 hn_3 => ?_)
  obtain ⟨hi1, rfl, ew_3, en_3⟩ := h_3
  rw [ew_3, en_3]
  obtain ⟨hD1, hW1⟩ := hDs i.toNat (by omega)
  refine e_callVV F u_X3_wrongHolder (by rfl) (c_X3_wrongHolder hX hF hwh hQ hD1 (by omega)) hX rfl rfl w_ml_RX3_182 dX3_wrong_6 (by rfl) (Nat.le_of_ble_eq_true rfl) (by decide) (by omega) (fun _ _ _ h _ => False.elim h) (fun r_6 w_6 n_6 h_6 hn_6 => ?_)
  obtain ⟨rfl, en_6, gP⟩ := h_6
  rw [en_6]
  have hres := hC0.px gP
  refine e_iret F rfl (by omega) ?_ dX3_wrong_9
  exact ⟨hi1, rfl, rfl, hres⟩
set_option maxHeartbeats 4000000 in
set_option maxRecDepth 100000 in
theorem c_X3_seal {K : e_K} {l : Launch} {w : e_W} {n : Nat} {x wh : Nat} {kn : Int} {D : Nat → SD} (hC : CW w x wh kn D) {i : Int} (hi : e_r i) {c : Int} (hc : e_r c) : e_Met K l yX3_seal (Cond.code yX3_seal cX3_seal 4 (Option.some .int) :: e_TB) (7) (2) [.ref x, .int (eI i), .int (eI c)] w n (fun r w' n' => ((0 ≤ i ∧ i < 6) ∧ (0 ≤ c ∧ c ≤ 6)) ∧ r = some (.int (eI (if 0 ≤ c ∧ c < (D i.toNat).sc then (D i.toNat).B c else -1))) ∧ n' = n ∧ CW w' x wh (kn) (D) ∧ FR w w' x) (pxd w (¬ (0 ≤ i ∧ i < 6)) ((0 ≤ i ∧ i < 6) ∧ ¬ (0 ≤ c ∧ c ≤ 6))) := by
  refine e_ofV rfl (Nat.le_of_ble_eq_true rfl) ?_
  intro P9 E9 S9 M9 A9 B9 T9 C9 F hnm
  have hC0 := hC
  have hDA := hC.2.2.2.2.1
  obtain ⟨hX, hF, hwh, ⟨P0, hQ⟩, ⟨ga, hga, hgj⟩, hDs, s0, hS⟩ := hC
  have hp := pr_rg wh hwh
  have ho9 := ho_rg wh hwh
  have hg9 := gr_rg wh hwh
  have hf9 := fl_rg wh hwh
  refine e_aload_n F dX3_seal_0 rfl ?_
  refine e_iload_n F dX3_seal_1 rfl ?_
  refine e_callVV F u_X3_dealAt (by rfl) (c_X3_dealAt hX hDA (i := i) hi) hX rfl rfl w_ml_RX3_94 dX3_seal_2 (by rfl) (Nat.le_of_ble_eq_true rfl) (by decide) (by omega) (fun E w2 n2 h _ => ⟨Or.inl ⟨h.1, by have q := h.2.1; omega⟩, h.2.2⟩) (fun r_2 w_2 n_2 h_2 hn_2 => ?_)
  obtain ⟨hi1, rfl, ew_2, en_2⟩ := h_2
  rw [ew_2, en_2]
  obtain ⟨hD1, hW1⟩ := hDs i.toNat (by omega)
  refine e_astore_n F dX3_seal_5 (by decide) ?_
  refine e_iload_n F dX3_seal_6 rfl ?_
  refine e_callSS F u_X3_requireCoefficient (by rfl) (c_X3_requireCoefficient (g := c) hc) w_ml_RX3_210 dX3_seal_7 (by rfl) (Nat.le_of_ble_eq_true rfl) (by decide) (by omega) (fun E w2 n2 h _ => ⟨Or.inr ⟨h.1, by have q := h.2.1; omega⟩, h.2.2⟩) (fun r_7 w_7 n_7 h_7 hn_7 => ?_)
  obtain ⟨hrk, rfl, ew_7, en_7⟩ := h_7
  rw [ew_7, en_7]
  refine e_aload_n F dX3_seal_10 rfl ?_
  refine e_iload_n F dX3_seal_11 rfl ?_
  refine e_callVN F u_X0_sealAt (by rfl) (c_X0_sealAt hD1 (h := c) hc) (by first | assumption | exact e_up_s | (rw [e_up_n (by first | assumption | omega)]; first | assumption | exact e_up_s | (rw [e_up_n (by first | assumption | omega)]; first | assumption | exact e_up_s | (rw [e_up_n (by first | assumption | omega)]; first | assumption | exact e_up_s))) | exact hD.1 | exact hD1.1 | exact hD2.1 | exact gD.1 | exact gD1.1 | exact gD2.1 | exact gQ.1 | exact hQ.1 | exact gS.1 | exact hS.1 | exact zD.1) rfl rfl w_mn_RX3_137 dX3_seal_12 (by rfl) (Nat.le_of_ble_eq_true rfl) (by decide) (by omega) (fun _ _ _ h _ => False.elim h) (fun r_12 w_12 n_12 h_12 hn_12 => ?_)
  obtain ⟨rfl, ew_12, en_12⟩ := h_12
  rw [ew_12, en_12]
  refine e_iret F rfl (by omega) ?_ dX3_seal_15
  exact ⟨⟨hi1, hrk⟩, rfl, rfl, hC0, FR.rf⟩
set_option maxHeartbeats 4000000 in
set_option maxRecDepth 100000 in
theorem c_X3_fits {K : e_K} {l : Launch} {w : e_W} {n : Nat} {x wh : Nat} {kn : Int} {D : Nat → SD} (hC : CW w x wh kn D) {i : Int} (hi : e_r i) {h : Int} (hh : e_r h) : e_Met K l yX3_fits (Cond.code yX3_fits cX3_fits 4 (Option.some .int) :: e_TB) (7) (2) [.ref x, .int (eI i), .int (eI h)] w n (fun r w' n' => ((0 ≤ i ∧ i < 6) ∧ (1 ≤ h ∧ h ≤ ho wh)) ∧ r = some (.int (eI (if 0 < (D i.toNat).sc ∧ (D i.toNat).A h ≠ -1 then b01 (fit wh (D i.toNat).sc (D i.toNat).A (D i.toNat).B h) else -9))) ∧ n' = n ∧ CW w' x wh (kn) (D) ∧ FR w w' x) (pxd w (¬ ((0 ≤ i ∧ i < 6) ∧ (1 ≤ h ∧ h ≤ ho wh))) False) := by
  refine e_ofV rfl (Nat.le_of_ble_eq_true rfl) ?_
  intro P9 E9 S9 M9 A9 B9 T9 C9 F hnm
  have hC0 := hC
  have hDA := hC.2.2.2.2.1
  obtain ⟨hX, hF, hwh, ⟨P0, hQ⟩, ⟨ga, hga, hgj⟩, hDs, s0, hS⟩ := hC
  have hp := pr_rg wh hwh
  have ho9 := ho_rg wh hwh
  have hg9 := gr_rg wh hwh
  have hf9 := fl_rg wh hwh
  refine e_aload_n F dX3_fits_0 rfl ?_
  refine e_iload_n F dX3_fits_1 rfl ?_
  refine e_callVV F u_X3_dealAt (by rfl) (c_X3_dealAt hX hDA (i := i) hi) hX rfl rfl w_ml_RX3_94 dX3_fits_2 (by rfl) (Nat.le_of_ble_eq_true rfl) (by decide) (by omega) (fun E w2 n2 h _ => ⟨Or.inl ⟨h.1, by have q := h.2.1; omega⟩, h.2.2⟩) (fun r_2 w_2 n_2 h_2 hn_2 => ?_)
  obtain ⟨hi1, rfl, ew_2, en_2⟩ := h_2
  rw [ew_2, en_2]
  obtain ⟨hD1, hW1⟩ := hDs i.toNat (by omega)
  refine e_astore_n F dX3_fits_5 (by decide) ?_
  refine e_aload_n F dX3_fits_6 rfl ?_
  refine e_iload_n F dX3_fits_7 rfl ?_
  refine e_callVV F u_X3_requireHolder (by rfl) (c_X3_requireHolder hX hF hwh (h := h) hh) hX rfl rfl w_ml_RX3_77 dX3_fits_8 (by rfl) (Nat.le_of_ble_eq_true rfl) (by decide) (by omega) (fun E w2 n2 h _ => ⟨Or.inl ⟨h.1, by have q := h.2.1; omega⟩, h.2.2⟩) (fun r_8 w_8 n_8 h_8 hn_8 => ?_)
  obtain ⟨hrh, rfl, ew_8, en_8⟩ := h_8
  rw [ew_8, en_8]
  refine e_aload_n F dX3_fits_11 rfl ?_
  refine e_callVN F u_X0_hasSeals (by rfl) (c_X0_hasSeals hD1) (by first | assumption | exact e_up_s | (rw [e_up_n (by first | assumption | omega)]; first | assumption | exact e_up_s | (rw [e_up_n (by first | assumption | omega)]; first | assumption | exact e_up_s | (rw [e_up_n (by first | assumption | omega)]; first | assumption | exact e_up_s))) | exact hD.1 | exact hD1.1 | exact hD2.1 | exact gD.1 | exact gD1.1 | exact gD2.1 | exact gQ.1 | exact hQ.1 | exact gS.1 | exact hS.1 | exact zD.1) rfl rfl w_mn_RX3_195 dX3_fits_12 (by rfl) (Nat.le_of_ble_eq_true rfl) (by decide) (by omega) (fun _ _ _ h _ => False.elim h) (fun r_12 w_12 n_12 h_12 hn_12 => ?_)
  obtain ⟨rfl, ew_12, en_12⟩ := h_12
  rw [ew_12, en_12]
  refine e_if_eq F 26 dX3_fits_15 (by decide) (b01_r _) (fun c_15 => ?_) (fun c_15 => ?_)
  ·
    rw [b01_0] at c_15
    refine e_bipush F dX3_fits_26 (by decide) ?_
    refine e_iret F rfl (by omega) ?_ dX3_fits_28
    refine ⟨⟨hi1, hrh⟩, ?_, rfl, hC0, FR.rf⟩
    first | rw [if_neg (fun q => c_15 q.1)] | rw [if_neg (fun q => c_23 q.2)]
  ·
    rw [b01_0, Classical.not_not] at c_15
    refine e_aload_n F dX3_fits_18 rfl ?_
    refine e_iload_n F dX3_fits_19 rfl ?_
    refine e_callVN F u_X0_hasShare (by rfl) (c_X0_hasShare hD1 (h := h) (by omega) (by omega)) (by first | assumption | exact e_up_s | (rw [e_up_n (by first | assumption | omega)]; first | assumption | exact e_up_s | (rw [e_up_n (by first | assumption | omega)]; first | assumption | exact e_up_s | (rw [e_up_n (by first | assumption | omega)]; first | assumption | exact e_up_s))) | exact hD.1 | exact hD1.1 | exact hD2.1 | exact gD.1 | exact gD1.1 | exact gD2.1 | exact gQ.1 | exact hQ.1 | exact gS.1 | exact hS.1 | exact zD.1) rfl rfl w_mn_RX3_119 dX3_fits_20 (by rfl) (Nat.le_of_ble_eq_true rfl) (by decide) (by omega) (fun _ _ _ h _ => False.elim h) (fun r_20 w_20 n_20 h_20 hn_20 => ?_)
    obtain ⟨rfl, ew_20, en_20⟩ := h_20
    rw [ew_20, en_20]
    refine e_if_ne F 29 dX3_fits_23 (by decide) (b01_r _) (fun c_23 => ?_) (fun c_23 => ?_)
    ·
      rw [ne_eq, b01_0, Classical.not_not] at c_23
      refine e_aload_n F dX3_fits_29 rfl ?_
      refine e_aload_n F dX3_fits_30 rfl ?_
      refine e_iload_n F dX3_fits_31 rfl ?_
      refine e_callVV F u_X3_doesFit (by rfl) (c_X3_doesFit hX hF hwh hD1 (h := h) (by omega) (by omega) (fun j a1 a2 => (hW1.2.1 j a1 a2).1)) hX rfl rfl w_ml_RX3_231 dX3_fits_32 (by rfl) (Nat.le_of_ble_eq_true rfl) (by decide) (by omega) (fun _ _ _ h _ => False.elim h) (fun r_32 w_32 n_32 h_32 hn_32 => ?_)
      obtain ⟨rfl, ew_32, en_32⟩ := h_32
      rw [ew_32, en_32]
      refine e_if_eq F 42 dX3_fits_35 (by decide) (b01_r _) (fun c_35 => ?_) (fun c_35 => ?_)
      ·
        rw [b01_0] at c_35
        refine e_iconst F dX3_fits_42 ?_
        refine e_iret F rfl (by omega) ?_ dX3_fits_43
        refine ⟨⟨hi1, hrh⟩, ?_, rfl, hC0, FR.rf⟩
        rw [if_pos ⟨c_15, c_23⟩]
        first | rw [b01_f c_35] | rw [b01_t c_35]
      ·
        rw [b01_0, Classical.not_not] at c_35
        refine e_iconst F dX3_fits_38 ?_
        refine e_goto F 43 dX3_fits_39 (by decide) ?_
        refine e_iret F rfl (by omega) ?_ dX3_fits_43
        refine ⟨⟨hi1, hrh⟩, ?_, rfl, hC0, FR.rf⟩
        rw [if_pos ⟨c_15, c_23⟩]
        first | rw [b01_f c_35] | rw [b01_t c_35]
    ·
      rw [b01_0] at c_23
      refine e_bipush F dX3_fits_26 (by decide) ?_
      refine e_iret F rfl (by omega) ?_ dX3_fits_28
      refine ⟨⟨hi1, hrh⟩, ?_, rfl, hC0, FR.rf⟩
      first | rw [if_neg (fun q => c_15 q.1)] | rw [if_neg (fun q => c_23 q.2)]
