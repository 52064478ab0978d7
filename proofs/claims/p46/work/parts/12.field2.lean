/-! Field: the rest -/
def iv (wh : Nat) (v : Int) : Int := e_pw v (pr wh - 2).toNat (pr wh)
def ivq (wh : Nat) (v : Int) : Int := e_pw v (gr wh - 2).toNat (gr wh)
def sl (wh : Nat) (v : Int) : Int := e_pw (bs wh) (v % pr wh).toNat (gr wh)
theorem iv_rg {wh : Nat} {v : Int} (h : wh < 7) : 0 ≤ iv wh v ∧ iv wh v < pr wh := e_pw_rg (by have := pr_rg wh h; omega)
theorem ivq_rg {wh : Nat} {v : Int} (h : wh < 7) : 0 ≤ ivq wh v ∧ ivq wh v < gr wh := e_pw_rg (by have := gr_rg wh h; omega)
theorem sl_rg {wh : Nat} {v : Int} (h : wh < 7) : 0 ≤ sl wh v ∧ sl wh v < gr wh := e_pw_rg (by have := gr_rg wh h; omega)
theorem emod_rg {wh : Nat} (v : Int) (h : wh < 7) : 0 ≤ v % pr wh ∧ v % pr wh < pr wh := by
  have := pr_rg wh h
  exact ⟨Int.emod_nonneg _ (by omega), Int.emod_lt_of_pos _ (by omega)⟩
/-- product of (x - j), j the others of the set, up to the holder k -/
def wpr (p x h set : Int) : Nat → Int
  | 0 => 1
  | k + 1 => if ((k : Int) + 1 ≠ h ∧ hs set ((k : Int) + 1)) then (wpr p x h set k * (x - ((k : Int) + 1))) % p else wpr p x h set k
def wgt (wh : Nat) (set h x : Int) : Int := wpr (pr wh) (x % pr wh) h set (ho wh).toNat * iv wh (wpr (pr wh) h h set (ho wh).toNat) % pr wh
theorem wpr_rg {p x h set : Int} (hp : 2 ≤ p) (k : Nat) : 0 ≤ wpr p x h set k ∧ wpr p x h set k < p := by
  induction k with
  | zero => unfold wpr; omega
  | succ k ih =>
    unfold wpr
    split
    · exact ⟨Int.emod_nonneg _ (by omega), Int.emod_lt_of_pos _ (by omega)⟩
    · exact ih
theorem mul_rg2 {a b : Int} (ha : 0 ≤ a) (ha2 : a ≤ 36000109) (hb : -2147483700 ≤ b) (hb2 : b ≤ 2147483700) : e_r8 (a * b) := by
  have h1 : a * b ≤ a * 2147483700 := Int.mul_le_mul_of_nonneg_left hb2 ha
  have h2 : a * (-2147483700) ≤ a * b := Int.mul_le_mul_of_nonneg_left hb ha
  constructor <;> omega
set_option maxHeartbeats 4000000 in
set_option maxRecDepth 100000 in
theorem c_X1_inverse {K : e_K} {l : Launch} {w : e_W} {n : Nat} {v : Int} {f wh : Nat} (hF : w f = some (FO wh)) (hwh : wh < 7) (hv1 : 0 ≤ v) (hv2 : v < pr wh) : e_Met K l yX1_inverse (Cond.code yX1_inverse cX1_inverse 2 (Option.some .int) :: e_TB) (1) (0) [.ref f, .int (eI v)] w n (fun r w' n' => r = some (.int (eI (iv wh v))) ∧ w' = w ∧ n' = n) (e_px0) := by
  refine e_ofV rfl (Nat.le_of_ble_eq_true rfl) ?_
  intro P9 E9 S9 M9 A9 B9 T9 C9 F hnm
  have hp := pr_rg wh hwh
  have hg := gr_rg wh hwh
  have hb := bs_rg wh hwh
  have hbg := bs_gr wh hwh
  have ho9 := ho_rg wh hwh
  refine e_iload_n F dX1_inverse_0 rfl ?_
  refine e_aload_n F dX1_inverse_1 rfl ?_
  refine e_get (ci := 1) (fi := 1) (q := (RX1, TX1, 5)) F (by first | assumption | exact e_up_s | (rw [e_up_n (by first | assumption | omega)]; first | assumption | exact e_up_s | (rw [e_up_n (by first | assumption | omega)]; first | assumption | exact e_up_s | (rw [e_up_n (by first | assumption | omega)]; first | assumption | exact e_up_s))) | exact hD.1 | exact hD1.1 | exact hD2.1 | exact gD.1 | exact gD1.1 | exact gD2.1 | exact gQ.1 | exact hQ.1 | exact gS.1 | exact hS.1 | exact zD.1) rfl (by decide) w_fl_RX1_29 (by rfl) dX1_inverse_2 ?_
  refine e_iconst F dX1_inverse_5 ?_
  refine e_isub F dX1_inverse_6 ?_
  refine e_i2l F dX1_inverse_7 (⟨by omega, by omega⟩) ?_
  refine e_aload_n F dX1_inverse_8 rfl ?_
  refine e_get (ci := 1) (fi := 1) (q := (RX1, TX1, 5)) F (by first | assumption | exact e_up_s | (rw [e_up_n (by first | assumption | omega)]; first | assumption | exact e_up_s | (rw [e_up_n (by first | assumption | omega)]; first | assumption | exact e_up_s | (rw [e_up_n (by first | assumption | omega)]; first | assumption | exact e_up_s))) | exact hD.1 | exact hD1.1 | exact hD2.1 | exact gD.1 | exact gD1.1 | exact gD2.1 | exact gQ.1 | exact hQ.1 | exact gS.1 | exact hS.1 | exact zD.1) rfl (by decide) w_fl_RX1_29 (by rfl) dX1_inverse_9 ?_
  refine e_callSS F u_X1_raise (by rfl) (c_X1_raise hv1 hv2 (by omega) (by omega) (by omega) (by omega)) w_ml_RX1_47 dX1_inverse_12 (by rfl) (Nat.le_of_ble_eq_true rfl) (by decide) (by omega) (fun _ _ _ h _ => False.elim h) (fun r_12 w_12 n_12 h_12 hn_12 => ?_)
  obtain ⟨rfl, ew_12, en_12⟩ := h_12
  rw [ew_12, en_12]
  refine e_iret F rfl (by omega) ?_ dX1_inverse_15
  exact ⟨rfl, rfl, rfl⟩
set_option maxHeartbeats 4000000 in
set_option maxRecDepth 100000 in
theorem c_X1_inverseSeal {K : e_K} {l : Launch} {w : e_W} {n : Nat} {v : Int} {f wh : Nat} (hF : w f = some (FO wh)) (hwh : wh < 7) (hv1 : 0 ≤ v) (hv2 : v < gr wh) : e_Met K l yX1_inverseSeal (Cond.code yX1_inverseSeal cX1_inverseSeal 2 (Option.some .int) :: e_TB) (1) (0) [.ref f, .int (eI v)] w n (fun r w' n' => r = some (.int (eI (ivq wh v))) ∧ w' = w ∧ n' = n) (e_px0) := by
  refine e_ofV rfl (Nat.le_of_ble_eq_true rfl) ?_
  intro P9 E9 S9 M9 A9 B9 T9 C9 F hnm
  have hp := pr_rg wh hwh
  have hg := gr_rg wh hwh
  have hb := bs_rg wh hwh
  have hbg := bs_gr wh hwh
  have ho9 := ho_rg wh hwh
  refine e_iload_n F dX1_inverseSeal_0 rfl ?_
  refine e_aload_n F dX1_inverseSeal_1 rfl ?_
  refine e_get (ci := 1) (fi := 2) (q := (RX1, TX1, 5)) F (by first | assumption | exact e_up_s | (rw [e_up_n (by first | assumption | omega)]; first | assumption | exact e_up_s | (rw [e_up_n (by first | assumption | omega)]; first | assumption | exact e_up_s | (rw [e_up_n (by first | assumption | omega)]; first | assumption | exact e_up_s))) | exact hD.1 | exact hD1.1 | exact hD2.1 | exact gD.1 | exact gD1.1 | exact gD2.1 | exact gQ.1 | exact hQ.1 | exact gS.1 | exact hS.1 | exact zD.1) rfl (by decide) w_fl_RX1_32 (by rfl) dX1_inverseSeal_2 ?_
  refine e_iconst F dX1_inverseSeal_5 ?_
  refine e_isub F dX1_inverseSeal_6 ?_
  refine e_i2l F dX1_inverseSeal_7 (⟨by omega, by omega⟩) ?_
  refine e_aload_n F dX1_inverseSeal_8 rfl ?_
  refine e_get (ci := 1) (fi := 2) (q := (RX1, TX1, 5)) F (by first | assumption | exact e_up_s | (rw [e_up_n (by first | assumption | omega)]; first | assumption | exact e_up_s | (rw [e_up_n (by first | assumption | omega)]; first | assumption | exact e_up_s | (rw [e_up_n (by first | assumption | omega)]; first | assumption | exact e_up_s))) | exact hD.1 | exact hD1.1 | exact hD2.1 | exact gD.1 | exact gD1.1 | exact gD2.1 | exact gQ.1 | exact hQ.1 | exact gS.1 | exact hS.1 | exact zD.1) rfl (by decide) w_fl_RX1_32 (by rfl) dX1_inverseSeal_9 ?_
  refine e_callSS F u_X1_raise (by rfl) (c_X1_raise hv1 hv2 (by omega) (by omega) (by omega) (by omega)) w_ml_RX1_47 dX1_inverseSeal_12 (by rfl) (Nat.le_of_ble_eq_true rfl) (by decide) (by omega) (fun _ _ _ h _ => False.elim h) (fun r_12 w_12 n_12 h_12 hn_12 => ?_)
  obtain ⟨rfl, ew_12, en_12⟩ := h_12
  rw [ew_12, en_12]
  refine e_iret F rfl (by omega) ?_ dX1_inverseSeal_15
  exact ⟨rfl, rfl, rfl⟩
set_option maxHeartbeats 4000000 in
set_option maxRecDepth 100000 in
theorem c_X1_sealProduct {K : e_K} {l : Launch} {w : e_W} {n : Nat} {a b : Int} {f wh : Nat} (hF : w f = some (FO wh)) (hwh : wh < 7) (ha1 : 0 ≤ a) (ha2 : a < gr wh) (hb1 : 0 ≤ b) (hb2 : b < gr wh) : e_Met K l yX1_sealProduct (Cond.code yX1_sealProduct cX1_sealProduct 3 (Option.some .int) :: e_TB) (0) (0) [.ref f, .int (eI a), .int (eI b)] w n (fun r w' n' => r = some (.int (eI (a * b % gr wh))) ∧ w' = w ∧ n' = n) (e_px0) := by
  refine e_ofV rfl (Nat.le_of_ble_eq_true rfl) ?_
  intro P9 E9 S9 M9 A9 B9 T9 C9 F hnm
  have hp := pr_rg wh hwh
  have hg := gr_rg wh hwh
  have hb := bs_rg wh hwh
  have hbg := bs_gr wh hwh
  have ho9 := ho_rg wh hwh
  have hm := mul_rg ha1 ha2 hb1 hb2 hg.2
  refine e_aload_n F dX1_sealProduct_0 rfl ?_
  refine e_get (ci := 1) (fi := 2) (q := (RX1, TX1, 5)) F (by first | assumption | exact e_up_s | (rw [e_up_n (by first | assumption | omega)]; first | assumption | exact e_up_s | (rw [e_up_n (by first | assumption | omega)]; first | assumption | exact e_up_s | (rw [e_up_n (by first | assumption | omega)]; first | assumption | exact e_up_s))) | exact hD.1 | exact hD1.1 | exact hD2.1 | exact gD.1 | exact gD1.1 | exact gD2.1 | exact gQ.1 | exact hQ.1 | exact gS.1 | exact hS.1 | exact zD.1) rfl (by decide) w_fl_RX1_32 (by rfl) dX1_sealProduct_1 ?_
  refine e_if_gt F 11 dX1_sealProduct_4 (by decide) (⟨by omega, by omega⟩) (fun c_4 => ?_) (fun c_4 => ?_)
  · refine e_iload_n F dX1_sealProduct_11 rfl ?_
    refine e_i2l F dX1_sealProduct_12 (⟨by omega, by omega⟩) ?_
    refine e_iload_n F dX1_sealProduct_13 rfl ?_
    refine e_i2l F dX1_sealProduct_14 (⟨by omega, by omega⟩) ?_
    refine e_lmul F dX1_sealProduct_15 ?_
    refine e_aload_n F dX1_sealProduct_16 rfl ?_
    refine e_get (ci := 1) (fi := 2) (q := (RX1, TX1, 5)) F (by first | assumption | exact e_up_s | (rw [e_up_n (by first | assumption | omega)]; first | assumption | exact e_up_s | (rw [e_up_n (by first | assumption | omega)]; first | assumption | exact e_up_s | (rw [e_up_n (by first | assumption | omega)]; first | assumption | exact e_up_s))) | exact hD.1 | exact hD1.1 | exact hD2.1 | exact gD.1 | exact gD1.1 | exact gD2.1 | exact gQ.1 | exact hQ.1 | exact gS.1 | exact hS.1 | exact zD.1) rfl (by decide) w_fl_RX1_32 (by rfl) dX1_sealProduct_17 ?_
    refine e_i2l F dX1_sealProduct_20 (⟨by omega, by omega⟩) ?_
    refine e_lrem F dX1_sealProduct_21 (hm.2) (⟨by omega, by omega⟩) (by omega) ?_
    rw [Int.tmod_eq_emod_of_nonneg hm.1]
    refine e_l2i F dX1_sealProduct_22 ?_
    refine e_iret F rfl (by omega) ?_ dX1_sealProduct_23
    exact ⟨rfl, rfl, rfl⟩
  · exact absurd c_4 (by omega)
set_option maxHeartbeats 4000000 in
set_option maxRecDepth 100000 in
theorem c_X1_sealFor {K : e_K} {l : Launch} {w : e_W} {n : Nat} {v : Int} {f wh : Nat} (hF : w f = some (FO wh)) (hwh : wh < 7) (hv : e_r v) : e_Met K l yX1_sealFor (Cond.code yX1_sealFor cX1_sealFor 2 (Option.some .int) :: e_TB) (1) (0) [.ref f, .int (eI v)] w n (fun r w' n' => r = some (.int (eI (sl wh v))) ∧ w' = w ∧ n' = n) (e_px0) := by
  refine e_ofV rfl (Nat.le_of_ble_eq_true rfl) ?_
  intro P9 E9 S9 M9 A9 B9 T9 C9 F hnm
  have hp := pr_rg wh hwh
  have hg := gr_rg wh hwh
  have hb := bs_rg wh hwh
  have hbg := bs_gr wh hwh
  have ho9 := ho_rg wh hwh
  have hm := emod_rg v hwh
  refine e_aload_n F dX1_sealFor_0 rfl ?_
  refine e_get (ci := 1) (fi := 3) (q := (RX1, TX1, 5)) F (by first | assumption | exact e_up_s | (rw [e_up_n (by first | assumption | omega)]; first | assumption | exact e_up_s | (rw [e_up_n (by first | assumption | omega)]; first | assumption | exact e_up_s | (rw [e_up_n (by first | assumption | omega)]; first | assumption | exact e_up_s))) | exact hD.1 | exact hD1.1 | exact hD2.1 | exact gD.1 | exact gD1.1 | exact gD2.1 | exact gQ.1 | exact hQ.1 | exact gS.1 | exact hS.1 | exact zD.1) rfl (by decide) w_fl_RX1_35 (by rfl) dX1_sealFor_1 ?_
  refine e_aload_n F dX1_sealFor_4 rfl ?_
  refine e_iload_n F dX1_sealFor_5 rfl ?_
  refine e_i2l F dX1_sealFor_6 (hv) ?_
  refine e_callVV F u_X1_modPrime (by rfl) (c_X1_modPrime hF hwh ⟨by omega, by omega⟩) (by first | assumption | exact e_up_s | (rw [e_up_n (by first | assumption | omega)]; first | assumption | exact e_up_s | (rw [e_up_n (by first | assumption | omega)]; first | assumption | exact e_up_s | (rw [e_up_n (by first | assumption | omega)]; first | assumption | exact e_up_s))) | exact hD.1 | exact hD1.1 | exact hD2.1 | exact gD.1 | exact gD1.1 | exact gD2.1 | exact gQ.1 | exact hQ.1 | exact gS.1 | exact hS.1 | exact zD.1) rfl rfl w_ml_RX1_51 dX1_sealFor_7 (by rfl) (Nat.le_of_ble_eq_true rfl) (by decide) (by omega) (fun _ _ _ h _ => False.elim h) (fun r_7 w_7 n_7 h_7 hn_7 => ?_)
  obtain ⟨rfl, ew_7, en_7⟩ := h_7
  rw [ew_7, en_7]
  refine e_i2l F dX1_sealFor_10 (⟨by omega, by omega⟩) ?_
  refine e_aload_n F dX1_sealFor_11 rfl ?_
  refine e_get (ci := 1) (fi := 2) (q := (RX1, TX1, 5)) F (by first | assumption | exact e_up_s | (rw [e_up_n (by first | assumption | omega)]; first | assumption | exact e_up_s | (rw [e_up_n (by first | assumption | omega)]; first | assumption | exact e_up_s | (rw [e_up_n (by first | assumption | omega)]; first | assumption | exact e_up_s))) | exact hD.1 | exact hD1.1 | exact hD2.1 | exact gD.1 | exact gD1.1 | exact gD2.1 | exact gQ.1 | exact hQ.1 | exact gS.1 | exact hS.1 | exact zD.1) rfl (by decide) w_fl_RX1_32 (by rfl) dX1_sealFor_12 ?_
  refine e_callSS F u_X1_raise (by rfl) (c_X1_raise (by omega) hbg (by omega) hg.2 (by omega) (by omega)) w_ml_RX1_47 dX1_sealFor_15 (by rfl) (Nat.le_of_ble_eq_true rfl) (by decide) (by omega) (fun _ _ _ h _ => False.elim h) (fun r_15 w_15 n_15 h_15 hn_15 => ?_)
  obtain ⟨rfl, ew_15, en_15⟩ := h_15
  rw [ew_15, en_15]
  refine e_iret F rfl (by omega) ?_ dX1_sealFor_18
  exact ⟨rfl, rfl, rfl⟩
set_option maxHeartbeats 4000000 in
set_option maxRecDepth 100000 in
theorem c_X1_weightAt {K : e_K} {l : Launch} {w : e_W} {n : Nat} {set h x : Int} {f wh : Nat} (hF : w f = some (FO wh)) (hwh : wh < 7) (h1 : 0 ≤ set) (h2 : set < 2147483648) (h3 : 1 ≤ h) (h4 : h ≤ 7) (hx : e_r x) : e_Met K l yX1_weightAt (Cond.code yX1_weightAt cX1_weightAt 8 (Option.some .int) :: e_TB) (2) (0) [.ref f, .int (eI set), .int (eI h), .int (eI x)] w n (fun r w' n' => r = some (.int (eI (wgt wh set h x))) ∧ w' = w ∧ n' = n) (e_px0) := by
  refine e_ofV rfl (Nat.le_of_ble_eq_true rfl) ?_
  intro P9 E9 S9 M9 A9 B9 T9 C9 F hnm
  have hp := pr_rg wh hwh
  have hg := gr_rg wh hwh
  have hb := bs_rg wh hwh
  have hbg := bs_gr wh hwh
  have ho9 := ho_rg wh hwh
  have hxm := emod_rg x hwh
  have lp : ∀ (N : Nat) (j : Nat), ((ho wh).toNat - j) < N → (j : Int) ≤ ho wh → e_V K P9 l E9 (2) (0) S9 M9 A9 B9 T9 C9 8 (fun r w' n' => r = some (.int (eI (wgt wh set h x))) ∧ w' = w ∧ n' = n) (e_px0) 17 [(0, .ref f), (1, .int (eI set)), (2, .int (eI h)), (4, .int (eI (x % pr wh))), (5, .int (eI (wpr (pr wh) (x % pr wh) h set j))), (6, .int (eI (wpr (pr wh) h h set j))), (7, .int (eI ((j : Int) + 1)))] [] w n (0) := by
    intro N
    induction N with
    | zero => intro j hN; exact absurd hN (Nat.not_lt_zero _)
    | succ N ih =>
      intro j hN hj
      have ha := wpr_rg (x := x % pr wh) (h := h) (set := set) (show 2 ≤ pr wh by omega) j
      have hb9 := wpr_rg (x := h) (h := h) (set := set) (show 2 ≤ pr wh by omega) j
      refine e_iload F dX1_weightAt_17 rfl ?_
      refine e_aload_n F dX1_weightAt_19 rfl ?_
      refine e_get (ci := 1) (fi := 4) (q := (RX1, TX1, 5)) F (by first | assumption | exact e_up_s | (rw [e_up_n (by first | assumption | omega)]; first | assumption | exact e_up_s | (rw [e_up_n (by first | assumption | omega)]; first | assumption | exact e_up_s | (rw [e_up_n (by first | assumption | omega)]; first | assumption | exact e_up_s))) | exact hD.1 | exact hD1.1 | exact hD2.1 | exact gD.1 | exact gD1.1 | exact gD2.1 | exact gQ.1 | exact hQ.1 | exact gS.1 | exact hS.1 | exact zD.1) rfl (by decide) w_fl_RX1_44 (by rfl) dX1_weightAt_20 ?_
      refine e_icmp_gt F 78 dX1_weightAt_23 (by decide) (⟨by omega, by omega⟩) (⟨by omega, by omega⟩) (fun c_23 => ?_) (fun c_23 => ?_)
      ·
        obtain rfl : j = (ho wh).toNat := by omega
        refine e_aload_n F dX1_weightAt_78 rfl ?_
        refine e_iload F dX1_weightAt_79 rfl ?_
        refine e_i2l F dX1_weightAt_81 (⟨by omega, by omega⟩) ?_
        refine e_aload_n F dX1_weightAt_82 rfl ?_
        refine e_iload F dX1_weightAt_83 rfl ?_
        refine e_callVV F u_X1_inverse (by rfl) (c_X1_inverse hF hwh (by omega) (by omega)) (by first | assumption | exact e_up_s | (rw [e_up_n (by first | assumption | omega)]; first | assumption | exact e_up_s | (rw [e_up_n (by first | assumption | omega)]; first | assumption | exact e_up_s | (rw [e_up_n (by first | assumption | omega)]; first | assumption | exact e_up_s))) | exact hD.1 | exact hD1.1 | exact hD2.1 | exact gD.1 | exact gD1.1 | exact gD2.1 | exact gQ.1 | exact hQ.1 | exact gS.1 | exact hS.1 | exact zD.1) rfl rfl w_ml_RX1_59 dX1_weightAt_85 (by rfl) (Nat.le_of_ble_eq_true rfl) (by decide) (by omega) (fun _ _ _ h _ => False.elim h) (fun r_85 w_85 n_85 h_85 hn_85 => ?_)
        obtain ⟨rfl, ew_85, en_85⟩ := h_85
        rw [ew_85, en_85]
        have hiv := iv_rg (v := wpr (pr wh) h h set (ho wh).toNat) hwh
        refine e_i2l F dX1_weightAt_88 (⟨by omega, by omega⟩) ?_
        refine e_lmul F dX1_weightAt_89 ?_
        refine e_callVV F u_X1_modPrime (by rfl) (c_X1_modPrime hF hwh (mul_rg2 (by omega) (by omega) (by omega) (by omega))) (by first | assumption | exact e_up_s | (rw [e_up_n (by first | assumption | omega)]; first | assumption | exact e_up_s | (rw [e_up_n (by first | assumption | omega)]; first | assumption | exact e_up_s | (rw [e_up_n (by first | assumption | omega)]; first | assumption | exact e_up_s))) | exact hD.1 | exact hD1.1 | exact hD2.1 | exact gD.1 | exact gD1.1 | exact gD2.1 | exact gQ.1 | exact hQ.1 | exact gS.1 | exact hS.1 | exact zD.1) rfl rfl w_ml_RX1_51 dX1_weightAt_90 (by rfl) (Nat.le_of_ble_eq_true rfl) (by decide) (by omega) (fun _ _ _ h _ => False.elim h) (fun r_90 w_90 n_90 h_90 hn_90 => ?_)
        obtain ⟨rfl, ew_90, en_90⟩ := h_90
        rw [ew_90, en_90]
        refine e_iret F rfl (by omega) ?_ dX1_weightAt_93
        exact ⟨rfl, rfl, rfl⟩
      · refine e_iload F dX1_weightAt_26 rfl ?_
        refine e_iload_n F dX1_weightAt_28 rfl ?_
        refine e_icmp_eq F 72 dX1_weightAt_29 (by decide) (⟨by omega, by omega⟩) (⟨by omega, by omega⟩) (fun c_29 => ?_) (fun c_29 => ?_)
        ·
          have q1 : wpr (pr wh) (x % pr wh) h set (j + 1) = wpr (pr wh) (x % pr wh) h set j := if_neg (fun q => q.1 c_29)
          have q2 : wpr (pr wh) h h set (j + 1) = wpr (pr wh) h h set j := if_neg (fun q => q.1 c_29)
          refine e_iinc F dX1_weightAt_72 rfl (by decide) ?_
          refine e_goto F 17 dX1_weightAt_75 (by decide) ?_
          refine e_go (ih (j + 1) (by omega) (by omega)) ?_
          rw [q1, q2]
          exact And.intro rfl (And.intro rfl (And.intro rfl (And.intro rfl (And.intro rfl (And.intro rfl (And.intro rfl (trivial)))))))
        · refine e_iload_n F dX1_weightAt_32 rfl ?_
          refine e_iload F dX1_weightAt_33 rfl ?_
          refine e_callSN F u_X3_isIn (by rfl) (c_X3_isIn h1 h2 (h := (j : Int) + 1) (by omega) (by omega)) w_mn_RX1_55 dX1_weightAt_35 (by rfl) (Nat.le_of_ble_eq_true rfl) (by decide) (by omega) (fun _ _ _ h _ => False.elim h) (fun r_35 w_35 n_35 h_35 hn_35 => ?_)
          obtain ⟨rfl, ew_35, en_35⟩ := h_35
          rw [ew_35, en_35]
          refine e_if_eq F 72 dX1_weightAt_38 (by decide) (b01_r _) (fun c_38 => ?_) (fun c_38 => ?_)
          ·
            rw [b01_0] at c_38
            have q1 : wpr (pr wh) (x % pr wh) h set (j + 1) = wpr (pr wh) (x % pr wh) h set j := if_neg (fun q => c_38 q.2)
            have q2 : wpr (pr wh) h h set (j + 1) = wpr (pr wh) h h set j := if_neg (fun q => c_38 q.2)
            refine e_iinc F dX1_weightAt_72 rfl (by decide) ?_
            refine e_goto F 17 dX1_weightAt_75 (by decide) ?_
            refine e_go (ih (j + 1) (by omega) (by omega)) ?_
            rw [q1, q2]
            exact And.intro rfl (And.intro rfl (And.intro rfl (And.intro rfl (And.intro rfl (And.intro rfl (And.intro rfl (trivial)))))))
          ·
            rw [b01_0, Classical.not_not] at c_38
            have q1 : wpr (pr wh) (x % pr wh) h set (j + 1) = (wpr (pr wh) (x % pr wh) h set j * (x % pr wh - ((j : Int) + 1))) % pr wh := if_pos ⟨c_29, c_38⟩
            have q2 : wpr (pr wh) h h set (j + 1) = (wpr (pr wh) h h set j * (h - ((j : Int) + 1))) % pr wh := if_pos ⟨c_29, c_38⟩
            refine e_aload_n F dX1_weightAt_41 rfl ?_
            refine e_iload F dX1_weightAt_42 rfl ?_
            refine e_i2l F dX1_weightAt_44 (⟨by omega, by omega⟩) ?_
            refine e_iload F dX1_weightAt_45 rfl ?_
            refine e_iload F dX1_weightAt_47 rfl ?_
            refine e_isub F dX1_weightAt_49 ?_
            refine e_i2l F dX1_weightAt_50 (⟨by omega, by omega⟩) ?_
            refine e_lmul F dX1_weightAt_51 ?_
            refine e_callVV F u_X1_modPrime (by rfl) (c_X1_modPrime hF hwh (mul_rg2 (by omega) (by omega) (by omega) (by omega))) (by first | assumption | exact e_up_s | (rw [e_up_n (by first | assumption | omega)]; first | assumption | exact e_up_s | (rw [e_up_n (by first | assumption | omega)]; first | assumption | exact e_up_s | (rw [e_up_n (by first | assumption | omega)]; first | assumption | exact e_up_s))) | exact hD.1 | exact hD1.1 | exact hD2.1 | exact gD.1 | exact gD1.1 | exact gD2.1 | exact gQ.1 | exact hQ.1 | exact gS.1 | exact hS.1 | exact zD.1) rfl rfl w_ml_RX1_51 dX1_weightAt_52 (by rfl) (Nat.le_of_ble_eq_true rfl) (by decide) (by omega) (fun _ _ _ h _ => False.elim h) (fun r_52 w_52 n_52 h_52 hn_52 => ?_)
            obtain ⟨rfl, ew_52, en_52⟩ := h_52
            rw [ew_52, en_52]
            refine e_istore F dX1_weightAt_55 (by decide) ?_
            refine e_aload_n F dX1_weightAt_57 rfl ?_
            refine e_iload F dX1_weightAt_58 rfl ?_
            refine e_i2l F dX1_weightAt_60 (⟨by omega, by omega⟩) ?_
            refine e_iload_n F dX1_weightAt_61 rfl ?_
            refine e_iload F dX1_weightAt_62 rfl ?_
            refine e_isub F dX1_weightAt_64 ?_
            refine e_i2l F dX1_weightAt_65 (⟨by omega, by omega⟩) ?_
            refine e_lmul F dX1_weightAt_66 ?_
            refine e_callVV F u_X1_modPrime (by rfl) (c_X1_modPrime hF hwh (mul_rg2 (by omega) (by omega) (by omega) (by omega))) (by first | assumption | exact e_up_s | (rw [e_up_n (by first | assumption | omega)]; first | assumption | exact e_up_s | (rw [e_up_n (by first | assumption | omega)]; first | assumption | exact e_up_s | (rw [e_up_n (by first | assumption | omega)]; first | assumption | exact e_up_s))) | exact hD.1 | exact hD1.1 | exact hD2.1 | exact gD.1 | exact gD1.1 | exact gD2.1 | exact gQ.1 | exact hQ.1 | exact gS.1 | exact hS.1 | exact zD.1) rfl rfl w_ml_RX1_51 dX1_weightAt_67 (by rfl) (Nat.le_of_ble_eq_true rfl) (by decide) (by omega) (fun _ _ _ h _ => False.elim h) (fun r_67 w_67 n_67 h_67 hn_67 => ?_)
            obtain ⟨rfl, ew_67, en_67⟩ := h_67
            rw [ew_67, en_67]
            refine e_istore F dX1_weightAt_70 (by decide) ?_
            refine e_iinc F dX1_weightAt_72 rfl (by decide) ?_
            refine e_goto F 17 dX1_weightAt_75 (by decide) ?_
            refine e_go (ih (j + 1) (by omega) (by omega)) ?_
            rw [q1, q2]
            exact And.intro rfl (And.intro rfl (And.intro rfl (And.intro rfl (And.intro rfl (And.intro rfl (And.intro rfl (trivial)))))))
  refine e_aload_n F dX1_weightAt_0 rfl ?_
  refine e_iload_n F dX1_weightAt_1 rfl ?_
  refine e_i2l F dX1_weightAt_2 (hx) ?_
  refine e_callVV F u_X1_modPrime (by rfl) (c_X1_modPrime hF hwh ⟨by omega, by omega⟩) (by first | assumption | exact e_up_s | (rw [e_up_n (by first | assumption | omega)]; first | assumption | exact e_up_s | (rw [e_up_n (by first | assumption | omega)]; first | assumption | exact e_up_s | (rw [e_up_n (by first | assumption | omega)]; first | assumption | exact e_up_s))) | exact hD.1 | exact hD1.1 | exact hD2.1 | exact gD.1 | exact gD1.1 | exact gD2.1 | exact gQ.1 | exact hQ.1 | exact gS.1 | exact hS.1 | exact zD.1) rfl rfl w_ml_RX1_51 dX1_weightAt_3 (by rfl) (Nat.le_of_ble_eq_true rfl) (by decide) (by omega) (fun _ _ _ h _ => False.elim h) (fun r_3 w_3 n_3 h_3 hn_3 => ?_)
  obtain ⟨rfl, ew_3, en_3⟩ := h_3
  rw [ew_3, en_3]
  refine e_istore F dX1_weightAt_6 (by decide) ?_
  refine e_iconst F dX1_weightAt_8 ?_
  refine e_istore F dX1_weightAt_9 (by decide) ?_
  refine e_iconst F dX1_weightAt_11 ?_
  refine e_istore F dX1_weightAt_12 (by decide) ?_
  refine e_iconst F dX1_weightAt_14 ?_
  refine e_istore F dX1_weightAt_15 (by decide) ?_
  exact e_go (lp ((ho wh).toNat + 1) 0 (by omega) (by omega)) (And.intro rfl (And.intro rfl (And.intro rfl (And.intro rfl (And.intro rfl (And.intro rfl (And.intro rfl (trivial))))))))
set_option maxHeartbeats 4000000 in
set_option maxRecDepth 100000 in
theorem c_X1_choose {K : e_K} {l : Launch} {w : e_W} {n : Nat} {f wh : Nat} {x0 x1 x2 x3 x4 : Int} (hF : w f = some (.inl (1, [.int (eI x0), .int (eI x1), .int (eI x2), .int (eI x3), .int (eI x4)]))) (hwh : wh < 7) : e_Met K l yX1_choose (Cond.code yX1_choose cX1_choose 2 none :: e_TB) (1) (0) [.ref f, .int (eI (wh : Int))] w n (fun r w' n' => r = none ∧ w' f = some (FO wh) ∧ (∀ q, q ≠ f → w' q = w q) ∧ n' = n) (e_px0) := by
  refine e_ofV rfl (Nat.le_of_ble_eq_true rfl) ?_
  intro P9 E9 S9 M9 A9 B9 T9 C9 F hnm
  have hp := pr_rg wh hwh
  have hg := gr_rg wh hwh
  have hb := bs_rg wh hwh
  have hbg := bs_gr wh hwh
  have ho9 := ho_rg wh hwh
  refine e_iload_n F dX1_choose_0 rfl ?_
  refine e_if_lt F 28 dX1_choose_1 (by decide) (⟨by omega, by omega⟩) (fun c_1 => ?_) (fun c_1 => ?_)
  · exact absurd c_1 (by omega)
  · refine e_iload_n F dX1_choose_4 rfl ?_
    refine e_getsN F (i := 0) rfl w_fn_RX1_15 dX1_choose_5 ?_
    refine e_alenS F (i := 0) (by decide) dX1_choose_8 ?_
    refine e_icmp_ge F 28 dX1_choose_9 (by decide) (⟨by omega, by omega⟩) (⟨by omega, by omega⟩) (fun c_9 => ?_) (fun c_9 => ?_)
    · exact absurd c_9 (by omega)
    · refine e_iload_n F dX1_choose_12 rfl ?_
      refine e_getsN F (i := 1) rfl w_fn_RX1_19 dX1_choose_13 ?_
      refine e_alenS F (i := 1) (by decide) dX1_choose_16 ?_
      refine e_icmp_ge F 28 dX1_choose_17 (by decide) (⟨by omega, by omega⟩) (⟨by omega, by omega⟩) (fun c_17 => ?_) (fun c_17 => ?_)
      · exact absurd c_17 (by omega)
      · refine e_iload_n F dX1_choose_20 rfl ?_
        refine e_getsN F (i := 2) rfl w_fn_RX1_22 dX1_choose_21 ?_
        refine e_alenS F (i := 2) (by decide) dX1_choose_24 ?_
        refine e_icmp_lt F 29 dX1_choose_25 (by decide) (⟨by omega, by omega⟩) (⟨by omega, by omega⟩) (fun c_25 => ?_) (fun c_25 => ?_)
        · refine e_aload_n F dX1_choose_29 rfl ?_
          refine e_iload_n F dX1_choose_30 rfl ?_
          refine e_set (host := "") (ci := 1) (fi := 0) (q := (RX1, TX1, 5)) F (by first | assumption | exact e_up_s | (rw [e_up_n (by first | assumption | omega)]; first | assumption | exact e_up_s | (rw [e_up_n (by first | assumption | omega)]; first | assumption | exact e_up_s | (rw [e_up_n (by first | assumption | omega)]; first | assumption | exact e_up_s))) | exact hD.1 | exact hD1.1 | exact hD2.1 | exact gD.1 | exact gD1.1 | exact gD2.1 | exact gQ.1 | exact hQ.1 | exact gS.1 | exact hS.1 | exact zD.1) rfl (by decide) w_fl_RX1_25 rfl (by rfl) (by rfl) (Nat.le_of_ble_eq_true rfl) dX1_choose_31 ?_
          refine e_aload_n F dX1_choose_34 rfl ?_
          refine e_getsN F (i := 0) rfl w_fn_RX1_15 dX1_choose_35 ?_
          refine e_iload_n F dX1_choose_38 rfl ?_
          refine e_ialdS F (i := 0) (by decide) (by omega) (by omega) dX1_choose_39 ?_
          refine e_set (host := "") (ci := 1) (fi := 1) (q := (RX1, TX1, 5)) F (by first | assumption | exact e_up_s | (rw [e_up_n (by first | assumption | omega)]; first | assumption | exact e_up_s | (rw [e_up_n (by first | assumption | omega)]; first | assumption | exact e_up_s | (rw [e_up_n (by first | assumption | omega)]; first | assumption | exact e_up_s))) | exact hD.1 | exact hD1.1 | exact hD2.1 | exact gD.1 | exact gD1.1 | exact gD2.1 | exact gQ.1 | exact hQ.1 | exact gS.1 | exact hS.1 | exact zD.1) rfl (by decide) w_fl_RX1_29 rfl (by rfl) (by rfl) (Nat.le_of_ble_eq_true rfl) dX1_choose_40 ?_
          refine e_aload_n F dX1_choose_43 rfl ?_
          refine e_getsN F (i := 1) rfl w_fn_RX1_19 dX1_choose_44 ?_
          refine e_iload_n F dX1_choose_47 rfl ?_
          refine e_ialdS F (i := 1) (by decide) (by omega) (by omega) dX1_choose_48 ?_
          refine e_set (host := "") (ci := 1) (fi := 2) (q := (RX1, TX1, 5)) F (by first | assumption | exact e_up_s | (rw [e_up_n (by first | assumption | omega)]; first | assumption | exact e_up_s | (rw [e_up_n (by first | assumption | omega)]; first | assumption | exact e_up_s | (rw [e_up_n (by first | assumption | omega)]; first | assumption | exact e_up_s))) | exact hD.1 | exact hD1.1 | exact hD2.1 | exact gD.1 | exact gD1.1 | exact gD2.1 | exact gQ.1 | exact hQ.1 | exact gS.1 | exact hS.1 | exact zD.1) rfl (by decide) w_fl_RX1_32 rfl (by rfl) (by rfl) (Nat.le_of_ble_eq_true rfl) dX1_choose_49 ?_
          refine e_aload_n F dX1_choose_52 rfl ?_
          refine e_getsN F (i := 2) rfl w_fn_RX1_22 dX1_choose_53 ?_
          refine e_iload_n F dX1_choose_56 rfl ?_
          refine e_ialdS F (i := 2) (by decide) (by omega) (by omega) dX1_choose_57 ?_
          refine e_set (host := "") (ci := 1) (fi := 3) (q := (RX1, TX1, 5)) F (by first | assumption | exact e_up_s | (rw [e_up_n (by first | assumption | omega)]; first | assumption | exact e_up_s | (rw [e_up_n (by first | assumption | omega)]; first | assumption | exact e_up_s | (rw [e_up_n (by first | assumption | omega)]; first | assumption | exact e_up_s))) | exact hD.1 | exact hD1.1 | exact hD2.1 | exact gD.1 | exact gD1.1 | exact gD2.1 | exact gQ.1 | exact hQ.1 | exact gS.1 | exact hS.1 | exact zD.1) rfl (by decide) w_fl_RX1_35 rfl (by rfl) (by rfl) (Nat.le_of_ble_eq_true rfl) dX1_choose_58 ?_
          refine e_aload_n F dX1_choose_61 rfl ?_
          refine e_bipush F dX1_choose_62 (by decide) ?_
          refine e_aload_n F dX1_choose_64 rfl ?_
          refine e_get (ci := 1) (fi := 1) (q := (RX1, TX1, 5)) F (by first | assumption | exact e_up_s | (rw [e_up_n (by first | assumption | omega)]; first | assumption | exact e_up_s | (rw [e_up_n (by first | assumption | omega)]; first | assumption | exact e_up_s | (rw [e_up_n (by first | assumption | omega)]; first | assumption | exact e_up_s))) | exact hD.1 | exact hD1.1 | exact hD2.1 | exact gD.1 | exact gD1.1 | exact gD2.1 | exact gQ.1 | exact hQ.1 | exact gS.1 | exact hS.1 | exact zD.1) rfl (by decide) w_fl_RX1_29 (by rfl) dX1_choose_65 ?_
          refine e_iconst F dX1_choose_68 ?_
          refine e_isub F dX1_choose_69 ?_
          have hpp : (e_row 0).getD ((wh : Int)).toNat 0 = pr wh := rfl
          refine e_mmin F (by decide) ⟨by omega, by omega⟩ w_ml_RX1_38 w_sm_J9_min_7cf53 w_in_RJ9 w_co_J9_min_7cf53 dX1_choose_70 (Nat.le_of_ble_eq_true rfl) (by decide) (by omega) ?_
          refine e_set (host := "") (ci := 1) (fi := 4) (q := (RX1, TX1, 5)) F (by first | assumption | exact e_up_s | (rw [e_up_n (by first | assumption | omega)]; first | assumption | exact e_up_s | (rw [e_up_n (by first | assumption | omega)]; first | assumption | exact e_up_s | (rw [e_up_n (by first | assumption | omega)]; first | assumption | exact e_up_s))) | exact hD.1 | exact hD1.1 | exact hD2.1 | exact gD.1 | exact gD1.1 | exact gD2.1 | exact gQ.1 | exact hQ.1 | exact gS.1 | exact hS.1 | exact zD.1) rfl (by decide) w_fl_RX1_44 rfl (by rfl) (by rfl) (Nat.le_of_ble_eq_true rfl) dX1_choose_73 ?_
          refine e_vret F rfl (by omega) ?_ dX1_choose_76
          refine ⟨rfl, e_up_s, fun q hq => ?_, rfl⟩
          simp only [e_up, if_neg hq]
        · exact absurd c_25 (by omega)
set_option maxHeartbeats 4000000 in
set_option maxRecDepth 100000 in
theorem c_X1_init {K : e_K} {l : Launch} {w : e_W} {n : Nat} {f : Nat} {x0 x1 x2 x3 x4 : Int} (hF : w f = some (.inl (1, [.int (eI x0), .int (eI x1), .int (eI x2), .int (eI x3), .int (eI x4)]))) : e_Met K l yX1_init (Cond.code yX1_init cX1_init 1 none :: e_TB) (2) (0) [.ref f] w n (fun r w' n' => r = none ∧ w' f = some (FO 3) ∧ (∀ q, q ≠ f → w' q = w q) ∧ n' = n) (e_px0) := by
  refine e_ofV rfl (Nat.le_of_ble_eq_true rfl) ?_
  intro P9 E9 S9 M9 A9 B9 T9 C9 F hnm
  refine e_aload_n F dX1_init_0 rfl ?_
  refine e_oinit F w_ml_RX1_3 w_im_java_lang_Object__init____V w_co_oinit (Nat.le_of_ble_eq_true rfl) (by decide) dX1_init_1 ?_
  refine e_aload_n F dX1_init_4 rfl ?_
  refine e_iconst F dX1_init_5 ?_
  refine e_callVV F u_X1_choose (by rfl) (c_X1_choose (wh := 3) hF (by decide)) (by first | assumption | exact e_up_s | (rw [e_up_n (by first | assumption | omega)]; first | assumption | exact e_up_s | (rw [e_up_n (by first | assumption | omega)]; first | assumption | exact e_up_s | (rw [e_up_n (by first | assumption | omega)]; first | assumption | exact e_up_s))) | exact hD.1 | exact hD1.1 | exact hD2.1 | exact gD.1 | exact gD1.1 | exact gD2.1 | exact gQ.1 | exact hQ.1 | exact gS.1 | exact hS.1 | exact zD.1) rfl rfl w_ml_RX1_9 dX1_init_6 (by rfl) (Nat.le_of_ble_eq_true rfl) (by decide) (by omega) (fun _ _ _ h _ => False.elim h) (fun r_6 w_6 n_6 h_6 hn_6 => ?_)
  obtain ⟨rfl, h1, h2, rfl⟩ := h_6
  refine e_vret F rfl (by omega) ?_ dX1_init_9
  exact ⟨rfl, h1, h2, rfl⟩
