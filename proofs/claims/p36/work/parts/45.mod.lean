/-! the reference: numbers -/
abbrev MO (y : Nat) (t : Int) (wh : Nat) (kn : Int) : e_C := .inl (5, [.int (eI t), .int (eI (wh : Int)), .int (eI kn), .ref (y + 1), .ref (y + 2), .ref (y + 3)])
/-- the greatest common divisor's steps -/
def XI (p v far near was is : Int) : Prop := 1 ≤ far ∧ 0 ≤ near ∧ near < far ∧ far ≤ p ∧ (∃ a b, 0 ≤ a ∧ a ≤ b ∧ 1 ≤ b ∧ b * far + a * near = p ∧ ((was = a ∧ is = -b) ∨ (was = -a ∧ is = b))) ∧ (∃ c, was * v = far + p * c) ∧ (∃ c, is * v = near + p * c) ∧ (∀ d, d ∣ far → d ∣ near → d ∣ p ∧ d ∣ v)
theorem XI.step {p v far near was is : Int} (h : XI p v far near was is) (h0 : 0 < near) : XI p v near (far - far / near * near) is (was - far / near * is) := by
  obtain ⟨h1, h2, h3, h4, ⟨a, b, a0, ab, b1, hab, hs⟩, ⟨c1, hc1⟩, ⟨c2, hc2⟩, hd⟩ := h
  have e1 := Int.emod_add_mul_ediv far near
  have e2 : far - far / near * near = far % near := by rw [Int.mul_comm (far / near)]; omega
  have e3 := Int.emod_nonneg far (show near ≠ 0 by omega)
  have e4 := Int.emod_lt_of_pos far h0
  have q1 : 1 ≤ far / near := (Int.le_ediv_iff_mul_le h0).mpr (by omega)
  have q2 : b * 1 ≤ b * (far / near) := Int.mul_le_mul_of_nonneg_left q1 (by omega)
  refine ⟨by omega, by omega, by omega, by omega, ⟨b, a + far / near * b, by omega, ?_, ?_, ?_, ?_⟩, ⟨c2, hc2⟩, ⟨c1 - far / near * c2, ?_⟩, fun d hd1 hd2 => ?_⟩
  · rw [Int.mul_comm (far / near)]; omega
  · rw [Int.mul_comm (far / near)]; omega
  · rw [← hab, Int.add_mul, Int.mul_sub, ← Int.mul_assoc b, Int.mul_comm b (far / near)]; omega
  · rcases hs with ⟨s1, s2⟩ | ⟨s1, s2⟩
    · exact Or.inr ⟨s2, by rw [s1, s2, Int.mul_neg]; omega⟩
    · exact Or.inl ⟨s2, by rw [s1, s2]; omega⟩
  · rw [Int.sub_mul, hc1, Int.mul_assoc, hc2, Int.mul_sub, Int.mul_add, Int.mul_left_comm (far / near) p c2]; omega
  · apply hd d _ hd1
    rw [show far = (far - far / near * near) + far / near * near by omega]
    exact Int.dvd_add hd2 (Int.dvd_mul_of_dvd_right hd1)
theorem XI.rg {p v far near was is : Int} (h : XI p v far near was is) : -p ≤ was ∧ was ≤ p ∧ -p ≤ is ∧ is ≤ p := by
  obtain ⟨h1, h2, h3, h4, ⟨a, b, a0, ab, b1, hab, hs⟩, -⟩ := h
  have q1 : b * 1 ≤ b * far := Int.mul_le_mul_of_nonneg_left h1 (by omega)
  have q2 : 0 ≤ a * near := Int.mul_nonneg a0 h2
  rcases hs with ⟨s1, s2⟩ | ⟨s1, s2⟩ <;> omega
def XJ (wh : Nat) (v far near was is : Int) : Prop := (v = 0 ∧ near = 0 ∧ was = 0) ∨ (1 ≤ v ∧ XI (pr wh) v far near was is)
theorem XJ.end {wh : Nat} (hwh : wh < 7) {v far near was is : Int} (hv : v < pr wh) (h : XJ wh v far near was is) (h0 : near ≤ 0) : was % pr wh = iv wh v := by
  have hp := pr_rg wh hwh
  rcases h with ⟨q1, -, q3⟩ | ⟨q1, q2⟩
  · rw [q1, q3, iv_zero hwh, Int.zero_emod]
  · have q2' := q2
    obtain ⟨h1, h2, h3, h4, -, ⟨c1, hc1⟩, -, hd⟩ := q2'
    have e0 : near = 0 := by omega
    obtain ⟨d1, d2⟩ := hd far (Int.dvd_refl far) (by rw [e0]; exact Int.dvd_zero far)
    have e1 : far = 1 := pr_cop hwh q1 hv (by omega) d1 d2
    refine iv_is hwh q1 hv (Int.emod_nonneg _ (by omega)) (Int.emod_lt_of_pos _ (by omega)) ?_
    rw [emod_mul_l, hc1, e1, Int.add_mul_emod_self_left]
    exact Int.emod_eq_of_lt (by omega) (by omega)
theorem bc_half {v : Int} (h0 : 0 ≤ v) (h1 : v < 128) : bc v = v % 2 + bc (v / 2) := by unfold bc; omega
/-- Horner's way, over N coefficients -/
def hv (p x : Int) (P : Int → Int) (N : Int) : Nat → Int
  | 0 => 0
  | j + 1 => (hv p x P N j * x + P (N - 1 - (j : Int))) % p
theorem hv_rg {p x : Int} {P : Int → Int} {N : Int} (hp : 0 < p) (j : Nat) : 0 ≤ hv p x P N j ∧ hv p x P N j < p := by
  cases j with
  | zero => unfold hv; omega
  | succ j => unfold hv; exact ⟨Int.emod_nonneg _ (by omega), Int.emod_lt_of_pos _ hp⟩
theorem hv_congr {p x : Int} {P Q : Int → Int} {N : Int} (j : Nat) (hj : (j : Int) ≤ N) (h : ∀ k, 0 ≤ k → k < N → P k = Q k) : hv p x P N j = hv p x Q N j := by
  induction j with
  | zero => rfl
  | succ j ih =>
    show (hv p x P N j * x + P (N - 1 - (j : Int))) % p = (hv p x Q N j * x + Q (N - 1 - (j : Int))) % p
    rw [ih (by omega), h _ (by omega) (by omega)]
theorem hv_hz {p x : Int} {P : Int → Int} (j : Nat) : hv p x P 7 j = hz p x P j := by
  induction j with
  | zero => rfl
  | succ j ih =>
    show (hv p x P 7 j * x + P (7 - 1 - (j : Int))) % p = (hz p x P j * x + P (6 - (j : Int))) % p
    rw [ih]
    rfl
set_option maxHeartbeats 4000000 in
set_option maxRecDepth 100000 in
theorem c_X5_thrown {K : e_K} {l : Launch} {w : e_W} {n : Nat} {y wh : Nat} {t kn : Int} (hY : w y = some (MO y t wh kn)) : e_Met K l yX5_thrown (Cond.code yX5_thrown cX5_thrown 1 (Option.some .int) :: e_TB) (0) (0) [.ref y] w n (fun r w' n' => r = some (.int (eI (t))) ∧ w' = w ∧ n' = n) (e_px0) := by
  refine e_ofV rfl (Nat.le_of_ble_eq_true rfl) ?_
  intro P9 E9 S9 M9 A9 B9 T9 C9 F hnm
  refine e_aload_n F dX5_thrown_0 rfl ?_
  refine e_get (ci := 5) (fi := 0) (q := (RX5, TX5, 6)) F hY rfl (by decide) w_fl_RX5_25 (by rfl) dX5_thrown_1 ?_
  refine e_iret F rfl (by omega) ?_ dX5_thrown_4
  exact ⟨rfl, rfl, rfl⟩
set_option maxHeartbeats 4000000 in
set_option maxRecDepth 100000 in
theorem c_X5_isIn {K : e_K} {l : Launch} {w : e_W} {n : Nat} {v a b : Int} (hv : e_r v) (ha : e_r a) (hb : e_r b) : e_Met K l yX5_isIn (Cond.code yX5_isIn cX5_isIn 3 (Option.some .boolean) :: e_TB) (0) (0) [.int (eI v), .int (eI a), .int (eI b)] w n (fun r w' n' => r = some (.int (eI (b01 (a ≤ v ∧ v ≤ b)))) ∧ w' = w ∧ n' = n) (e_px0) := by
  refine e_ofV rfl (Nat.le_of_ble_eq_true rfl) ?_
  intro P9 E9 S9 M9 A9 B9 T9 C9 F hnm
  refine e_iload_n F dX5_isIn_0 rfl ?_
  refine e_iload_n F dX5_isIn_1 rfl ?_
  refine e_icmp_lt F 14 dX5_isIn_2 (by decide) (hv) (ha) (fun c_2 => ?_) (fun c_2 => ?_)
  · refine e_iconst F dX5_isIn_14 ?_
    refine e_zret F rfl (by omega) (by omega) ?_ dX5_isIn_15
    refine ⟨?_, rfl, rfl⟩
    first | rw [b01_t (by omega)] | rw [b01_f (by omega)]
  · refine e_iload_n F dX5_isIn_5 rfl ?_
    refine e_iload_n F dX5_isIn_6 rfl ?_
    refine e_icmp_gt F 14 dX5_isIn_7 (by decide) (hv) (hb) (fun c_7 => ?_) (fun c_7 => ?_)
    · refine e_iconst F dX5_isIn_14 ?_
      refine e_zret F rfl (by omega) (by omega) ?_ dX5_isIn_15
      refine ⟨?_, rfl, rfl⟩
      first | rw [b01_t (by omega)] | rw [b01_f (by omega)]
    · refine e_iconst F dX5_isIn_10 ?_
      refine e_goto F 15 dX5_isIn_11 (by decide) ?_
      refine e_zret F rfl (by omega) (by omega) ?_ dX5_isIn_15
      refine ⟨?_, rfl, rfl⟩
      first | rw [b01_t (by omega)] | rw [b01_f (by omega)]
set_option maxHeartbeats 4000000 in
set_option maxRecDepth 100000 in
theorem c_X5_one {K : e_K} {l : Launch} {w : e_W} {n : Nat} {b : Int} (hb : b = 0 ∨ b = 1) : e_Met K l yX5_one (Cond.code yX5_one cX5_one 1 (Option.some .int) :: e_TB) (0) (0) [.int (eI b)] w n (fun r w' n' => r = some (.int (eI (b))) ∧ w' = w ∧ n' = n) (e_px0) := by
  refine e_ofV rfl (Nat.le_of_ble_eq_true rfl) ?_
  intro P9 E9 S9 M9 A9 B9 T9 C9 F hnm
  refine e_iload_n F dX5_one_0 rfl ?_
  refine e_if_eq F 8 dX5_one_1 (by decide) (by rcases hb with h | h <;> rw [h] <;> decide) (fun c_1 => ?_) (fun c_1 => ?_)
  · refine e_iconst F dX5_one_8 ?_
    refine e_iret F rfl (by omega) ?_ dX5_one_9
    rcases hb with h | h
    · subst h; first | exact ⟨rfl, rfl, rfl⟩ | exact absurd rfl c_1
    · subst h; first | exact ⟨rfl, rfl, rfl⟩ | exact absurd c_1 (by decide)
  · refine e_iconst F dX5_one_4 ?_
    refine e_goto F 9 dX5_one_5 (by decide) ?_
    refine e_iret F rfl (by omega) ?_ dX5_one_9
    rcases hb with h | h
    · subst h; first | exact ⟨rfl, rfl, rfl⟩ | exact absurd rfl c_1
    · subst h; first | exact ⟨rfl, rfl, rfl⟩ | exact absurd c_1 (by decide)
set_option maxHeartbeats 4000000 in
set_option maxRecDepth 100000 in
theorem c_X5_p {K : e_K} {l : Launch} {w : e_W} {n : Nat} {y wh : Nat} {t kn : Int} (hY : w y = some (MO y t wh kn)) (hwh : wh < 7) : e_Met K l yX5_p (Cond.code yX5_p cX5_p 1 (Option.some .int) :: e_TB) (0) (0) [.ref y] w n (fun r w' n' => r = some (.int (eI (pr wh))) ∧ w' = w ∧ n' = n) (e_px0) := by
  refine e_ofV rfl (Nat.le_of_ble_eq_true rfl) ?_
  intro P9 E9 S9 M9 A9 B9 T9 C9 F hnm
  refine e_gets F (i := 3) rfl w_fl_RX5_32 dX5_p_0 ?_
  refine e_aload_n F dX5_p_3 rfl ?_
  refine e_get (ci := 5) (fi := 1) (q := (RX5, TX5, 6)) F hY rfl (by decide) w_fl_RX5_7 (by rfl) dX5_p_4 ?_
  refine e_ialdS F (i := 3) (by decide) (by omega) (by omega) dX5_p_7 ?_
  refine e_iret F rfl (by omega) ?_ dX5_p_8
  exact ⟨rfl, rfl, rfl⟩
set_option maxHeartbeats 4000000 in
set_option maxRecDepth 100000 in
theorem c_X5_q {K : e_K} {l : Launch} {w : e_W} {n : Nat} {y wh : Nat} {t kn : Int} (hY : w y = some (MO y t wh kn)) (hwh : wh < 7) : e_Met K l yX5_q (Cond.code yX5_q cX5_q 1 (Option.some .int) :: e_TB) (0) (0) [.ref y] w n (fun r w' n' => r = some (.int (eI (gr wh))) ∧ w' = w ∧ n' = n) (e_px0) := by
  refine e_ofV rfl (Nat.le_of_ble_eq_true rfl) ?_
  intro P9 E9 S9 M9 A9 B9 T9 C9 F hnm
  refine e_gets F (i := 4) rfl w_fl_RX5_35 dX5_q_0 ?_
  refine e_aload_n F dX5_q_3 rfl ?_
  refine e_get (ci := 5) (fi := 1) (q := (RX5, TX5, 6)) F hY rfl (by decide) w_fl_RX5_7 (by rfl) dX5_q_4 ?_
  refine e_ialdS F (i := 4) (by decide) (by omega) (by omega) dX5_q_7 ?_
  refine e_iret F rfl (by omega) ?_ dX5_q_8
  exact ⟨rfl, rfl, rfl⟩
set_option maxHeartbeats 4000000 in
set_option maxRecDepth 100000 in
theorem c_X5_holders {K : e_K} {l : Launch} {w : e_W} {n : Nat} {y wh : Nat} {t kn : Int} (hY : w y = some (MO y t wh kn)) (hwh : wh < 7) : e_Met K l yX5_holders (Cond.code yX5_holders cX5_holders 1 (Option.some .int) :: e_TB) (1) (0) [.ref y] w n (fun r w' n' => r = some (.int (eI (ho wh))) ∧ w' = w ∧ n' = n) (e_px0) := by
  refine e_ofV rfl (Nat.le_of_ble_eq_true rfl) ?_
  intro P9 E9 S9 M9 A9 B9 T9 C9 F hnm
  have hp := pr_rg wh hwh
  have hho := ho_rg wh hwh
  refine e_bipush F dX5_holders_0 (by decide) ?_
  refine e_aload_n F dX5_holders_2 rfl ?_
  refine e_callVV F u_X5_p (by rfl) (c_X5_p hY hwh) hY rfl rfl w_ml_RX5_38 dX5_holders_3 (by rfl) (Nat.le_of_ble_eq_true rfl) (by decide) (by omega) (fun _ _ _ h _ => False.elim h) (fun r_3 w_3 n_3 h_3 hn_3 => ?_)
  obtain ⟨rfl, ew_3, en_3⟩ := h_3
  rw [ew_3, en_3]
  refine e_iconst F dX5_holders_6 ?_
  refine e_isub F dX5_holders_7 ?_
  refine e_mmin F ⟨by omega, by omega⟩ ⟨by omega, by omega⟩ w_ml_RX5_42 w_sm_J9_min_7cf53 w_in_RJ9 w_co_J9_min_7cf53 dX5_holders_8 (Nat.le_of_ble_eq_true rfl) (by decide) (by omega) ?_
  refine e_iret F rfl (by omega) ?_ dX5_holders_11
  exact ⟨rfl, rfl, rfl⟩
set_option maxHeartbeats 4000000 in
set_option maxRecDepth 100000 in
theorem c_X5_isNoDeal {K : e_K} {l : Launch} {w : e_W} {n : Nat} {i : Int} (hi : e_r i) : e_Met K l yX5_isNoDeal (Cond.code yX5_isNoDeal cX5_isNoDeal 1 (Option.some .boolean) :: e_TB) (1) (0) [.int (eI i)] w n (fun r w' n' => r = some (.int (eI (b01 (¬ (0 ≤ i ∧ i < 6))))) ∧ w' = w ∧ n' = n) (e_px0) := by
  refine e_ofV rfl (Nat.le_of_ble_eq_true rfl) ?_
  intro P9 E9 S9 M9 A9 B9 T9 C9 F hnm
  refine e_iload_n F dX5_isNoDeal_0 rfl ?_
  refine e_iconst F dX5_isNoDeal_1 ?_
  refine e_iconst F dX5_isNoDeal_2 ?_
  refine e_callSS F u_X5_isIn (by rfl) (c_X5_isIn (v := i) (a := 0) (b := 5) hi (by decide) (by decide)) w_ml_RX5_48 dX5_isNoDeal_3 (by rfl) (Nat.le_of_ble_eq_true rfl) (by decide) (by omega) (fun _ _ _ h _ => False.elim h) (fun r_3 w_3 n_3 h_3 hn_3 => ?_)
  obtain ⟨rfl, ew_3, en_3⟩ := h_3
  rw [ew_3, en_3]
  refine e_if_ne F 13 dX5_isNoDeal_6 (by decide) (b01_r _) (fun c_6 => ?_) (fun c_6 => ?_)
  ·
    rw [ne_eq, b01_0, Classical.not_not] at c_6
    refine e_iconst F dX5_isNoDeal_13 ?_
    refine e_zret F rfl (by omega) (by omega) ?_ dX5_isNoDeal_14
    refine ⟨?_, rfl, rfl⟩
    first | rw [b01_t (show (¬ (0 ≤ i ∧ i < 6)) by omega)] | rw [b01_f (show ¬ (¬ (0 ≤ i ∧ i < 6)) by omega)]
  ·
    rw [b01_0] at c_6
    refine e_iconst F dX5_isNoDeal_9 ?_
    refine e_goto F 14 dX5_isNoDeal_10 (by decide) ?_
    refine e_zret F rfl (by omega) (by omega) ?_ dX5_isNoDeal_14
    refine ⟨?_, rfl, rfl⟩
    first | rw [b01_t (show (¬ (0 ≤ i ∧ i < 6)) by omega)] | rw [b01_f (show ¬ (¬ (0 ≤ i ∧ i < 6)) by omega)]
set_option maxHeartbeats 4000000 in
set_option maxRecDepth 100000 in
theorem c_X5_isNoHolder {K : e_K} {l : Launch} {w : e_W} {n : Nat} {y wh : Nat} {t kn : Int} (hY : w y = some (MO y t wh kn)) (hwh : wh < 7) {h : Int} (hh : e_r h) : e_Met K l yX5_isNoHolder (Cond.code yX5_isNoHolder cX5_isNoHolder 2 (Option.some .boolean) :: e_TB) (2) (0) [.ref y, .int (eI h)] w n (fun r w' n' => r = some (.int (eI (b01 (¬ (1 ≤ h ∧ h ≤ ho wh))))) ∧ w' = w ∧ n' = n) (e_px0) := by
  refine e_ofV rfl (Nat.le_of_ble_eq_true rfl) ?_
  intro P9 E9 S9 M9 A9 B9 T9 C9 F hnm
  have hp := pr_rg wh hwh
  have hho := ho_rg wh hwh
  refine e_iload_n F dX5_isNoHolder_0 rfl ?_
  refine e_iconst F dX5_isNoHolder_1 ?_
  refine e_aload_n F dX5_isNoHolder_2 rfl ?_
  refine e_callVV F u_X5_holders (by rfl) (c_X5_holders hY hwh) hY rfl rfl w_ml_RX5_52 dX5_isNoHolder_3 (by rfl) (Nat.le_of_ble_eq_true rfl) (by decide) (by omega) (fun _ _ _ h _ => False.elim h) (fun r_3 w_3 n_3 h_3 hn_3 => ?_)
  obtain ⟨rfl, ew_3, en_3⟩ := h_3
  rw [ew_3, en_3]
  refine e_callSS F u_X5_isIn (by rfl) (c_X5_isIn (v := h) (a := 1) (b := ho wh) hh (by decide) ⟨by omega, by omega⟩) w_ml_RX5_48 dX5_isNoHolder_6 (by rfl) (Nat.le_of_ble_eq_true rfl) (by decide) (by omega) (fun _ _ _ h _ => False.elim h) (fun r_6 w_6 n_6 h_6 hn_6 => ?_)
  obtain ⟨rfl, ew_6, en_6⟩ := h_6
  rw [ew_6, en_6]
  refine e_if_ne F 16 dX5_isNoHolder_9 (by decide) (b01_r _) (fun c_9 => ?_) (fun c_9 => ?_)
  ·
    rw [ne_eq, b01_0, Classical.not_not] at c_9
    refine e_iconst F dX5_isNoHolder_16 ?_
    refine e_zret F rfl (by omega) (by omega) ?_ dX5_isNoHolder_17
    refine ⟨?_, rfl, rfl⟩
    first | rw [b01_t (show (¬ (1 ≤ h ∧ h ≤ ho wh)) by omega)] | rw [b01_f (show ¬ (¬ (1 ≤ h ∧ h ≤ ho wh)) by omega)]
  ·
    rw [b01_0] at c_9
    refine e_iconst F dX5_isNoHolder_12 ?_
    refine e_goto F 17 dX5_isNoHolder_13 (by decide) ?_
    refine e_zret F rfl (by omega) (by omega) ?_ dX5_isNoHolder_17
    refine ⟨?_, rfl, rfl⟩
    first | rw [b01_t (show (¬ (1 ≤ h ∧ h ≤ ho wh)) by omega)] | rw [b01_f (show ¬ (¬ (1 ≤ h ∧ h ≤ ho wh)) by omega)]
set_option maxHeartbeats 4000000 in
set_option maxRecDepth 100000 in
theorem c_X5_isNoSet {K : e_K} {l : Launch} {w : e_W} {n : Nat} {y wh : Nat} {t kn : Int} (hY : w y = some (MO y t wh kn)) (hwh : wh < 7) {s9 : Int} (hs9 : e_r s9) : e_Met K l yX5_isNoSet (Cond.code yX5_isNoSet cX5_isNoSet 2 (Option.some .boolean) :: e_TB) (2) (0) [.ref y, .int (eI s9)] w n (fun r w' n' => r = some (.int (eI (b01 (¬ (1 ≤ s9 ∧ s9 ≤ fl wh))))) ∧ w' = w ∧ n' = n) (e_px0) := by
  refine e_ofV rfl (Nat.le_of_ble_eq_true rfl) ?_
  intro P9 E9 S9 M9 A9 B9 T9 C9 F hnm
  have hp := pr_rg wh hwh
  have hho := ho_rg wh hwh
  have hf9 := fl_rg wh hwh
  refine e_iload_n F dX5_isNoSet_0 rfl ?_
  refine e_iconst F dX5_isNoSet_1 ?_
  refine e_iconst F dX5_isNoSet_2 ?_
  refine e_aload_n F dX5_isNoSet_3 rfl ?_
  refine e_callVV F u_X5_holders (by rfl) (c_X5_holders hY hwh) hY rfl rfl w_ml_RX5_52 dX5_isNoSet_4 (by rfl) (Nat.le_of_ble_eq_true rfl) (by decide) (by omega) (fun _ _ _ h _ => False.elim h) (fun r_4 w_4 n_4 h_4 hn_4 => ?_)
  obtain ⟨rfl, ew_4, en_4⟩ := h_4
  rw [ew_4, en_4]
  refine e_ishl F dX5_isNoSet_7 (by have := eI_shl1 (ho wh).toNat (by omega); rwa [Int.toNat_of_nonneg (by omega)] at this) ?_
  refine e_iconst F dX5_isNoSet_8 ?_
  refine e_isub F dX5_isNoSet_9 ?_
  refine e_callSS F u_X5_isIn (by rfl) (c_X5_isIn (v := s9) (a := 1) (b := fl wh) hs9 (by decide) ⟨by omega, by omega⟩) w_ml_RX5_48 dX5_isNoSet_10 (by rfl) (Nat.le_of_ble_eq_true rfl) (by decide) (by omega) (fun _ _ _ h _ => False.elim h) (fun r_10 w_10 n_10 h_10 hn_10 => ?_)
  obtain ⟨rfl, ew_10, en_10⟩ := h_10
  rw [ew_10, en_10]
  refine e_if_ne F 20 dX5_isNoSet_13 (by decide) (b01_r _) (fun c_13 => ?_) (fun c_13 => ?_)
  ·
    rw [ne_eq, b01_0, Classical.not_not] at c_13
    refine e_iconst F dX5_isNoSet_20 ?_
    refine e_zret F rfl (by omega) (by omega) ?_ dX5_isNoSet_21
    refine ⟨?_, rfl, rfl⟩
    first | rw [b01_t (show (¬ (1 ≤ s9 ∧ s9 ≤ fl wh)) by omega)] | rw [b01_f (show ¬ (¬ (1 ≤ s9 ∧ s9 ≤ fl wh)) by omega)]
  ·
    rw [b01_0] at c_13
    refine e_iconst F dX5_isNoSet_16 ?_
    refine e_goto F 21 dX5_isNoSet_17 (by decide) ?_
    refine e_zret F rfl (by omega) (by omega) ?_ dX5_isNoSet_21
    refine ⟨?_, rfl, rfl⟩
    first | rw [b01_t (show (¬ (1 ≤ s9 ∧ s9 ≤ fl wh)) by omega)] | rw [b01_f (show ¬ (¬ (1 ≤ s9 ∧ s9 ≤ fl wh)) by omega)]
set_option maxHeartbeats 4000000 in
set_option maxRecDepth 100000 in
theorem c_X5_has {K : e_K} {l : Launch} {w : e_W} {n : Nat} {s9 h : Int} (h0 : 0 ≤ s9) (h1 : s9 < 2147483648) (h2 : 1 ≤ h) (h3 : h ≤ 7) : e_Met K l yX5_has (Cond.code yX5_has cX5_has 2 (Option.some .boolean) :: e_TB) (0) (0) [.int (eI s9), .int (eI h)] w n (fun r w' n' => r = some (.int (eI (b01 (hs s9 h)))) ∧ w' = w ∧ n' = n) (e_px0) := by
  refine e_ofV rfl (Nat.le_of_ble_eq_true rfl) ?_
  intro P9 E9 S9 M9 A9 B9 T9 C9 F hnm
  have hd := div_rg (h - 1).toNat h0 h1
  refine e_iload_n F dX5_has_0 rfl ?_
  refine e_iload_n F dX5_has_1 rfl ?_
  refine e_iconst F dX5_has_2 ?_
  refine e_isub F dX5_has_3 ?_
  refine e_ishr F dX5_has_4 (eI_shr h0 h1 (by omega) (by omega)) ?_
  refine e_iconst F dX5_has_5 ?_
  refine e_irem F dX5_has_6 (⟨by omega, by omega⟩) (⟨by omega, by omega⟩) (by omega) ?_
  rw [Int.tmod_eq_emod_of_nonneg hd.1]
  refine e_iconst F dX5_has_7 ?_
  refine e_icmp_ne F 15 dX5_has_8 (by decide) (⟨by omega, by omega⟩) (⟨by omega, by omega⟩) (fun c_8 => ?_) (fun c_8 => ?_)
  · refine e_iconst F dX5_has_15 ?_
    refine e_zret F rfl (by omega) (by omega) ?_ dX5_has_16
    refine ⟨?_, rfl, rfl⟩
    first | rw [b01_f (by unfold hs; omega)] | rw [b01_t (by unfold hs; omega)]
  · refine e_iconst F dX5_has_11 ?_
    refine e_goto F 16 dX5_has_12 (by decide) ?_
    refine e_zret F rfl (by omega) (by omega) ?_ dX5_has_16
    refine ⟨?_, rfl, rfl⟩
    first | rw [b01_f (by unfold hs; omega)] | rw [b01_t (by unfold hs; omega)]
set_option maxHeartbeats 4000000 in
set_option maxRecDepth 100000 in
theorem c_X5_many {K : e_K} {l : Launch} {w : e_W} {n : Nat} {s9 : Int} (h0 : 0 ≤ s9) (h1 : s9 < 128) : e_Met K l yX5_many (Cond.code yX5_many cX5_many 3 (Option.some .int) :: e_TB) (0) (0) [.int (eI s9)] w n (fun r w' n' => r = some (.int (eI (bc s9))) ∧ w' = w ∧ n' = n) (e_px0) := by
  refine e_ofV rfl (Nat.le_of_ble_eq_true rfl) ?_
  intro P9 E9 S9 M9 A9 B9 T9 C9 F hnm
  have hb7 : bc s9 ≤ 7 := by unfold bc; omega
  have lp : ∀ (N : Nat) (m9 l9 : Int), l9.toNat < N → (0 ≤ l9 ∧ l9 < 128 ∧ m9 + bc l9 = bc s9 ∧ 0 ≤ m9 ∧ m9 ≤ 7) → e_V K P9 l E9 (0) (0) S9 M9 A9 B9 T9 C9 3 (fun r w' n' => r = some (.int (eI (bc s9))) ∧ w' = w ∧ n' = n) (e_px0) 4 [(1, .int (eI m9)), (2, .int (eI l9))] [] w n (0) := by
    intro N
    induction N with
    | zero => intro m9 l9 hN; exact absurd hN (Nat.not_lt_zero _)
    | succ N ih =>
      intro m9 l9 hN ⟨k1, k2, k3, k4, k5⟩
      refine e_iload_n F dX5_many_4 rfl ?_
      refine e_if_le F 21 dX5_many_5 (by decide) (⟨by omega, by omega⟩) (fun c_5 => ?_) (fun c_5 => ?_)
      ·
        obtain rfl : l9 = 0 := by omega
        refine e_iload_n F dX5_many_21 rfl ?_
        refine e_iret F rfl (by omega) ?_ dX5_many_22
        refine ⟨?_, rfl, rfl⟩
        have e9 : bc 0 = 0 := by decide
        rw [e9, Int.add_zero] at k3
        rw [k3]
      ·
        have hb9 := bc_half k1 k2
        have hb8 : 0 ≤ bc (l9 / 2) := by unfold bc; omega
        have e1 : l9.tmod 2 = l9 % 2 := Int.tmod_eq_emod_of_nonneg k1
        have e2 : l9.tdiv 2 = l9 / 2 := Int.tdiv_eq_ediv_of_nonneg k1
        refine e_iload_n F dX5_many_8 rfl ?_
        refine e_iload_n F dX5_many_9 rfl ?_
        refine e_iconst F dX5_many_10 ?_
        refine e_irem F dX5_many_11 (⟨by omega, by omega⟩) (⟨by omega, by omega⟩) (by omega) ?_
        rw [e1]
        refine e_iadd F dX5_many_12 ?_
        refine e_istore_n F dX5_many_13 (by decide) ?_
        refine e_iload_n F dX5_many_14 rfl ?_
        refine e_iconst F dX5_many_15 ?_
        refine e_idiv F dX5_many_16 (⟨by omega, by omega⟩) (⟨by omega, by omega⟩) (by omega) ?_
        rw [e2]
        refine e_istore_n F dX5_many_17 (by decide) ?_
        refine e_goto F 4 dX5_many_18 (by decide) ?_
        refine e_go (ih (m9 + l9 % 2) (l9 / 2) (by omega) ⟨by omega, by omega, by omega, by omega, by omega⟩) ?_
        exact (And.intro rfl (And.intro rfl (trivial)))
  refine e_iconst F dX5_many_0 ?_
  refine e_istore_n F dX5_many_1 (by decide) ?_
  refine e_iload_n F dX5_many_2 rfl ?_
  refine e_istore_n F dX5_many_3 (by decide) ?_
  exact e_go (lp 128 0 s9 (by omega) ⟨h0, h1, by omega, by omega, by omega⟩) (And.intro rfl (And.intro rfl (trivial)))
set_option maxHeartbeats 4000000 in
set_option maxRecDepth 100000 in
theorem c_X5_mod {K : e_K} {l : Launch} {w : e_W} {n : Nat} {y wh : Nat} {t kn : Int} (hY : w y = some (MO y t wh kn)) (hwh : wh < 7) {v : Int} (hv : e_r8 v) : e_Met K l yX5_mod (Cond.code yX5_mod cX5_mod 5 (Option.some .int) :: e_TB) (1) (0) [.ref y, .long (eJ v)] w n (fun r w' n' => r = some (.int (eI (v % pr wh))) ∧ w' = w ∧ n' = n) (e_px0) := by
  refine e_ofV rfl (Nat.le_of_ble_eq_true rfl) ?_
  intro P9 E9 S9 M9 A9 B9 T9 C9 F hnm
  have hp := pr_rg wh hwh
  have hho := ho_rg wh hwh
  have hb := tmod_bounds (a := v) (show 0 < pr wh by omega)
  have hm := emod_of_tmod (a := v) (show 0 < pr wh by omega)
  refine e_lload_n F dX5_mod_0 rfl ?_
  refine e_aload_n F dX5_mod_1 rfl ?_
  refine e_callVV F u_X5_p (by rfl) (c_X5_p hY hwh) hY rfl rfl w_ml_RX5_38 dX5_mod_2 (by rfl) (Nat.le_of_ble_eq_true rfl) (by decide) (by omega) (fun _ _ _ h _ => False.elim h) (fun r_2 w_2 n_2 h_2 hn_2 => ?_)
  obtain ⟨rfl, ew_2, en_2⟩ := h_2
  rw [ew_2, en_2]
  refine e_i2l F dX5_mod_5 (⟨by omega, by omega⟩) ?_
  refine e_lrem F dX5_mod_6 (hv) (⟨by omega, by omega⟩) (by omega) ?_
  refine e_lstore_n F dX5_mod_7 (by decide) ?_
  refine e_lload_n F dX5_mod_8 rfl ?_
  refine e_lconst F dX5_mod_9 (y := 0) (by decide) ?_
  refine e_lcmp F dX5_mod_10 (⟨by omega, by omega⟩) (⟨by omega, by omega⟩) ?_
  refine e_if_ge F 24 dX5_mod_11 (by decide) (e_cmp_r _ _) (fun c_11 => ?_) (fun c_11 => ?_)
  ·
    rw [e_cmp_ge] at c_11
    refine e_lload_n F dX5_mod_24 rfl ?_
    refine e_l2i F dX5_mod_25 ?_
    refine e_iret F rfl (by omega) ?_ dX5_mod_26
    refine ⟨?_, rfl, rfl⟩
    rw [hm]
    first | rw [if_neg (by omega)] | rw [if_pos (by omega)]
  ·
    rw [e_cmp_ge] at c_11
    refine e_lload_n F dX5_mod_14 rfl ?_
    refine e_aload_n F dX5_mod_15 rfl ?_
    refine e_callVV F u_X5_p (by rfl) (c_X5_p hY hwh) hY rfl rfl w_ml_RX5_38 dX5_mod_16 (by rfl) (Nat.le_of_ble_eq_true rfl) (by decide) (by omega) (fun _ _ _ h _ => False.elim h) (fun r_16 w_16 n_16 h_16 hn_16 => ?_)
    obtain ⟨rfl, ew_16, en_16⟩ := h_16
    rw [ew_16, en_16]
    refine e_i2l F dX5_mod_19 (⟨by omega, by omega⟩) ?_
    refine e_ladd F dX5_mod_20 ?_
    refine e_goto F 25 dX5_mod_21 (by decide) ?_
    refine e_l2i F dX5_mod_25 ?_
    refine e_iret F rfl (by omega) ?_ dX5_mod_26
    refine ⟨?_, rfl, rfl⟩
    rw [hm]
    first | rw [if_neg (by omega)] | rw [if_pos (by omega)]
set_option maxHeartbeats 4000000 in
set_option maxRecDepth 100000 in
theorem c_X5_inverse {K : e_K} {l : Launch} {w : e_W} {n : Nat} {y wh : Nat} {t kn : Int} (hY : w y = some (MO y t wh kn)) (hwh : wh < 7) {v : Int} (hv1 : 0 ≤ v) (hv2 : v < pr wh) : e_Met K l yX5_inverse (Cond.code yX5_inverse cX5_inverse 12 (Option.some .int) :: e_TB) (2) (0) [.ref y, .int (eI v)] w n (fun r w' n' => r = some (.int (eI (iv wh v))) ∧ w' = w ∧ n' = n) (e_px0) := by
  refine e_ofV rfl (Nat.le_of_ble_eq_true rfl) ?_
  intro P9 E9 S9 M9 A9 B9 T9 C9 F hnm
  have hp := pr_rg wh hwh
  have hho := ho_rg wh hwh
  have lp : ∀ (N : Nat) (far near was is : Int), near.toNat < N → (0 ≤ near ∧ XJ wh v far near was is) → e_V K P9 l E9 (2) (0) S9 M9 A9 B9 T9 C9 12 (fun r w' n' => r = some (.int (eI (iv wh v))) ∧ w' = w ∧ n' = n) (e_px0) 13 [(0, .ref y), (2, .int (eI far)), (3, .int (eI near)), (4, .long (eJ was)), (6, .long (eJ is))] [] w n (0) := by
    intro N
    induction N with
    | zero => intro far near was is hN; exact absurd hN (Nat.not_lt_zero _)
    | succ N ih =>
      intro far near was is hN ⟨k0, k1⟩
      refine e_iload_n F dX5_inverse_13 rfl ?_
      refine e_if_le F 57 dX5_inverse_14 (by decide) ((by rcases k1 with ⟨_, q, _⟩ | ⟨_, q1, q2, q3, q4, _⟩ <;> (constructor <;> omega))) (fun c_14 => ?_) (fun c_14 => ?_)
      · refine e_aload_n F dX5_inverse_57 rfl ?_
        refine e_lload F dX5_inverse_58 rfl ?_
        refine e_callVV F u_X5_mod (by rfl) (c_X5_mod hY hwh (v := was) (by rcases k1 with ⟨_, _, q⟩ | ⟨_, q⟩ <;> first | (have q9 := q.rg; constructor <;> omega) | (constructor <;> omega))) hY rfl rfl w_ml_RX5_55 dX5_inverse_60 (by rfl) (Nat.le_of_ble_eq_true rfl) (by decide) (by omega) (fun _ _ _ h _ => False.elim h) (fun r_60 w_60 n_60 h_60 hn_60 => ?_)
        obtain ⟨rfl, ew_60, en_60⟩ := h_60
        rw [ew_60, en_60]
        refine e_iret F rfl (by omega) ?_ dX5_inverse_63
        exact ⟨by rw [XJ.end hwh hv2 k1 (by omega)], rfl, rfl⟩
      ·
        obtain ⟨k3, k2⟩ : 1 ≤ v ∧ XI (pr wh) v far near was is := k1.resolve_left (fun q => by omega)
        have kr := k2.rg
        obtain ⟨f1, f2, f3, f4, -⟩ := id k2
        have e1 : far.tdiv near = far / near := Int.tdiv_eq_ediv_of_nonneg (by omega)
        have e5 : 0 ≤ far / near ∧ far / near ≤ far := ⟨Int.ediv_nonneg (by omega) (by omega), Int.ediv_le_self _ (by omega)⟩
        refine e_iload_n F dX5_inverse_17 rfl ?_
        refine e_iload_n F dX5_inverse_18 rfl ?_
        refine e_idiv F dX5_inverse_19 (⟨by omega, by omega⟩) (⟨by omega, by omega⟩) (by omega) ?_
        rw [e1]
        refine e_istore F dX5_inverse_20 (by decide) ?_
        refine e_iload_n F dX5_inverse_22 rfl ?_
        refine e_iload F dX5_inverse_23 rfl ?_
        refine e_iload_n F dX5_inverse_25 rfl ?_
        refine e_imul F dX5_inverse_26 ?_
        refine e_isub F dX5_inverse_27 ?_
        refine e_istore F dX5_inverse_28 (by decide) ?_
        refine e_lload F dX5_inverse_30 rfl ?_
        refine e_iload F dX5_inverse_32 rfl ?_
        refine e_i2l F dX5_inverse_34 (⟨by omega, by omega⟩) ?_
        refine e_lload F dX5_inverse_35 rfl ?_
        refine e_lmul F dX5_inverse_37 ?_
        refine e_lsub F dX5_inverse_38 ?_
        refine e_lstore F dX5_inverse_39 (by decide) ?_
        refine e_iload_n F dX5_inverse_41 rfl ?_
        refine e_istore_n F dX5_inverse_42 (by decide) ?_
        refine e_iload F dX5_inverse_43 rfl ?_
        refine e_istore_n F dX5_inverse_45 (by decide) ?_
        refine e_lload F dX5_inverse_46 rfl ?_
        refine e_lstore F dX5_inverse_48 (by decide) ?_
        refine e_lload F dX5_inverse_50 rfl ?_
        refine e_lstore F dX5_inverse_52 (by decide) ?_
        refine e_goto F 13 dX5_inverse_54 (by decide) ?_
        refine e_go (ih near (far - far / near * near) is (was - far / near * is) (by have := k2.step (by omega); obtain ⟨_, z1, z2, _⟩ := this; omega) ⟨(k2.step (by omega)).2.1, Or.inr ⟨k3, k2.step (by omega)⟩⟩) ?_
        exact (And.intro rfl (And.intro rfl (And.intro rfl (And.intro rfl (And.intro rfl (trivial))))))
  refine e_aload_n F dX5_inverse_0 rfl ?_
  refine e_callVV F u_X5_p (by rfl) (c_X5_p hY hwh) hY rfl rfl w_ml_RX5_38 dX5_inverse_1 (by rfl) (Nat.le_of_ble_eq_true rfl) (by decide) (by omega) (fun _ _ _ h _ => False.elim h) (fun r_1 w_1 n_1 h_1 hn_1 => ?_)
  obtain ⟨rfl, ew_1, en_1⟩ := h_1
  rw [ew_1, en_1]
  refine e_istore_n F dX5_inverse_4 (by decide) ?_
  refine e_iload_n F dX5_inverse_5 rfl ?_
  refine e_istore_n F dX5_inverse_6 (by decide) ?_
  refine e_lconst F dX5_inverse_7 (y := 0) (by decide) ?_
  refine e_lstore F dX5_inverse_8 (by decide) ?_
  refine e_lconst F dX5_inverse_10 (y := 1) (by decide) ?_
  refine e_lstore F dX5_inverse_11 (by decide) ?_
  refine e_go (lp 2000000 (pr wh) v 0 1 (by omega) ⟨hv1, ?_⟩) (And.intro rfl (And.intro rfl (And.intro rfl (And.intro rfl (And.intro rfl (trivial))))))
  by_cases e : v = 0
  · exact Or.inl ⟨e, e, rfl⟩
  · exact Or.inr ⟨by omega, by omega, by omega, by omega, by omega, ⟨0, 1, by omega, by omega, by omega, by omega, Or.inr ⟨by omega, rfl⟩⟩, ⟨-1, by omega⟩, ⟨0, by omega⟩, fun d h1 h2 => ⟨h1, h2⟩⟩
set_option maxHeartbeats 4000000 in
set_option maxRecDepth 100000 in
theorem c_X5_raised {K : e_K} {l : Launch} {w : e_W} {n : Nat} {b k m : Int} (hb1 : 0 ≤ b) (hb2 : b < 2147483648) (hm1 : 2 ≤ m) (hm2 : m ≤ 36000109) (hk1 : 0 ≤ k) (hk2 : k < 2147483648) : e_Met K l yX5_raised (Cond.code yX5_raised cX5_raised 8 (Option.some .int) :: e_TB) (0) (0) [.int (eI b), .int (eI k), .int (eI m)] w n (fun r w' n' => r = some (.int (eI (e_pw b k.toNat m))) ∧ w' = w ∧ n' = n) (e_px0) := by
  refine e_ofV rfl (Nat.le_of_ble_eq_true rfl) ?_
  intro P9 E9 S9 M9 A9 B9 T9 C9 F hnm
  have lp : ∀ (N : Nat) (res fac op : Int), op.toNat < N → (0 ≤ res ∧ res < m ∧ 0 ≤ fac ∧ fac < m ∧ 0 ≤ op ∧ op < 2147483648 ∧ res * fac ^ op.toNat % m = e_pw b k.toNat m) → e_V K P9 l E9 (0) (0) S9 M9 A9 B9 T9 C9 8 (fun r w' n' => r = some (.int (eI (e_pw b k.toNat m))) ∧ w' = w ∧ n' = n) (e_px0) 11 [(2, .int (eI m)), (3, .long (eJ res)), (5, .long (eJ fac)), (7, .int (eI op))] [] w n (0) := by
    intro N
    induction N with
    | zero => intro res fac op hN; exact absurd hN (Nat.not_lt_zero _)
    | succ N ih =>
      intro res fac op hN ⟨h3, h4, h5, h6, h7, h8, h9⟩
      refine e_iload F dX5_raised_11 rfl ?_
      refine e_if_le F 51 dX5_raised_13 (by decide) (⟨by omega, by omega⟩) (fun c_13 => ?_) (fun c_13 => ?_)
      · refine e_lload_n F dX5_raised_51 rfl ?_
        refine e_l2i F dX5_raised_52 ?_
        refine e_iret F rfl (by omega) ?_ dX5_raised_53
        refine ⟨?_, rfl, rfl⟩
        have ho : op.toNat = 0 := by omega
        rw [ho, Int.pow_zero, Int.mul_one, Int.emod_eq_of_lt h3 h4] at h9
        rw [h9]
      ·
        have e1 : op.tmod 2 = op % 2 := Int.tmod_eq_emod_of_nonneg h7
        have e2 : op.tdiv 2 = op / 2 := Int.tdiv_eq_ediv_of_nonneg h7
        refine e_iload F dX5_raised_16 rfl ?_
        refine e_iconst F dX5_raised_18 ?_
        refine e_irem F dX5_raised_19 (⟨by omega, by omega⟩) (⟨by omega, by omega⟩) (by omega) ?_
        rw [e1]
        refine e_iconst F dX5_raised_20 ?_
        refine e_icmp_ne F 32 dX5_raised_21 (by decide) (⟨by omega, by omega⟩) (⟨by omega, by omega⟩) (fun c_21 => ?_) (fun c_21 => ?_)
        ·
          have g1 := h3
          have g2 := h4
          refine e_lload F dX5_raised_32 rfl ?_
          refine e_lload F dX5_raised_34 rfl ?_
          refine e_lmul F dX5_raised_36 ?_
          refine e_iload_n F dX5_raised_37 rfl ?_
          refine e_i2l F dX5_raised_38 (⟨by omega, by omega⟩) ?_
          refine e_lrem F dX5_raised_39 ((mul_rg h5 h6 h5 h6 hm2).2) (⟨by omega, by omega⟩) (by omega) ?_
          rw [Int.tmod_eq_emod_of_nonneg (mul_rg h5 h6 h5 h6 hm2).1]
          have g3 : 0 ≤ fac * fac % m := Int.emod_nonneg _ (by omega)
          have g4 : fac * fac % m < m := Int.emod_lt_of_pos _ (by omega)
          refine e_lstore F dX5_raised_40 (by decide) ?_
          refine e_iload F dX5_raised_42 rfl ?_
          refine e_iconst F dX5_raised_44 ?_
          refine e_idiv F dX5_raised_45 (⟨by omega, by omega⟩) (⟨by omega, by omega⟩) (by omega) ?_
          rw [e2]
          have g5 := raise_step (r := res) (x := fac) (m := m) (k := op.toNat)
          first | rw [if_pos (by omega), h9] at g5 | rw [if_neg (by omega), h9] at g5
          rw [show op.toNat / 2 = (op / 2).toNat by omega] at g5
          refine e_istore F dX5_raised_46 (by decide) ?_
          refine e_goto F 11 dX5_raised_48 (by decide) ?_
          exact e_go (ih _ _ (op / 2) (by omega) ⟨g1, g2, g3, g4, by omega, by omega, g5⟩) (And.intro rfl (And.intro rfl (And.intro rfl (And.intro rfl (trivial)))))
        ·
          have g1 : 0 ≤ res * fac % m := Int.emod_nonneg _ (by omega)
          have g2 : res * fac % m < m := Int.emod_lt_of_pos _ (by omega)
          refine e_lload_n F dX5_raised_24 rfl ?_
          refine e_lload F dX5_raised_25 rfl ?_
          refine e_lmul F dX5_raised_27 ?_
          refine e_iload_n F dX5_raised_28 rfl ?_
          refine e_i2l F dX5_raised_29 (⟨by omega, by omega⟩) ?_
          refine e_lrem F dX5_raised_30 ((mul_rg h3 h4 h5 h6 hm2).2) (⟨by omega, by omega⟩) (by omega) ?_
          rw [Int.tmod_eq_emod_of_nonneg (mul_rg h3 h4 h5 h6 hm2).1]
          refine e_lstore_n F dX5_raised_31 (by decide) ?_
          refine e_lload F dX5_raised_32 rfl ?_
          refine e_lload F dX5_raised_34 rfl ?_
          refine e_lmul F dX5_raised_36 ?_
          refine e_iload_n F dX5_raised_37 rfl ?_
          refine e_i2l F dX5_raised_38 (⟨by omega, by omega⟩) ?_
          refine e_lrem F dX5_raised_39 ((mul_rg h5 h6 h5 h6 hm2).2) (⟨by omega, by omega⟩) (by omega) ?_
          rw [Int.tmod_eq_emod_of_nonneg (mul_rg h5 h6 h5 h6 hm2).1]
          have g3 : 0 ≤ fac * fac % m := Int.emod_nonneg _ (by omega)
          have g4 : fac * fac % m < m := Int.emod_lt_of_pos _ (by omega)
          refine e_lstore F dX5_raised_40 (by decide) ?_
          refine e_iload F dX5_raised_42 rfl ?_
          refine e_iconst F dX5_raised_44 ?_
          refine e_idiv F dX5_raised_45 (⟨by omega, by omega⟩) (⟨by omega, by omega⟩) (by omega) ?_
          rw [e2]
          have g5 := raise_step (r := res) (x := fac) (m := m) (k := op.toNat)
          first | rw [if_pos (by omega), h9] at g5 | rw [if_neg (by omega), h9] at g5
          rw [show op.toNat / 2 = (op / 2).toNat by omega] at g5
          refine e_istore F dX5_raised_46 (by decide) ?_
          refine e_goto F 11 dX5_raised_48 (by decide) ?_
          exact e_go (ih _ _ (op / 2) (by omega) ⟨g1, g2, g3, g4, by omega, by omega, g5⟩) (And.intro rfl (And.intro rfl (And.intro rfl (And.intro rfl (trivial)))))
  refine e_lconst F dX5_raised_0 (y := 1) (by decide) ?_
  refine e_lstore_n F dX5_raised_1 (by decide) ?_
  refine e_iload_n F dX5_raised_2 rfl ?_
  refine e_iload_n F dX5_raised_3 rfl ?_
  refine e_irem F dX5_raised_4 (⟨by omega, by omega⟩) (⟨by omega, by omega⟩) (by omega) ?_
  rw [Int.tmod_eq_emod_of_nonneg hb1]
  have hbm : 0 ≤ b % m ∧ b % m < m := ⟨Int.emod_nonneg _ (by omega), Int.emod_lt_of_pos _ (by omega)⟩
  refine e_i2l F dX5_raised_5 (⟨by omega, by omega⟩) ?_
  refine e_lstore F dX5_raised_6 (by decide) ?_
  refine e_iload_n F dX5_raised_8 rfl ?_
  refine e_istore F dX5_raised_9 (by decide) ?_
  exact e_go (lp 2147483648 1 (b % m) k (by omega) ⟨by omega, by omega, hbm.1, hbm.2, hk1, hk2, by rw [Int.one_mul, emod_pow]; rfl⟩) (And.intro rfl (And.intro rfl (And.intro rfl (And.intro rfl (trivial)))))
set_option maxHeartbeats 4000000 in
set_option maxRecDepth 100000 in
theorem c_X5_sealBy {K : e_K} {l : Launch} {w : e_W} {n : Nat} {y wh : Nat} {t kn : Int} (hY : w y = some (MO y t wh kn)) (hwh : wh < 7) {v : Int} (h0 : 0 ≤ v) (h1 : v < pr wh) : e_Met K l yX5_sealBy (Cond.code yX5_sealBy cX5_sealBy 2 (Option.some .int) :: e_TB) (1) (0) [.ref y, .int (eI v)] w n (fun r w' n' => r = some (.int (eI (sl wh v))) ∧ w' = w ∧ n' = n) (e_px0) := by
  refine e_ofV rfl (Nat.le_of_ble_eq_true rfl) ?_
  intro P9 E9 S9 M9 A9 B9 T9 C9 F hnm
  have hp := pr_rg wh hwh
  have hho := ho_rg wh hwh
  have hg := gr_rg wh hwh
  have hb := bs_rg wh hwh
  refine e_gets F (i := 5) rfl w_fl_RX5_59 dX5_sealBy_0 ?_
  refine e_aload_n F dX5_sealBy_3 rfl ?_
  refine e_get (ci := 5) (fi := 1) (q := (RX5, TX5, 6)) F hY rfl (by decide) w_fl_RX5_7 (by rfl) dX5_sealBy_4 ?_
  refine e_ialdS F (i := 5) (by decide) (by omega) (by omega) dX5_sealBy_7 ?_
  refine e_iload_n F dX5_sealBy_8 rfl ?_
  refine e_aload_n F dX5_sealBy_9 rfl ?_
  change e_V _ _ _ _ _ _ _ _ _ _ _ _ _ _ _ _ _ (_ :: _ :: .int (eI (bs wh)) :: _) _ _ _
  refine e_callVV F u_X5_q (by rfl) (c_X5_q hY hwh) hY rfl rfl w_ml_RX5_62 dX5_sealBy_10 (by rfl) (Nat.le_of_ble_eq_true rfl) (by decide) (by omega) (fun _ _ _ h _ => False.elim h) (fun r_10 w_10 n_10 h_10 hn_10 => ?_)
  obtain ⟨rfl, ew_10, en_10⟩ := h_10
  rw [ew_10, en_10]
  refine e_callSS F u_X5_raised (by rfl) (c_X5_raised (b := bs wh) (k := v) (m := gr wh) (by omega) (by omega) (by omega) (by omega) h0 (by omega)) w_ml_RX5_65 dX5_sealBy_13 (by rfl) (Nat.le_of_ble_eq_true rfl) (by decide) (by omega) (fun _ _ _ h _ => False.elim h) (fun r_13 w_13 n_13 h_13 hn_13 => ?_)
  obtain ⟨rfl, ew_13, en_13⟩ := h_13
  rw [ew_13, en_13]
  refine e_iret F rfl (by omega) ?_ dX5_sealBy_16
  exact ⟨by unfold sl; rw [Int.emod_eq_of_lt h0 h1], rfl, rfl⟩
set_option maxHeartbeats 4000000 in
set_option maxRecDepth 100000 in
theorem c_X5_value {K : e_K} {l : Launch} {w : e_W} {n : Nat} {y wh : Nat} {t kn : Int} (hY : w y = some (MO y t wh kn)) (hwh : wh < 7) {a Z : Nat} {f : Int → Int} {x : Int} (ha : w a = some (e_ia Z f)) (hZ : Z ≤ 8) (hf : ∀ j : Int, 0 ≤ j → j < Z → 0 ≤ f j ∧ f j < pr wh) (hx0 : 0 ≤ x) (hx1 : x < pr wh) : e_Met K l yX5_value (Cond.code yX5_value cX5_value 6 (Option.some .int) :: e_TB) (1) (0) [.ref y, .ref a, .int (eI x)] w n (fun r w' n' => r = some (.int (eI (hv (pr wh) x f (Z : Int) Z))) ∧ w' = w ∧ n' = n) (e_px0) := by
  refine e_ofV rfl (Nat.le_of_ble_eq_true rfl) ?_
  intro P9 E9 S9 M9 A9 B9 T9 C9 F hnm
  have hp := pr_rg wh hwh
  have hho := ho_rg wh hwh
  have lp : ∀ (N : Nat) (j : Nat), (Z - j) < N → j ≤ Z → e_V K P9 l E9 (1) (0) S9 M9 A9 B9 T9 C9 6 (fun r w' n' => r = some (.int (eI (hv (pr wh) x f (Z : Int) Z))) ∧ w' = w ∧ n' = n) (e_px0) 8 [(0, .ref y), (1, .ref a), (2, .int (eI x)), (3, .long (eJ (hv (pr wh) x f (Z : Int) j))), (5, .int (eI ((Z : Int) - 1 - (j : Int))))] [] w n (0) := by
    intro N
    induction N with
    | zero => intro j hN; exact absurd hN (Nat.not_lt_zero _)
    | succ N ih =>
      intro j hN hj
      refine e_iload F dX5_value_8 rfl ?_
      refine e_if_lt F 36 dX5_value_10 (by decide) (⟨by omega, by omega⟩) (fun c_10 => ?_) (fun c_10 => ?_)
      ·
        obtain rfl : j = Z := by omega
        refine e_lload_n F dX5_value_36 rfl ?_
        refine e_l2i F dX5_value_37 ?_
        refine e_iret F rfl (by omega) ?_ dX5_value_38
        exact ⟨rfl, rfl, rfl⟩
      ·
        have h1 := hv_rg (x := x) (P := f) (N := (Z : Int)) (show 0 < pr wh by omega) j
        have h2 := hf ((Z : Int) - 1 - (j : Int)) (by omega) (by omega)
        have h3 := mul_rg (m := 1000003) h1.1 (by omega) hx0 (by omega) (by omega)
        have h4 : hv (pr wh) x f (Z : Int) j * x ≤ 1000003 * 1000003 := Int.mul_le_mul (by omega) (by omega) hx0 (by omega)
        refine e_lload_n F dX5_value_13 rfl ?_
        refine e_iload_n F dX5_value_14 rfl ?_
        refine e_i2l F dX5_value_15 (⟨by omega, by omega⟩) ?_
        refine e_lmul F dX5_value_16 ?_
        refine e_aload_n F dX5_value_17 rfl ?_
        refine e_iload F dX5_value_18 rfl ?_
        refine e_iald F (by first | assumption | exact e_up_s | (rw [e_up_n (by first | assumption | omega)]; first | assumption | exact e_up_s | (rw [e_up_n (by first | assumption | omega)]; first | assumption | exact e_up_s | (rw [e_up_n (by first | assumption | omega)]; first | assumption | exact e_up_s))) | exact hD.1 | exact hD1.1 | exact hD2.1 | exact gD.1 | exact gD1.1 | exact gD2.1 | exact gQ.1 | exact hQ.1 | exact gS.1 | exact hS.1 | exact zD.1) (by omega) (by omega) (by first | decide | omega) dX5_value_20 ?_
        refine e_i2l F dX5_value_21 (⟨by omega, by omega⟩) ?_
        refine e_ladd F dX5_value_22 ?_
        refine e_aload_n F dX5_value_23 rfl ?_
        refine e_callVV F u_X5_p (by rfl) (c_X5_p hY hwh) hY rfl rfl w_ml_RX5_38 dX5_value_24 (by rfl) (Nat.le_of_ble_eq_true rfl) (by decide) (by omega) (fun _ _ _ h _ => False.elim h) (fun r_24 w_24 n_24 h_24 hn_24 => ?_)
        obtain ⟨rfl, ew_24, en_24⟩ := h_24
        rw [ew_24, en_24]
        refine e_i2l F dX5_value_27 (⟨by omega, by omega⟩) ?_
        refine e_lrem F dX5_value_28 (⟨by omega, by omega⟩) (⟨by omega, by omega⟩) (by omega) ?_
        rw [Int.tmod_eq_emod_of_nonneg (by omega)]
        refine e_lstore_n F dX5_value_29 (by decide) ?_
        refine e_iinc F dX5_value_30 rfl (by decide) ?_
        refine e_goto F 8 dX5_value_33 (by decide) ?_
        refine e_go (ih (j + 1) (by omega) (by omega)) ?_
        rw [show (Z : Int) - 1 - ((j + 1 : Nat) : Int) = (Z : Int) - 1 - (j : Int) + -1 by omega]
        exact (And.intro rfl (And.intro rfl (And.intro rfl (And.intro rfl (And.intro rfl (trivial))))))
  refine e_lconst F dX5_value_0 (y := 0) (by decide) ?_
  refine e_lstore_n F dX5_value_1 (by decide) ?_
  refine e_aload_n F dX5_value_2 rfl ?_
  refine e_alenI F (by first | assumption | exact e_up_s | (rw [e_up_n (by first | assumption | omega)]; first | assumption | exact e_up_s | (rw [e_up_n (by first | assumption | omega)]; first | assumption | exact e_up_s | (rw [e_up_n (by first | assumption | omega)]; first | assumption | exact e_up_s))) | exact hD.1 | exact hD1.1 | exact hD2.1 | exact gD.1 | exact gD1.1 | exact gD2.1 | exact gQ.1 | exact hQ.1 | exact gS.1 | exact hS.1 | exact zD.1) dX5_value_3 ?_
  refine e_iconst F dX5_value_4 ?_
  refine e_isub F dX5_value_5 ?_
  refine e_istore F dX5_value_6 (by decide) ?_
  refine e_go (lp (Z + 1) 0 (by omega) (by omega)) ?_
  rw [show (Z : Int) - 1 - ((0 : Nat) : Int) = (Z : Int) - 1 by omega]
  exact (And.intro rfl (And.intro rfl (And.intro rfl (And.intro rfl (And.intro rfl (trivial))))))
set_option maxHeartbeats 4000000 in
set_option maxRecDepth 100000 in
theorem c_X5_degreeOf {K : e_K} {l : Launch} {w : e_W} {n : Nat} {a : Nat} {f : Int → Int} (ha : w a = some (e_ia 7 f)) (hf : ∀ j : Int, 0 ≤ j → j < 7 → 0 ≤ f j ∧ f j < 1000004) : e_Met K l yX5_degreeOf (Cond.code yX5_degreeOf cX5_degreeOf 2 (Option.some .int) :: e_TB) (0) (0) [.ref a] w n (fun r w' n' => r = some (.int (eI (hiK f 7))) ∧ w' = w ∧ n' = n) (e_px0) := by
  refine e_ofV rfl (Nat.le_of_ble_eq_true rfl) ?_
  intro P9 E9 S9 M9 A9 B9 T9 C9 F hnm
  have lp : ∀ (N j : Nat), j < N → (j ≤ 7 ∧ hiK f 7 = hiK f j) → e_V K P9 l E9 (0) (0) S9 M9 A9 B9 T9 C9 2 (fun r w' n' => r = some (.int (eI (hiK f 7))) ∧ w' = w ∧ n' = n) (e_px0) 5 [(0, .ref a), (1, .int (eI ((j : Int) - 1)))] [] w n (0) := by
    intro N
    induction N with
    | zero => intro j hN; exact absurd hN (Nat.not_lt_zero _)
    | succ N ih =>
      intro j0 hN ⟨hj, he⟩
      cases j0 with
      | zero =>
        refine e_iload_n F dX5_degreeOf_5 rfl ?_
        refine e_if_lt F 23 dX5_degreeOf_6 (by decide) (⟨by omega, by omega⟩) (fun c_6 => ?_) (fun c_6 => ?_)
        · refine e_iconst F dX5_degreeOf_23 ?_
          refine e_iret F rfl (by omega) ?_ dX5_degreeOf_24
          exact ⟨by rw [he]; rfl, rfl, rfl⟩
        · exact absurd c_6 (by omega)
      | succ j =>
        have h9 := hf (j : Int) (by omega) (by omega)
        have e9 : ((j + 1 : Nat) : Int) - 1 = (j : Int) := by omega
        rw [e9]
        refine e_iload_n F dX5_degreeOf_5 rfl ?_
        refine e_if_lt F 23 dX5_degreeOf_6 (by decide) (⟨by omega, by omega⟩) (fun c_6 => ?_) (fun c_6 => ?_)
        · exact absurd c_6 (by omega)
        · refine e_aload_n F dX5_degreeOf_9 rfl ?_
          refine e_iload_n F dX5_degreeOf_10 rfl ?_
          refine e_iald F (by first | assumption | exact e_up_s | (rw [e_up_n (by first | assumption | omega)]; first | assumption | exact e_up_s | (rw [e_up_n (by first | assumption | omega)]; first | assumption | exact e_up_s | (rw [e_up_n (by first | assumption | omega)]; first | assumption | exact e_up_s))) | exact hD.1 | exact hD1.1 | exact hD2.1 | exact gD.1 | exact gD1.1 | exact gD2.1 | exact gQ.1 | exact hQ.1 | exact gS.1 | exact hS.1 | exact zD.1) (by omega) (by omega) (by first | decide | omega) dX5_degreeOf_11 ?_
          refine e_if_le F 17 dX5_degreeOf_12 (by decide) (⟨by omega, by omega⟩) (fun c_12 => ?_) (fun c_12 => ?_)
          · refine e_iinc F dX5_degreeOf_17 rfl (by decide) ?_
            refine e_goto F 5 dX5_degreeOf_20 (by decide) ?_
            refine e_go (ih j (by omega) ⟨by omega, by rw [he]; show (if f (j : Int) ≠ 0 then (j : Int) else hiK f j) = _; rw [if_neg (by omega)]⟩) ?_
            exact (And.intro rfl (And.intro rfl (trivial)))
          · refine e_iload_n F dX5_degreeOf_15 rfl ?_
            refine e_iret F rfl (by omega) ?_ dX5_degreeOf_16
            exact ⟨by rw [he]; show some (Value.int _) = some (Value.int (eI (if f (j : Int) ≠ 0 then (j : Int) else hiK f j))); rw [if_pos (by omega)], rfl, rfl⟩
  refine e_aload_n F dX5_degreeOf_0 rfl ?_
  refine e_alenI F (by first | assumption | exact e_up_s | (rw [e_up_n (by first | assumption | omega)]; first | assumption | exact e_up_s | (rw [e_up_n (by first | assumption | omega)]; first | assumption | exact e_up_s | (rw [e_up_n (by first | assumption | omega)]; first | assumption | exact e_up_s))) | exact hD.1 | exact hD1.1 | exact hD2.1 | exact gD.1 | exact gD1.1 | exact gD2.1 | exact gQ.1 | exact hQ.1 | exact gS.1 | exact hS.1 | exact zD.1) dX5_degreeOf_1 ?_
  refine e_iconst F dX5_degreeOf_2 ?_
  refine e_isub F dX5_degreeOf_3 ?_
  refine e_istore_n F dX5_degreeOf_4 (by decide) ?_
  exact e_go (lp 8 7 (by omega) ⟨by omega, rfl⟩) (And.intro rfl (And.intro rfl (trivial)))
