/-! the law's small methods -/
theorem and31 (y : Int32) : 0 ≤ (y &&& eI 2147483647).toInt ∧ (y &&& eI 2147483647).toInt < 2147483648 := by
  have h : (y &&& eI 2147483647).toBitVec = y.toBitVec &&& 2147483647#32 := rfl
  have h2 : ((y &&& eI 2147483647).toBitVec).toNat ≤ 2147483647 := by rw [h, BitVec.toNat_and]; exact Nat.and_le_right
  have h3 : (y &&& eI 2147483647).toInt = (((y &&& eI 2147483647).toBitVec).toNat : Int) := BitVec.toInt_eq_toNat_of_lt (by omega)
  omega
def cK (s : Int) : Nat → Int
  | 0 => 0
  | k + 1 => cK s k + s / 2 ^ k % 2
theorem cK7 (s : Int) : cK s 7 = bc s := by
  show 0 + s / 2 ^ 0 % 2 + s / 2 ^ 1 % 2 + s / 2 ^ 2 % 2 + s / 2 ^ 3 % 2 + s / 2 ^ 4 % 2 + s / 2 ^ 5 % 2 + s / 2 ^ 6 % 2 = bc s
  unfold bc
  rw [show (2 : Int) ^ 0 = 1 from rfl, show (2 : Int) ^ 1 = 2 from rfl, show (2 : Int) ^ 2 = 4 from rfl, show (2 : Int) ^ 3 = 8 from rfl, show (2 : Int) ^ 4 = 16 from rfl, show (2 : Int) ^ 5 = 32 from rfl, show (2 : Int) ^ 6 = 64 from rfl]
  omega
theorem cK_rg {s : Int} : ∀ k : Nat, 0 ≤ cK s k ∧ cK s k ≤ (k : Int) := by
  intro k
  induction k with
  | zero => exact ⟨Int.le_refl _, Int.le_refl _⟩
  | succ k ih =>
    show 0 ≤ cK s k + s / 2 ^ k % 2 ∧ cK s k + s / 2 ^ k % 2 ≤ ((k + 1 : Nat) : Int)
    omega
set_option maxHeartbeats 4000000 in
set_option maxRecDepth 100000 in
theorem c_L_below {K : e_K} {l : Launch} {w : e_W} {n : Nat} {v n9 : Int} (hv : e_r v) (hn : 1 ≤ n9) (hn2 : n9 ≤ 1000003) : e_Met K l yL_below (Cond.code yL_below cL_below 2 (Option.some .int) :: e_TB) (0) (0) [.int (eI v), .int (eI n9)] w n (fun r w' n' => (∃ z : Int, r = some (.int (eI z)) ∧ 0 ≤ z ∧ z < n9) ∧ w' = w ∧ n' = n) (e_px0) := by
  refine e_ofV rfl (Nat.le_of_ble_eq_true rfl) ?_
  intro P9 E9 S9 M9 A9 B9 T9 C9 F hnm
  refine e_iload_n F dL_below_0 rfl ?_
  refine e_ldc F dL_below_1 w_k_RL_7 ?_
  obtain ⟨a9, ha9, h09, h19⟩ : ∃ a : Int, eI v &&& eI 2147483647 = eI a ∧ 0 ≤ a ∧ a < 2147483648 := ⟨_, (eI_self _).symm, and31 _⟩
  refine e_iand F dL_below_3 (ha9) ?_
  refine e_iload_n F dL_below_4 rfl ?_
  refine e_irem F dL_below_5 (⟨by omega, by omega⟩) (⟨by omega, by omega⟩) (by omega) ?_
  rw [Int.tmod_eq_emod_of_nonneg h09]
  refine e_iret F rfl (by omega) ?_ dL_below_6
  exact ⟨⟨_, rfl, Int.emod_nonneg _ (by omega), Int.emod_lt_of_pos _ (by omega)⟩, rfl, rfl⟩
set_option maxHeartbeats 4000000 in
set_option maxRecDepth 100000 in
theorem c_L_cell {K : e_K} {l : Launch} {w : e_W} {n : Nat} {k9 : Int} (hk0 : 0 ≤ k9) (hk1 : k9 < 1000) : e_Met K l yL_cell (Cond.code yL_cell cL_cell 2 (Option.some .int) :: e_TB) (0) (0) [.ref (K.2.2 20), .int (eI k9)] w n (fun r w' n' => (∃ z : Int, r = some (.int (eI z)) ∧ e_r z) ∧ w' = w ∧ n' = n) (e_px0) := by
  refine e_ofV rfl (Nat.le_of_ble_eq_true rfl) ?_
  intro P9 E9 S9 M9 A9 B9 T9 C9 F hnm
  obtain ⟨⟨xs, hX⟩, hb9, hN9⟩ := F.2.2.2.2.2.2.2.2.1.2.2.2.2.2.2.2
  refine e_iload_n F dL_cell_0 rfl ?_
  refine e_aload_n F dL_cell_1 rfl ?_
  refine e_slen F hX hb9 (by omega) dL_cell_2 ?_
  refine e_icmp_ge F 12 dL_cell_3 (by decide) (⟨by omega, by omega⟩) (⟨by omega, by omega⟩) (fun c_3 => ?_) (fun c_3 => ?_)
  · refine e_ldc F dL_cell_12 w_k_RL_8 ?_
    refine e_iload_n F dL_cell_14 rfl ?_
    refine e_iconst F dL_cell_15 ?_
    refine e_iadd F dL_cell_16 ?_
    refine e_imul F dL_cell_17 ?_
    refine e_iret F rfl (by omega) ?_ dL_cell_18
    exact ⟨⟨_, congrArg (fun q => some (Value.int q)) (eI_self _).symm, eI_rg _⟩, rfl, rfl⟩
  · refine e_aload_n F dL_cell_6 rfl ?_
    refine e_iload_n F dL_cell_7 rfl ?_
    refine e_sld F hX hb9 (by omega) (by omega) (by omega) dL_cell_8 ?_
    refine e_goto F 18 dL_cell_9 (by decide) ?_
    refine e_iret F rfl (by omega) ?_ dL_cell_18
    exact ⟨⟨_, congrArg (fun q => some (Value.int q)) (eI_self _).symm, eI_rg _⟩, rfl, rfl⟩
set_option maxHeartbeats 4000000 in
set_option maxRecDepth 100000 in
theorem c_L_draw {K : e_K} {l : Launch} {w : e_W} {n : Nat} {tn j9 : Int} (h0 : 0 ≤ tn) (h1 : tn < 16) (g0 : 0 ≤ j9) (g1 : j9 ≤ 6) : e_Met K l yL_draw (Cond.code yL_draw cL_draw 3 (Option.some .int) :: e_TB) (1) (0) [.ref (K.2.2 20), .int (eI tn), .int (eI j9)] w n (fun r w' n' => (∃ z : Int, r = some (.int (eI z)) ∧ e_r z) ∧ w' = w ∧ n' = n) (e_px0) := by
  refine e_ofV rfl (Nat.le_of_ble_eq_true rfl) ?_
  intro P9 E9 S9 M9 A9 B9 T9 C9 F hnm
  refine e_aload_n F dL_draw_0 rfl ?_
  refine e_bipush F dL_draw_1 (by decide) ?_
  refine e_iload_n F dL_draw_3 rfl ?_
  refine e_imul F dL_draw_4 ?_
  refine e_iload_n F dL_draw_5 rfl ?_
  refine e_iadd F dL_draw_6 ?_
  refine e_bipush F dL_draw_7 (by decide) ?_
  refine e_irem F dL_draw_9 (⟨by omega, by omega⟩) (⟨by omega, by omega⟩) (by omega) ?_
  rw [Int.tmod_eq_emod_of_nonneg (show 0 ≤ 7 * tn + j9 by omega)]
  refine e_callSS F u_L_cell (by rfl) (c_L_cell (k9 := (7 * tn + j9) % 16) (by omega) (by omega)) w_ml_RL_9 dL_draw_10 (by rfl) (Nat.le_of_ble_eq_true rfl) (by decide) (by omega) (fun _ _ _ h _ => False.elim h) (fun r_10 w_10 n_10 h_10 hn_10 => ?_)
  obtain ⟨⟨z10, rfl, hz10⟩, ew_10, en_10⟩ := h_10
  rw [ew_10, en_10]
  refine e_bipush F dL_draw_13 (by decide) ?_
  refine e_iload_n F dL_draw_15 rfl ?_
  refine e_imul F dL_draw_16 ?_
  refine e_iadd F dL_draw_17 ?_
  refine e_iret F rfl (by omega) ?_ dL_draw_18
  exact ⟨⟨_, congrArg (fun q => some (Value.int q)) (eI_self _).symm, eI_rg _⟩, rfl, rfl⟩
set_option maxHeartbeats 4000000 in
set_option maxRecDepth 100000 in
theorem c_L_count {K : e_K} {l : Launch} {w : e_W} {n : Nat} {s9 : Int} (h0 : 0 ≤ s9) (h1 : s9 < 128) : e_Met K l yL_count (Cond.code yL_count cL_count 3 (Option.some .int) :: e_TB) (0) (0) [.int (eI s9)] w n (fun r w' n' => r = some (.int (eI (bc s9))) ∧ w' = w ∧ n' = n) (e_px0) := by
  refine e_ofV rfl (Nat.le_of_ble_eq_true rfl) ?_
  intro P9 E9 S9 M9 A9 B9 T9 C9 F hnm
  have lp : ∀ (N : Nat) (k : Nat), (7 - k) < N → k ≤ 7 → e_V K P9 l E9 (0) (0) S9 M9 A9 B9 T9 C9 3 (fun r w' n' => r = some (.int (eI (bc s9))) ∧ w' = w ∧ n' = n) (e_px0) 4 [(0, .int (eI s9)), (1, .int (eI (cK s9 k))), (2, .int (eI (k : Int)))] [] w n (0) := by
    intro N
    induction N with
    | zero => intro k hN; exact absurd hN (Nat.not_lt_zero _)
    | succ N ih =>
      intro k hN hk
      refine e_iload_n F dL_count_4 rfl ?_
      refine e_bipush F dL_count_5 (by decide) ?_
      refine e_icmp_ge F 24 dL_count_7 (by decide) (⟨by omega, by omega⟩) (⟨by omega, by omega⟩) (fun c_7 => ?_) (fun c_7 => ?_)
      ·
        obtain rfl : k = 7 := by omega
        refine e_iload_n F dL_count_24 rfl ?_
        refine e_iret F rfl (by omega) ?_ dL_count_25
        refine ⟨?_, rfl, rfl⟩
        rw [cK7]
      · refine e_iload_n F dL_count_10 rfl ?_
        refine e_iload_n F dL_count_11 rfl ?_
        refine e_iload_n F dL_count_12 rfl ?_
        refine e_ishr F dL_count_13 (eI_shr h0 (by omega) (by omega) (by omega)) ?_
        refine e_iconst F dL_count_14 ?_
        have hd9 := div_rg ((k : Int)).toNat h0 (by omega)
        refine e_iand F dL_count_15 (eI_and1 hd9.1 hd9.2) ?_
        refine e_iadd F dL_count_16 ?_
        refine e_istore_n F dL_count_17 (by decide) ?_
        refine e_iinc F dL_count_18 rfl (by decide) ?_
        refine e_goto F 4 dL_count_21 (by decide) ?_
        exact e_go (ih (k + 1) (by omega) (by omega)) (And.intro rfl (And.intro rfl (And.intro rfl (trivial))))
  refine e_iconst F dL_count_0 ?_
  refine e_istore_n F dL_count_1 (by decide) ?_
  refine e_iconst F dL_count_2 ?_
  refine e_istore_n F dL_count_3 (by decide) ?_
  exact e_go (lp 8 0 (by omega) (by omega)) (And.intro rfl (And.intro rfl (And.intro rfl (trivial))))
set_option maxHeartbeats 4000000 in
set_option maxRecDepth 100000 in
theorem c_L_mod {K : e_K} {l : Launch} {w : e_W} {n : Nat} {v p9 : Int} (hv : e_r8 v) (hp0 : 1 ≤ p9) (hp1 : p9 ≤ 36000109) : e_Met K l yL_mod (Cond.code yL_mod cL_mod 5 (Option.some .int) :: e_TB) (0) (0) [.long (eJ v), .int (eI p9)] w n (fun r w' n' => r = some (.int (eI (v % p9))) ∧ w' = w ∧ n' = n) (e_px0) := by
  refine e_ofV rfl (Nat.le_of_ble_eq_true rfl) ?_
  intro P9 E9 S9 M9 A9 B9 T9 C9 F hnm
  have hb := tmod_bounds (a := v) (show 0 < p9 by omega)
  have hm := emod_of_tmod (a := v) (show 0 < p9 by omega)
  refine e_lload_n F dL_mod_0 rfl ?_
  refine e_iload_n F dL_mod_1 rfl ?_
  refine e_i2l F dL_mod_2 (⟨by omega, by omega⟩) ?_
  refine e_lrem F dL_mod_3 (hv) (⟨by omega, by omega⟩) (by omega) ?_
  refine e_lstore_n F dL_mod_4 (by decide) ?_
  refine e_lload_n F dL_mod_5 rfl ?_
  refine e_lconst F dL_mod_6 (y := 0) (by decide) ?_
  refine e_lcmp F dL_mod_7 (⟨by omega, by omega⟩) (⟨by omega, by omega⟩) ?_
  refine e_if_ge F 18 dL_mod_8 (by decide) (e_cmp_r _ _) (fun c_8 => ?_) (fun c_8 => ?_)
  ·
    rw [e_cmp_ge] at c_8
    refine e_lload_n F dL_mod_18 rfl ?_
    refine e_l2i F dL_mod_19 ?_
    refine e_iret F rfl (by omega) ?_ dL_mod_20
    refine ⟨?_, rfl, rfl⟩
    rw [hm]
    first | rw [if_neg (by omega)] | rw [if_pos (by omega)]
  ·
    rw [e_cmp_ge] at c_8
    refine e_lload_n F dL_mod_11 rfl ?_
    refine e_iload_n F dL_mod_12 rfl ?_
    refine e_i2l F dL_mod_13 (⟨by omega, by omega⟩) ?_
    refine e_ladd F dL_mod_14 ?_
    refine e_goto F 19 dL_mod_15 (by decide) ?_
    refine e_l2i F dL_mod_19 ?_
    refine e_iret F rfl (by omega) ?_ dL_mod_20
    refine ⟨?_, rfl, rfl⟩
    rw [hm]
    first | rw [if_neg (by omega)] | rw [if_pos (by omega)]
set_option maxHeartbeats 4000000 in
set_option maxRecDepth 100000 in
theorem c_J0_isEmpty_aae02 {K : e_K} {l : Launch} {w : e_W} {n : Nat} {q v : Nat} {g : Int → Int} (hq : w q = some (STo v)) (hv : w v = some (e_ba 0 g)) : e_Met K l yJ0_isEmpty_aae02 (Cond.code yJ0_isEmpty_aae02 cJ0_isEmpty_aae02 1 (Option.some .boolean) :: e_TB) (0) (0) [.ref q] w n (fun r w' n' => r = some (.int (eI (1))) ∧ w' = w ∧ n' = n) (e_px0) := by
  refine e_ofV rfl (Nat.le_of_ble_eq_true rfl) ?_
  intro P9 E9 S9 M9 A9 B9 T9 C9 F hnm
  refine e_aload_n F dJ0_isEmpty_aae02_0 rfl ?_
  refine e_get (ci := 7) (fi := 0) (q := (RJ0, TJ0, 4)) F hq rfl (by decide) w_fl_RJ0_9 (by rfl) dJ0_isEmpty_aae02_1 ?_
  refine e_alenB F hv dJ0_isEmpty_aae02_4 ?_
  refine e_if_ne F 12 dJ0_isEmpty_aae02_5 (by decide) (by decide) (fun c_5 => ?_) (fun c_5 => ?_)
  · exact absurd rfl c_5
  · refine e_iconst F dJ0_isEmpty_aae02_8 ?_
    refine e_goto F 13 dJ0_isEmpty_aae02_9 (by decide) ?_
    refine e_zret F rfl (by omega) (by omega) ?_ dJ0_isEmpty_aae02_13
    exact ⟨rfl, rfl, rfl⟩
set_option maxHeartbeats 4000000 in
set_option maxRecDepth 100000 in
theorem c_X3_textE {K : e_K} {l : Launch} {w : e_W} {n : Nat} {x wh : Nat} {kn : Int} {D : Nat → SD} (hC : CW w x wh kn D) {i : Int} (hi : e_r i) (hi5 : 0 ≤ i ∧ i < 6) (hf : (D i.toNat).fl = 0) : e_Met K l yX3_text (Cond.code yX3_text cX3_text 5 (Option.some (.object "java/lang/String")) :: e_TB) (7) (24) [.ref x, .int (eI i)] w n (fun r w' n' => ∃ q : Nat, r = some (.ref q) ∧ CW w' x wh kn D ∧ ∃ (v : Nat) (g : Int → Int), w' q = some (STo v) ∧ w' v = some (e_ba 0 g)) (e_px0) := by
  refine e_ofV rfl (Nat.le_of_ble_eq_true rfl) ?_
  intro P9 E9 S9 M9 A9 B9 T9 C9 F hnm
  have hC0 := hC
  have hDA := hC.2.2.2.2.1
  obtain ⟨hX, hF, hwh, ⟨P0, hQ⟩, ⟨ga, hga, hgj⟩, hDs, s0, hS⟩ := hC
  have hp := pr_rg wh hwh
  have ho9 := ho_rg wh hwh
  have hg9 := gr_rg wh hwh
  have hf9 := fl_rg wh hwh
  refine e_dom ?_
  intro hdom
  have htop := hC0.top hdom
  refine e_aload_n F dX3_text_0 rfl ?_
  refine e_iload_n F dX3_text_1 rfl ?_
  refine e_callVV F u_X3_dealAt (by rfl) (c_X3_dealAt hX hDA (i := i) hi) hX rfl rfl w_ml_RX3_94 dX3_text_2 (by rfl) (Nat.le_of_ble_eq_true rfl) (by decide) (by omega) (fun E w2 n2 h _ => by have q := h.2.1; omega) (fun r_2 w_2 n_2 h_2 hn_2 => ?_)
  obtain ⟨hi1, rfl, ew_2, en_2⟩ := h_2
  rw [ew_2, en_2]
  obtain ⟨hD1, hW1⟩ := hDs i.toNat (by omega)
  refine e_astore_n F dX3_text_5 (by decide) ?_
  refine e_newO F (ci := 6) (q := (RJ4, TJ4, 4)) (fs := [.null, .int (eI 0), .int (eI 0), .int (eI 0)]) rfl (by omega) w_cl_RX3_234 w_is_RJ4 w_in_RJ4 (by decide) (by intro j hj; have hj9 : j < 4 := hj; rcases j with _ | _ | _ | _ | j <;> first | rfl | omega) dX3_text_6 ?_
  refine e_dup F dX3_text_9 rfl ?_
  refine e_callII F u_J4_init_da8c8 (by rfl) (c_J4_init_da8c8 e_up_s) w_ml_RX3_236 dX3_text_10 (by rfl) (Nat.le_of_ble_eq_true rfl) (by decide) (by omega) (fun _ _ _ h _ => False.elim h) (fun r_10 w_10 n_10 h_10 hn_10 => ?_)
  obtain ⟨rfl, en_10, S0, K0⟩ := h_10
  rw [en_10]
  have K1 : KB w w_10 n := fun j hj => by rw [K0 j (by omega) (by omega), e_up_n (by omega)]
  refine e_astore_n F dX3_text_13 (by decide) ?_
  refine e_aload_n F dX3_text_14 rfl ?_
  have hD1b := hD1.fr (w' := w_10) (K1 _ (by omega)) (K1 _ (by omega)) (K1 _ (by omega))
  refine e_callVN F u_X0_isEmpty (by rfl) (c_X0_isEmpty hD1b) hD1b.1 rfl rfl w_mn_RX3_109 dX3_text_15 (by rfl) (Nat.le_of_ble_eq_true rfl) (by decide) (by omega) (fun _ _ _ h _ => False.elim h) (fun r_15 w_15 n_15 h_15 hn_15 => ?_)
  obtain ⟨rfl, ew_15, en_15⟩ := h_15
  rw [ew_15, en_15]
  refine e_if_eq F 26 dX3_text_18 (by decide) (b01_r _) (fun c_18 => ?_) (fun c_18 => ?_)
  · exact absurd c_18 (by rw [b01_t hf]; decide)
  · refine e_aload_n F dX3_text_21 rfl ?_
    obtain ⟨q22, b22⟩ := S0.cell
    refine e_callVV F u_J4_toString_0e30d (by rfl) (c_J4_toString_0e30d S0) b22 rfl rfl w_ml_RX3_237 dX3_text_22 (by rfl) (Nat.le_of_ble_eq_true rfl) (by decide) (by omega) (fun _ _ _ h _ => False.elim h) (fun r_22 w_22 n_22 h_22 hn_22 => ?_)
    obtain ⟨rfl, en_22, t1_22, t2_22, K22⟩ := h_22
    refine e_aret F rfl (Or.inl ⟨_, rfl⟩) (Or.inr ⟨_, rfl⟩) (by omega) ?_ dX3_text_25
    obtain ⟨g9, hg9⟩ := t2_22
    exact ⟨_, rfl, hC0.kb htop (K1.tr (fun j hj => K22 j (by omega))), _, g9, t1_22, hg9⟩
