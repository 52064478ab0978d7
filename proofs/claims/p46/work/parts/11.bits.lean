/-! bits of sets, and Math.min, Math.max, Integer.bitCount -/
abbrev hs (set h : Int) : Prop := set / 2 ^ (h - 1).toNat % 2 = 1
def b01 (c : Prop) [Decidable c] : Int := if c then 1 else 0
theorem b01_or (c : Prop) [Decidable c] : b01 c = 0 ∨ b01 c = 1 := by unfold b01; split <;> omega
theorem b01_r (c : Prop) [Decidable c] : e_r (b01 c) := by unfold b01; split <;> decide
theorem b01_t {c : Prop} [Decidable c] (h : c) : b01 c = 1 := if_pos h
theorem b01_f {c : Prop} [Decidable c] (h : ¬ c) : b01 c = 0 := if_neg h
theorem b01_0 {c : Prop} [Decidable c] : b01 c = 0 ↔ ¬ c := by unfold b01; split <;> simp_all
theorem b01_1 {c : Prop} [Decidable c] : b01 c = 1 ↔ c := by unfold b01; split <;> simp_all
theorem eI_sh_k : ∀ k : Nat, k < 31 → ((eI (k : Int) &&& 31).toBitVec.smod 32).toNat = k := by decide +kernel
theorem div_rg {a : Int} (k : Nat) (h0 : 0 ≤ a) (h1 : a < 2147483648) : 0 ≤ a / 2 ^ k ∧ a / 2 ^ k < 2147483648 := by
  have hp : (0 : Int) < 2 ^ k := Int.pow_pos (by omega)
  exact ⟨Int.ediv_nonneg h0 (by omega), Int.lt_of_le_of_lt (Int.ediv_le_self _ h0) h1⟩
theorem eI_shr {a i : Int} (h2 : 0 ≤ a) (h3 : a < 2147483648) (h0 : 0 ≤ i) (h1 : i < 31) : eI a >>> (eI i &&& 31) = eI (a / 2 ^ i.toNat) := by
  have hk := eI_sh_k i.toNat (by omega)
  rw [Int.toNat_of_nonneg h0] at hk
  have hd := div_rg i.toNat h2 h3
  rw [← Int32.toInt_inj, pk_shr _ _ i.toNat hk, eI_toInt (by omega) h3, eI_toInt (by omega) hd.2, Int.shiftRight_eq_div_pow]
  norm_cast
theorem eI_and1 {a : Int} (h0 : 0 ≤ a) (h1 : a < 2147483648) : eI a &&& eI 1 = eI (a % 2) := by
  obtain ⟨k, rfl⟩ : ∃ k : Nat, (k : Int) = a := ⟨a.toNat, by omega⟩
  exact pk_andN (n := k) (by omega) (m := eI 1) 1 (by decide)
theorem eI_shl1 : ∀ k : Nat, k < 8 → eI 1 <<< (eI (k : Int) &&& 31) = eI (2 ^ k) := by decide +kernel
set_option maxHeartbeats 4000000 in
set_option maxRecDepth 100000 in
/-- is the holder in the set -/
theorem c_X3_isIn {K : e_K} {l : Launch} {w : e_W} {n : Nat} {set h : Int} (h0 : 0 ≤ set) (h1 : set < 2147483648) (h2 : 1 ≤ h) (h3 : h ≤ 7) : e_Met K l yX3_isIn (Cond.code yX3_isIn cX3_isIn 2 (Option.some .boolean) :: e_TB) (0) (0) [.int (eI set), .int (eI h)] w n (fun r w' n' => r = some (.int (eI (b01 (hs set h)))) ∧ w' = w ∧ n' = n) (e_px0) := by
  refine e_ofV rfl (Nat.le_of_ble_eq_true rfl) ?_
  intro P9 E9 S9 M9 A9 B9 T9 C9 F hnm
  refine e_iload_n F dX3_isIn_0 rfl ?_
  refine e_iload_n F dX3_isIn_1 rfl ?_
  refine e_iconst F dX3_isIn_2 ?_
  refine e_isub F dX3_isIn_3 ?_
  refine e_ishr F dX3_isIn_4 (eI_shr h0 h1 (by omega) (by omega)) ?_
  have hd := div_rg (h - 1).toNat h0 h1
  refine e_iconst F dX3_isIn_5 ?_
  refine e_iand F dX3_isIn_6 (eI_and1 hd.1 hd.2) ?_
  refine e_iconst F dX3_isIn_7 ?_
  refine e_icmp_ne F 15 dX3_isIn_8 (by decide) (⟨by omega, by omega⟩) (⟨by omega, by omega⟩) (fun c_8 => ?_) (fun c_8 => ?_)
  · refine e_iconst F dX3_isIn_15 ?_
    refine e_zret F rfl (by omega) (by omega) ?_ dX3_isIn_16
    refine ⟨?_, rfl, rfl⟩
    first | rw [b01_f (by unfold hs; omega)] | rw [b01_t (by unfold hs; omega)]
  · refine e_iconst F dX3_isIn_11 ?_
    refine e_goto F 16 dX3_isIn_12 (by decide) ?_
    refine e_zret F rfl (by omega) (by omega) ?_ dX3_isIn_16
    refine ⟨?_, rfl, rfl⟩
    first | rw [b01_f (by unfold hs; omega)] | rw [b01_t (by unfold hs; omega)]
set_option maxHeartbeats 4000000 in
set_option maxRecDepth 100000 in
theorem c_X3_bitOf {K : e_K} {l : Launch} {w : e_W} {n : Nat} {h : Int} (h2 : 1 ≤ h) (h3 : h ≤ 8) : e_Met K l yX3_bitOf (Cond.code yX3_bitOf cX3_bitOf 1 (Option.some .int) :: e_TB) (0) (0) [.int (eI h)] w n (fun r w' n' => r = some (.int (eI (2 ^ (h - 1).toNat))) ∧ w' = w ∧ n' = n) (e_px0) := by
  refine e_ofV rfl (Nat.le_of_ble_eq_true rfl) ?_
  intro P9 E9 S9 M9 A9 B9 T9 C9 F hnm
  refine e_iconst F dX3_bitOf_0 ?_
  refine e_iload_n F dX3_bitOf_1 rfl ?_
  refine e_iconst F dX3_bitOf_2 ?_
  refine e_isub F dX3_bitOf_3 ?_
  refine e_ishl F dX3_bitOf_4 (by have := eI_shl1 (h - 1).toNat (by omega); rwa [Int.toNat_of_nonneg (by omega)] at this) ?_
  refine e_iret F rfl (by omega) ?_ dX3_bitOf_5
  exact ⟨rfl, rfl, rfl⟩
/-- how many are in a set -/
def bc (s : Int) : Int := s % 2 + s / 2 % 2 + s / 4 % 2 + s / 8 % 2 + s / 16 % 2 + s / 32 % 2 + s / 64 % 2
set_option maxHeartbeats 4000000 in
set_option maxRecDepth 100000 in
theorem c_J6_bitCount_0f7a4 {K : e_K} {l : Launch} {w : e_W} {n : Nat} {k : Nat} (hk : k < 128) : e_Met K l yJ6_bitCount_0f7a4 (Cond.code yJ6_bitCount_0f7a4 cJ6_bitCount_0f7a4 1 (Option.some .int) :: e_TB) (0) (0) [.int (eI (k : Int))] w n (fun r w' n' => r = some (.int (eI (bc (k : Int)))) ∧ w' = w ∧ n' = n) (e_px0) := by
  refine e_ofV rfl (Nat.le_of_ble_eq_true rfl) ?_
  intro P9 E9 S9 M9 A9 B9 T9 C9 F hnm
  refine e_iload_n F dJ6_bitCount_0f7a4_0 rfl ?_
  refine e_iload_n F dJ6_bitCount_0f7a4_1 rfl ?_
  refine e_iconst F dJ6_bitCount_0f7a4_2 ?_
  refine e_iushr F dJ6_bitCount_0f7a4_3 ((eI_self _).symm) ?_
  refine e_ldcw F dJ6_bitCount_0f7a4_4 w_k_RJ6_265 ?_
  refine e_iand F dJ6_bitCount_0f7a4_7 ((eI_self _).symm) ?_
  refine e_isub F dJ6_bitCount_0f7a4_8 ?_
  refine e_istore_n F dJ6_bitCount_0f7a4_9 (by decide) ?_
  refine e_iload_n F dJ6_bitCount_0f7a4_10 rfl ?_
  refine e_ldcw F dJ6_bitCount_0f7a4_11 w_k_RJ6_266 ?_
  refine e_iand F dJ6_bitCount_0f7a4_14 ((eI_self _).symm) ?_
  refine e_iload_n F dJ6_bitCount_0f7a4_15 rfl ?_
  refine e_iconst F dJ6_bitCount_0f7a4_16 ?_
  refine e_iushr F dJ6_bitCount_0f7a4_17 ((eI_self _).symm) ?_
  refine e_ldcw F dJ6_bitCount_0f7a4_18 w_k_RJ6_266 ?_
  refine e_iand F dJ6_bitCount_0f7a4_21 ((eI_self _).symm) ?_
  refine e_iadd F dJ6_bitCount_0f7a4_22 ?_
  refine e_istore_n F dJ6_bitCount_0f7a4_23 (by decide) ?_
  refine e_iload_n F dJ6_bitCount_0f7a4_24 rfl ?_
  refine e_iload_n F dJ6_bitCount_0f7a4_25 rfl ?_
  refine e_iconst F dJ6_bitCount_0f7a4_26 ?_
  refine e_iushr F dJ6_bitCount_0f7a4_27 ((eI_self _).symm) ?_
  refine e_iadd F dJ6_bitCount_0f7a4_28 ?_
  refine e_ldcw F dJ6_bitCount_0f7a4_29 w_k_RJ6_267 ?_
  refine e_iand F dJ6_bitCount_0f7a4_32 ((eI_self _).symm) ?_
  refine e_istore_n F dJ6_bitCount_0f7a4_33 (by decide) ?_
  refine e_iload_n F dJ6_bitCount_0f7a4_34 rfl ?_
  refine e_iload_n F dJ6_bitCount_0f7a4_35 rfl ?_
  refine e_bipush F dJ6_bitCount_0f7a4_36 (by decide) ?_
  refine e_iushr F dJ6_bitCount_0f7a4_38 ((eI_self _).symm) ?_
  refine e_iadd F dJ6_bitCount_0f7a4_39 ?_
  refine e_istore_n F dJ6_bitCount_0f7a4_40 (by decide) ?_
  refine e_iload_n F dJ6_bitCount_0f7a4_41 rfl ?_
  refine e_iload_n F dJ6_bitCount_0f7a4_42 rfl ?_
  refine e_bipush F dJ6_bitCount_0f7a4_43 (by decide) ?_
  refine e_iushr F dJ6_bitCount_0f7a4_45 ((eI_self _).symm) ?_
  refine e_iadd F dJ6_bitCount_0f7a4_46 ?_
  refine e_istore_n F dJ6_bitCount_0f7a4_47 (by decide) ?_
  refine e_iload_n F dJ6_bitCount_0f7a4_48 rfl ?_
  refine e_bipush F dJ6_bitCount_0f7a4_49 (by decide) ?_
  refine e_iand F dJ6_bitCount_0f7a4_51 ((eI_self _).symm) ?_
  refine e_iret F rfl (by omega) ?_ dJ6_bitCount_0f7a4_52
  refine ⟨?_, rfl, rfl⟩
  revert k
  decide +kernel
