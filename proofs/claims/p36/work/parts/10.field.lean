-- 10.field.lean.txt
section
/-! Field: numbers MOD the prime, seals MOD the great prime -/
def pr (wh : Nat) : Int := (e_row 0).getD wh 0
def gr (wh : Nat) : Int := (e_row 1).getD wh 0
def bs (wh : Nat) : Int := (e_row 2).getD wh 0
def ho (wh : Nat) : Int := if pr wh - 1 < 7 then pr wh - 1 else 7
theorem wh_cases {P : Nat → Prop} (h0 : P 0) (h1 : P 1) (h2 : P 2) (h3 : P 3) (h4 : P 4) (h5 : P 5) (h6 : P 6) : ∀ wh, wh < 7 → P wh := by
  intro wh h
  match wh, h with
  | 0, _ => exact h0
  | 1, _ => exact h1
  | 2, _ => exact h2
  | 3, _ => exact h3
  | 4, _ => exact h4
  | 5, _ => exact h5
  | 6, _ => exact h6
theorem pr_rg : ∀ wh, wh < 7 → 5 ≤ pr wh ∧ pr wh ≤ 1000003 := wh_cases (by decide) (by decide) (by decide) (by decide) (by decide) (by decide) (by decide)
theorem gr_rg : ∀ wh, wh < 7 → 11 ≤ gr wh ∧ gr wh ≤ 36000109 := wh_cases (by decide) (by decide) (by decide) (by decide) (by decide) (by decide) (by decide)
theorem bs_rg : ∀ wh, wh < 7 → 2 ≤ bs wh ∧ bs wh ≤ 76 := wh_cases (by decide) (by decide) (by decide) (by decide) (by decide) (by decide) (by decide)
theorem bs_gr : ∀ wh, wh < 7 → bs wh < gr wh := wh_cases (by decide) (by decide) (by decide) (by decide) (by decide) (by decide) (by decide)
theorem ho_rg : ∀ wh, wh < 7 → 4 ≤ ho wh ∧ ho wh ≤ 7 ∧ ho wh < pr wh := wh_cases (by decide) (by decide) (by decide) (by decide) (by decide) (by decide) (by decide)
/-- the object: which, p, q, g, M -/
abbrev FO (wh : Nat) : e_C := .inl (1, [.int (eI (wh : Int)), .int (eI (pr wh)), .int (eI (gr wh)), .int (eI (bs wh)), .int (eI (ho wh))])
theorem emod_of_tmod {a b : Int} (hb : 0 < b) : a % b = if a.tmod b < 0 then a.tmod b + b else a.tmod b := by
  have h1 := tmod_bounds (a := a) hb
  have h2 : a.tmod b = a - b * a.tdiv b := Int.tmod_def a b
  split
  · have h3 : a.tmod b + b = a + b * (1 - a.tdiv b) := by rw [h2, Int.mul_sub]; omega
    have h4 : (a.tmod b + b) % b = a % b := by rw [h3, Int.add_mul_emod_self_left]
    rw [← h4]; exact (Int.emod_eq_of_lt (by omega) (by omega))
  · have h3 : a.tmod b = a + b * (- a.tdiv b) := by rw [h2, Int.mul_neg]; omega
    have h4 : (a.tmod b) % b = a % b := by conv => lhs; rw [h3, Int.add_mul_emod_self_left]
    rw [← h4]; exact (Int.emod_eq_of_lt (by omega) (by omega))
theorem e_cmp_ge (a b : Int) : (0 ≤ e_cmp a b) ↔ b ≤ a := by unfold e_cmp; split <;> (try split) <;> omega
theorem e_cmp_le (a b : Int) : (e_cmp a b ≤ 0) ↔ a ≤ b := by unfold e_cmp; split <;> (try split) <;> omega
theorem e_cmp_ne (a b : Int) : (e_cmp a b ≠ 0) ↔ a ≠ b := by unfold e_cmp; split <;> (try split) <;> omega
theorem e_cmp_r (a b : Int) : e_r (e_cmp a b) := by unfold e_cmp; split <;> (try split) <;> decide
set_option maxHeartbeats 4000000 in
set_option maxRecDepth 100000 in
/-- v MOD p -/
theorem c_X1_modPrime {K : e_K} {l : Launch} {w : e_W} {n : Nat} {f wh : Nat} {v : Int} (hF : w f = some (FO wh)) (hwh : wh < 7) (hv : e_r8 v) : e_Met K l yX1_modPrime (Cond.code yX1_modPrime cX1_modPrime 5 (Option.some .int) :: e_TB) (0) (0) [.ref f, .long (eJ v)] w n (fun r w' n' => r = some (.int (eI (v % pr wh))) ∧ w' = w ∧ n' = n) (e_px0) := by
  refine e_ofV rfl (Nat.le_of_ble_eq_true rfl) ?_
  intro P9 E9 S9 M9 A9 B9 T9 C9 F hnm
  have hp := pr_rg wh hwh
  have hb := tmod_bounds (a := v) (show 0 < pr wh by omega)
  have hm := emod_of_tmod (a := v) (show 0 < pr wh by omega)
  refine e_aload_n F dX1_modPrime_0 rfl ?_
  refine e_get (ci := 1) (fi := 1) (q := (RX1, TX1, 5)) F (by first | assumption | exact e_up_s | (rw [e_up_n (by first | assumption | omega)]; first | assumption | exact e_up_s | (rw [e_up_n (by first | assumption | omega)]; first | assumption | exact e_up_s | (rw [e_up_n (by first | assumption | omega)]; first | assumption | exact e_up_s))) | exact hD.1 | exact hD1.1 | exact hD2.1 | exact gD.1 | exact gD1.1 | exact gD2.1 | exact gQ.1 | exact hQ.1 | exact gS.1 | exact hS.1 | exact zD.1) rfl (by decide) w_fl_RX1_29 (by rfl) dX1_modPrime_1 ?_
  refine e_if_gt F 9 dX1_modPrime_4 (by decide) (⟨by omega, by omega⟩) (fun c_4 => ?_) (fun c_4 => ?_)
  · refine e_lload_n F dX1_modPrime_9 rfl ?_
    refine e_aload_n F dX1_modPrime_10 rfl ?_
    refine e_get (ci := 1) (fi := 1) (q := (RX1, TX1, 5)) F (by first | assumption | exact e_up_s | (rw [e_up_n (by first | assumption | omega)]; first | assumption | exact e_up_s | (rw [e_up_n (by first | assumption | omega)]; first | assumption | exact e_up_s | (rw [e_up_n (by first | assumption | omega)]; first | assumption | exact e_up_s))) | exact hD.1 | exact hD1.1 | exact hD2.1 | exact gD.1 | exact gD1.1 | exact gD2.1 | exact gQ.1 | exact hQ.1 | exact gS.1 | exact hS.1 | exact zD.1) rfl (by decide) w_fl_RX1_29 (by rfl) dX1_modPrime_11 ?_
    refine e_i2l F dX1_modPrime_14 (⟨by omega, by omega⟩) ?_
    refine e_lrem F dX1_modPrime_15 (hv) (⟨by omega, by omega⟩) (by omega) ?_
    refine e_lstore_n F dX1_modPrime_16 (by decide) ?_
    refine e_lload_n F dX1_modPrime_17 rfl ?_
    refine e_lconst F dX1_modPrime_18 (y := 0) (by decide) ?_
    refine e_lcmp F dX1_modPrime_19 (⟨by omega, by omega⟩) (⟨by omega, by omega⟩) ?_
    refine e_if_ge F 33 dX1_modPrime_20 (by decide) (e_cmp_r _ _) (fun c_20 => ?_) (fun c_20 => ?_)
    ·
      rw [e_cmp_ge] at c_20
      refine e_lload_n F dX1_modPrime_33 rfl ?_
      refine e_l2i F dX1_modPrime_34 ?_
      refine e_iret F rfl (by omega) ?_ dX1_modPrime_35
      refine ⟨?_, rfl, rfl⟩
      rw [hm]
      first | rw [if_neg (by omega)] | rw [if_pos (by omega)]
    ·
      rw [e_cmp_ge] at c_20
      refine e_lload_n F dX1_modPrime_23 rfl ?_
      refine e_aload_n F dX1_modPrime_24 rfl ?_
      refine e_get (ci := 1) (fi := 1) (q := (RX1, TX1, 5)) F (by first | assumption | exact e_up_s | (rw [e_up_n (by first | assumption | omega)]; first | assumption | exact e_up_s | (rw [e_up_n (by first | assumption | omega)]; first | assumption | exact e_up_s | (rw [e_up_n (by first | assumption | omega)]; first | assumption | exact e_up_s))) | exact hD.1 | exact hD1.1 | exact hD2.1 | exact gD.1 | exact gD1.1 | exact gD2.1 | exact gQ.1 | exact hQ.1 | exact gS.1 | exact hS.1 | exact zD.1) rfl (by decide) w_fl_RX1_29 (by rfl) dX1_modPrime_25 ?_
      refine e_i2l F dX1_modPrime_28 (⟨by omega, by omega⟩) ?_
      refine e_ladd F dX1_modPrime_29 ?_
      refine e_goto F 34 dX1_modPrime_30 (by decide) ?_
      refine e_l2i F dX1_modPrime_34 ?_
      refine e_iret F rfl (by omega) ?_ dX1_modPrime_35
      refine ⟨?_, rfl, rfl⟩
      rw [hm]
      first | rw [if_neg (by omega)] | rw [if_pos (by omega)]
  · exact absurd c_4 (by omega)
def e_pw (b : Int) (k : Nat) (m : Int) : Int := b ^ k % m
theorem e_pw_rg {b m : Int} {k : Nat} (hm : 0 < m) : 0 ≤ e_pw b k m ∧ e_pw b k m < m := ⟨Int.emod_nonneg _ (by omega), Int.emod_lt_of_pos _ hm⟩
theorem emod_mul_l (a b m : Int) : (a % m * b) % m = a * b % m := by rw [Int.mul_emod, Int.emod_emod_of_dvd _ (Int.dvd_refl m), ← Int.mul_emod]
theorem emod_mul_r (a b m : Int) : (a * (b % m)) % m = a * b % m := by rw [Int.mul_emod, Int.emod_emod_of_dvd _ (Int.dvd_refl m), ← Int.mul_emod]
theorem emod_pow (a m : Int) (k : Nat) : (a % m) ^ k % m = a ^ k % m := by
  induction k with
  | zero => rw [Int.pow_zero, Int.pow_zero]
  | succ k ih => rw [Int.pow_succ, Int.pow_succ, emod_mul_r, ← emod_mul_l, ih, emod_mul_l]
theorem pow_bit (x : Int) (k : Nat) : x ^ k = x ^ (k % 2) * (x * x) ^ (k / 2) := by
  have h : x * x = x ^ 2 := by rw [Int.pow_succ, Int.pow_succ, Int.pow_zero, Int.one_mul]
  rw [h, ← Int.pow_mul, ← Int.pow_add]
  congr 1
  omega
/-- one step of the power by bits -/
theorem raise_step {r x m : Int} {k : Nat} : (if k % 2 = 1 then r * x % m else r) * (x * x % m) ^ (k / 2) % m = r * x ^ k % m := by
  have h1 : ∀ y : Int, y * (x * x % m) ^ (k / 2) % m = y * (x * x) ^ (k / 2) % m := fun y => by
    rw [← emod_mul_r, emod_pow, emod_mul_r]
  rw [h1]
  conv => rhs; rw [pow_bit x k]
  split
  · rename_i hk
    rw [hk, emod_mul_l, Int.pow_succ, Int.pow_zero, Int.one_mul, Int.mul_assoc]
  · have hk : k % 2 = 0 := by omega
    rw [hk, Int.pow_zero, Int.one_mul]
theorem eJ_and1 {a : Int} (h0 : 0 ≤ a) (h1 : a < 9223372036854775808) : eJ a &&& eJ 1 = eJ (a % 2) := by
  obtain ⟨k, rfl⟩ : ∃ k : Nat, (k : Int) = a := ⟨a.toNat, by omega⟩
  apply Int64.toBitVec_inj.mp
  rw [Int64.toBitVec_and]
  show BitVec.ofInt 64 _ &&& BitVec.ofInt 64 1 = BitVec.ofInt 64 _
  rw [show ((k : Int) % 2) = ((k % 2 : Nat) : Int) from rfl, show (1 : Int) = ((1 : Nat) : Int) from rfl, BitVec.ofInt_natCast, BitVec.ofInt_natCast, BitVec.ofInt_natCast]
  apply BitVec.eq_of_toNat_eq
  rw [BitVec.toNat_and, BitVec.toNat_ofNat, BitVec.toNat_ofNat, BitVec.toNat_ofNat]
  rw [show 1 % 2 ^ 64 = 1 from rfl, Nat.and_one_is_mod]
  omega
theorem eJ_shr1 {a : Int} (h0 : 0 ≤ a) (h1 : a < 9223372036854775808) : eJ a >>> ((eI 1).toInt64 &&& 63) = eJ (a / 2) := by
  rw [← Int64.toInt_inj, eJ_toInt (by omega) (by omega)]
  have e1 : (eI 1).toInt64 &&& 63 = 1 := by decide
  rw [e1]
  show (BitVec.sshiftRight (eJ a).toBitVec ((1 : Int64).toBitVec.smod 64).toNat).toInt = _
  have e2 : ((1 : Int64).toBitVec.smod 64).toNat = 1 := by decide
  rw [e2, BitVec.toInt_sshiftRight]
  show (eJ a).toInt >>> 1 = _
  rw [eJ_toInt (by omega) h1, Int.shiftRight_eq_div_pow]
  rfl
theorem mul_rg {a b m : Int} (ha : 0 ≤ a) (ha2 : a < m) (hb : 0 ≤ b) (hb2 : b < m) (hm : m ≤ 36000109) : 0 ≤ a * b ∧ e_r8 (a * b) := by
  have h0 : 0 ≤ a * b := Int.mul_nonneg ha hb
  have h1 : a * b ≤ 36000109 * 36000109 := Int.mul_le_mul (by omega) (by omega) hb (by omega)
  exact ⟨h0, by omega, by omega⟩
theorem pow2_le {bit : Int} (h : 0 ≤ bit) : (2 : Int) ^ (63 - bit).toNat ≤ 9223372036854775808 := by
  have h1 : (2 : Nat) ^ (63 - bit).toNat ≤ 2 ^ 63 := Nat.pow_le_pow_right (by omega) (by omega)
  have h2 : (((2 : Nat) ^ (63 - bit).toNat : Nat) : Int) ≤ ((2 ^ 63 : Nat) : Int) := by exact_mod_cast h1
  rw [Int.natCast_pow] at h2
  exact h2
theorem pow2_half {bit op : Int} (h : 0 ≤ bit) (h2 : bit < 63) (h3 : op < 2 ^ (63 - bit).toNat) : op / 2 < 2 ^ (63 - (bit + 1)).toNat := by
  have e : (63 - bit).toNat = (63 - (bit + 1)).toNat + 1 := by omega
  rw [e, Int.pow_succ] at h3
  omega
set_option maxHeartbeats 4000000 in
set_option maxRecDepth 100000 in
/-- the power by bits -/
theorem c_X1_raise {K : e_K} {l : Launch} {w : e_W} {n : Nat} {b k m : Int} (hb1 : 0 ≤ b) (hb2 : b < m) (hm1 : 2 ≤ m) (hm2 : m ≤ 36000109) (hk1 : 0 ≤ k) (hk2 : k < 9223372036854775808) : e_Met K l yX1_raise (Cond.code yX1_raise cX1_raise 11 (Option.some .int) :: e_TB) (0) (0) [.int (eI b), .long (eJ k), .int (eI m)] w n (fun r w' n' => r = some (.int (eI (e_pw b k.toNat m))) ∧ w' = w ∧ n' = n) (e_px0) := by
  refine e_ofV rfl (Nat.le_of_ble_eq_true rfl) ?_
  intro P9 E9 S9 M9 A9 B9 T9 C9 F hnm
  have lp : ∀ (N : Nat) (bit res fac op : Int), (63 - bit).toNat < N → (0 ≤ bit ∧ bit ≤ 63 ∧ 0 ≤ res ∧ res < m ∧ 0 ≤ fac ∧ fac < m ∧ 0 ≤ op ∧ op < 2 ^ (63 - bit).toNat ∧ res * fac ^ op.toNat % m = e_pw b k.toNat m) → e_V K P9 l E9 (0) (0) S9 M9 A9 B9 T9 C9 11 (fun r w' n' => r = some (.int (eI (e_pw b k.toNat m))) ∧ w' = w ∧ n' = n) (e_px0) 19 [(0, .int (eI b)), (3, .int (eI m)), (4, .long (eJ res)), (6, .long (eJ fac)), (8, .long (eJ op)), (10, .int (eI bit))] [] w n (0) := by
    intro N
    induction N with
    | zero => intro bit res fac op hN; exact absurd hN (Nat.not_lt_zero _)
    | succ N ih =>
      intro bit res fac op hN ⟨h1, h2, h3, h4, h5, h6, h7, h8, h9⟩
      have hop : op < 9223372036854775808 := Int.lt_of_lt_of_le h8 (pow2_le h1)
      refine e_iload F dX1_raise_19 rfl ?_
      refine e_bipush F dX1_raise_21 (by decide) ?_
      refine e_icmp_ge F 74 dX1_raise_23 (by decide) (⟨by omega, by omega⟩) (⟨by omega, by omega⟩) (fun c_23 => ?_) (fun c_23 => ?_)
      · refine e_lload F dX1_raise_74 rfl ?_
        refine e_l2i F dX1_raise_76 ?_
        refine e_iret F rfl (by omega) ?_ dX1_raise_77
        refine ⟨?_, rfl, rfl⟩
        have ho : op.toNat = 0 := by
          rcases (show bit = 63 ∨ op ≤ 0 by omega) with q | q
          · subst q
            have h88 : op < 1 := h8
            omega
          · omega
        rw [ho, Int.pow_zero, Int.mul_one, Int.emod_eq_of_lt h3 h4] at h9
        rw [h9]
      · refine e_lload F dX1_raise_26 rfl ?_
        refine e_lconst F dX1_raise_28 (y := 0) (by decide) ?_
        refine e_lcmp F dX1_raise_29 (⟨by omega, by omega⟩) (⟨by omega, by omega⟩) ?_
        refine e_if_le F 74 dX1_raise_30 (by decide) (e_cmp_r _ _) (fun c_30 => ?_) (fun c_30 => ?_)
        ·
          rw [e_cmp_le] at c_30
          refine e_lload F dX1_raise_74 rfl ?_
          refine e_l2i F dX1_raise_76 ?_
          refine e_iret F rfl (by omega) ?_ dX1_raise_77
          refine ⟨?_, rfl, rfl⟩
          have ho : op.toNat = 0 := by
            rcases (show bit = 63 ∨ op ≤ 0 by omega) with q | q
            · subst q
              have h88 : op < 1 := h8
              omega
            · omega
          rw [ho, Int.pow_zero, Int.mul_one, Int.emod_eq_of_lt h3 h4] at h9
          rw [h9]
        ·
          rw [e_cmp_le] at c_30
          refine e_lload F dX1_raise_33 rfl ?_
          refine e_lconst F dX1_raise_35 (y := 1) (by decide) ?_
          refine e_land F dX1_raise_36 (eJ_and1 h7 hop) ?_
          refine e_lconst F dX1_raise_37 (y := 1) (by decide) ?_
          refine e_lcmp F dX1_raise_38 (⟨by omega, by omega⟩) (⟨by omega, by omega⟩) ?_
          refine e_if_ne F 52 dX1_raise_39 (by decide) (e_cmp_r _ _) (fun c_39 => ?_) (fun c_39 => ?_)
          ·
            rw [e_cmp_ne] at c_39
            have g1 := h3
            have g2 := h4
            refine e_lload F dX1_raise_52 rfl ?_
            refine e_lload F dX1_raise_54 rfl ?_
            refine e_lmul F dX1_raise_56 ?_
            refine e_iload_n F dX1_raise_57 rfl ?_
            refine e_i2l F dX1_raise_58 (⟨by omega, by omega⟩) ?_
            refine e_lrem F dX1_raise_59 ((mul_rg h5 h6 h5 h6 hm2).2) (⟨by omega, by omega⟩) (by omega) ?_
            rw [Int.tmod_eq_emod_of_nonneg (mul_rg h5 h6 h5 h6 hm2).1]
            have g3 : 0 ≤ fac * fac % m := Int.emod_nonneg _ (by omega)
            have g4 : fac * fac % m < m := Int.emod_lt_of_pos _ (by omega)
            refine e_lstore F dX1_raise_60 (by decide) ?_
            refine e_lload F dX1_raise_62 rfl ?_
            refine e_iconst F dX1_raise_64 ?_
            refine e_lshr F dX1_raise_65 (eJ_shr1 h7 hop) ?_
            have g5 := raise_step (r := res) (x := fac) (m := m) (k := op.toNat)
            first | rw [if_pos (by omega), h9] at g5 | rw [if_neg (by omega), h9] at g5
            rw [show op.toNat / 2 = (op / 2).toNat by omega] at g5
            have g6 : op / 2 < 2 ^ (63 - (bit + 1)).toNat := pow2_half h1 (by omega) h8
            refine e_lstore F dX1_raise_66 (by decide) ?_
            refine e_iinc F dX1_raise_68 rfl (by decide) ?_
            refine e_goto F 19 dX1_raise_71 (by decide) ?_
            exact e_go (ih _ _ _ _ (by omega) ⟨by omega, by omega, g1, g2, g3, g4, by omega, g6, g5⟩) (And.intro rfl (And.intro rfl (And.intro rfl (And.intro rfl (And.intro rfl (And.intro rfl (trivial)))))))
          ·
            rw [← Classical.not_not (a := e_cmp (op % 2) 1 = 0)] at c_39
            rw [show ¬ e_cmp (op % 2) 1 = 0 ↔ e_cmp (op % 2) 1 ≠ 0 from Iff.rfl, e_cmp_ne] at c_39
            have g1 : 0 ≤ res * fac % m := Int.emod_nonneg _ (by omega)
            have g2 : res * fac % m < m := Int.emod_lt_of_pos _ (by omega)
            refine e_lload F dX1_raise_42 rfl ?_
            refine e_lload F dX1_raise_44 rfl ?_
            refine e_lmul F dX1_raise_46 ?_
            refine e_iload_n F dX1_raise_47 rfl ?_
            refine e_i2l F dX1_raise_48 (⟨by omega, by omega⟩) ?_
            refine e_lrem F dX1_raise_49 ((mul_rg h3 h4 h5 h6 hm2).2) (⟨by omega, by omega⟩) (by omega) ?_
            rw [Int.tmod_eq_emod_of_nonneg (mul_rg h3 h4 h5 h6 hm2).1]
            refine e_lstore F dX1_raise_50 (by decide) ?_
            refine e_lload F dX1_raise_52 rfl ?_
            refine e_lload F dX1_raise_54 rfl ?_
            refine e_lmul F dX1_raise_56 ?_
            refine e_iload_n F dX1_raise_57 rfl ?_
            refine e_i2l F dX1_raise_58 (⟨by omega, by omega⟩) ?_
            refine e_lrem F dX1_raise_59 ((mul_rg h5 h6 h5 h6 hm2).2) (⟨by omega, by omega⟩) (by omega) ?_
            rw [Int.tmod_eq_emod_of_nonneg (mul_rg h5 h6 h5 h6 hm2).1]
            have g3 : 0 ≤ fac * fac % m := Int.emod_nonneg _ (by omega)
            have g4 : fac * fac % m < m := Int.emod_lt_of_pos _ (by omega)
            refine e_lstore F dX1_raise_60 (by decide) ?_
            refine e_lload F dX1_raise_62 rfl ?_
            refine e_iconst F dX1_raise_64 ?_
            refine e_lshr F dX1_raise_65 (eJ_shr1 h7 hop) ?_
            have g5 := raise_step (r := res) (x := fac) (m := m) (k := op.toNat)
            first | rw [if_pos (by omega), h9] at g5 | rw [if_neg (by omega), h9] at g5
            rw [show op.toNat / 2 = (op / 2).toNat by omega] at g5
            have g6 : op / 2 < 2 ^ (63 - (bit + 1)).toNat := pow2_half h1 (by omega) h8
            refine e_lstore F dX1_raise_66 (by decide) ?_
            refine e_iinc F dX1_raise_68 rfl (by decide) ?_
            refine e_goto F 19 dX1_raise_71 (by decide) ?_
            exact e_go (ih _ _ _ _ (by omega) ⟨by omega, by omega, g1, g2, g3, g4, by omega, g6, g5⟩) (And.intro rfl (And.intro rfl (And.intro rfl (And.intro rfl (And.intro rfl (And.intro rfl (trivial)))))))
  refine e_iload_n F dX1_raise_0 rfl ?_
  refine e_if_gt F 6 dX1_raise_1 (by decide) (⟨by omega, by omega⟩) (fun c_1 => ?_) (fun c_1 => ?_)
  · refine e_lconst F dX1_raise_6 (y := 1) (by decide) ?_
    refine e_lstore F dX1_raise_7 (by decide) ?_
    refine e_iload_n F dX1_raise_9 rfl ?_
    refine e_i2l F dX1_raise_10 (⟨by omega, by omega⟩) ?_
    refine e_lstore F dX1_raise_11 (by decide) ?_
    refine e_lload_n F dX1_raise_13 rfl ?_
    refine e_lstore F dX1_raise_14 (by decide) ?_
    refine e_iconst F dX1_raise_16 ?_
    refine e_istore F dX1_raise_17 (by decide) ?_
    exact e_go (lp 64 0 1 b k (by omega) ⟨by omega, by omega, by omega, by omega, hb1, hb2, hk1, hk2, by rw [Int.one_mul]; rfl⟩) (And.intro rfl (And.intro rfl (And.intro rfl (And.intro rfl (And.intro rfl (And.intro rfl (trivial)))))))
  · exact absurd c_1 (by omega)
end
-- 11.bits.lean.txt
section
/-! bits of sets, and Math.min, Math.max, Integer.bitCount -/
abbrev hs (set h : Int) : Prop := set / 2 ^ (h - 1).toNat % 2 = 1
def b01 (c : Prop) [Decidable c] : Int := if c then 1 else 0
theorem b01_or (c : Prop) [Decidable c] : b01 c = 0 ∨ b01 c = 1 := by unfold b01; split <;> omega
theorem b01_r (c : Prop) [Decidable c] : e_r (b01 c) := by unfold b01; split <;> decide
theorem b01_t {c : Prop} [Decidable c] (h : c) : b01 c = 1 := if_pos h
theorem b01_f {c : Prop} [Decidable c] (h : ¬ c) : b01 c = 0 := if_neg h
theorem b01_0 {c : Prop} [Decidable c] : b01 c = 0 ↔ ¬ c := by unfold b01; split <;> simp_all
theorem b01_1 {c : Prop} [Decidable c] : b01 c = 1 ↔ c := by unfold b01; split <;> simp_all
theorem eI_sh_k : ∀ k : Nat, k < 31 → ((eI (k : Int) &&& 31).toBitVec.smod 32).toNat = k := by decide +kernel
theorem div_rg {a : Int} (k : Nat) (h0 : 0 ≤ a) (h1 : a < 2147483648) : 0 ≤ a / 2 ^ k ∧ a / 2 ^ k < 2147483648 := by
  have hp : (0 : Int) < 2 ^ k := Int.pow_pos (by omega)
  exact ⟨Int.ediv_nonneg h0 (by omega), Int.lt_of_le_of_lt (Int.ediv_le_self _ h0) h1⟩
theorem eI_shr {a i : Int} (h2 : 0 ≤ a) (h3 : a < 2147483648) (h0 : 0 ≤ i) (h1 : i < 31) : eI a >>> (eI i &&& 31) = eI (a / 2 ^ i.toNat) := by
  have hk := eI_sh_k i.toNat (by omega)
  rw [Int.toNat_of_nonneg h0] at hk
  have hd := div_rg i.toNat h2 h3
  rw [← Int32.toInt_inj, pk_shr _ _ i.toNat hk, eI_toInt (by omega) h3, eI_toInt (by omega) hd.2, Int.shiftRight_eq_div_pow]
  norm_cast
theorem eI_and1 {a : Int} (h0 : 0 ≤ a) (h1 : a < 2147483648) : eI a &&& eI 1 = eI (a % 2) := by
  obtain ⟨k, rfl⟩ : ∃ k : Nat, (k : Int) = a := ⟨a.toNat, by omega⟩
  exact pk_andN (n := k) (by omega) (m := eI 1) 1 (by decide)
theorem eI_shl1 : ∀ k : Nat, k < 8 → eI 1 <<< (eI (k : Int) &&& 31) = eI (2 ^ k) := by decide +kernel
set_option maxHeartbeats 4000000 in
set_option maxRecDepth 100000 in
/-- is the holder in the set -/
theorem c_X3_isIn {K : e_K} {l : Launch} {w : e_W} {n : Nat} {set h : Int} (h0 : 0 ≤ set) (h1 : set < 2147483648) (h2 : 1 ≤ h) (h3 : h ≤ 7) : e_Met K l yX3_isIn (Cond.code yX3_isIn cX3_isIn 2 (Option.some .boolean) :: e_TB) (0) (0) [.int (eI set), .int (eI h)] w n (fun r w' n' => r = some (.int (eI (b01 (hs set h)))) ∧ w' = w ∧ n' = n) (e_px0) := by
  refine e_ofV rfl (Nat.le_of_ble_eq_true rfl) ?_
  intro P9 E9 S9 M9 A9 B9 T9 C9 F hnm
  refine e_iload_n F dX3_isIn_0 rfl ?_
  refine e_iload_n F dX3_isIn_1 rfl ?_
  refine e_iconst F dX3_isIn_2 ?_
  refine e_isub F dX3_isIn_3 ?_
  refine e_ishr F dX3_isIn_4 (eI_shr h0 h1 (by omega) (by omega)) ?_
  have hd := div_rg (h - 1).toNat h0 h1
  refine e_iconst F dX3_isIn_5 ?_
  refine e_iand F dX3_isIn_6 (eI_and1 hd.1 hd.2) ?_
  refine e_iconst F dX3_isIn_7 ?_
  refine e_icmp_ne F 15 dX3_isIn_8 (by decide) (⟨by omega, by omega⟩) (⟨by omega, by omega⟩) (fun c_8 => ?_) (fun c_8 => ?_)
  · refine e_iconst F dX3_isIn_15 ?_
    refine e_zret F rfl (by omega) (by omega) ?_ dX3_isIn_16
    refine ⟨?_, rfl, rfl⟩
    first | rw [b01_f (by unfold hs; omega)] | rw [b01_t (by unfold hs; omega)]
  · refine e_iconst F dX3_isIn_11 ?_
    refine e_goto F 16 dX3_isIn_12 (by decide) ?_
    refine e_zret F rfl (by omega) (by omega) ?_ dX3_isIn_16
    refine ⟨?_, rfl, rfl⟩
    first | rw [b01_f (by unfold hs; omega)] | rw [b01_t (by unfold hs; omega)]
set_option maxHeartbeats 4000000 in
set_option maxRecDepth 100000 in
theorem c_X3_bitOf {K : e_K} {l : Launch} {w : e_W} {n : Nat} {h : Int} (h2 : 1 ≤ h) (h3 : h ≤ 8) : e_Met K l yX3_bitOf (Cond.code yX3_bitOf cX3_bitOf 1 (Option.some .int) :: e_TB) (0) (0) [.int (eI h)] w n (fun r w' n' => r = some (.int (eI (2 ^ (h - 1).toNat))) ∧ w' = w ∧ n' = n) (e_px0) := by
  refine e_ofV rfl (Nat.le_of_ble_eq_true rfl) ?_
  intro P9 E9 S9 M9 A9 B9 T9 C9 F hnm
  refine e_iconst F dX3_bitOf_0 ?_
  refine e_iload_n F dX3_bitOf_1 rfl ?_
  refine e_iconst F dX3_bitOf_2 ?_
  refine e_isub F dX3_bitOf_3 ?_
  refine e_ishl F dX3_bitOf_4 (by have := eI_shl1 (h - 1).toNat (by omega); rwa [Int.toNat_of_nonneg (by omega)] at this) ?_
  refine e_iret F rfl (by omega) ?_ dX3_bitOf_5
  exact ⟨rfl, rfl, rfl⟩
/-- how many are in a set -/
def bc (s : Int) : Int := s % 2 + s / 2 % 2 + s / 4 % 2 + s / 8 % 2 + s / 16 % 2 + s / 32 % 2 + s / 64 % 2
set_option maxHeartbeats 4000000 in
set_option maxRecDepth 100000 in
theorem c_J6_bitCount_0f7a4 {K : e_K} {l : Launch} {w : e_W} {n : Nat} {k : Nat} (hk : k < 128) : e_Met K l yJ6_bitCount_0f7a4 (Cond.code yJ6_bitCount_0f7a4 cJ6_bitCount_0f7a4 1 (Option.some .int) :: e_TB) (0) (0) [.int (eI (k : Int))] w n (fun r w' n' => r = some (.int (eI (bc (k : Int)))) ∧ w' = w ∧ n' = n) (e_px0) := by
  refine e_ofV rfl (Nat.le_of_ble_eq_true rfl) ?_
  intro P9 E9 S9 M9 A9 B9 T9 C9 F hnm
  refine e_iload_n F dJ6_bitCount_0f7a4_0 rfl ?_
  refine e_iload_n F dJ6_bitCount_0f7a4_1 rfl ?_
  refine e_iconst F dJ6_bitCount_0f7a4_2 ?_
  refine e_iushr F dJ6_bitCount_0f7a4_3 ((eI_self _).symm) ?_
  refine e_ldcw F dJ6_bitCount_0f7a4_4 w_k_RJ6_265 ?_
  refine e_iand F dJ6_bitCount_0f7a4_7 ((eI_self _).symm) ?_
  refine e_isub F dJ6_bitCount_0f7a4_8 ?_
  refine e_istore_n F dJ6_bitCount_0f7a4_9 (by decide) ?_
  refine e_iload_n F dJ6_bitCount_0f7a4_10 rfl ?_
  refine e_ldcw F dJ6_bitCount_0f7a4_11 w_k_RJ6_266 ?_
  refine e_iand F dJ6_bitCount_0f7a4_14 ((eI_self _).symm) ?_
  refine e_iload_n F dJ6_bitCount_0f7a4_15 rfl ?_
  refine e_iconst F dJ6_bitCount_0f7a4_16 ?_
  refine e_iushr F dJ6_bitCount_0f7a4_17 ((eI_self _).symm) ?_
  refine e_ldcw F dJ6_bitCount_0f7a4_18 w_k_RJ6_266 ?_
  refine e_iand F dJ6_bitCount_0f7a4_21 ((eI_self _).symm) ?_
  refine e_iadd F dJ6_bitCount_0f7a4_22 ?_
  refine e_istore_n F dJ6_bitCount_0f7a4_23 (by decide) ?_
  refine e_iload_n F dJ6_bitCount_0f7a4_24 rfl ?_
  refine e_iload_n F dJ6_bitCount_0f7a4_25 rfl ?_
  refine e_iconst F dJ6_bitCount_0f7a4_26 ?_
  refine e_iushr F dJ6_bitCount_0f7a4_27 ((eI_self _).symm) ?_
  refine e_iadd F dJ6_bitCount_0f7a4_28 ?_
  refine e_ldcw F dJ6_bitCount_0f7a4_29 w_k_RJ6_267 ?_
  refine e_iand F dJ6_bitCount_0f7a4_32 ((eI_self _).symm) ?_
  refine e_istore_n F dJ6_bitCount_0f7a4_33 (by decide) ?_
  refine e_iload_n F dJ6_bitCount_0f7a4_34 rfl ?_
  refine e_iload_n F dJ6_bitCount_0f7a4_35 rfl ?_
  refine e_bipush F dJ6_bitCount_0f7a4_36 (by decide) ?_
  refine e_iushr F dJ6_bitCount_0f7a4_38 ((eI_self _).symm) ?_
  refine e_iadd F dJ6_bitCount_0f7a4_39 ?_
  refine e_istore_n F dJ6_bitCount_0f7a4_40 (by decide) ?_
  refine e_iload_n F dJ6_bitCount_0f7a4_41 rfl ?_
  refine e_iload_n F dJ6_bitCount_0f7a4_42 rfl ?_
  refine e_bipush F dJ6_bitCount_0f7a4_43 (by decide) ?_
  refine e_iushr F dJ6_bitCount_0f7a4_45 ((eI_self _).symm) ?_
  refine e_iadd F dJ6_bitCount_0f7a4_46 ?_
  refine e_istore_n F dJ6_bitCount_0f7a4_47 (by decide) ?_
  refine e_iload_n F dJ6_bitCount_0f7a4_48 rfl ?_
  refine e_bipush F dJ6_bitCount_0f7a4_49 (by decide) ?_
  refine e_iand F dJ6_bitCount_0f7a4_51 ((eI_self _).symm) ?_
  refine e_iret F rfl (by omega) ?_ dJ6_bitCount_0f7a4_52
  refine ⟨?_, rfl, rfl⟩
  revert k
  decide +kernel
end
-- 12.field2.lean.txt
section
/-! Field: the rest -/
def iv (wh : Nat) (v : Int) : Int := e_pw v (pr wh - 2).toNat (pr wh)
def ivq (wh : Nat) (v : Int) : Int := e_pw v (gr wh - 2).toNat (gr wh)
def sl (wh : Nat) (v : Int) : Int := e_pw (bs wh) (v % pr wh).toNat (gr wh)
theorem iv_rg {wh : Nat} {v : Int} (h : wh < 7) : 0 ≤ iv wh v ∧ iv wh v < pr wh := e_pw_rg (by have := pr_rg wh h; omega)
theorem ivq_rg {wh : Nat} {v : Int} (h : wh < 7) : 0 ≤ ivq wh v ∧ ivq wh v < gr wh := e_pw_rg (by have := gr_rg wh h; omega)
theorem sl_rg {wh : Nat} {v : Int} (h : wh < 7) : 0 ≤ sl wh v ∧ sl wh v < gr wh := e_pw_rg (by have := gr_rg wh h; omega)
theorem emod_rg {wh : Nat} (v : Int) (h : wh < 7) : 0 ≤ v % pr wh ∧ v % pr wh < pr wh := by
  have := pr_rg wh h
  exact ⟨Int.emod_nonneg _ (by omega), Int.emod_lt_of_pos _ (by omega)⟩
/-- product of (x - j), j the others of the set, up to the holder k -/
def wpr (p x h set : Int) : Nat → Int
  | 0 => 1
  | k + 1 => if ((k : Int) + 1 ≠ h ∧ hs set ((k : Int) + 1)) then (wpr p x h set k * (x - ((k : Int) + 1))) % p else wpr p x h set k
def wgt (wh : Nat) (set h x : Int) : Int := wpr (pr wh) (x % pr wh) h set (ho wh).toNat * iv wh (wpr (pr wh) h h set (ho wh).toNat) % pr wh
theorem wpr_rg {p x h set : Int} (hp : 2 ≤ p) (k : Nat) : 0 ≤ wpr p x h set k ∧ wpr p x h set k < p := by
  induction k with
  | zero => unfold wpr; omega
  | succ k ih =>
    unfold wpr
    split
    · exact ⟨Int.emod_nonneg _ (by omega), Int.emod_lt_of_pos _ (by omega)⟩
    · exact ih
theorem mul_rg2 {a b : Int} (ha : 0 ≤ a) (ha2 : a ≤ 36000109) (hb : -2147483700 ≤ b) (hb2 : b ≤ 2147483700) : e_r8 (a * b) := by
  have h1 : a * b ≤ a * 2147483700 := Int.mul_le_mul_of_nonneg_left hb2 ha
  have h2 : a * (-2147483700) ≤ a * b := Int.mul_le_mul_of_nonneg_left hb ha
  constructor <;> omega
set_option maxHeartbeats 4000000 in
set_option maxRecDepth 100000 in
theorem c_X1_inverse {K : e_K} {l : Launch} {w : e_W} {n : Nat} {v : Int} {f wh : Nat} (hF : w f = some (FO wh)) (hwh : wh < 7) (hv1 : 0 ≤ v) (hv2 : v < pr wh) : e_Met K l yX1_inverse (Cond.code yX1_inverse cX1_inverse 2 (Option.some .int) :: e_TB) (1) (0) [.ref f, .int (eI v)] w n (fun r w' n' => r = some (.int (eI (iv wh v))) ∧ w' = w ∧ n' = n) (e_px0) := by
  refine e_ofV rfl (Nat.le_of_ble_eq_true rfl) ?_
  intro P9 E9 S9 M9 A9 B9 T9 C9 F hnm
  have hp := pr_rg wh hwh
  have hg := gr_rg wh hwh
  have hb := bs_rg wh hwh
  have hbg := bs_gr wh hwh
  have ho9 := ho_rg wh hwh
  refine e_iload_n F dX1_inverse_0 rfl ?_
  refine e_aload_n F dX1_inverse_1 rfl ?_
  refine e_get (ci := 1) (fi := 1) (q := (RX1, TX1, 5)) F (by first | assumption | exact e_up_s | (rw [e_up_n (by first | assumption | omega)]; first | assumption | exact e_up_s | (rw [e_up_n (by first | assumption | omega)]; first | assumption | exact e_up_s | (rw [e_up_n (by first | assumption | omega)]; first | assumption | exact e_up_s))) | exact hD.1 | exact hD1.1 | exact hD2.1 | exact gD.1 | exact gD1.1 | exact gD2.1 | exact gQ.1 | exact hQ.1 | exact gS.1 | exact hS.1 | exact zD.1) rfl (by decide) w_fl_RX1_29 (by rfl) dX1_inverse_2 ?_
  refine e_iconst F dX1_inverse_5 ?_
  refine e_isub F dX1_inverse_6 ?_
  refine e_i2l F dX1_inverse_7 (⟨by omega, by omega⟩) ?_
  refine e_aload_n F dX1_inverse_8 rfl ?_
  refine e_get (ci := 1) (fi := 1) (q := (RX1, TX1, 5)) F (by first | assumption | exact e_up_s | (rw [e_up_n (by first | assumption | omega)]; first | assumption | exact e_up_s | (rw [e_up_n (by first | assumption | omega)]; first | assumption | exact e_up_s | (rw [e_up_n (by first | assumption | omega)]; first | assumption | exact e_up_s))) | exact hD.1 | exact hD1.1 | exact hD2.1 | exact gD.1 | exact gD1.1 | exact gD2.1 | exact gQ.1 | exact hQ.1 | exact gS.1 | exact hS.1 | exact zD.1) rfl (by decide) w_fl_RX1_29 (by rfl) dX1_inverse_9 ?_
  refine e_callSS F u_X1_raise (by rfl) (c_X1_raise hv1 hv2 (by omega) (by omega) (by omega) (by omega)) w_ml_RX1_47 dX1_inverse_12 (by rfl) (Nat.le_of_ble_eq_true rfl) (by decide) (by omega) (fun _ _ _ h _ => False.elim h) (fun r_12 w_12 n_12 h_12 hn_12 => ?_)
  obtain ⟨rfl, ew_12, en_12⟩ := h_12
  rw [ew_12, en_12]
  refine e_iret F rfl (by omega) ?_ dX1_inverse_15
  exact ⟨rfl, rfl, rfl⟩
set_option maxHeartbeats 4000000 in
set_option maxRecDepth 100000 in
theorem c_X1_inverseSeal {K : e_K} {l : Launch} {w : e_W} {n : Nat} {v : Int} {f wh : Nat} (hF : w f = some (FO wh)) (hwh : wh < 7) (hv1 : 0 ≤ v) (hv2 : v < gr wh) : e_Met K l yX1_inverseSeal (Cond.code yX1_inverseSeal cX1_inverseSeal 2 (Option.some .int) :: e_TB) (1) (0) [.ref f, .int (eI v)] w n (fun r w' n' => r = some (.int (eI (ivq wh v))) ∧ w' = w ∧ n' = n) (e_px0) := by
  refine e_ofV rfl (Nat.le_of_ble_eq_true rfl) ?_
  intro P9 E9 S9 M9 A9 B9 T9 C9 F hnm
  have hp := pr_rg wh hwh
  have hg := gr_rg wh hwh
  have hb := bs_rg wh hwh
  have hbg := bs_gr wh hwh
  have ho9 := ho_rg wh hwh
  refine e_iload_n F dX1_inverseSeal_0 rfl ?_
  refine e_aload_n F dX1_inverseSeal_1 rfl ?_
  refine e_get (ci := 1) (fi := 2) (q := (RX1, TX1, 5)) F (by first | assumption | exact e_up_s | (rw [e_up_n (by first | assumption | omega)]; first | assumption | exact e_up_s | (rw [e_up_n (by first | assumption | omega)]; first | assumption | exact e_up_s | (rw [e_up_n (by first | assumption | omega)]; first | assumption | exact e_up_s))) | exact hD.1 | exact hD1.1 | exact hD2.1 | exact gD.1 | exact gD1.1 | exact gD2.1 | exact gQ.1 | exact hQ.1 | exact gS.1 | exact hS.1 | exact zD.1) rfl (by decide) w_fl_RX1_32 (by rfl) dX1_inverseSeal_2 ?_
  refine e_iconst F dX1_inverseSeal_5 ?_
  refine e_isub F dX1_inverseSeal_6 ?_
  refine e_i2l F dX1_inverseSeal_7 (⟨by omega, by omega⟩) ?_
  refine e_aload_n F dX1_inverseSeal_8 rfl ?_
  refine e_get (ci := 1) (fi := 2) (q := (RX1, TX1, 5)) F (by first | assumption | exact e_up_s | (rw [e_up_n (by first | assumption | omega)]; first | assumption | exact e_up_s | (rw [e_up_n (by first | assumption | omega)]; first | assumption | exact e_up_s | (rw [e_up_n (by first | assumption | omega)]; first | assumption | exact e_up_s))) | exact hD.1 | exact hD1.1 | exact hD2.1 | exact gD.1 | exact gD1.1 | exact gD2.1 | exact gQ.1 | exact hQ.1 | exact gS.1 | exact hS.1 | exact zD.1) rfl (by decide) w_fl_RX1_32 (by rfl) dX1_inverseSeal_9 ?_
  refine e_callSS F u_X1_raise (by rfl) (c_X1_raise hv1 hv2 (by omega) (by omega) (by omega) (by omega)) w_ml_RX1_47 dX1_inverseSeal_12 (by rfl) (Nat.le_of_ble_eq_true rfl) (by decide) (by omega) (fun _ _ _ h _ => False.elim h) (fun r_12 w_12 n_12 h_12 hn_12 => ?_)
  obtain ⟨rfl, ew_12, en_12⟩ := h_12
  rw [ew_12, en_12]
  refine e_iret F rfl (by omega) ?_ dX1_inverseSeal_15
  exact ⟨rfl, rfl, rfl⟩
set_option maxHeartbeats 4000000 in
set_option maxRecDepth 100000 in
theorem c_X1_sealProduct {K : e_K} {l : Launch} {w : e_W} {n : Nat} {a b : Int} {f wh : Nat} (hF : w f = some (FO wh)) (hwh : wh < 7) (ha1 : 0 ≤ a) (ha2 : a < gr wh) (hb1 : 0 ≤ b) (hb2 : b < gr wh) : e_Met K l yX1_sealProduct (Cond.code yX1_sealProduct cX1_sealProduct 3 (Option.some .int) :: e_TB) (0) (0) [.ref f, .int (eI a), .int (eI b)] w n (fun r w' n' => r = some (.int (eI (a * b % gr wh))) ∧ w' = w ∧ n' = n) (e_px0) := by
  refine e_ofV rfl (Nat.le_of_ble_eq_true rfl) ?_
  intro P9 E9 S9 M9 A9 B9 T9 C9 F hnm
  have hp := pr_rg wh hwh
  have hg := gr_rg wh hwh
  have hb := bs_rg wh hwh
  have hbg := bs_gr wh hwh
  have ho9 := ho_rg wh hwh
  have hm := mul_rg ha1 ha2 hb1 hb2 hg.2
  refine e_aload_n F dX1_sealProduct_0 rfl ?_
  refine e_get (ci := 1) (fi := 2) (q := (RX1, TX1, 5)) F (by first | assumption | exact e_up_s | (rw [e_up_n (by first | assumption | omega)]; first | assumption | exact e_up_s | (rw [e_up_n (by first | assumption | omega)]; first | assumption | exact e_up_s | (rw [e_up_n (by first | assumption | omega)]; first | assumption | exact e_up_s))) | exact hD.1 | exact hD1.1 | exact hD2.1 | exact gD.1 | exact gD1.1 | exact gD2.1 | exact gQ.1 | exact hQ.1 | exact gS.1 | exact hS.1 | exact zD.1) rfl (by decide) w_fl_RX1_32 (by rfl) dX1_sealProduct_1 ?_
  refine e_if_gt F 11 dX1_sealProduct_4 (by decide) (⟨by omega, by omega⟩) (fun c_4 => ?_) (fun c_4 => ?_)
  · refine e_iload_n F dX1_sealProduct_11 rfl ?_
    refine e_i2l F dX1_sealProduct_12 (⟨by omega, by omega⟩) ?_
    refine e_iload_n F dX1_sealProduct_13 rfl ?_
    refine e_i2l F dX1_sealProduct_14 (⟨by omega, by omega⟩) ?_
    refine e_lmul F dX1_sealProduct_15 ?_
    refine e_aload_n F dX1_sealProduct_16 rfl ?_
    refine e_get (ci := 1) (fi := 2) (q := (RX1, TX1, 5)) F (by first | assumption | exact e_up_s | (rw [e_up_n (by first | assumption | omega)]; first | assumption | exact e_up_s | (rw [e_up_n (by first | assumption | omega)]; first | assumption | exact e_up_s | (rw [e_up_n (by first | assumption | omega)]; first | assumption | exact e_up_s))) | exact hD.1 | exact hD1.1 | exact hD2.1 | exact gD.1 | exact gD1.1 | exact gD2.1 | exact gQ.1 | exact hQ.1 | exact gS.1 | exact hS.1 | exact zD.1) rfl (by decide) w_fl_RX1_32 (by rfl) dX1_sealProduct_17 ?_
    refine e_i2l F dX1_sealProduct_20 (⟨by omega, by omega⟩) ?_
    refine e_lrem F dX1_sealProduct_21 (hm.2) (⟨by omega, by omega⟩) (by omega) ?_
    rw [Int.tmod_eq_emod_of_nonneg hm.1]
    refine e_l2i F dX1_sealProduct_22 ?_
    refine e_iret F rfl (by omega) ?_ dX1_sealProduct_23
    exact ⟨rfl, rfl, rfl⟩
  · exact absurd c_4 (by omega)
set_option maxHeartbeats 4000000 in
set_option maxRecDepth 100000 in
theorem c_X1_sealFor {K : e_K} {l : Launch} {w : e_W} {n : Nat} {v : Int} {f wh : Nat} (hF : w f = some (FO wh)) (hwh : wh < 7) (hv : e_r v) : e_Met K l yX1_sealFor (Cond.code yX1_sealFor cX1_sealFor 2 (Option.some .int) :: e_TB) (1) (0) [.ref f, .int (eI v)] w n (fun r w' n' => r = some (.int (eI (sl wh v))) ∧ w' = w ∧ n' = n) (e_px0) := by
  refine e_ofV rfl (Nat.le_of_ble_eq_true rfl) ?_
  intro P9 E9 S9 M9 A9 B9 T9 C9 F hnm
  have hp := pr_rg wh hwh
  have hg := gr_rg wh hwh
  have hb := bs_rg wh hwh
  have hbg := bs_gr wh hwh
  have ho9 := ho_rg wh hwh
  have hm := emod_rg v hwh
  refine e_aload_n F dX1_sealFor_0 rfl ?_
  refine e_get (ci := 1) (fi := 3) (q := (RX1, TX1, 5)) F (by first | assumption | exact e_up_s | (rw [e_up_n (by first | assumption | omega)]; first | assumption | exact e_up_s | (rw [e_up_n (by first | assumption | omega)]; first | assumption | exact e_up_s | (rw [e_up_n (by first | assumption | omega)]; first | assumption | exact e_up_s))) | exact hD.1 | exact hD1.1 | exact hD2.1 | exact gD.1 | exact gD1.1 | exact gD2.1 | exact gQ.1 | exact hQ.1 | exact gS.1 | exact hS.1 | exact zD.1) rfl (by decide) w_fl_RX1_35 (by rfl) dX1_sealFor_1 ?_
  refine e_aload_n F dX1_sealFor_4 rfl ?_
  refine e_iload_n F dX1_sealFor_5 rfl ?_
  refine e_i2l F dX1_sealFor_6 (hv) ?_
  refine e_callVV F u_X1_modPrime (by rfl) (c_X1_modPrime hF hwh ⟨by omega, by omega⟩) (by first | assumption | exact e_up_s | (rw [e_up_n (by first | assumption | omega)]; first | assumption | exact e_up_s | (rw [e_up_n (by first | assumption | omega)]; first | assumption | exact e_up_s | (rw [e_up_n (by first | assumption | omega)]; first | assumption | exact e_up_s))) | exact hD.1 | exact hD1.1 | exact hD2.1 | exact gD.1 | exact gD1.1 | exact gD2.1 | exact gQ.1 | exact hQ.1 | exact gS.1 | exact hS.1 | exact zD.1) rfl rfl w_ml_RX1_51 dX1_sealFor_7 (by rfl) (Nat.le_of_ble_eq_true rfl) (by decide) (by omega) (fun _ _ _ h _ => False.elim h) (fun r_7 w_7 n_7 h_7 hn_7 => ?_)
  obtain ⟨rfl, ew_7, en_7⟩ := h_7
  rw [ew_7, en_7]
  refine e_i2l F dX1_sealFor_10 (⟨by omega, by omega⟩) ?_
  refine e_aload_n F dX1_sealFor_11 rfl ?_
  refine e_get (ci := 1) (fi := 2) (q := (RX1, TX1, 5)) F (by first | assumption | exact e_up_s | (rw [e_up_n (by first | assumption | omega)]; first | assumption | exact e_up_s | (rw [e_up_n (by first | assumption | omega)]; first | assumption | exact e_up_s | (rw [e_up_n (by first | assumption | omega)]; first | assumption | exact e_up_s))) | exact hD.1 | exact hD1.1 | exact hD2.1 | exact gD.1 | exact gD1.1 | exact gD2.1 | exact gQ.1 | exact hQ.1 | exact gS.1 | exact hS.1 | exact zD.1) rfl (by decide) w_fl_RX1_32 (by rfl) dX1_sealFor_12 ?_
  refine e_callSS F u_X1_raise (by rfl) (c_X1_raise (by omega) hbg (by omega) hg.2 (by omega) (by omega)) w_ml_RX1_47 dX1_sealFor_15 (by rfl) (Nat.le_of_ble_eq_true rfl) (by decide) (by omega) (fun _ _ _ h _ => False.elim h) (fun r_15 w_15 n_15 h_15 hn_15 => ?_)
  obtain ⟨rfl, ew_15, en_15⟩ := h_15
  rw [ew_15, en_15]
  refine e_iret F rfl (by omega) ?_ dX1_sealFor_18
  exact ⟨rfl, rfl, rfl⟩
set_option maxHeartbeats 4000000 in
set_option maxRecDepth 100000 in
theorem c_X1_weightAt {K : e_K} {l : Launch} {w : e_W} {n : Nat} {set h x : Int} {f wh : Nat} (hF : w f = some (FO wh)) (hwh : wh < 7) (h1 : 0 ≤ set) (h2 : set < 2147483648) (h3 : 1 ≤ h) (h4 : h ≤ 7) (hx : e_r x) : e_Met K l yX1_weightAt (Cond.code yX1_weightAt cX1_weightAt 8 (Option.some .int) :: e_TB) (2) (0) [.ref f, .int (eI set), .int (eI h), .int (eI x)] w n (fun r w' n' => r = some (.int (eI (wgt wh set h x))) ∧ w' = w ∧ n' = n) (e_px0) := by
  refine e_ofV rfl (Nat.le_of_ble_eq_true rfl) ?_
  intro P9 E9 S9 M9 A9 B9 T9 C9 F hnm
  have hp := pr_rg wh hwh
  have hg := gr_rg wh hwh
  have hb := bs_rg wh hwh
  have hbg := bs_gr wh hwh
  have ho9 := ho_rg wh hwh
  have hxm := emod_rg x hwh
  have lp : ∀ (N : Nat) (j : Nat), ((ho wh).toNat - j) < N → (j : Int) ≤ ho wh → e_V K P9 l E9 (2) (0) S9 M9 A9 B9 T9 C9 8 (fun r w' n' => r = some (.int (eI (wgt wh set h x))) ∧ w' = w ∧ n' = n) (e_px0) 17 [(0, .ref f), (1, .int (eI set)), (2, .int (eI h)), (4, .int (eI (x % pr wh))), (5, .int (eI (wpr (pr wh) (x % pr wh) h set j))), (6, .int (eI (wpr (pr wh) h h set j))), (7, .int (eI ((j : Int) + 1)))] [] w n (0) := by
    intro N
    induction N with
    | zero => intro j hN; exact absurd hN (Nat.not_lt_zero _)
    | succ N ih =>
      intro j hN hj
      have ha := wpr_rg (x := x % pr wh) (h := h) (set := set) (show 2 ≤ pr wh by omega) j
      have hb9 := wpr_rg (x := h) (h := h) (set := set) (show 2 ≤ pr wh by omega) j
      refine e_iload F dX1_weightAt_17 rfl ?_
      refine e_aload_n F dX1_weightAt_19 rfl ?_
      refine e_get (ci := 1) (fi := 4) (q := (RX1, TX1, 5)) F (by first | assumption | exact e_up_s | (rw [e_up_n (by first | assumption | omega)]; first | assumption | exact e_up_s | (rw [e_up_n (by first | assumption | omega)]; first | assumption | exact e_up_s | (rw [e_up_n (by first | assumption | omega)]; first | assumption | exact e_up_s))) | exact hD.1 | exact hD1.1 | exact hD2.1 | exact gD.1 | exact gD1.1 | exact gD2.1 | exact gQ.1 | exact hQ.1 | exact gS.1 | exact hS.1 | exact zD.1) rfl (by decide) w_fl_RX1_44 (by rfl) dX1_weightAt_20 ?_
      refine e_icmp_gt F 78 dX1_weightAt_23 (by decide) (⟨by omega, by omega⟩) (⟨by omega, by omega⟩) (fun c_23 => ?_) (fun c_23 => ?_)
      ·
        obtain rfl : j = (ho wh).toNat := by omega
        refine e_aload_n F dX1_weightAt_78 rfl ?_
        refine e_iload F dX1_weightAt_79 rfl ?_
        refine e_i2l F dX1_weightAt_81 (⟨by omega, by omega⟩) ?_
        refine e_aload_n F dX1_weightAt_82 rfl ?_
        refine e_iload F dX1_weightAt_83 rfl ?_
        refine e_callVV F u_X1_inverse (by rfl) (c_X1_inverse hF hwh (by omega) (by omega)) (by first | assumption | exact e_up_s | (rw [e_up_n (by first | assumption | omega)]; first | assumption | exact e_up_s | (rw [e_up_n (by first | assumption | omega)]; first | assumption | exact e_up_s | (rw [e_up_n (by first | assumption | omega)]; first | assumption | exact e_up_s))) | exact hD.1 | exact hD1.1 | exact hD2.1 | exact gD.1 | exact gD1.1 | exact gD2.1 | exact gQ.1 | exact hQ.1 | exact gS.1 | exact hS.1 | exact zD.1) rfl rfl w_ml_RX1_59 dX1_weightAt_85 (by rfl) (Nat.le_of_ble_eq_true rfl) (by decide) (by omega) (fun _ _ _ h _ => False.elim h) (fun r_85 w_85 n_85 h_85 hn_85 => ?_)
        obtain ⟨rfl, ew_85, en_85⟩ := h_85
        rw [ew_85, en_85]
        have hiv := iv_rg (v := wpr (pr wh) h h set (ho wh).toNat) hwh
        refine e_i2l F dX1_weightAt_88 (⟨by omega, by omega⟩) ?_
        refine e_lmul F dX1_weightAt_89 ?_
        refine e_callVV F u_X1_modPrime (by rfl) (c_X1_modPrime hF hwh (mul_rg2 (by omega) (by omega) (by omega) (by omega))) (by first | assumption | exact e_up_s | (rw [e_up_n (by first | assumption | omega)]; first | assumption | exact e_up_s | (rw [e_up_n (by first | assumption | omega)]; first | assumption | exact e_up_s | (rw [e_up_n (by first | assumption | omega)]; first | assumption | exact e_up_s))) | exact hD.1 | exact hD1.1 | exact hD2.1 | exact gD.1 | exact gD1.1 | exact gD2.1 | exact gQ.1 | exact hQ.1 | exact gS.1 | exact hS.1 | exact zD.1) rfl rfl w_ml_RX1_51 dX1_weightAt_90 (by rfl) (Nat.le_of_ble_eq_true rfl) (by decide) (by omega) (fun _ _ _ h _ => False.elim h) (fun r_90 w_90 n_90 h_90 hn_90 => ?_)
        obtain ⟨rfl, ew_90, en_90⟩ := h_90
        rw [ew_90, en_90]
        refine e_iret F rfl (by omega) ?_ dX1_weightAt_93
        exact ⟨rfl, rfl, rfl⟩
      · refine e_iload F dX1_weightAt_26 rfl ?_
        refine e_iload_n F dX1_weightAt_28 rfl ?_
        refine e_icmp_eq F 72 dX1_weightAt_29 (by decide) (⟨by omega, by omega⟩) (⟨by omega, by omega⟩) (fun c_29 => ?_) (fun c_29 => ?_)
        ·
          have q1 : wpr (pr wh) (x % pr wh) h set (j + 1) = wpr (pr wh) (x % pr wh) h set j := if_neg (fun q => q.1 c_29)
          have q2 : wpr (pr wh) h h set (j + 1) = wpr (pr wh) h h set j := if_neg (fun q => q.1 c_29)
          refine e_iinc F dX1_weightAt_72 rfl (by decide) ?_
          refine e_goto F 17 dX1_weightAt_75 (by decide) ?_
          refine e_go (ih (j + 1) (by omega) (by omega)) ?_
          rw [q1, q2]
          exact And.intro rfl (And.intro rfl (And.intro rfl (And.intro rfl (And.intro rfl (And.intro rfl (And.intro rfl (trivial)))))))
        · refine e_iload_n F dX1_weightAt_32 rfl ?_
          refine e_iload F dX1_weightAt_33 rfl ?_
          refine e_callSN F u_X3_isIn (by rfl) (c_X3_isIn h1 h2 (h := (j : Int) + 1) (by omega) (by omega)) w_mn_RX1_55 dX1_weightAt_35 (by rfl) (Nat.le_of_ble_eq_true rfl) (by decide) (by omega) (fun _ _ _ h _ => False.elim h) (fun r_35 w_35 n_35 h_35 hn_35 => ?_)
          obtain ⟨rfl, ew_35, en_35⟩ := h_35
          rw [ew_35, en_35]
          refine e_if_eq F 72 dX1_weightAt_38 (by decide) (b01_r _) (fun c_38 => ?_) (fun c_38 => ?_)
          ·
            rw [b01_0] at c_38
            have q1 : wpr (pr wh) (x % pr wh) h set (j + 1) = wpr (pr wh) (x % pr wh) h set j := if_neg (fun q => c_38 q.2)
            have q2 : wpr (pr wh) h h set (j + 1) = wpr (pr wh) h h set j := if_neg (fun q => c_38 q.2)
            refine e_iinc F dX1_weightAt_72 rfl (by decide) ?_
            refine e_goto F 17 dX1_weightAt_75 (by decide) ?_
            refine e_go (ih (j + 1) (by omega) (by omega)) ?_
            rw [q1, q2]
            exact And.intro rfl (And.intro rfl (And.intro rfl (And.intro rfl (And.intro rfl (And.intro rfl (And.intro rfl (trivial)))))))
          ·
            rw [b01_0, Classical.not_not] at c_38
            have q1 : wpr (pr wh) (x % pr wh) h set (j + 1) = (wpr (pr wh) (x % pr wh) h set j * (x % pr wh - ((j : Int) + 1))) % pr wh := if_pos ⟨c_29, c_38⟩
            have q2 : wpr (pr wh) h h set (j + 1) = (wpr (pr wh) h h set j * (h - ((j : Int) + 1))) % pr wh := if_pos ⟨c_29, c_38⟩
            refine e_aload_n F dX1_weightAt_41 rfl ?_
            refine e_iload F dX1_weightAt_42 rfl ?_
            refine e_i2l F dX1_weightAt_44 (⟨by omega, by omega⟩) ?_
            refine e_iload F dX1_weightAt_45 rfl ?_
            refine e_iload F dX1_weightAt_47 rfl ?_
            refine e_isub F dX1_weightAt_49 ?_
            refine e_i2l F dX1_weightAt_50 (⟨by omega, by omega⟩) ?_
            refine e_lmul F dX1_weightAt_51 ?_
            refine e_callVV F u_X1_modPrime (by rfl) (c_X1_modPrime hF hwh (mul_rg2 (by omega) (by omega) (by omega) (by omega))) (by first | assumption | exact e_up_s | (rw [e_up_n (by first | assumption | omega)]; first | assumption | exact e_up_s | (rw [e_up_n (by first | assumption | omega)]; first | assumption | exact e_up_s | (rw [e_up_n (by first | assumption | omega)]; first | assumption | exact e_up_s))) | exact hD.1 | exact hD1.1 | exact hD2.1 | exact gD.1 | exact gD1.1 | exact gD2.1 | exact gQ.1 | exact hQ.1 | exact gS.1 | exact hS.1 | exact zD.1) rfl rfl w_ml_RX1_51 dX1_weightAt_52 (by rfl) (Nat.le_of_ble_eq_true rfl) (by decide) (by omega) (fun _ _ _ h _ => False.elim h) (fun r_52 w_52 n_52 h_52 hn_52 => ?_)
            obtain ⟨rfl, ew_52, en_52⟩ := h_52
            rw [ew_52, en_52]
            refine e_istore F dX1_weightAt_55 (by decide) ?_
            refine e_aload_n F dX1_weightAt_57 rfl ?_
            refine e_iload F dX1_weightAt_58 rfl ?_
            refine e_i2l F dX1_weightAt_60 (⟨by omega, by omega⟩) ?_
            refine e_iload_n F dX1_weightAt_61 rfl ?_
            refine e_iload F dX1_weightAt_62 rfl ?_
            refine e_isub F dX1_weightAt_64 ?_
            refine e_i2l F dX1_weightAt_65 (⟨by omega, by omega⟩) ?_
            refine e_lmul F dX1_weightAt_66 ?_
            refine e_callVV F u_X1_modPrime (by rfl) (c_X1_modPrime hF hwh (mul_rg2 (by omega) (by omega) (by omega) (by omega))) (by first | assumption | exact e_up_s | (rw [e_up_n (by first | assumption | omega)]; first | assumption | exact e_up_s | (rw [e_up_n (by first | assumption | omega)]; first | assumption | exact e_up_s | (rw [e_up_n (by first | assumption | omega)]; first | assumption | exact e_up_s))) | exact hD.1 | exact hD1.1 | exact hD2.1 | exact gD.1 | exact gD1.1 | exact gD2.1 | exact gQ.1 | exact hQ.1 | exact gS.1 | exact hS.1 | exact zD.1) rfl rfl w_ml_RX1_51 dX1_weightAt_67 (by rfl) (Nat.le_of_ble_eq_true rfl) (by decide) (by omega) (fun _ _ _ h _ => False.elim h) (fun r_67 w_67 n_67 h_67 hn_67 => ?_)
            obtain ⟨rfl, ew_67, en_67⟩ := h_67
            rw [ew_67, en_67]
            refine e_istore F dX1_weightAt_70 (by decide) ?_
            refine e_iinc F dX1_weightAt_72 rfl (by decide) ?_
            refine e_goto F 17 dX1_weightAt_75 (by decide) ?_
            refine e_go (ih (j + 1) (by omega) (by omega)) ?_
            rw [q1, q2]
            exact And.intro rfl (And.intro rfl (And.intro rfl (And.intro rfl (And.intro rfl (And.intro rfl (And.intro rfl (trivial)))))))
  refine e_aload_n F dX1_weightAt_0 rfl ?_
  refine e_iload_n F dX1_weightAt_1 rfl ?_
  refine e_i2l F dX1_weightAt_2 (hx) ?_
  refine e_callVV F u_X1_modPrime (by rfl) (c_X1_modPrime hF hwh ⟨by omega, by omega⟩) (by first | assumption | exact e_up_s | (rw [e_up_n (by first | assumption | omega)]; first | assumption | exact e_up_s | (rw [e_up_n (by first | assumption | omega)]; first | assumption | exact e_up_s | (rw [e_up_n (by first | assumption | omega)]; first | assumption | exact e_up_s))) | exact hD.1 | exact hD1.1 | exact hD2.1 | exact gD.1 | exact gD1.1 | exact gD2.1 | exact gQ.1 | exact hQ.1 | exact gS.1 | exact hS.1 | exact zD.1) rfl rfl w_ml_RX1_51 dX1_weightAt_3 (by rfl) (Nat.le_of_ble_eq_true rfl) (by decide) (by omega) (fun _ _ _ h _ => False.elim h) (fun r_3 w_3 n_3 h_3 hn_3 => ?_)
  obtain ⟨rfl, ew_3, en_3⟩ := h_3
  rw [ew_3, en_3]
  refine e_istore F dX1_weightAt_6 (by decide) ?_
  refine e_iconst F dX1_weightAt_8 ?_
  refine e_istore F dX1_weightAt_9 (by decide) ?_
  refine e_iconst F dX1_weightAt_11 ?_
  refine e_istore F dX1_weightAt_12 (by decide) ?_
  refine e_iconst F dX1_weightAt_14 ?_
  refine e_istore F dX1_weightAt_15 (by decide) ?_
  exact e_go (lp ((ho wh).toNat + 1) 0 (by omega) (by omega)) (And.intro rfl (And.intro rfl (And.intro rfl (And.intro rfl (And.intro rfl (And.intro rfl (And.intro rfl (trivial))))))))
set_option maxHeartbeats 4000000 in
set_option maxRecDepth 100000 in
theorem c_X1_choose {K : e_K} {l : Launch} {w : e_W} {n : Nat} {f wh : Nat} {x0 x1 x2 x3 x4 : Int} (hF : w f = some (.inl (1, [.int (eI x0), .int (eI x1), .int (eI x2), .int (eI x3), .int (eI x4)]))) (hwh : wh < 7) : e_Met K l yX1_choose (Cond.code yX1_choose cX1_choose 2 none :: e_TB) (1) (0) [.ref f, .int (eI (wh : Int))] w n (fun r w' n' => r = none ∧ w' f = some (FO wh) ∧ (∀ q, q ≠ f → w' q = w q) ∧ n' = n) (e_px0) := by
  refine e_ofV rfl (Nat.le_of_ble_eq_true rfl) ?_
  intro P9 E9 S9 M9 A9 B9 T9 C9 F hnm
  have hp := pr_rg wh hwh
  have hg := gr_rg wh hwh
  have hb := bs_rg wh hwh
  have hbg := bs_gr wh hwh
  have ho9 := ho_rg wh hwh
  refine e_iload_n F dX1_choose_0 rfl ?_
  refine e_if_lt F 28 dX1_choose_1 (by decide) (⟨by omega, by omega⟩) (fun c_1 => ?_) (fun c_1 => ?_)
  · exact absurd c_1 (by omega)
  · refine e_iload_n F dX1_choose_4 rfl ?_
    refine e_getsN F (i := 0) rfl w_fn_RX1_15 dX1_choose_5 ?_
    refine e_alenS F (i := 0) (by decide) dX1_choose_8 ?_
    refine e_icmp_ge F 28 dX1_choose_9 (by decide) (⟨by omega, by omega⟩) (⟨by omega, by omega⟩) (fun c_9 => ?_) (fun c_9 => ?_)
    · exact absurd c_9 (by omega)
    · refine e_iload_n F dX1_choose_12 rfl ?_
      refine e_getsN F (i := 1) rfl w_fn_RX1_19 dX1_choose_13 ?_
      refine e_alenS F (i := 1) (by decide) dX1_choose_16 ?_
      refine e_icmp_ge F 28 dX1_choose_17 (by decide) (⟨by omega, by omega⟩) (⟨by omega, by omega⟩) (fun c_17 => ?_) (fun c_17 => ?_)
      · exact absurd c_17 (by omega)
      · refine e_iload_n F dX1_choose_20 rfl ?_
        refine e_getsN F (i := 2) rfl w_fn_RX1_22 dX1_choose_21 ?_
        refine e_alenS F (i := 2) (by decide) dX1_choose_24 ?_
        refine e_icmp_lt F 29 dX1_choose_25 (by decide) (⟨by omega, by omega⟩) (⟨by omega, by omega⟩) (fun c_25 => ?_) (fun c_25 => ?_)
        · refine e_aload_n F dX1_choose_29 rfl ?_
          refine e_iload_n F dX1_choose_30 rfl ?_
          refine e_set (host := "") (ci := 1) (fi := 0) (q := (RX1, TX1, 5)) F (by first | assumption | exact e_up_s | (rw [e_up_n (by first | assumption | omega)]; first | assumption | exact e_up_s | (rw [e_up_n (by first | assumption | omega)]; first | assumption | exact e_up_s | (rw [e_up_n (by first | assumption | omega)]; first | assumption | exact e_up_s))) | exact hD.1 | exact hD1.1 | exact hD2.1 | exact gD.1 | exact gD1.1 | exact gD2.1 | exact gQ.1 | exact hQ.1 | exact gS.1 | exact hS.1 | exact zD.1) rfl (by decide) w_fl_RX1_25 rfl (by rfl) (by rfl) (Nat.le_of_ble_eq_true rfl) dX1_choose_31 ?_
          refine e_aload_n F dX1_choose_34 rfl ?_
          refine e_getsN F (i := 0) rfl w_fn_RX1_15 dX1_choose_35 ?_
          refine e_iload_n F dX1_choose_38 rfl ?_
          refine e_ialdS F (i := 0) (by decide) (by omega) (by omega) dX1_choose_39 ?_
          refine e_set (host := "") (ci := 1) (fi := 1) (q := (RX1, TX1, 5)) F (by first | assumption | exact e_up_s | (rw [e_up_n (by first | assumption | omega)]; first | assumption | exact e_up_s | (rw [e_up_n (by first | assumption | omega)]; first | assumption | exact e_up_s | (rw [e_up_n (by first | assumption | omega)]; first | assumption | exact e_up_s))) | exact hD.1 | exact hD1.1 | exact hD2.1 | exact gD.1 | exact gD1.1 | exact gD2.1 | exact gQ.1 | exact hQ.1 | exact gS.1 | exact hS.1 | exact zD.1) rfl (by decide) w_fl_RX1_29 rfl (by rfl) (by rfl) (Nat.le_of_ble_eq_true rfl) dX1_choose_40 ?_
          refine e_aload_n F dX1_choose_43 rfl ?_
          refine e_getsN F (i := 1) rfl w_fn_RX1_19 dX1_choose_44 ?_
          refine e_iload_n F dX1_choose_47 rfl ?_
          refine e_ialdS F (i := 1) (by decide) (by omega) (by omega) dX1_choose_48 ?_
          refine e_set (host := "") (ci := 1) (fi := 2) (q := (RX1, TX1, 5)) F (by first | assumption | exact e_up_s | (rw [e_up_n (by first | assumption | omega)]; first | assumption | exact e_up_s | (rw [e_up_n (by first | assumption | omega)]; first | assumption | exact e_up_s | (rw [e_up_n (by first | assumption | omega)]; first | assumption | exact e_up_s))) | exact hD.1 | exact hD1.1 | exact hD2.1 | exact gD.1 | exact gD1.1 | exact gD2.1 | exact gQ.1 | exact hQ.1 | exact gS.1 | exact hS.1 | exact zD.1) rfl (by decide) w_fl_RX1_32 rfl (by rfl) (by rfl) (Nat.le_of_ble_eq_true rfl) dX1_choose_49 ?_
          refine e_aload_n F dX1_choose_52 rfl ?_
          refine e_getsN F (i := 2) rfl w_fn_RX1_22 dX1_choose_53 ?_
          refine e_iload_n F dX1_choose_56 rfl ?_
          refine e_ialdS F (i := 2) (by decide) (by omega) (by omega) dX1_choose_57 ?_
          refine e_set (host := "") (ci := 1) (fi := 3) (q := (RX1, TX1, 5)) F (by first | assumption | exact e_up_s | (rw [e_up_n (by first | assumption | omega)]; first | assumption | exact e_up_s | (rw [e_up_n (by first | assumption | omega)]; first | assumption | exact e_up_s | (rw [e_up_n (by first | assumption | omega)]; first | assumption | exact e_up_s))) | exact hD.1 | exact hD1.1 | exact hD2.1 | exact gD.1 | exact gD1.1 | exact gD2.1 | exact gQ.1 | exact hQ.1 | exact gS.1 | exact hS.1 | exact zD.1) rfl (by decide) w_fl_RX1_35 rfl (by rfl) (by rfl) (Nat.le_of_ble_eq_true rfl) dX1_choose_58 ?_
          refine e_aload_n F dX1_choose_61 rfl ?_
          refine e_bipush F dX1_choose_62 (by decide) ?_
          refine e_aload_n F dX1_choose_64 rfl ?_
          refine e_get (ci := 1) (fi := 1) (q := (RX1, TX1, 5)) F (by first | assumption | exact e_up_s | (rw [e_up_n (by first | assumption | omega)]; first | assumption | exact e_up_s | (rw [e_up_n (by first | assumption | omega)]; first | assumption | exact e_up_s | (rw [e_up_n (by first | assumption | omega)]; first | assumption | exact e_up_s))) | exact hD.1 | exact hD1.1 | exact hD2.1 | exact gD.1 | exact gD1.1 | exact gD2.1 | exact gQ.1 | exact hQ.1 | exact gS.1 | exact hS.1 | exact zD.1) rfl (by decide) w_fl_RX1_29 (by rfl) dX1_choose_65 ?_
          refine e_iconst F dX1_choose_68 ?_
          refine e_isub F dX1_choose_69 ?_
          have hpp : (e_row 0).getD ((wh : Int)).toNat 0 = pr wh := rfl
          refine e_mmin F (by decide) ⟨by omega, by omega⟩ w_ml_RX1_38 w_sm_J9_min_7cf53 w_in_RJ9 w_co_J9_min_7cf53 dX1_choose_70 (Nat.le_of_ble_eq_true rfl) (by decide) (by omega) ?_
          refine e_set (host := "") (ci := 1) (fi := 4) (q := (RX1, TX1, 5)) F (by first | assumption | exact e_up_s | (rw [e_up_n (by first | assumption | omega)]; first | assumption | exact e_up_s | (rw [e_up_n (by first | assumption | omega)]; first | assumption | exact e_up_s | (rw [e_up_n (by first | assumption | omega)]; first | assumption | exact e_up_s))) | exact hD.1 | exact hD1.1 | exact hD2.1 | exact gD.1 | exact gD1.1 | exact gD2.1 | exact gQ.1 | exact hQ.1 | exact gS.1 | exact hS.1 | exact zD.1) rfl (by decide) w_fl_RX1_44 rfl (by rfl) (by rfl) (Nat.le_of_ble_eq_true rfl) dX1_choose_73 ?_
          refine e_vret F rfl (by omega) ?_ dX1_choose_76
          refine ⟨rfl, e_up_s, fun q hq => ?_, rfl⟩
          simp only [e_up, if_neg hq]
        · exact absurd c_25 (by omega)
set_option maxHeartbeats 4000000 in
set_option maxRecDepth 100000 in
theorem c_X1_init {K : e_K} {l : Launch} {w : e_W} {n : Nat} {f : Nat} {x0 x1 x2 x3 x4 : Int} (hF : w f = some (.inl (1, [.int (eI x0), .int (eI x1), .int (eI x2), .int (eI x3), .int (eI x4)]))) : e_Met K l yX1_init (Cond.code yX1_init cX1_init 1 none :: e_TB) (2) (0) [.ref f] w n (fun r w' n' => r = none ∧ w' f = some (FO 3) ∧ (∀ q, q ≠ f → w' q = w q) ∧ n' = n) (e_px0) := by
  refine e_ofV rfl (Nat.le_of_ble_eq_true rfl) ?_
  intro P9 E9 S9 M9 A9 B9 T9 C9 F hnm
  refine e_aload_n F dX1_init_0 rfl ?_
  refine e_oinit F w_ml_RX1_3 w_im_java_lang_Object__init____V w_co_oinit (Nat.le_of_ble_eq_true rfl) (by decide) dX1_init_1 ?_
  refine e_aload_n F dX1_init_4 rfl ?_
  refine e_iconst F dX1_init_5 ?_
  refine e_callVV F u_X1_choose (by rfl) (c_X1_choose (wh := 3) hF (by decide)) (by first | assumption | exact e_up_s | (rw [e_up_n (by first | assumption | omega)]; first | assumption | exact e_up_s | (rw [e_up_n (by first | assumption | omega)]; first | assumption | exact e_up_s | (rw [e_up_n (by first | assumption | omega)]; first | assumption | exact e_up_s))) | exact hD.1 | exact hD1.1 | exact hD2.1 | exact gD.1 | exact gD1.1 | exact gD2.1 | exact gQ.1 | exact hQ.1 | exact gS.1 | exact hS.1 | exact zD.1) rfl rfl w_ml_RX1_9 dX1_init_6 (by rfl) (Nat.le_of_ble_eq_true rfl) (by decide) (by omega) (fun _ _ _ h _ => False.elim h) (fun r_6 w_6 n_6 h_6 hn_6 => ?_)
  obtain ⟨rfl, h1, h2, rfl⟩ := h_6
  refine e_vret F rfl (by omega) ?_ dX1_init_9
  exact ⟨rfl, h1, h2, rfl⟩
end
-- 13.deal.lean.txt
section
/-! Deal -/
def PA (w : e_W) (a N : Nat) (lo hi : Int) (P : Int → Int) : Prop := ∃ f, w a = some (e_ia N f) ∧ ∀ j, lo ≤ j → j < hi → f j = P j
def DW (fl dg sc : Int) (A B : Int → Int) : Prop := (fl = 0 ∨ fl = 1) ∧ (0 ≤ dg ∧ dg ≤ 6) ∧ (0 ≤ sc ∧ sc ≤ 7) ∧ (∀ j, 1 ≤ j → j < 8 → -1 ≤ A j ∧ A j < 1000003) ∧ (∀ j, 0 ≤ j → j < sc → 0 ≤ B j ∧ B j < 36000109)
abbrev DO (d : Nat) (fl dg sc : Int) : e_C := .inl (0, [.int (eI fl), .int (eI dg), .int (eI sc), .ref (d + 1), .ref (d + 2)])
/-- a Deal at d, its rows behind it -/
def DL (w : e_W) (d : Nat) (fl dg sc : Int) (A B : Int → Int) : Prop := w d = some (DO d fl dg sc) ∧ PA w (d + 1) 8 1 8 A ∧ PA w (d + 2) 7 0 sc B ∧ DW fl dg sc A B
/-- nothing else changed -/
def DF (w w' : e_W) (d : Nat) : Prop := ∀ q, q ≠ d → q ≠ d + 1 → q ≠ d + 2 → w' q = w q
def stK (A : Int → Int) : Nat → Int
  | 0 => 0
  | k + 1 => stK A k + (if A ((k : Int) + 1) ≠ -1 then 2 ^ k else 0)
theorem stK_rg (A : Int → Int) (k : Nat) : 0 ≤ stK A k ∧ stK A k < 2 ^ k := by
  induction k with
  | zero => unfold stK; decide
  | succ k ih =>
    unfold stK
    have hp : (0 : Int) < 2 ^ k := Int.pow_pos (by omega)
    rw [Int.pow_succ]
    split <;> omega
theorem eI_or_k : ∀ k : Nat, k < 7 → ∀ s : Nat, s < 2 ^ k → eI (s : Int) ||| eI (2 ^ k) = eI ((s : Int) + 2 ^ k) := by decide +kernel
theorem eI_or {k : Nat} {s : Int} (hk : k < 7) (h0 : 0 ≤ s) (h1 : s < 2 ^ k) : eI s ||| eI (2 ^ k) = eI (s + 2 ^ k) := by
  obtain ⟨t, rfl⟩ : ∃ t : Nat, (t : Int) = s := ⟨s.toNat, by omega⟩
  exact eI_or_k k hk t (by exact_mod_cast h1)
def st7 (A : Int → Int) : Int := stK A 7
theorem st7_rg (A : Int → Int) : 0 ≤ st7 A ∧ st7 A < 128 := stK_rg A 7
theorem eI_and {s t : Int} (hs0 : 0 ≤ s) (hs1 : s < 128) (ht0 : 0 ≤ t) (ht1 : t < 128) : eI s &&& eI t = eI ((s.toNat &&& t.toNat : Nat) : Int) := by
  obtain ⟨a, rfl⟩ : ∃ a : Nat, (a : Int) = s := ⟨s.toNat, by omega⟩
  obtain ⟨b, rfl⟩ : ∃ b : Nat, (b : Int) = t := ⟨t.toNat, by omega⟩
  apply Int32.toBitVec_inj.mp
  rw [Int32.toBitVec_and]
  show BitVec.ofInt 32 _ &&& BitVec.ofInt 32 _ = BitVec.ofInt 32 _
  rw [BitVec.ofInt_natCast, BitVec.ofInt_natCast, BitVec.ofInt_natCast]
  apply BitVec.eq_of_toNat_eq
  rw [BitVec.toNat_and, BitVec.toNat_ofNat, BitVec.toNat_ofNat, BitVec.toNat_ofNat]
  have h1 : a &&& b ≤ a := Nat.and_le_left
  simp only [Int.toNat_natCast]
  rw [Nat.mod_eq_of_lt (by omega), Nat.mod_eq_of_lt (by omega), Nat.mod_eq_of_lt (by omega)]
/-- the first holders with a share: their set, and how many are wanting -/
def fsK (A : Int → Int) (dg : Int) : Nat → Int × Int
  | 0 => (0, dg + 1)
  | k + 1 => if 0 < (fsK A dg k).2 ∧ A ((k : Int) + 1) ≠ -1 then ((fsK A dg k).1 + 2 ^ k, (fsK A dg k).2 - 1) else fsK A dg k
theorem fsK_rg (A : Int → Int) (dg : Int) (h : 0 ≤ dg) (k : Nat) : 0 ≤ (fsK A dg k).1 ∧ (fsK A dg k).1 < 2 ^ k ∧ 0 ≤ (fsK A dg k).2 ∧ (fsK A dg k).2 ≤ dg + 1 := by
  induction k with
  | zero => unfold fsK; dsimp only; refine ⟨by omega, by decide, by omega, by omega⟩
  | succ k ih =>
    unfold fsK
    have hp : (0 : Int) < 2 ^ k := Int.pow_pos (by omega)
    rw [Int.pow_succ]
    split
    · dsimp only; omega
    · omega
theorem fsK_stop (A : Int → Int) (dg : Int) {k : Nat} (h : (fsK A dg k).2 = 0) : ∀ j, k ≤ j → fsK A dg j = fsK A dg k := by
  intro j hj
  induction j with
  | zero => have : k = 0 := by omega
            rw [this]
  | succ j ih =>
    by_cases hk : k = j + 1
    · rw [hk]
    · have h9 := ih (by omega)
      have e9 : fsK A dg (j + 1) = if 0 < (fsK A dg j).2 ∧ A ((j : Int) + 1) ≠ -1 then ((fsK A dg j).1 + 2 ^ j, (fsK A dg j).2 - 1) else fsK A dg j := rfl
      rw [e9, h9, if_neg (by omega)]
def fs7 (A : Int → Int) (dg : Int) : Int := if (fsK A dg 7).2 = 0 then (fsK A dg 7).1 else 0
abbrev thr (A : Int → Int) (set : Int) : Prop := (((st7 A).toNat &&& set.toNat : Nat) : Int) = set
set_option maxHeartbeats 4000000 in
set_option maxRecDepth 100000 in
theorem c_X0_clear {K : e_K} {l : Launch} {w : e_W} {n : Nat} {d : Nat} {x0 x1 x2 : Int} {f : Int → Int} (h0 : w d = some (DO d x0 x1 x2)) (hf : w (d + 1) = some (e_ia 8 f)) : e_Met K l yX0_clear (Cond.code yX0_clear cX0_clear 2 none :: e_TB) (0) (0) [.ref d] w n (fun r w' n' => r = none ∧ n' = n ∧ w' d = some (DO d 0 0 0) ∧ (∃ f', w' (d + 1) = some (e_ia 8 f') ∧ ∀ j, 0 ≤ j → j < 8 → f' j = -1) ∧ ∀ q, q ≠ d → q ≠ d + 1 → w' q = w q) (e_px0) := by
  refine e_ofV rfl (Nat.le_of_ble_eq_true rfl) ?_
  intro P9 E9 S9 M9 A9 B9 T9 C9 F hnm
  have lp : ∀ (N : Nat) (i : Int) (wl : e_W) (f : Int → Int), (8 - i).toNat < N → (0 ≤ i ∧ i ≤ 8 ∧ wl d = some (DO d 0 0 0) ∧ wl (d + 1) = some (e_ia 8 f) ∧ (∀ j, 0 ≤ j → j < i → f j = -1) ∧ ∀ q, q ≠ d → q ≠ d + 1 → wl q = w q) → e_V K P9 l E9 (0) (0) S9 M9 A9 B9 T9 C9 2 (fun r w' n' => r = none ∧ n' = n ∧ w' d = some (DO d 0 0 0) ∧ (∃ f', w' (d + 1) = some (e_ia 8 f') ∧ ∀ j, 0 ≤ j → j < 8 → f' j = -1) ∧ ∀ q, q ≠ d → q ≠ d + 1 → w' q = w q) (e_px0) 17 [(0, .ref d), (1, .int (eI i))] [] wl n (0) := by
    intro N
    induction N with
    | zero => intro i wl f hN; exact absurd hN (Nat.not_lt_zero _)
    | succ N ih =>
      intro i wl f hN ⟨h1, h2, h3, h4, h5, h6⟩
      refine e_iload_n F dX0_clear_17 rfl ?_
      refine e_aload_n F dX0_clear_18 rfl ?_
      refine e_get (ci := 0) (fi := 3) (q := (RX0, TX0, 5)) F (by first | assumption | exact e_up_s | (rw [e_up_n (by first | assumption | omega)]; first | assumption | exact e_up_s | (rw [e_up_n (by first | assumption | omega)]; first | assumption | exact e_up_s | (rw [e_up_n (by first | assumption | omega)]; first | assumption | exact e_up_s))) | exact hD.1 | exact hD1.1 | exact hD2.1 | exact gD.1 | exact gD1.1 | exact gD2.1 | exact gQ.1 | exact hQ.1 | exact gS.1 | exact hS.1 | exact zD.1) rfl (by decide) w_fl_RX0_9 (by rfl) dX0_clear_19 ?_
      refine e_alenI F (by first | assumption | exact e_up_s | (rw [e_up_n (by first | assumption | omega)]; first | assumption | exact e_up_s | (rw [e_up_n (by first | assumption | omega)]; first | assumption | exact e_up_s | (rw [e_up_n (by first | assumption | omega)]; first | assumption | exact e_up_s))) | exact hD.1 | exact hD1.1 | exact hD2.1 | exact gD.1 | exact gD1.1 | exact gD2.1 | exact gQ.1 | exact hQ.1 | exact gS.1 | exact hS.1 | exact zD.1) dX0_clear_22 ?_
      refine e_icmp_ge F 39 dX0_clear_23 (by decide) (⟨by omega, by omega⟩) (⟨by omega, by omega⟩) (fun c_23 => ?_) (fun c_23 => ?_)
      · refine e_vret F rfl (by omega) ?_ dX0_clear_39
        exact ⟨rfl, rfl, h3, ⟨f, h4, fun j j0 j1 => h5 j j0 (by omega)⟩, h6⟩
      · refine e_aload_n F dX0_clear_26 rfl ?_
        refine e_get (ci := 0) (fi := 3) (q := (RX0, TX0, 5)) F (by first | assumption | exact e_up_s | (rw [e_up_n (by first | assumption | omega)]; first | assumption | exact e_up_s | (rw [e_up_n (by first | assumption | omega)]; first | assumption | exact e_up_s | (rw [e_up_n (by first | assumption | omega)]; first | assumption | exact e_up_s))) | exact hD.1 | exact hD1.1 | exact hD2.1 | exact gD.1 | exact gD1.1 | exact gD2.1 | exact gQ.1 | exact hQ.1 | exact gS.1 | exact hS.1 | exact zD.1) rfl (by decide) w_fl_RX0_9 (by rfl) dX0_clear_27 ?_
        refine e_iload_n F dX0_clear_30 rfl ?_
        refine e_iconst F dX0_clear_31 ?_
        refine e_iast F (by first | assumption | exact e_up_s | (rw [e_up_n (by first | assumption | omega)]; first | assumption | exact e_up_s | (rw [e_up_n (by first | assumption | omega)]; first | assumption | exact e_up_s | (rw [e_up_n (by first | assumption | omega)]; first | assumption | exact e_up_s))) | exact hD.1 | exact hD1.1 | exact hD2.1 | exact gD.1 | exact gD1.1 | exact gD2.1 | exact gQ.1 | exact hQ.1 | exact gS.1 | exact hS.1 | exact zD.1) (by omega) (by omega) (by first | decide | omega) dX0_clear_32 ?_
        refine e_iinc F dX0_clear_33 rfl (by decide) ?_
        refine e_goto F 17 dX0_clear_36 (by decide) ?_
        refine e_go (ih (i + 1) (e_up wl (d + 1) (e_ia 8 (e_fu f i (-1)))) (e_fu f i (-1)) (by omega) ⟨by omega, by omega, by rw [e_up_n (by omega)]; exact h3, e_up_s, fun j j0 j1 => ?_, fun q hq1 hq2 => by rw [e_up_n hq2]; exact h6 q hq1 hq2⟩) (And.intro rfl (And.intro rfl trivial))
        unfold e_fu
        split
        · rfl
        · exact h5 j j0 (by omega)
  refine e_aload_n F dX0_clear_0 rfl ?_
  refine e_iconst F dX0_clear_1 ?_
  refine e_set (host := "") (ci := 0) (fi := 0) (q := (RX0, TX0, 5)) F (by first | assumption | exact e_up_s | (rw [e_up_n (by first | assumption | omega)]; first | assumption | exact e_up_s | (rw [e_up_n (by first | assumption | omega)]; first | assumption | exact e_up_s | (rw [e_up_n (by first | assumption | omega)]; first | assumption | exact e_up_s))) | exact hD.1 | exact hD1.1 | exact hD2.1 | exact gD.1 | exact gD1.1 | exact gD2.1 | exact gQ.1 | exact hQ.1 | exact gS.1 | exact hS.1 | exact zD.1) rfl (by decide) w_fl_RX0_21 rfl (by rfl) (by rfl) (Nat.le_of_ble_eq_true rfl) dX0_clear_2 ?_
  refine e_aload_n F dX0_clear_5 rfl ?_
  refine e_iconst F dX0_clear_6 ?_
  refine e_set (host := "") (ci := 0) (fi := 1) (q := (RX0, TX0, 5)) F (by first | assumption | exact e_up_s | (rw [e_up_n (by first | assumption | omega)]; first | assumption | exact e_up_s | (rw [e_up_n (by first | assumption | omega)]; first | assumption | exact e_up_s | (rw [e_up_n (by first | assumption | omega)]; first | assumption | exact e_up_s))) | exact hD.1 | exact hD1.1 | exact hD2.1 | exact gD.1 | exact gD1.1 | exact gD2.1 | exact gQ.1 | exact hQ.1 | exact gS.1 | exact hS.1 | exact zD.1) rfl (by decide) w_fl_RX0_25 rfl (by rfl) (by rfl) (Nat.le_of_ble_eq_true rfl) dX0_clear_7 ?_
  refine e_aload_n F dX0_clear_10 rfl ?_
  refine e_iconst F dX0_clear_11 ?_
  refine e_set (host := "") (ci := 0) (fi := 2) (q := (RX0, TX0, 5)) F (by first | assumption | exact e_up_s | (rw [e_up_n (by first | assumption | omega)]; first | assumption | exact e_up_s | (rw [e_up_n (by first | assumption | omega)]; first | assumption | exact e_up_s | (rw [e_up_n (by first | assumption | omega)]; first | assumption | exact e_up_s))) | exact hD.1 | exact hD1.1 | exact hD2.1 | exact gD.1 | exact gD1.1 | exact gD2.1 | exact gQ.1 | exact hQ.1 | exact gS.1 | exact hS.1 | exact zD.1) rfl (by decide) w_fl_RX0_29 rfl (by rfl) (by rfl) (Nat.le_of_ble_eq_true rfl) dX0_clear_12 ?_
  refine e_iconst F dX0_clear_15 ?_
  refine e_istore_n F dX0_clear_16 (by decide) ?_
  refine e_go (lp 9 0 _ f (by omega) ⟨by omega, by omega, e_up_s, ?_, fun j _ _ => by omega, fun q hq1 hq2 => by simp only [e_up, if_neg hq1]⟩) (And.intro rfl (And.intro rfl trivial))
  have hne : d + 1 ≠ d := by omega
  simp only [e_up, if_neg hne]
  exact hf
set_option maxHeartbeats 4000000 in
set_option maxRecDepth 100000 in
theorem c_X0_start {K : e_K} {l : Launch} {w : e_W} {n : Nat} {d : Nat} {fl dg sc : Int} {A B : Int → Int} (hD : DL w d fl dg sc A B) {t : Int} (ht : 0 ≤ t ∧ t ≤ 6) : e_Met K l yX0_start (Cond.code yX0_start cX0_start 2 none :: e_TB) (1) (0) [.ref d, .int (eI t)] w n (fun r w' n' => r = none ∧ n' = n ∧ DL w' d 1 t 0 (fun _ => -1) B ∧ DF w w' d) (e_px0) := by
  refine e_ofV rfl (Nat.le_of_ble_eq_true rfl) ?_
  intro P9 E9 S9 M9 A9 B9 T9 C9 F hnm
  obtain ⟨h0, ⟨f, hf, hfA⟩, ⟨g, hg, hgB⟩, hfl, hdg, hsc, hA, hB⟩ := hD
  refine e_aload_n F dX0_start_0 rfl ?_
  refine e_callVV F u_X0_clear (by rfl) (c_X0_clear h0 hf) (by first | assumption | exact e_up_s | (rw [e_up_n (by first | assumption | omega)]; first | assumption | exact e_up_s | (rw [e_up_n (by first | assumption | omega)]; first | assumption | exact e_up_s | (rw [e_up_n (by first | assumption | omega)]; first | assumption | exact e_up_s))) | exact hD.1 | exact hD1.1 | exact hD2.1 | exact gD.1 | exact gD1.1 | exact gD2.1 | exact gQ.1 | exact hQ.1 | exact gS.1 | exact hS.1 | exact zD.1) rfl rfl w_ml_RX0_18 dX0_start_1 (by rfl) (Nat.le_of_ble_eq_true rfl) (by decide) (by omega) (fun _ _ _ h _ => False.elim h) (fun r_1 w_1 n_1 h_1 hn_1 => ?_)
  obtain ⟨rfl, rfl, g1, ⟨f2, g2, g3⟩, g4⟩ := h_1
  refine e_aload_n F dX0_start_4 rfl ?_
  refine e_iconst F dX0_start_5 ?_
  refine e_set (host := "") (ci := 0) (fi := 0) (q := (RX0, TX0, 5)) F (by first | assumption | exact e_up_s | (rw [e_up_n (by first | assumption | omega)]; first | assumption | exact e_up_s | (rw [e_up_n (by first | assumption | omega)]; first | assumption | exact e_up_s | (rw [e_up_n (by first | assumption | omega)]; first | assumption | exact e_up_s))) | exact hD.1 | exact hD1.1 | exact hD2.1 | exact gD.1 | exact gD1.1 | exact gD2.1 | exact gQ.1 | exact hQ.1 | exact gS.1 | exact hS.1 | exact zD.1) rfl (by decide) w_fl_RX0_21 rfl (by rfl) (by rfl) (Nat.le_of_ble_eq_true rfl) dX0_start_6 ?_
  refine e_aload_n F dX0_start_9 rfl ?_
  refine e_iload_n F dX0_start_10 rfl ?_
  refine e_set (host := "") (ci := 0) (fi := 1) (q := (RX0, TX0, 5)) F (by first | assumption | exact e_up_s | (rw [e_up_n (by first | assumption | omega)]; first | assumption | exact e_up_s | (rw [e_up_n (by first | assumption | omega)]; first | assumption | exact e_up_s | (rw [e_up_n (by first | assumption | omega)]; first | assumption | exact e_up_s))) | exact hD.1 | exact hD1.1 | exact hD2.1 | exact gD.1 | exact gD1.1 | exact gD2.1 | exact gQ.1 | exact hQ.1 | exact gS.1 | exact hS.1 | exact zD.1) rfl (by decide) w_fl_RX0_25 rfl (by rfl) (by rfl) (Nat.le_of_ble_eq_true rfl) dX0_start_11 ?_
  refine e_vret F rfl (by omega) ?_ dX0_start_14
  have hne : d + 1 ≠ d := by omega
  have hne2 : d + 2 ≠ d := by omega
  refine ⟨rfl, rfl, ⟨e_up_s, ⟨f2, by simp only [e_up, if_neg hne]; exact g2, fun j j0 j1 => g3 j (by omega) j1⟩, ⟨g, by simp only [e_up, if_neg hne2]; rw [g4 _ hne2 (by omega)]; exact hg, fun j j0 j1 => by omega⟩, Or.inr rfl, ht, by omega, fun j _ _ => by dsimp only; omega, fun j _ _ => by omega⟩, fun q hq1 hq2 hq3 => ?_⟩
  simp only [e_up, if_neg hq1]
  exact g4 q hq1 hq2
set_option maxHeartbeats 4000000 in
set_option maxRecDepth 100000 in
theorem c_X0_init {K : e_K} {l : Launch} {w : e_W} {n : Nat} {d : Nat} {v3 v4 : Value} (h0 : w d = some (.inl (0, [.int (eI 0), .int (eI 0), .int (eI 0), v3, v4]))) (hn : n = d + 1) : e_Met K l yX0_init (Cond.code yX0_init cX0_init 1 none :: e_TB) (2) (2) [.ref d] w n (fun r w' n' => r = none ∧ n' = d + 3 ∧ DL w' d 0 0 0 (fun _ => -1) (fun _ => 0) ∧ ∀ q, q < d → w' q = w q) (e_px0) := by
  refine e_ofV rfl (Nat.le_of_ble_eq_true rfl) ?_
  intro P9 E9 S9 M9 A9 B9 T9 C9 F hnm
  subst hn
  refine e_aload_n F dX0_init_0 rfl ?_
  refine e_oinit F w_ml_RX0_3 w_im_java_lang_Object__init____V w_co_oinit (Nat.le_of_ble_eq_true rfl) (by decide) dX0_init_1 ?_
  refine e_aload_n F dX0_init_4 rfl ?_
  refine e_bipush F dX0_init_5 (by decide) ?_
  refine e_newI F (N := 8) (by first | rfl | omega) (by decide) (by omega) w_ac_int dX0_init_7 ?_
  refine e_setF (host := "") (ci := 0) (fi := 3) (q := (RX0, TX0, 5)) F (by first | assumption | exact e_up_s | (rw [e_up_n (by first | assumption | omega)]; first | assumption | exact e_up_s | (rw [e_up_n (by first | assumption | omega)]; first | assumption | exact e_up_s | (rw [e_up_n (by first | assumption | omega)]; first | assumption | exact e_up_s))) | exact hD.1 | exact hD1.1 | exact hD2.1 | exact gD.1 | exact gD1.1 | exact gD2.1 | exact gQ.1 | exact hQ.1 | exact gS.1 | exact hS.1 | exact zD.1) rfl (by decide) w_fl_RX0_9 hnm rfl rfl rfl (by rfl) (Nat.le_of_ble_eq_true rfl) dX0_init_9 ?_
  refine e_aload_n F dX0_init_12 rfl ?_
  refine e_bipush F dX0_init_13 (by decide) ?_
  refine e_newI F (N := 7) (by first | rfl | omega) (by decide) (by omega) w_ac_int dX0_init_15 ?_
  refine e_setF (host := "") (ci := 0) (fi := 4) (q := (RX0, TX0, 5)) F (by first | assumption | exact e_up_s | (rw [e_up_n (by first | assumption | omega)]; first | assumption | exact e_up_s | (rw [e_up_n (by first | assumption | omega)]; first | assumption | exact e_up_s | (rw [e_up_n (by first | assumption | omega)]; first | assumption | exact e_up_s))) | exact hD.1 | exact hD1.1 | exact hD2.1 | exact gD.1 | exact gD1.1 | exact gD2.1 | exact gQ.1 | exact hQ.1 | exact gS.1 | exact hS.1 | exact zD.1) rfl (by decide) w_fl_RX0_15 hnm rfl rfl rfl (by rfl) (Nat.le_of_ble_eq_true rfl) dX0_init_17 ?_
  refine e_aload_n F dX0_init_20 rfl ?_
  have hne1 : d + 1 ≠ d := by omega
  have hne2 : d + 1 + 1 ≠ d := by omega
  have hne3 : d + 1 + 1 ≠ d + 1 := by omega
  have hne4 : d + 1 ≠ d + 1 + 1 := by omega
  refine e_callVV F u_X0_clear (by rfl) (c_X0_clear (x0 := 0) (x1 := 0) (x2 := 0) e_up_s (f := fun _ => 0) (by simp only [e_up, if_neg hne1, if_neg hne4]; rfl)) (by first | assumption | exact e_up_s | (rw [e_up_n (by first | assumption | omega)]; first | assumption | exact e_up_s | (rw [e_up_n (by first | assumption | omega)]; first | assumption | exact e_up_s | (rw [e_up_n (by first | assumption | omega)]; first | assumption | exact e_up_s))) | exact hD.1 | exact hD1.1 | exact hD2.1 | exact gD.1 | exact gD1.1 | exact gD2.1 | exact gQ.1 | exact hQ.1 | exact gS.1 | exact hS.1 | exact zD.1) rfl rfl w_ml_RX0_18 dX0_init_21 (by rfl) (Nat.le_of_ble_eq_true rfl) (by decide) (by omega) (fun _ _ _ h _ => False.elim h) (fun r_21 w_21 n_21 h_21 hn_21 => ?_)
  obtain ⟨rfl, rfl, g1, ⟨f2, g2, g3⟩, g4⟩ := h_21
  refine e_vret F rfl (by omega) ?_ dX0_init_24
  refine ⟨rfl, rfl, ⟨g1, ⟨f2, g2, fun j j0 j1 => g3 j (by omega) j1⟩, ⟨fun _ => 0, ?_, fun j _ _ => rfl⟩, Or.inl rfl, by omega, by omega, fun j _ _ => by dsimp only; omega, fun j _ _ => by omega⟩, fun q hq => ?_⟩
  · rw [g4 _ (by omega) (by omega)]
    show e_up _ d _ (d + 1 + 1) = _
    rw [e_up_n hne2, e_up_s]
  · rw [g4 q (by omega) (by omega), e_up_n (by omega), e_up_n (by omega), e_up_n (by omega), e_up_n (by omega)]
set_option maxHeartbeats 4000000 in
set_option maxRecDepth 100000 in
theorem c_X0_isEmpty {K : e_K} {l : Launch} {w : e_W} {n : Nat} {d : Nat} {fl dg sc : Int} {A B : Int → Int} (hD : DL w d fl dg sc A B) : e_Met K l yX0_isEmpty (Cond.code yX0_isEmpty cX0_isEmpty 1 (Option.some .boolean) :: e_TB) (0) (0) [.ref d] w n (fun r w' n' => r = some (.int (eI (b01 (fl = 0)))) ∧ w' = w ∧ n' = n) (e_px0) := by
  refine e_ofV rfl (Nat.le_of_ble_eq_true rfl) ?_
  intro P9 E9 S9 M9 A9 B9 T9 C9 F hnm
  obtain ⟨h0, ⟨f, hf, hfA⟩, ⟨g, hg, hgB⟩, hfl, hdg, hsc, hA, hB⟩ := hD
  refine e_aload_n F dX0_isEmpty_0 rfl ?_
  refine e_get (ci := 0) (fi := 0) (q := (RX0, TX0, 5)) F (by first | assumption | exact e_up_s | (rw [e_up_n (by first | assumption | omega)]; first | assumption | exact e_up_s | (rw [e_up_n (by first | assumption | omega)]; first | assumption | exact e_up_s | (rw [e_up_n (by first | assumption | omega)]; first | assumption | exact e_up_s))) | exact hD.1 | exact hD1.1 | exact hD2.1 | exact gD.1 | exact gD1.1 | exact gD2.1 | exact gQ.1 | exact hQ.1 | exact gS.1 | exact hS.1 | exact zD.1) rfl (by decide) w_fl_RX0_21 (by rfl) dX0_isEmpty_1 ?_
  refine e_if_ne F 11 dX0_isEmpty_4 (by decide) (by rcases hfl with h | h <;> rw [h] <;> decide) (fun c_4 => ?_) (fun c_4 => ?_)
  · refine e_iconst F dX0_isEmpty_11 ?_
    refine e_zret F rfl (by omega) (by omega) ?_ dX0_isEmpty_12
    refine ⟨?_, rfl, rfl⟩
    first | rw [b01_f (by omega)] | rw [b01_t (by omega)]
  · refine e_iconst F dX0_isEmpty_7 ?_
    refine e_goto F 12 dX0_isEmpty_8 (by decide) ?_
    refine e_zret F rfl (by omega) (by omega) ?_ dX0_isEmpty_12
    refine ⟨?_, rfl, rfl⟩
    first | rw [b01_f (by omega)] | rw [b01_t (by omega)]
set_option maxHeartbeats 4000000 in
set_option maxRecDepth 100000 in
theorem c_X0_shareAt {K : e_K} {l : Launch} {w : e_W} {n : Nat} {d : Nat} {fl dg sc : Int} {A B : Int → Int} (hD : DL w d fl dg sc A B) {h : Int} (h1 : 1 ≤ h) (h2 : h ≤ 7) : e_Met K l yX0_shareAt (Cond.code yX0_shareAt cX0_shareAt 2 (Option.some .int) :: e_TB) (0) (0) [.ref d, .int (eI h)] w n (fun r w' n' => r = some (.int (eI (A h))) ∧ w' = w ∧ n' = n) (e_px0) := by
  refine e_ofV rfl (Nat.le_of_ble_eq_true rfl) ?_
  intro P9 E9 S9 M9 A9 B9 T9 C9 F hnm
  obtain ⟨h0, ⟨f, hf, hfA⟩, ⟨g, hg, hgB⟩, hfl, hdg, hsc, hA, hB⟩ := hD
  refine e_iload_n F dX0_shareAt_0 rfl ?_
  refine e_iconst F dX0_shareAt_1 ?_
  refine e_icmp_lt F 23 dX0_shareAt_2 (by decide) (⟨by omega, by omega⟩) (⟨by omega, by omega⟩) (fun c_2 => ?_) (fun c_2 => ?_)
  · exact absurd c_2 (by omega)
  · refine e_iload_n F dX0_shareAt_5 rfl ?_
    refine e_aload_n F dX0_shareAt_6 rfl ?_
    refine e_get (ci := 0) (fi := 3) (q := (RX0, TX0, 5)) F (by first | assumption | exact e_up_s | (rw [e_up_n (by first | assumption | omega)]; first | assumption | exact e_up_s | (rw [e_up_n (by first | assumption | omega)]; first | assumption | exact e_up_s | (rw [e_up_n (by first | assumption | omega)]; first | assumption | exact e_up_s))) | exact hD.1 | exact hD1.1 | exact hD2.1 | exact gD.1 | exact gD1.1 | exact gD2.1 | exact gQ.1 | exact hQ.1 | exact gS.1 | exact hS.1 | exact zD.1) rfl (by decide) w_fl_RX0_9 (by rfl) dX0_shareAt_7 ?_
    refine e_alenI F (by first | assumption | exact e_up_s | (rw [e_up_n (by first | assumption | omega)]; first | assumption | exact e_up_s | (rw [e_up_n (by first | assumption | omega)]; first | assumption | exact e_up_s | (rw [e_up_n (by first | assumption | omega)]; first | assumption | exact e_up_s))) | exact hD.1 | exact hD1.1 | exact hD2.1 | exact gD.1 | exact gD1.1 | exact gD2.1 | exact gQ.1 | exact hQ.1 | exact gS.1 | exact hS.1 | exact zD.1) dX0_shareAt_10 ?_
    refine e_icmp_ge F 23 dX0_shareAt_11 (by decide) (⟨by omega, by omega⟩) (⟨by omega, by omega⟩) (fun c_11 => ?_) (fun c_11 => ?_)
    · exact absurd c_11 (by omega)
    · refine e_aload_n F dX0_shareAt_14 rfl ?_
      refine e_get (ci := 0) (fi := 3) (q := (RX0, TX0, 5)) F (by first | assumption | exact e_up_s | (rw [e_up_n (by first | assumption | omega)]; first | assumption | exact e_up_s | (rw [e_up_n (by first | assumption | omega)]; first | assumption | exact e_up_s | (rw [e_up_n (by first | assumption | omega)]; first | assumption | exact e_up_s))) | exact hD.1 | exact hD1.1 | exact hD2.1 | exact gD.1 | exact gD1.1 | exact gD2.1 | exact gQ.1 | exact hQ.1 | exact gS.1 | exact hS.1 | exact zD.1) rfl (by decide) w_fl_RX0_9 (by rfl) dX0_shareAt_15 ?_
      refine e_iload_n F dX0_shareAt_18 rfl ?_
      refine e_iald F (by first | assumption | exact e_up_s | (rw [e_up_n (by first | assumption | omega)]; first | assumption | exact e_up_s | (rw [e_up_n (by first | assumption | omega)]; first | assumption | exact e_up_s | (rw [e_up_n (by first | assumption | omega)]; first | assumption | exact e_up_s))) | exact hD.1 | exact hD1.1 | exact hD2.1 | exact gD.1 | exact gD1.1 | exact gD2.1 | exact gQ.1 | exact hQ.1 | exact gS.1 | exact hS.1 | exact zD.1) (by omega) (by omega) (by first | decide | omega) dX0_shareAt_19 ?_
      refine e_goto F 24 dX0_shareAt_20 (by decide) ?_
      refine e_iret F rfl (by omega) ?_ dX0_shareAt_24
      exact ⟨by rw [hfA h h1 (by omega)], rfl, rfl⟩
set_option maxHeartbeats 4000000 in
set_option maxRecDepth 100000 in
theorem c_X0_hasShare {K : e_K} {l : Launch} {w : e_W} {n : Nat} {d : Nat} {fl dg sc : Int} {A B : Int → Int} (hD : DL w d fl dg sc A B) {h : Int} (h1 : 1 ≤ h) (h2 : h ≤ 7) : e_Met K l yX0_hasShare (Cond.code yX0_hasShare cX0_hasShare 2 (Option.some .boolean) :: e_TB) (1) (0) [.ref d, .int (eI h)] w n (fun r w' n' => r = some (.int (eI (b01 (A h ≠ -1)))) ∧ w' = w ∧ n' = n) (e_px0) := by
  refine e_ofV rfl (Nat.le_of_ble_eq_true rfl) ?_
  intro P9 E9 S9 M9 A9 B9 T9 C9 F hnm
  have hA := hD.2.2.2.2.2.2.1 h h1 (by omega)
  refine e_aload_n F dX0_hasShare_0 rfl ?_
  refine e_iload_n F dX0_hasShare_1 rfl ?_
  refine e_callVV F u_X0_shareAt (by rfl) (c_X0_shareAt hD h1 h2) hD.1 rfl rfl w_ml_RX0_32 dX0_hasShare_2 (by rfl) (Nat.le_of_ble_eq_true rfl) (by decide) (by omega) (fun _ _ _ h _ => False.elim h) (fun r_2 w_2 n_2 h_2 hn_2 => ?_)
  obtain ⟨rfl, ew_2, en_2⟩ := h_2
  rw [ew_2, en_2]
  refine e_iconst F dX0_hasShare_5 ?_
  refine e_icmp_eq F 13 dX0_hasShare_6 (by decide) (⟨by omega, by omega⟩) (⟨by omega, by omega⟩) (fun c_6 => ?_) (fun c_6 => ?_)
  · refine e_iconst F dX0_hasShare_13 ?_
    refine e_zret F rfl (by omega) (by omega) ?_ dX0_hasShare_14
    refine ⟨?_, rfl, rfl⟩
    first | rw [b01_f (by omega)] | rw [b01_t (by omega)]
  · refine e_iconst F dX0_hasShare_9 ?_
    refine e_goto F 14 dX0_hasShare_10 (by decide) ?_
    refine e_zret F rfl (by omega) (by omega) ?_ dX0_hasShare_14
    refine ⟨?_, rfl, rfl⟩
    first | rw [b01_f (by omega)] | rw [b01_t (by omega)]
set_option maxHeartbeats 4000000 in
set_option maxRecDepth 100000 in
theorem c_X0_hasSeals {K : e_K} {l : Launch} {w : e_W} {n : Nat} {d : Nat} {fl dg sc : Int} {A B : Int → Int} (hD : DL w d fl dg sc A B) : e_Met K l yX0_hasSeals (Cond.code yX0_hasSeals cX0_hasSeals 1 (Option.some .boolean) :: e_TB) (0) (0) [.ref d] w n (fun r w' n' => r = some (.int (eI (b01 (0 < sc)))) ∧ w' = w ∧ n' = n) (e_px0) := by
  refine e_ofV rfl (Nat.le_of_ble_eq_true rfl) ?_
  intro P9 E9 S9 M9 A9 B9 T9 C9 F hnm
  obtain ⟨h0, ⟨f, hf, hfA⟩, ⟨g, hg, hgB⟩, hfl, hdg, hsc, hA, hB⟩ := hD
  refine e_aload_n F dX0_hasSeals_0 rfl ?_
  refine e_get (ci := 0) (fi := 2) (q := (RX0, TX0, 5)) F (by first | assumption | exact e_up_s | (rw [e_up_n (by first | assumption | omega)]; first | assumption | exact e_up_s | (rw [e_up_n (by first | assumption | omega)]; first | assumption | exact e_up_s | (rw [e_up_n (by first | assumption | omega)]; first | assumption | exact e_up_s))) | exact hD.1 | exact hD1.1 | exact hD2.1 | exact gD.1 | exact gD1.1 | exact gD2.1 | exact gQ.1 | exact hQ.1 | exact gS.1 | exact hS.1 | exact zD.1) rfl (by decide) w_fl_RX0_29 (by rfl) dX0_hasSeals_1 ?_
  refine e_if_le F 11 dX0_hasSeals_4 (by decide) (⟨by omega, by omega⟩) (fun c_4 => ?_) (fun c_4 => ?_)
  · refine e_iconst F dX0_hasSeals_11 ?_
    refine e_zret F rfl (by omega) (by omega) ?_ dX0_hasSeals_12
    refine ⟨?_, rfl, rfl⟩
    first | rw [b01_f (by omega)] | rw [b01_t (by omega)]
  · refine e_iconst F dX0_hasSeals_7 ?_
    refine e_goto F 12 dX0_hasSeals_8 (by decide) ?_
    refine e_zret F rfl (by omega) (by omega) ?_ dX0_hasSeals_12
    refine ⟨?_, rfl, rfl⟩
    first | rw [b01_f (by omega)] | rw [b01_t (by omega)]
set_option maxHeartbeats 4000000 in
set_option maxRecDepth 100000 in
theorem c_X0_sealAt {K : e_K} {l : Launch} {w : e_W} {n : Nat} {d : Nat} {fl dg sc : Int} {A B : Int → Int} (hD : DL w d fl dg sc A B) {h : Int} (h1 : e_r h) : e_Met K l yX0_sealAt (Cond.code yX0_sealAt cX0_sealAt 2 (Option.some .int) :: e_TB) (0) (0) [.ref d, .int (eI h)] w n (fun r w' n' => r = some (.int (eI (if 0 ≤ h ∧ h < sc then B h else -1))) ∧ w' = w ∧ n' = n) (e_px0) := by
  refine e_ofV rfl (Nat.le_of_ble_eq_true rfl) ?_
  intro P9 E9 S9 M9 A9 B9 T9 C9 F hnm
  obtain ⟨h0, ⟨f, hf, hfA⟩, ⟨g, hg, hgB⟩, hfl, hdg, hsc, hA, hB⟩ := hD
  refine e_iload_n F dX0_sealAt_0 rfl ?_
  refine e_if_lt F 30 dX0_sealAt_1 (by decide) (h1) (fun c_1 => ?_) (fun c_1 => ?_)
  · refine e_iconst F dX0_sealAt_30 ?_
    refine e_iret F rfl (by omega) ?_ dX0_sealAt_31
    refine ⟨?_, rfl, rfl⟩
    first | rw [if_neg (by omega)] | rw [if_pos (by omega), hgB h (by omega) (by omega)]
  · refine e_iload_n F dX0_sealAt_4 rfl ?_
    refine e_aload_n F dX0_sealAt_5 rfl ?_
    refine e_get (ci := 0) (fi := 2) (q := (RX0, TX0, 5)) F (by first | assumption | exact e_up_s | (rw [e_up_n (by first | assumption | omega)]; first | assumption | exact e_up_s | (rw [e_up_n (by first | assumption | omega)]; first | assumption | exact e_up_s | (rw [e_up_n (by first | assumption | omega)]; first | assumption | exact e_up_s))) | exact hD.1 | exact hD1.1 | exact hD2.1 | exact gD.1 | exact gD1.1 | exact gD2.1 | exact gQ.1 | exact hQ.1 | exact gS.1 | exact hS.1 | exact zD.1) rfl (by decide) w_fl_RX0_29 (by rfl) dX0_sealAt_6 ?_
    refine e_icmp_ge F 30 dX0_sealAt_9 (by decide) (h1) (⟨by omega, by omega⟩) (fun c_9 => ?_) (fun c_9 => ?_)
    · refine e_iconst F dX0_sealAt_30 ?_
      refine e_iret F rfl (by omega) ?_ dX0_sealAt_31
      refine ⟨?_, rfl, rfl⟩
      first | rw [if_neg (by omega)] | rw [if_pos (by omega), hgB h (by omega) (by omega)]
    · refine e_iload_n F dX0_sealAt_12 rfl ?_
      refine e_aload_n F dX0_sealAt_13 rfl ?_
      refine e_get (ci := 0) (fi := 4) (q := (RX0, TX0, 5)) F (by first | assumption | exact e_up_s | (rw [e_up_n (by first | assumption | omega)]; first | assumption | exact e_up_s | (rw [e_up_n (by first | assumption | omega)]; first | assumption | exact e_up_s | (rw [e_up_n (by first | assumption | omega)]; first | assumption | exact e_up_s))) | exact hD.1 | exact hD1.1 | exact hD2.1 | exact gD.1 | exact gD1.1 | exact gD2.1 | exact gQ.1 | exact hQ.1 | exact gS.1 | exact hS.1 | exact zD.1) rfl (by decide) w_fl_RX0_15 (by rfl) dX0_sealAt_14 ?_
      refine e_alenI F (by first | assumption | exact e_up_s | (rw [e_up_n (by first | assumption | omega)]; first | assumption | exact e_up_s | (rw [e_up_n (by first | assumption | omega)]; first | assumption | exact e_up_s | (rw [e_up_n (by first | assumption | omega)]; first | assumption | exact e_up_s))) | exact hD.1 | exact hD1.1 | exact hD2.1 | exact gD.1 | exact gD1.1 | exact gD2.1 | exact gQ.1 | exact hQ.1 | exact gS.1 | exact hS.1 | exact zD.1) dX0_sealAt_17 ?_
      refine e_icmp_ge F 30 dX0_sealAt_18 (by decide) (⟨by omega, by omega⟩) (⟨by omega, by omega⟩) (fun c_18 => ?_) (fun c_18 => ?_)
      · exact absurd c_18 (by omega)
      · refine e_aload_n F dX0_sealAt_21 rfl ?_
        refine e_get (ci := 0) (fi := 4) (q := (RX0, TX0, 5)) F (by first | assumption | exact e_up_s | (rw [e_up_n (by first | assumption | omega)]; first | assumption | exact e_up_s | (rw [e_up_n (by first | assumption | omega)]; first | assumption | exact e_up_s | (rw [e_up_n (by first | assumption | omega)]; first | assumption | exact e_up_s))) | exact hD.1 | exact hD1.1 | exact hD2.1 | exact gD.1 | exact gD1.1 | exact gD2.1 | exact gQ.1 | exact hQ.1 | exact gS.1 | exact hS.1 | exact zD.1) rfl (by decide) w_fl_RX0_15 (by rfl) dX0_sealAt_22 ?_
        refine e_iload_n F dX0_sealAt_25 rfl ?_
        refine e_iald F (by first | assumption | exact e_up_s | (rw [e_up_n (by first | assumption | omega)]; first | assumption | exact e_up_s | (rw [e_up_n (by first | assumption | omega)]; first | assumption | exact e_up_s | (rw [e_up_n (by first | assumption | omega)]; first | assumption | exact e_up_s))) | exact hD.1 | exact hD1.1 | exact hD2.1 | exact gD.1 | exact gD1.1 | exact gD2.1 | exact gQ.1 | exact hQ.1 | exact gS.1 | exact hS.1 | exact zD.1) (by omega) (by omega) (by first | decide | omega) dX0_sealAt_26 ?_
        refine e_goto F 31 dX0_sealAt_27 (by decide) ?_
        refine e_iret F rfl (by omega) ?_ dX0_sealAt_31
        refine ⟨?_, rfl, rfl⟩
        first | rw [if_neg (by omega)] | rw [if_pos (by omega), hgB h (by omega) (by omega)]
set_option maxHeartbeats 4000000 in
set_option maxRecDepth 100000 in
theorem c_X0_setShare {K : e_K} {l : Launch} {w : e_W} {n : Nat} {d : Nat} {fl dg sc : Int} {A B : Int → Int} (hD : DL w d fl dg sc A B) {h v : Int} (h1 : 1 ≤ h) (h2 : h ≤ 7) (hv1 : -1 ≤ v) (hv2 : v < 1000003) : e_Met K l yX0_setShare (Cond.code yX0_setShare cX0_setShare 3 none :: e_TB) (0) (0) [.ref d, .int (eI h), .int (eI v)] w n (fun r w' n' => r = none ∧ n' = n ∧ DL w' d fl dg sc (e_fu A h v) B ∧ DF w w' d) (e_px0) := by
  refine e_ofV rfl (Nat.le_of_ble_eq_true rfl) ?_
  intro P9 E9 S9 M9 A9 B9 T9 C9 F hnm
  obtain ⟨h0, ⟨f, hf, hfA⟩, ⟨g, hg, hgB⟩, hfl, hdg, hsc, hA, hB⟩ := hD
  refine e_iload_n F dX0_setShare_0 rfl ?_
  refine e_iconst F dX0_setShare_1 ?_
  refine e_icmp_lt F 21 dX0_setShare_2 (by decide) (⟨by omega, by omega⟩) (⟨by omega, by omega⟩) (fun c_2 => ?_) (fun c_2 => ?_)
  · exact absurd c_2 (by omega)
  · refine e_iload_n F dX0_setShare_5 rfl ?_
    refine e_aload_n F dX0_setShare_6 rfl ?_
    refine e_get (ci := 0) (fi := 3) (q := (RX0, TX0, 5)) F (by first | assumption | exact e_up_s | (rw [e_up_n (by first | assumption | omega)]; first | assumption | exact e_up_s | (rw [e_up_n (by first | assumption | omega)]; first | assumption | exact e_up_s | (rw [e_up_n (by first | assumption | omega)]; first | assumption | exact e_up_s))) | exact hD.1 | exact hD1.1 | exact hD2.1 | exact gD.1 | exact gD1.1 | exact gD2.1 | exact gQ.1 | exact hQ.1 | exact gS.1 | exact hS.1 | exact zD.1) rfl (by decide) w_fl_RX0_9 (by rfl) dX0_setShare_7 ?_
    refine e_alenI F (by first | assumption | exact e_up_s | (rw [e_up_n (by first | assumption | omega)]; first | assumption | exact e_up_s | (rw [e_up_n (by first | assumption | omega)]; first | assumption | exact e_up_s | (rw [e_up_n (by first | assumption | omega)]; first | assumption | exact e_up_s))) | exact hD.1 | exact hD1.1 | exact hD2.1 | exact gD.1 | exact gD1.1 | exact gD2.1 | exact gQ.1 | exact hQ.1 | exact gS.1 | exact hS.1 | exact zD.1) dX0_setShare_10 ?_
    refine e_icmp_ge F 21 dX0_setShare_11 (by decide) (⟨by omega, by omega⟩) (⟨by omega, by omega⟩) (fun c_11 => ?_) (fun c_11 => ?_)
    · exact absurd c_11 (by omega)
    · refine e_aload_n F dX0_setShare_14 rfl ?_
      refine e_get (ci := 0) (fi := 3) (q := (RX0, TX0, 5)) F (by first | assumption | exact e_up_s | (rw [e_up_n (by first | assumption | omega)]; first | assumption | exact e_up_s | (rw [e_up_n (by first | assumption | omega)]; first | assumption | exact e_up_s | (rw [e_up_n (by first | assumption | omega)]; first | assumption | exact e_up_s))) | exact hD.1 | exact hD1.1 | exact hD2.1 | exact gD.1 | exact gD1.1 | exact gD2.1 | exact gQ.1 | exact hQ.1 | exact gS.1 | exact hS.1 | exact zD.1) rfl (by decide) w_fl_RX0_9 (by rfl) dX0_setShare_15 ?_
      refine e_iload_n F dX0_setShare_18 rfl ?_
      refine e_iload_n F dX0_setShare_19 rfl ?_
      refine e_iast F (by first | assumption | exact e_up_s | (rw [e_up_n (by first | assumption | omega)]; first | assumption | exact e_up_s | (rw [e_up_n (by first | assumption | omega)]; first | assumption | exact e_up_s | (rw [e_up_n (by first | assumption | omega)]; first | assumption | exact e_up_s))) | exact hD.1 | exact hD1.1 | exact hD2.1 | exact gD.1 | exact gD1.1 | exact gD2.1 | exact gQ.1 | exact hQ.1 | exact gS.1 | exact hS.1 | exact zD.1) (by omega) (by omega) (by first | decide | omega) dX0_setShare_20 ?_
      refine e_vret F rfl (by omega) ?_ dX0_setShare_21
      refine ⟨rfl, rfl, ⟨by rw [e_up_n (by omega)]; exact h0, ⟨e_fu f h v, e_up_s, fun j j0 j1 => ?_⟩, ⟨g, by rw [e_up_n (by omega)]; exact hg, hgB⟩, hfl, hdg, hsc, fun j j0 j1 => ?_, hB⟩, fun q _ hq2 _ => e_up_n hq2⟩
      · unfold e_fu
        split
        · rfl
        · exact hfA j j0 j1
      · unfold e_fu
        split
        · omega
        · exact hA j j0 j1
set_option maxHeartbeats 4000000 in
set_option maxRecDepth 100000 in
theorem c_X0_setSeal {K : e_K} {l : Launch} {w : e_W} {n : Nat} {d : Nat} {fl dg sc : Int} {A B : Int → Int} (hD : DL w d fl dg sc A B) {h v : Int} (h1 : 0 ≤ h) (h2 : h < sc) (hv1 : 0 ≤ v) (hv2 : v < 36000109) : e_Met K l yX0_setSeal (Cond.code yX0_setSeal cX0_setSeal 3 none :: e_TB) (0) (0) [.ref d, .int (eI h), .int (eI v)] w n (fun r w' n' => r = none ∧ n' = n ∧ DL w' d fl dg sc A (e_fu B h v) ∧ DF w w' d) (e_px0) := by
  refine e_ofV rfl (Nat.le_of_ble_eq_true rfl) ?_
  intro P9 E9 S9 M9 A9 B9 T9 C9 F hnm
  obtain ⟨h0, ⟨f, hf, hfA⟩, ⟨g, hg, hgB⟩, hfl, hdg, hsc, hA, hB⟩ := hD
  refine e_iload_n F dX0_setSeal_0 rfl ?_
  refine e_if_lt F 28 dX0_setSeal_1 (by decide) (⟨by omega, by omega⟩) (fun c_1 => ?_) (fun c_1 => ?_)
  · exact absurd c_1 (by omega)
  · refine e_iload_n F dX0_setSeal_4 rfl ?_
    refine e_aload_n F dX0_setSeal_5 rfl ?_
    refine e_get (ci := 0) (fi := 2) (q := (RX0, TX0, 5)) F (by first | assumption | exact e_up_s | (rw [e_up_n (by first | assumption | omega)]; first | assumption | exact e_up_s | (rw [e_up_n (by first | assumption | omega)]; first | assumption | exact e_up_s | (rw [e_up_n (by first | assumption | omega)]; first | assumption | exact e_up_s))) | exact hD.1 | exact hD1.1 | exact hD2.1 | exact gD.1 | exact gD1.1 | exact gD2.1 | exact gQ.1 | exact hQ.1 | exact gS.1 | exact hS.1 | exact zD.1) rfl (by decide) w_fl_RX0_29 (by rfl) dX0_setSeal_6 ?_
    refine e_icmp_ge F 28 dX0_setSeal_9 (by decide) (⟨by omega, by omega⟩) (⟨by omega, by omega⟩) (fun c_9 => ?_) (fun c_9 => ?_)
    · exact absurd c_9 (by omega)
    · refine e_iload_n F dX0_setSeal_12 rfl ?_
      refine e_aload_n F dX0_setSeal_13 rfl ?_
      refine e_get (ci := 0) (fi := 4) (q := (RX0, TX0, 5)) F (by first | assumption | exact e_up_s | (rw [e_up_n (by first | assumption | omega)]; first | assumption | exact e_up_s | (rw [e_up_n (by first | assumption | omega)]; first | assumption | exact e_up_s | (rw [e_up_n (by first | assumption | omega)]; first | assumption | exact e_up_s))) | exact hD.1 | exact hD1.1 | exact hD2.1 | exact gD.1 | exact gD1.1 | exact gD2.1 | exact gQ.1 | exact hQ.1 | exact gS.1 | exact hS.1 | exact zD.1) rfl (by decide) w_fl_RX0_15 (by rfl) dX0_setSeal_14 ?_
      refine e_alenI F (by first | assumption | exact e_up_s | (rw [e_up_n (by first | assumption | omega)]; first | assumption | exact e_up_s | (rw [e_up_n (by first | assumption | omega)]; first | assumption | exact e_up_s | (rw [e_up_n (by first | assumption | omega)]; first | assumption | exact e_up_s))) | exact hD.1 | exact hD1.1 | exact hD2.1 | exact gD.1 | exact gD1.1 | exact gD2.1 | exact gQ.1 | exact hQ.1 | exact gS.1 | exact hS.1 | exact zD.1) dX0_setSeal_17 ?_
      refine e_icmp_ge F 28 dX0_setSeal_18 (by decide) (⟨by omega, by omega⟩) (⟨by omega, by omega⟩) (fun c_18 => ?_) (fun c_18 => ?_)
      · exact absurd c_18 (by omega)
      · refine e_aload_n F dX0_setSeal_21 rfl ?_
        refine e_get (ci := 0) (fi := 4) (q := (RX0, TX0, 5)) F (by first | assumption | exact e_up_s | (rw [e_up_n (by first | assumption | omega)]; first | assumption | exact e_up_s | (rw [e_up_n (by first | assumption | omega)]; first | assumption | exact e_up_s | (rw [e_up_n (by first | assumption | omega)]; first | assumption | exact e_up_s))) | exact hD.1 | exact hD1.1 | exact hD2.1 | exact gD.1 | exact gD1.1 | exact gD2.1 | exact gQ.1 | exact hQ.1 | exact gS.1 | exact hS.1 | exact zD.1) rfl (by decide) w_fl_RX0_15 (by rfl) dX0_setSeal_22 ?_
        refine e_iload_n F dX0_setSeal_25 rfl ?_
        refine e_iload_n F dX0_setSeal_26 rfl ?_
        refine e_iast F (by first | assumption | exact e_up_s | (rw [e_up_n (by first | assumption | omega)]; first | assumption | exact e_up_s | (rw [e_up_n (by first | assumption | omega)]; first | assumption | exact e_up_s | (rw [e_up_n (by first | assumption | omega)]; first | assumption | exact e_up_s))) | exact hD.1 | exact hD1.1 | exact hD2.1 | exact gD.1 | exact gD1.1 | exact gD2.1 | exact gQ.1 | exact hQ.1 | exact gS.1 | exact hS.1 | exact zD.1) (by omega) (by omega) (by first | decide | omega) dX0_setSeal_27 ?_
        refine e_vret F rfl (by omega) ?_ dX0_setSeal_28
        refine ⟨rfl, rfl, ⟨by rw [e_up_n (by omega)]; exact h0, ⟨f, by rw [e_up_n (by omega)]; exact hf, hfA⟩, ⟨e_fu g h v, e_up_s, fun j j0 j1 => ?_⟩, hfl, hdg, hsc, hA, fun j j0 j1 => ?_⟩, fun q _ _ hq3 => e_up_n hq3⟩
        · unfold e_fu
          split
          · rfl
          · exact hgB j j0 j1
        · unfold e_fu
          split
          · omega
          · exact hB j j0 j1
set_option maxHeartbeats 4000000 in
set_option maxRecDepth 100000 in
theorem c_X0_addSeal {K : e_K} {l : Launch} {w : e_W} {n : Nat} {d : Nat} {fl dg sc : Int} {A B : Int → Int} (hD : DL w d fl dg sc A B) {v : Int} (h2 : sc < 7) (hv1 : 0 ≤ v) (hv2 : v < 36000109) : e_Met K l yX0_addSeal (Cond.code yX0_addSeal cX0_addSeal 2 none :: e_TB) (0) (0) [.ref d, .int (eI v)] w n (fun r w' n' => r = none ∧ n' = n ∧ DL w' d fl dg (sc + 1) A (e_fu B sc v) ∧ DF w w' d) (e_px0) := by
  refine e_ofV rfl (Nat.le_of_ble_eq_true rfl) ?_
  intro P9 E9 S9 M9 A9 B9 T9 C9 F hnm
  obtain ⟨h0, ⟨f, hf, hfA⟩, ⟨g, hg, hgB⟩, hfl, hdg, hsc, hA, hB⟩ := hD
  refine e_aload_n F dX0_addSeal_0 rfl ?_
  refine e_get (ci := 0) (fi := 2) (q := (RX0, TX0, 5)) F (by first | assumption | exact e_up_s | (rw [e_up_n (by first | assumption | omega)]; first | assumption | exact e_up_s | (rw [e_up_n (by first | assumption | omega)]; first | assumption | exact e_up_s | (rw [e_up_n (by first | assumption | omega)]; first | assumption | exact e_up_s))) | exact hD.1 | exact hD1.1 | exact hD2.1 | exact gD.1 | exact gD1.1 | exact gD2.1 | exact gQ.1 | exact hQ.1 | exact gS.1 | exact hS.1 | exact zD.1) rfl (by decide) w_fl_RX0_29 (by rfl) dX0_addSeal_1 ?_
  refine e_if_lt F 39 dX0_addSeal_4 (by decide) (⟨by omega, by omega⟩) (fun c_4 => ?_) (fun c_4 => ?_)
  · exact absurd c_4 (by omega)
  · refine e_aload_n F dX0_addSeal_7 rfl ?_
    refine e_get (ci := 0) (fi := 2) (q := (RX0, TX0, 5)) F (by first | assumption | exact e_up_s | (rw [e_up_n (by first | assumption | omega)]; first | assumption | exact e_up_s | (rw [e_up_n (by first | assumption | omega)]; first | assumption | exact e_up_s | (rw [e_up_n (by first | assumption | omega)]; first | assumption | exact e_up_s))) | exact hD.1 | exact hD1.1 | exact hD2.1 | exact gD.1 | exact gD1.1 | exact gD2.1 | exact gQ.1 | exact hQ.1 | exact gS.1 | exact hS.1 | exact zD.1) rfl (by decide) w_fl_RX0_29 (by rfl) dX0_addSeal_8 ?_
    refine e_aload_n F dX0_addSeal_11 rfl ?_
    refine e_get (ci := 0) (fi := 4) (q := (RX0, TX0, 5)) F (by first | assumption | exact e_up_s | (rw [e_up_n (by first | assumption | omega)]; first | assumption | exact e_up_s | (rw [e_up_n (by first | assumption | omega)]; first | assumption | exact e_up_s | (rw [e_up_n (by first | assumption | omega)]; first | assumption | exact e_up_s))) | exact hD.1 | exact hD1.1 | exact hD2.1 | exact gD.1 | exact gD1.1 | exact gD2.1 | exact gQ.1 | exact hQ.1 | exact gS.1 | exact hS.1 | exact zD.1) rfl (by decide) w_fl_RX0_15 (by rfl) dX0_addSeal_12 ?_
    refine e_alenI F (by first | assumption | exact e_up_s | (rw [e_up_n (by first | assumption | omega)]; first | assumption | exact e_up_s | (rw [e_up_n (by first | assumption | omega)]; first | assumption | exact e_up_s | (rw [e_up_n (by first | assumption | omega)]; first | assumption | exact e_up_s))) | exact hD.1 | exact hD1.1 | exact hD2.1 | exact gD.1 | exact gD1.1 | exact gD2.1 | exact gQ.1 | exact hQ.1 | exact gS.1 | exact hS.1 | exact zD.1) dX0_addSeal_15 ?_
    refine e_icmp_ge F 39 dX0_addSeal_16 (by decide) (⟨by omega, by omega⟩) (⟨by omega, by omega⟩) (fun c_16 => ?_) (fun c_16 => ?_)
    · exact absurd c_16 (by omega)
    · refine e_aload_n F dX0_addSeal_19 rfl ?_
      refine e_get (ci := 0) (fi := 4) (q := (RX0, TX0, 5)) F (by first | assumption | exact e_up_s | (rw [e_up_n (by first | assumption | omega)]; first | assumption | exact e_up_s | (rw [e_up_n (by first | assumption | omega)]; first | assumption | exact e_up_s | (rw [e_up_n (by first | assumption | omega)]; first | assumption | exact e_up_s))) | exact hD.1 | exact hD1.1 | exact hD2.1 | exact gD.1 | exact gD1.1 | exact gD2.1 | exact gQ.1 | exact hQ.1 | exact gS.1 | exact hS.1 | exact zD.1) rfl (by decide) w_fl_RX0_15 (by rfl) dX0_addSeal_20 ?_
      refine e_aload_n F dX0_addSeal_23 rfl ?_
      refine e_get (ci := 0) (fi := 2) (q := (RX0, TX0, 5)) F (by first | assumption | exact e_up_s | (rw [e_up_n (by first | assumption | omega)]; first | assumption | exact e_up_s | (rw [e_up_n (by first | assumption | omega)]; first | assumption | exact e_up_s | (rw [e_up_n (by first | assumption | omega)]; first | assumption | exact e_up_s))) | exact hD.1 | exact hD1.1 | exact hD2.1 | exact gD.1 | exact gD1.1 | exact gD2.1 | exact gQ.1 | exact hQ.1 | exact gS.1 | exact hS.1 | exact zD.1) rfl (by decide) w_fl_RX0_29 (by rfl) dX0_addSeal_24 ?_
      refine e_iload_n F dX0_addSeal_27 rfl ?_
      refine e_iast F (by first | assumption | exact e_up_s | (rw [e_up_n (by first | assumption | omega)]; first | assumption | exact e_up_s | (rw [e_up_n (by first | assumption | omega)]; first | assumption | exact e_up_s | (rw [e_up_n (by first | assumption | omega)]; first | assumption | exact e_up_s))) | exact hD.1 | exact hD1.1 | exact hD2.1 | exact gD.1 | exact gD1.1 | exact gD2.1 | exact gQ.1 | exact hQ.1 | exact gS.1 | exact hS.1 | exact zD.1) (by omega) (by omega) (by first | decide | omega) dX0_addSeal_28 ?_
      refine e_aload_n F dX0_addSeal_29 rfl ?_
      refine e_dup F dX0_addSeal_30 rfl ?_
      refine e_get (ci := 0) (fi := 2) (q := (RX0, TX0, 5)) F (by first | assumption | exact e_up_s | (rw [e_up_n (by first | assumption | omega)]; first | assumption | exact e_up_s | (rw [e_up_n (by first | assumption | omega)]; first | assumption | exact e_up_s | (rw [e_up_n (by first | assumption | omega)]; first | assumption | exact e_up_s))) | exact hD.1 | exact hD1.1 | exact hD2.1 | exact gD.1 | exact gD1.1 | exact gD2.1 | exact gQ.1 | exact hQ.1 | exact gS.1 | exact hS.1 | exact zD.1) rfl (by decide) w_fl_RX0_29 (by rfl) dX0_addSeal_31 ?_
      refine e_iconst F dX0_addSeal_34 ?_
      refine e_iadd F dX0_addSeal_35 ?_
      refine e_set (host := "") (ci := 0) (fi := 2) (q := (RX0, TX0, 5)) F (by first | assumption | exact e_up_s | (rw [e_up_n (by first | assumption | omega)]; first | assumption | exact e_up_s | (rw [e_up_n (by first | assumption | omega)]; first | assumption | exact e_up_s | (rw [e_up_n (by first | assumption | omega)]; first | assumption | exact e_up_s))) | exact hD.1 | exact hD1.1 | exact hD2.1 | exact gD.1 | exact gD1.1 | exact gD2.1 | exact gQ.1 | exact hQ.1 | exact gS.1 | exact hS.1 | exact zD.1) rfl (by decide) w_fl_RX0_29 rfl (by rfl) (by rfl) (Nat.le_of_ble_eq_true rfl) dX0_addSeal_36 ?_
      refine e_vret F rfl (by omega) ?_ dX0_addSeal_39
      have hne : d + 2 ≠ d := by omega
      have hne1 : d + 1 ≠ d := by omega
      have hne2 : d + 1 ≠ d + 2 := by omega
      refine ⟨rfl, rfl, ⟨e_up_s, ⟨f, by simp only [e_up, if_neg hne1, if_neg hne2]; exact hf, hfA⟩, ⟨e_fu g sc v, by rw [e_up_n hne]; exact e_up_s, fun j j0 j1 => ?_⟩, hfl, hdg, by omega, hA, fun j j0 j1 => ?_⟩, fun q hq1 _ hq3 => by simp only [e_up, if_neg hq1, if_neg hq3]⟩
      · unfold e_fu
        split
        · rfl
        · exact hgB j j0 (by omega)
      · unfold e_fu
        split
        · omega
        · exact hB j j0 (by omega)
set_option maxHeartbeats 4000000 in
set_option maxRecDepth 100000 in
theorem c_X0_holderSet {K : e_K} {l : Launch} {w : e_W} {n : Nat} {d : Nat} {fl dg sc : Int} {A B : Int → Int} (hD : DL w d fl dg sc A B) : e_Met K l yX0_holderSet (Cond.code yX0_holderSet cX0_holderSet 3 (Option.some .int) :: e_TB) (1) (0) [.ref d] w n (fun r w' n' => r = some (.int (eI (st7 A))) ∧ w' = w ∧ n' = n) (e_px0) := by
  refine e_ofV rfl (Nat.le_of_ble_eq_true rfl) ?_
  intro P9 E9 S9 M9 A9 B9 T9 C9 F hnm
  obtain ⟨h0, ⟨f, hf, hfA⟩, ⟨g, hg, hgB⟩, hfl, hdg, hsc, hA, hB⟩ := hD
  have lp : ∀ (N : Nat) (k : Nat), (7 - k) < N → k ≤ 7 → e_V K P9 l E9 (1) (0) S9 M9 A9 B9 T9 C9 3 (fun r w' n' => r = some (.int (eI (st7 A))) ∧ w' = w ∧ n' = n) (e_px0) 4 [(0, .ref d), (1, .int (eI (stK A k))), (2, .int (eI ((k : Int) + 1)))] [] w n (0) := by
    intro N
    induction N with
    | zero => intro k hN; exact absurd hN (Nat.not_lt_zero _)
    | succ N ih =>
      intro k hN hk
      have hs := stK_rg A k
      refine e_iload_n F dX0_holderSet_4 rfl ?_
      refine e_aload_n F dX0_holderSet_5 rfl ?_
      refine e_get (ci := 0) (fi := 3) (q := (RX0, TX0, 5)) F (by first | assumption | exact e_up_s | (rw [e_up_n (by first | assumption | omega)]; first | assumption | exact e_up_s | (rw [e_up_n (by first | assumption | omega)]; first | assumption | exact e_up_s | (rw [e_up_n (by first | assumption | omega)]; first | assumption | exact e_up_s))) | exact hD.1 | exact hD1.1 | exact hD2.1 | exact gD.1 | exact gD1.1 | exact gD2.1 | exact gQ.1 | exact hQ.1 | exact gS.1 | exact hS.1 | exact zD.1) rfl (by decide) w_fl_RX0_9 (by rfl) dX0_holderSet_6 ?_
      refine e_alenI F (by first | assumption | exact e_up_s | (rw [e_up_n (by first | assumption | omega)]; first | assumption | exact e_up_s | (rw [e_up_n (by first | assumption | omega)]; first | assumption | exact e_up_s | (rw [e_up_n (by first | assumption | omega)]; first | assumption | exact e_up_s))) | exact hD.1 | exact hD1.1 | exact hD2.1 | exact gD.1 | exact gD1.1 | exact gD2.1 | exact gQ.1 | exact hQ.1 | exact gS.1 | exact hS.1 | exact zD.1) dX0_holderSet_9 ?_
      refine e_icmp_ge F 36 dX0_holderSet_10 (by decide) (⟨by omega, by omega⟩) (⟨by omega, by omega⟩) (fun c_10 => ?_) (fun c_10 => ?_)
      ·
        obtain rfl : k = 7 := by omega
        refine e_iload_n F dX0_holderSet_36 rfl ?_
        refine e_iret F rfl (by omega) ?_ dX0_holderSet_37
        exact ⟨rfl, rfl, rfl⟩
      · refine e_aload_n F dX0_holderSet_13 rfl ?_
        refine e_get (ci := 0) (fi := 3) (q := (RX0, TX0, 5)) F (by first | assumption | exact e_up_s | (rw [e_up_n (by first | assumption | omega)]; first | assumption | exact e_up_s | (rw [e_up_n (by first | assumption | omega)]; first | assumption | exact e_up_s | (rw [e_up_n (by first | assumption | omega)]; first | assumption | exact e_up_s))) | exact hD.1 | exact hD1.1 | exact hD2.1 | exact gD.1 | exact gD1.1 | exact gD2.1 | exact gQ.1 | exact hQ.1 | exact gS.1 | exact hS.1 | exact zD.1) rfl (by decide) w_fl_RX0_9 (by rfl) dX0_holderSet_14 ?_
        refine e_iload_n F dX0_holderSet_17 rfl ?_
        refine e_iald F (by first | assumption | exact e_up_s | (rw [e_up_n (by first | assumption | omega)]; first | assumption | exact e_up_s | (rw [e_up_n (by first | assumption | omega)]; first | assumption | exact e_up_s | (rw [e_up_n (by first | assumption | omega)]; first | assumption | exact e_up_s))) | exact hD.1 | exact hD1.1 | exact hD2.1 | exact gD.1 | exact gD1.1 | exact gD2.1 | exact gQ.1 | exact hQ.1 | exact gS.1 | exact hS.1 | exact zD.1) (by omega) (by omega) (by first | decide | omega) dX0_holderSet_18 ?_
        refine e_iconst F dX0_holderSet_19 ?_
        refine e_icmp_eq F 30 dX0_holderSet_20 (by decide) (by rw [hfA _ (by omega) (by omega)]; have := hA ((k : Int) + 1) (by omega) (by omega); constructor <;> omega) (⟨by omega, by omega⟩) (fun c_20 => ?_) (fun c_20 => ?_)
        ·
          rw [hfA _ (by omega) (by omega)] at c_20
          have q1 : stK A (k + 1) = stK A k := by show stK A k + _ = _; rw [if_neg (by omega)]; omega
          refine e_iinc F dX0_holderSet_30 rfl (by decide) ?_
          refine e_goto F 4 dX0_holderSet_33 (by decide) ?_
          refine e_go (ih (k + 1) (by omega) (by omega)) ?_
          rw [q1]
          exact And.intro rfl (And.intro rfl (And.intro rfl trivial))
        ·
          rw [hfA _ (by omega) (by omega)] at c_20
          have q1 : stK A (k + 1) = stK A k + 2 ^ k := by show stK A k + _ = _; rw [if_pos c_20]
          refine e_iload_n F dX0_holderSet_23 rfl ?_
          refine e_iload_n F dX0_holderSet_24 rfl ?_
          refine e_callSN F u_X3_bitOf (by rfl) (c_X3_bitOf (h := (k : Int) + 1) (by omega) (by omega)) w_mn_RX0_39 dX0_holderSet_25 (by rfl) (Nat.le_of_ble_eq_true rfl) (by decide) (by omega) (fun _ _ _ h _ => False.elim h) (fun r_25 w_25 n_25 h_25 hn_25 => ?_)
          obtain ⟨rfl, ew_25, en_25⟩ := h_25
          rw [ew_25, en_25]
          have e9 : ((k : Int) + 1 - 1).toNat = k := by omega
          refine e_ior F dX0_holderSet_28 (by rw [e9]; exact eI_or (by omega) hs.1 hs.2) ?_
          refine e_istore_n F dX0_holderSet_29 (by decide) ?_
          refine e_iinc F dX0_holderSet_30 rfl (by decide) ?_
          refine e_goto F 4 dX0_holderSet_33 (by decide) ?_
          refine e_go (ih (k + 1) (by omega) (by omega)) ?_
          rw [q1]
          exact And.intro rfl (And.intro rfl (And.intro rfl trivial))
  refine e_iconst F dX0_holderSet_0 ?_
  refine e_istore_n F dX0_holderSet_1 (by decide) ?_
  refine e_iconst F dX0_holderSet_2 ?_
  refine e_istore_n F dX0_holderSet_3 (by decide) ?_
  exact e_go (lp 8 0 (by omega) (by omega)) (And.intro rfl (And.intro rfl (And.intro rfl (trivial))))
set_option maxHeartbeats 4000000 in
set_option maxRecDepth 100000 in
theorem c_X0_shareCount {K : e_K} {l : Launch} {w : e_W} {n : Nat} {d : Nat} {fl dg sc : Int} {A B : Int → Int} (hD : DL w d fl dg sc A B) : e_Met K l yX0_shareCount (Cond.code yX0_shareCount cX0_shareCount 1 (Option.some .int) :: e_TB) (2) (0) [.ref d] w n (fun r w' n' => r = some (.int (eI (bc (st7 A)))) ∧ w' = w ∧ n' = n) (e_px0) := by
  refine e_ofV rfl (Nat.le_of_ble_eq_true rfl) ?_
  intro P9 E9 S9 M9 A9 B9 T9 C9 F hnm
  have hs := st7_rg A
  obtain ⟨k9, hk9⟩ : ∃ k : Nat, st7 A = (k : Int) := ⟨(st7 A).toNat, by omega⟩
  refine e_aload_n F dX0_shareCount_0 rfl ?_
  refine e_callVV F u_X0_holderSet (by rfl) (c_X0_holderSet hD) hD.1 rfl rfl w_ml_RX0_42 dX0_shareCount_1 (by rfl) (Nat.le_of_ble_eq_true rfl) (by decide) (by omega) (fun _ _ _ h _ => False.elim h) (fun r_1 w_1 n_1 h_1 hn_1 => ?_)
  obtain ⟨rfl, rfl, rfl⟩ := h_1
  rw [hk9]
  refine e_callSS F u_J6_bitCount_0f7a4 (by rfl) (c_J6_bitCount_0f7a4 (k := k9) (by omega)) w_ml_RX0_46 dX0_shareCount_4 (by rfl) (Nat.le_of_ble_eq_true rfl) (by decide) (by omega) (fun _ _ _ h _ => False.elim h) (fun r_4 w_4 n_4 h_4 hn_4 => ?_)
  obtain ⟨rfl, ew_4, en_4⟩ := h_4
  rw [ew_4, en_4]
  refine e_iret F rfl (by omega) ?_ dX0_shareCount_7
  exact ⟨rfl, rfl, rfl⟩
set_option maxHeartbeats 4000000 in
set_option maxRecDepth 100000 in
theorem c_X0_firstSet {K : e_K} {l : Launch} {w : e_W} {n : Nat} {d : Nat} {fl dg sc : Int} {A B : Int → Int} (hD : DL w d fl dg sc A B) : e_Met K l yX0_firstSet (Cond.code yX0_firstSet cX0_firstSet 4 (Option.some .int) :: e_TB) (1) (0) [.ref d] w n (fun r w' n' => r = some (.int (eI (fs7 A dg))) ∧ w' = w ∧ n' = n) (e_px0) := by
  refine e_ofV rfl (Nat.le_of_ble_eq_true rfl) ?_
  intro P9 E9 S9 M9 A9 B9 T9 C9 F hnm
  obtain ⟨h0, ⟨f, hf, hfA⟩, ⟨g, hg, hgB⟩, hfl, hdg, hsc, hA, hB⟩ := hD
  have lp : ∀ (N : Nat) (k : Nat), (7 - k) < N → k ≤ 7 → e_V K P9 l E9 (1) (0) S9 M9 A9 B9 T9 C9 4 (fun r w' n' => r = some (.int (eI (fs7 A dg))) ∧ w' = w ∧ n' = n) (e_px0) 11 [(0, .ref d), (1, .int (eI (fsK A dg k).1)), (2, .int (eI (fsK A dg k).2)), (3, .int (eI ((k : Int) + 1)))] [] w n (0) := by
    intro N
    induction N with
    | zero => intro k hN; exact absurd hN (Nat.not_lt_zero _)
    | succ N ih =>
      intro k hN hk
      have hs := fsK_rg A dg hdg.1 k
      refine e_iload_n F dX0_firstSet_11 rfl ?_
      refine e_aload_n F dX0_firstSet_12 rfl ?_
      refine e_get (ci := 0) (fi := 3) (q := (RX0, TX0, 5)) F (by first | assumption | exact e_up_s | (rw [e_up_n (by first | assumption | omega)]; first | assumption | exact e_up_s | (rw [e_up_n (by first | assumption | omega)]; first | assumption | exact e_up_s | (rw [e_up_n (by first | assumption | omega)]; first | assumption | exact e_up_s))) | exact hD.1 | exact hD1.1 | exact hD2.1 | exact gD.1 | exact gD1.1 | exact gD2.1 | exact gQ.1 | exact hQ.1 | exact gS.1 | exact hS.1 | exact zD.1) rfl (by decide) w_fl_RX0_9 (by rfl) dX0_firstSet_13 ?_
      refine e_alenI F (by first | assumption | exact e_up_s | (rw [e_up_n (by first | assumption | omega)]; first | assumption | exact e_up_s | (rw [e_up_n (by first | assumption | omega)]; first | assumption | exact e_up_s | (rw [e_up_n (by first | assumption | omega)]; first | assumption | exact e_up_s))) | exact hD.1 | exact hD1.1 | exact hD2.1 | exact gD.1 | exact gD1.1 | exact gD2.1 | exact gQ.1 | exact hQ.1 | exact gS.1 | exact hS.1 | exact zD.1) dX0_firstSet_16 ?_
      refine e_icmp_ge F 50 dX0_firstSet_17 (by decide) (⟨by omega, by omega⟩) (⟨by omega, by omega⟩) (fun c_17 => ?_) (fun c_17 => ?_)
      ·
        obtain rfl : k = 7 := by omega
        have q2 := rfl (a := fsK A dg 7)
        refine e_iload_n F dX0_firstSet_50 rfl ?_
        refine e_if_ne F 58 dX0_firstSet_51 (by decide) (⟨by omega, by omega⟩) (fun c_51 => ?_) (fun c_51 => ?_)
        · refine e_iconst F dX0_firstSet_58 ?_
          refine e_iret F rfl (by omega) ?_ dX0_firstSet_59
          refine ⟨?_, rfl, rfl⟩
          unfold fs7
          rw [← q2]
          first | (exfalso; omega) | rw [if_pos (by omega)] | rw [if_neg (by omega)]
        · refine e_iload_n F dX0_firstSet_54 rfl ?_
          refine e_goto F 59 dX0_firstSet_55 (by decide) ?_
          refine e_iret F rfl (by omega) ?_ dX0_firstSet_59
          refine ⟨?_, rfl, rfl⟩
          unfold fs7
          rw [← q2]
          first | (exfalso; omega) | rw [if_pos (by omega)] | rw [if_neg (by omega)]
      · refine e_iload_n F dX0_firstSet_20 rfl ?_
        refine e_if_le F 50 dX0_firstSet_21 (by decide) (⟨by omega, by omega⟩) (fun c_21 => ?_) (fun c_21 => ?_)
        ·
          have q2 := (fsK_stop A dg (k := k) (by omega) 7 (by omega)).symm
          refine e_iload_n F dX0_firstSet_50 rfl ?_
          refine e_if_ne F 58 dX0_firstSet_51 (by decide) (⟨by omega, by omega⟩) (fun c_51 => ?_) (fun c_51 => ?_)
          · refine e_iconst F dX0_firstSet_58 ?_
            refine e_iret F rfl (by omega) ?_ dX0_firstSet_59
            refine ⟨?_, rfl, rfl⟩
            unfold fs7
            rw [← q2]
            first | (exfalso; omega) | rw [if_pos (by omega)] | rw [if_neg (by omega)]
          · refine e_iload_n F dX0_firstSet_54 rfl ?_
            refine e_goto F 59 dX0_firstSet_55 (by decide) ?_
            refine e_iret F rfl (by omega) ?_ dX0_firstSet_59
            refine ⟨?_, rfl, rfl⟩
            unfold fs7
            rw [← q2]
            first | (exfalso; omega) | rw [if_pos (by omega)] | rw [if_neg (by omega)]
        · refine e_aload_n F dX0_firstSet_24 rfl ?_
          refine e_get (ci := 0) (fi := 3) (q := (RX0, TX0, 5)) F (by first | assumption | exact e_up_s | (rw [e_up_n (by first | assumption | omega)]; first | assumption | exact e_up_s | (rw [e_up_n (by first | assumption | omega)]; first | assumption | exact e_up_s | (rw [e_up_n (by first | assumption | omega)]; first | assumption | exact e_up_s))) | exact hD.1 | exact hD1.1 | exact hD2.1 | exact gD.1 | exact gD1.1 | exact gD2.1 | exact gQ.1 | exact hQ.1 | exact gS.1 | exact hS.1 | exact zD.1) rfl (by decide) w_fl_RX0_9 (by rfl) dX0_firstSet_25 ?_
          refine e_iload_n F dX0_firstSet_28 rfl ?_
          refine e_iald F (by first | assumption | exact e_up_s | (rw [e_up_n (by first | assumption | omega)]; first | assumption | exact e_up_s | (rw [e_up_n (by first | assumption | omega)]; first | assumption | exact e_up_s | (rw [e_up_n (by first | assumption | omega)]; first | assumption | exact e_up_s))) | exact hD.1 | exact hD1.1 | exact hD2.1 | exact gD.1 | exact gD1.1 | exact gD2.1 | exact gQ.1 | exact hQ.1 | exact gS.1 | exact hS.1 | exact zD.1) (by omega) (by omega) (by first | decide | omega) dX0_firstSet_29 ?_
          refine e_iconst F dX0_firstSet_30 ?_
          refine e_icmp_eq F 44 dX0_firstSet_31 (by decide) (by rw [hfA _ (by omega) (by omega)]; have := hA ((k : Int) + 1) (by omega) (by omega); constructor <;> omega) (⟨by omega, by omega⟩) (fun c_31 => ?_) (fun c_31 => ?_)
          ·
            rw [hfA _ (by omega) (by omega)] at c_31
            have q1 : fsK A dg (k + 1) = fsK A dg k := if_neg (fun q => q.2 c_31)
            refine e_iinc F dX0_firstSet_44 rfl (by decide) ?_
            refine e_goto F 11 dX0_firstSet_47 (by decide) ?_
            refine e_go (ih (k + 1) (by omega) (by omega)) ?_
            rw [q1]
            exact And.intro rfl (And.intro rfl (And.intro rfl (And.intro rfl trivial)))
          ·
            rw [hfA _ (by omega) (by omega)] at c_31
            have q1 : fsK A dg (k + 1) = ((fsK A dg k).1 + 2 ^ k, (fsK A dg k).2 - 1) := if_pos ⟨by omega, c_31⟩
            refine e_iload_n F dX0_firstSet_34 rfl ?_
            refine e_iload_n F dX0_firstSet_35 rfl ?_
            refine e_callSN F u_X3_bitOf (by rfl) (c_X3_bitOf (h := (k : Int) + 1) (by omega) (by omega)) w_mn_RX0_39 dX0_firstSet_36 (by rfl) (Nat.le_of_ble_eq_true rfl) (by decide) (by omega) (fun _ _ _ h _ => False.elim h) (fun r_36 w_36 n_36 h_36 hn_36 => ?_)
            obtain ⟨rfl, ew_36, en_36⟩ := h_36
            rw [ew_36, en_36]
            have e9 : ((k : Int) + 1 - 1).toNat = k := by omega
            refine e_ior F dX0_firstSet_39 (by rw [e9]; exact eI_or (by omega) hs.1 hs.2.1) ?_
            refine e_istore_n F dX0_firstSet_40 (by decide) ?_
            refine e_iinc F dX0_firstSet_41 rfl (by decide) ?_
            refine e_iinc F dX0_firstSet_44 rfl (by decide) ?_
            refine e_goto F 11 dX0_firstSet_47 (by decide) ?_
            refine e_go (ih (k + 1) (by omega) (by omega)) ?_
            rw [q1]
            exact And.intro rfl (And.intro rfl (And.intro rfl (And.intro rfl trivial)))
  refine e_iconst F dX0_firstSet_0 ?_
  refine e_istore_n F dX0_firstSet_1 (by decide) ?_
  refine e_aload_n F dX0_firstSet_2 rfl ?_
  refine e_get (ci := 0) (fi := 1) (q := (RX0, TX0, 5)) F (by first | assumption | exact e_up_s | (rw [e_up_n (by first | assumption | omega)]; first | assumption | exact e_up_s | (rw [e_up_n (by first | assumption | omega)]; first | assumption | exact e_up_s | (rw [e_up_n (by first | assumption | omega)]; first | assumption | exact e_up_s))) | exact hD.1 | exact hD1.1 | exact hD2.1 | exact gD.1 | exact gD1.1 | exact gD2.1 | exact gQ.1 | exact hQ.1 | exact gS.1 | exact hS.1 | exact zD.1) rfl (by decide) w_fl_RX0_25 (by rfl) dX0_firstSet_3 ?_
  refine e_iconst F dX0_firstSet_6 ?_
  refine e_iadd F dX0_firstSet_7 ?_
  refine e_istore_n F dX0_firstSet_8 (by decide) ?_
  refine e_iconst F dX0_firstSet_9 ?_
  refine e_istore_n F dX0_firstSet_10 (by decide) ?_
  exact e_go (lp 8 0 (by omega) (by omega)) (And.intro rfl (And.intro rfl (And.intro rfl (And.intro rfl (trivial)))))
set_option maxHeartbeats 4000000 in
set_option maxRecDepth 100000 in
theorem c_X0_isThere {K : e_K} {l : Launch} {w : e_W} {n : Nat} {d : Nat} {fl dg sc : Int} {A B : Int → Int} (hD : DL w d fl dg sc A B) {set : Int} (hs0 : 0 ≤ set) (hs1 : set < 128) : e_Met K l yX0_isThere (Cond.code yX0_isThere cX0_isThere 2 (Option.some .boolean) :: e_TB) (2) (0) [.ref d, .int (eI set)] w n (fun r w' n' => r = some (.int (eI (b01 (fl = 1 ∧ thr A set)))) ∧ w' = w ∧ n' = n) (e_px0) := by
  refine e_ofV rfl (Nat.le_of_ble_eq_true rfl) ?_
  intro P9 E9 S9 M9 A9 B9 T9 C9 F hnm
  have hD0 := hD
  obtain ⟨h0, ⟨f, hf, hfA⟩, ⟨g, hg, hgB⟩, hfl, hdg, hsc, hA, hB⟩ := hD
  have hs := st7_rg A
  have hand : (st7 A).toNat &&& set.toNat ≤ (st7 A).toNat := Nat.and_le_left
  refine e_aload_n F dX0_isThere_0 rfl ?_
  refine e_get (ci := 0) (fi := 0) (q := (RX0, TX0, 5)) F (by first | assumption | exact e_up_s | (rw [e_up_n (by first | assumption | omega)]; first | assumption | exact e_up_s | (rw [e_up_n (by first | assumption | omega)]; first | assumption | exact e_up_s | (rw [e_up_n (by first | assumption | omega)]; first | assumption | exact e_up_s))) | exact hD.1 | exact hD1.1 | exact hD2.1 | exact gD.1 | exact gD1.1 | exact gD2.1 | exact gQ.1 | exact hQ.1 | exact gS.1 | exact hS.1 | exact zD.1) rfl (by decide) w_fl_RX0_21 (by rfl) dX0_isThere_1 ?_
  refine e_if_eq F 21 dX0_isThere_4 (by decide) (⟨by omega, by omega⟩) (fun c_4 => ?_) (fun c_4 => ?_)
  · refine e_iconst F dX0_isThere_21 ?_
    refine e_zret F rfl (by omega) (by omega) ?_ dX0_isThere_22
    refine ⟨?_, rfl, rfl⟩
    first | rw [b01_f (by omega)] | rw [b01_t (by omega)]
  · refine e_aload_n F dX0_isThere_7 rfl ?_
    refine e_callVV F u_X0_holderSet (by rfl) (c_X0_holderSet hD0) (by first | assumption | exact e_up_s | (rw [e_up_n (by first | assumption | omega)]; first | assumption | exact e_up_s | (rw [e_up_n (by first | assumption | omega)]; first | assumption | exact e_up_s | (rw [e_up_n (by first | assumption | omega)]; first | assumption | exact e_up_s))) | exact hD.1 | exact hD1.1 | exact hD2.1 | exact gD.1 | exact gD1.1 | exact gD2.1 | exact gQ.1 | exact hQ.1 | exact gS.1 | exact hS.1 | exact zD.1) rfl rfl w_ml_RX0_42 dX0_isThere_8 (by rfl) (Nat.le_of_ble_eq_true rfl) (by decide) (by omega) (fun _ _ _ h _ => False.elim h) (fun r_8 w_8 n_8 h_8 hn_8 => ?_)
    obtain ⟨rfl, ew_8, en_8⟩ := h_8
    rw [ew_8, en_8]
    refine e_iload_n F dX0_isThere_11 rfl ?_
    refine e_iand F dX0_isThere_12 (eI_and hs.1 hs.2 hs0 hs1) ?_
    refine e_iload_n F dX0_isThere_13 rfl ?_
    refine e_icmp_ne F 21 dX0_isThere_14 (by decide) (⟨by omega, by omega⟩) (⟨by omega, by omega⟩) (fun c_14 => ?_) (fun c_14 => ?_)
    · refine e_iconst F dX0_isThere_21 ?_
      refine e_zret F rfl (by omega) (by omega) ?_ dX0_isThere_22
      refine ⟨?_, rfl, rfl⟩
      first | rw [b01_f (by omega)] | rw [b01_t (by omega)]
    · refine e_iconst F dX0_isThere_17 ?_
      refine e_goto F 22 dX0_isThere_18 (by decide) ?_
      refine e_zret F rfl (by omega) (by omega) ?_ dX0_isThere_22
      refine ⟨?_, rfl, rfl⟩
      first | rw [b01_f (by omega)] | rw [b01_t (by omega)]
set_option maxHeartbeats 4000000 in
set_option maxRecDepth 100000 in
theorem c_X0_isEnough {K : e_K} {l : Launch} {w : e_W} {n : Nat} {d : Nat} {fl dg sc : Int} {A B : Int → Int} (hD : DL w d fl dg sc A B) {set : Int} (hs0 : 0 ≤ set) (hs1 : set < 128) : e_Met K l yX0_isEnough (Cond.code yX0_isEnough cX0_isEnough 2 (Option.some .boolean) :: e_TB) (3) (0) [.ref d, .int (eI set)] w n (fun r w' n' => r = some (.int (eI (b01 ((fl = 1 ∧ thr A set) ∧ dg < bc set)))) ∧ w' = w ∧ n' = n) (e_px0) := by
  refine e_ofV rfl (Nat.le_of_ble_eq_true rfl) ?_
  intro P9 E9 S9 M9 A9 B9 T9 C9 F hnm
  have hD0 := hD
  obtain ⟨h0, ⟨f, hf, hfA⟩, ⟨g, hg, hgB⟩, hfl, hdg, hsc, hA, hB⟩ := hD
  obtain ⟨k9, rfl⟩ : ∃ k : Nat, set = (k : Int) := ⟨set.toNat, by omega⟩
  have hbc : 0 ≤ bc (k9 : Int) ∧ bc (k9 : Int) ≤ 7 := by unfold bc; omega
  refine e_aload_n F dX0_isEnough_0 rfl ?_
  refine e_iload_n F dX0_isEnough_1 rfl ?_
  refine e_callVV F u_X0_isThere (by rfl) (c_X0_isThere hD0 hs0 hs1) (by first | assumption | exact e_up_s | (rw [e_up_n (by first | assumption | omega)]; first | assumption | exact e_up_s | (rw [e_up_n (by first | assumption | omega)]; first | assumption | exact e_up_s | (rw [e_up_n (by first | assumption | omega)]; first | assumption | exact e_up_s))) | exact hD.1 | exact hD1.1 | exact hD2.1 | exact gD.1 | exact gD1.1 | exact gD2.1 | exact gQ.1 | exact hQ.1 | exact gS.1 | exact hS.1 | exact zD.1) rfl rfl w_ml_RX0_51 dX0_isEnough_2 (by rfl) (Nat.le_of_ble_eq_true rfl) (by decide) (by omega) (fun _ _ _ h _ => False.elim h) (fun r_2 w_2 n_2 h_2 hn_2 => ?_)
  obtain ⟨rfl, ew_2, en_2⟩ := h_2
  rw [ew_2, en_2]
  refine e_if_eq F 23 dX0_isEnough_5 (by decide) (b01_r _) (fun c_5 => ?_) (fun c_5 => ?_)
  ·
    rw [b01_0] at c_5
    refine e_iconst F dX0_isEnough_23 ?_
    refine e_zret F rfl (by omega) (by omega) ?_ dX0_isEnough_24
    refine ⟨?_, rfl, rfl⟩
    first | (rw [b01_t]; exact ⟨c_5, by omega⟩) | (rw [b01_f]; exact fun q => c_5 q.1) | (rw [b01_f]; exact fun q => by omega)
  ·
    rw [b01_0, Classical.not_not] at c_5
    refine e_iload_n F dX0_isEnough_8 rfl ?_
    refine e_callSS F u_J6_bitCount_0f7a4 (by rfl) (c_J6_bitCount_0f7a4 (k := k9) (by omega)) w_ml_RX0_46 dX0_isEnough_9 (by rfl) (Nat.le_of_ble_eq_true rfl) (by decide) (by omega) (fun _ _ _ h _ => False.elim h) (fun r_9 w_9 n_9 h_9 hn_9 => ?_)
    obtain ⟨rfl, ew_9, en_9⟩ := h_9
    rw [ew_9, en_9]
    refine e_aload_n F dX0_isEnough_12 rfl ?_
    refine e_get (ci := 0) (fi := 1) (q := (RX0, TX0, 5)) F (by first | assumption | exact e_up_s | (rw [e_up_n (by first | assumption | omega)]; first | assumption | exact e_up_s | (rw [e_up_n (by first | assumption | omega)]; first | assumption | exact e_up_s | (rw [e_up_n (by first | assumption | omega)]; first | assumption | exact e_up_s))) | exact hD.1 | exact hD1.1 | exact hD2.1 | exact gD.1 | exact gD1.1 | exact gD2.1 | exact gQ.1 | exact hQ.1 | exact gS.1 | exact hS.1 | exact zD.1) rfl (by decide) w_fl_RX0_25 (by rfl) dX0_isEnough_13 ?_
    refine e_icmp_le F 23 dX0_isEnough_16 (by decide) (⟨by omega, by omega⟩) (⟨by omega, by omega⟩) (fun c_16 => ?_) (fun c_16 => ?_)
    · refine e_iconst F dX0_isEnough_23 ?_
      refine e_zret F rfl (by omega) (by omega) ?_ dX0_isEnough_24
      refine ⟨?_, rfl, rfl⟩
      first | (rw [b01_t]; exact ⟨c_5, by omega⟩) | (rw [b01_f]; exact fun q => c_5 q.1) | (rw [b01_f]; exact fun q => by omega)
    · refine e_iconst F dX0_isEnough_19 ?_
      refine e_goto F 24 dX0_isEnough_20 (by decide) ?_
      refine e_zret F rfl (by omega) (by omega) ?_ dX0_isEnough_24
      refine ⟨?_, rfl, rfl⟩
      first | (rw [b01_t]; exact ⟨c_5, by omega⟩) | (rw [b01_f]; exact fun q => c_5 q.1) | (rw [b01_f]; exact fun q => by omega)
end
-- 14.take.lean.txt
section
/-! Deal.take: another one, or itself -/
set_option maxHeartbeats 4000000 in
set_option maxRecDepth 100000 in
theorem c_X0_take {K : e_K} {l : Launch} {w : e_W} {n : Nat} {d o : Nat} {fl dg sc fl2 dg2 sc2 : Int} {A B A2 B2 : Int → Int} (hD : DL w d fl dg sc A B) (hO : DL w o fl2 dg2 sc2 A2 B2) (hdis : o + 3 ≤ d ∨ d + 3 ≤ o) : e_Met K l yX0_take (Cond.code yX0_take cX0_take 3 none :: e_TB) (1) (0) [.ref d, .ref o] w n (fun r w' n' => r = none ∧ n' = n ∧ DL w' d fl2 dg2 sc2 A2 B2 ∧ DF w w' d) (e_px0) := by
  refine e_ofV rfl (Nat.le_of_ble_eq_true rfl) ?_
  intro P9 E9 S9 M9 A9 B9 T9 C9 F hnm
  have lq : ∀ (N : Nat) (i : Int) (wl : e_W) (g : Int → Int), (7 - i).toNat < N → (0 ≤ i ∧ i ≤ 7 ∧ wl d = some (DO d fl2 dg2 sc2) ∧ PA wl (d + 1) 8 1 8 A2 ∧ wl (d + 2) = some (e_ia 7 g) ∧ (∀ j, 0 ≤ j → j < i → g j = if 0 ≤ j ∧ j < sc2 then B2 j else -1) ∧ DL wl o fl2 dg2 sc2 A2 B2 ∧ DF w wl d) → e_V K P9 l E9 (1) (0) S9 M9 A9 B9 T9 C9 3 (fun r w' n' => r = none ∧ n' = n ∧ DL w' d fl2 dg2 sc2 A2 B2 ∧ DF w w' d) (e_px0) 54 [(0, .ref d), (1, .ref o), (2, .int (eI i))] [] wl n (0) := by
    intro N
    induction N with
    | zero => intro i wl g hN; exact absurd hN (Nat.not_lt_zero _)
    | succ N ih =>
      intro i wl g hN ⟨h1, h2, g0, ⟨f, gf, gfA⟩, gg, ggB, hO, hDF⟩
      obtain ⟨k0, ⟨f2, kf, kfA⟩, ⟨g2, kg, kgB⟩, hfl2, hdg2, hsc2, hA2, hB2⟩ := hO
      have hO9 : DL wl o fl2 dg2 sc2 A2 B2 := ⟨k0, ⟨f2, kf, kfA⟩, ⟨g2, kg, kgB⟩, hfl2, hdg2, hsc2, hA2, hB2⟩
      refine e_iload_n F dX0_take_54 rfl ?_
      refine e_aload_n F dX0_take_55 rfl ?_
      refine e_get (ci := 0) (fi := 4) (q := (RX0, TX0, 5)) F (by first | assumption | exact e_up_s | (rw [e_up_n (by first | assumption | omega)]; first | assumption | exact e_up_s | (rw [e_up_n (by first | assumption | omega)]; first | assumption | exact e_up_s | (rw [e_up_n (by first | assumption | omega)]; first | assumption | exact e_up_s))) | exact hD.1 | exact hD1.1 | exact hD2.1 | exact gD.1 | exact gD1.1 | exact gD2.1 | exact gQ.1 | exact hQ.1 | exact gS.1 | exact hS.1 | exact zD.1) rfl (by decide) w_fl_RX0_15 (by rfl) dX0_take_56 ?_
      refine e_alenI F (by first | assumption | exact e_up_s | (rw [e_up_n (by first | assumption | omega)]; first | assumption | exact e_up_s | (rw [e_up_n (by first | assumption | omega)]; first | assumption | exact e_up_s | (rw [e_up_n (by first | assumption | omega)]; first | assumption | exact e_up_s))) | exact hD.1 | exact hD1.1 | exact hD2.1 | exact gD.1 | exact gD1.1 | exact gD2.1 | exact gQ.1 | exact hQ.1 | exact gS.1 | exact hS.1 | exact zD.1) dX0_take_59 ?_
      refine e_icmp_ge F 80 dX0_take_60 (by decide) (⟨by omega, by omega⟩) (⟨by omega, by omega⟩) (fun c_60 => ?_) (fun c_60 => ?_)
      · refine e_vret F rfl (by omega) ?_ dX0_take_80
        refine ⟨rfl, rfl, ⟨g0, ⟨f, gf, gfA⟩, ⟨g, gg, fun j j0 j1 => ?_⟩, hfl2, hdg2, hsc2, hA2, hB2⟩, hDF⟩
        rw [ggB j j0 (by omega), if_pos ⟨j0, j1⟩]
      · refine e_aload_n F dX0_take_63 rfl ?_
        refine e_get (ci := 0) (fi := 4) (q := (RX0, TX0, 5)) F (by first | assumption | exact e_up_s | (rw [e_up_n (by first | assumption | omega)]; first | assumption | exact e_up_s | (rw [e_up_n (by first | assumption | omega)]; first | assumption | exact e_up_s | (rw [e_up_n (by first | assumption | omega)]; first | assumption | exact e_up_s))) | exact hD.1 | exact hD1.1 | exact hD2.1 | exact gD.1 | exact gD1.1 | exact gD2.1 | exact gQ.1 | exact hQ.1 | exact gS.1 | exact hS.1 | exact zD.1) rfl (by decide) w_fl_RX0_15 (by rfl) dX0_take_64 ?_
        refine e_iload_n F dX0_take_67 rfl ?_
        refine e_aload_n F dX0_take_68 rfl ?_
        refine e_iload_n F dX0_take_69 rfl ?_
        refine e_callVV F u_X0_sealAt (by rfl) (c_X0_sealAt hO9 ⟨by omega, by omega⟩) k0 rfl rfl w_ml_RX0_36 dX0_take_70 (by rfl) (Nat.le_of_ble_eq_true rfl) (by decide) (by omega) (fun _ _ _ h _ => False.elim h) (fun r_70 w_70 n_70 h_70 hn_70 => ?_)
        obtain ⟨rfl, ew_70, en_70⟩ := h_70
        rw [ew_70, en_70]
        refine e_iast F (by first | assumption | exact e_up_s | (rw [e_up_n (by first | assumption | omega)]; first | assumption | exact e_up_s | (rw [e_up_n (by first | assumption | omega)]; first | assumption | exact e_up_s | (rw [e_up_n (by first | assumption | omega)]; first | assumption | exact e_up_s))) | exact hD.1 | exact hD1.1 | exact hD2.1 | exact gD.1 | exact gD1.1 | exact gD2.1 | exact gQ.1 | exact hQ.1 | exact gS.1 | exact hS.1 | exact zD.1) (by omega) (by omega) (by first | decide | omega) dX0_take_73 ?_
        refine e_iinc F dX0_take_74 rfl (by decide) ?_
        refine e_goto F 54 dX0_take_77 (by decide) ?_
        refine e_go (ih (i + 1) (e_up wl (d + 2) (e_ia 7 (e_fu g i (if 0 ≤ i ∧ i < sc2 then B2 i else -1)))) (e_fu g i (if 0 ≤ i ∧ i < sc2 then B2 i else -1)) (by omega) ⟨by omega, by omega, by rw [e_up_n (by omega)]; exact g0, ⟨f, by rw [e_up_n (by omega)]; exact gf, gfA⟩, e_up_s, fun j j0 j1 => ?_, ⟨by rw [e_up_n (by omega)]; exact k0, ⟨f2, by rw [e_up_n (by omega)]; exact kf, kfA⟩, ⟨g2, by rw [e_up_n (by omega)]; exact kg, kgB⟩, hfl2, hdg2, hsc2, hA2, hB2⟩, fun q q1 q2 q3 => by rw [e_up_n q3]; exact hDF q q1 q2 q3⟩) (And.intro rfl (And.intro rfl (And.intro rfl trivial)))
        unfold e_fu
        split
        · rename_i q; rw [q]
        · exact ggB j j0 (by omega)
  have lp : ∀ (N : Nat) (i : Int) (wl : e_W) (f : Int → Int), (8 - i).toNat < N → (1 ≤ i ∧ i ≤ 8 ∧ wl d = some (DO d fl2 dg2 sc2) ∧ wl (d + 1) = some (e_ia 8 f) ∧ (∀ j, 1 ≤ j → j < i → f j = A2 j) ∧ (∃ g, wl (d + 2) = some (e_ia 7 g)) ∧ DL wl o fl2 dg2 sc2 A2 B2 ∧ DF w wl d) → e_V K P9 l E9 (1) (0) S9 M9 A9 B9 T9 C9 3 (fun r w' n' => r = none ∧ n' = n ∧ DL w' d fl2 dg2 sc2 A2 B2 ∧ DF w w' d) (e_px0) 26 [(0, .ref d), (1, .ref o), (2, .int (eI i))] [] wl n (0) := by
    intro N
    induction N with
    | zero => intro i wl f hN; exact absurd hN (Nat.not_lt_zero _)
    | succ N ih =>
      intro i wl f hN ⟨h1, h2, g0, gf, gfA, ⟨g, gg⟩, hO, hDF⟩
      obtain ⟨k0, ⟨f2, kf, kfA⟩, ⟨g2, kg, kgB⟩, hfl2, hdg2, hsc2, hA2, hB2⟩ := hO
      have hO9 : DL wl o fl2 dg2 sc2 A2 B2 := ⟨k0, ⟨f2, kf, kfA⟩, ⟨g2, kg, kgB⟩, hfl2, hdg2, hsc2, hA2, hB2⟩
      refine e_iload_n F dX0_take_26 rfl ?_
      refine e_aload_n F dX0_take_27 rfl ?_
      refine e_get (ci := 0) (fi := 3) (q := (RX0, TX0, 5)) F (by first | assumption | exact e_up_s | (rw [e_up_n (by first | assumption | omega)]; first | assumption | exact e_up_s | (rw [e_up_n (by first | assumption | omega)]; first | assumption | exact e_up_s | (rw [e_up_n (by first | assumption | omega)]; first | assumption | exact e_up_s))) | exact hD.1 | exact hD1.1 | exact hD2.1 | exact gD.1 | exact gD1.1 | exact gD2.1 | exact gQ.1 | exact hQ.1 | exact gS.1 | exact hS.1 | exact zD.1) rfl (by decide) w_fl_RX0_9 (by rfl) dX0_take_28 ?_
      refine e_alenI F (by first | assumption | exact e_up_s | (rw [e_up_n (by first | assumption | omega)]; first | assumption | exact e_up_s | (rw [e_up_n (by first | assumption | omega)]; first | assumption | exact e_up_s | (rw [e_up_n (by first | assumption | omega)]; first | assumption | exact e_up_s))) | exact hD.1 | exact hD1.1 | exact hD2.1 | exact gD.1 | exact gD1.1 | exact gD2.1 | exact gQ.1 | exact hQ.1 | exact gS.1 | exact hS.1 | exact zD.1) dX0_take_31 ?_
      refine e_icmp_ge F 52 dX0_take_32 (by decide) (⟨by omega, by omega⟩) (⟨by omega, by omega⟩) (fun c_32 => ?_) (fun c_32 => ?_)
      · refine e_iconst F dX0_take_52 ?_
        refine e_istore_n F dX0_take_53 (by decide) ?_
        exact e_go (lq 8 0 wl g (by omega) ⟨by omega, by omega, g0, ⟨f, gf, fun j j0 j1 => gfA j j0 (by omega)⟩, gg, fun j j0 j1 => by omega, hO9, hDF⟩) (And.intro rfl (And.intro rfl (And.intro rfl trivial)))
      · refine e_aload_n F dX0_take_35 rfl ?_
        refine e_get (ci := 0) (fi := 3) (q := (RX0, TX0, 5)) F (by first | assumption | exact e_up_s | (rw [e_up_n (by first | assumption | omega)]; first | assumption | exact e_up_s | (rw [e_up_n (by first | assumption | omega)]; first | assumption | exact e_up_s | (rw [e_up_n (by first | assumption | omega)]; first | assumption | exact e_up_s))) | exact hD.1 | exact hD1.1 | exact hD2.1 | exact gD.1 | exact gD1.1 | exact gD2.1 | exact gQ.1 | exact hQ.1 | exact gS.1 | exact hS.1 | exact zD.1) rfl (by decide) w_fl_RX0_9 (by rfl) dX0_take_36 ?_
        refine e_iload_n F dX0_take_39 rfl ?_
        refine e_aload_n F dX0_take_40 rfl ?_
        refine e_iload_n F dX0_take_41 rfl ?_
        refine e_callVV F u_X0_shareAt (by rfl) (c_X0_shareAt hO9 (by omega) (by omega)) k0 rfl rfl w_ml_RX0_32 dX0_take_42 (by rfl) (Nat.le_of_ble_eq_true rfl) (by decide) (by omega) (fun _ _ _ h _ => False.elim h) (fun r_42 w_42 n_42 h_42 hn_42 => ?_)
        obtain ⟨rfl, ew_42, en_42⟩ := h_42
        rw [ew_42, en_42]
        refine e_iast F (by first | assumption | exact e_up_s | (rw [e_up_n (by first | assumption | omega)]; first | assumption | exact e_up_s | (rw [e_up_n (by first | assumption | omega)]; first | assumption | exact e_up_s | (rw [e_up_n (by first | assumption | omega)]; first | assumption | exact e_up_s))) | exact hD.1 | exact hD1.1 | exact hD2.1 | exact gD.1 | exact gD1.1 | exact gD2.1 | exact gQ.1 | exact hQ.1 | exact gS.1 | exact hS.1 | exact zD.1) (by omega) (by omega) (by first | decide | omega) dX0_take_45 ?_
        refine e_iinc F dX0_take_46 rfl (by decide) ?_
        refine e_goto F 26 dX0_take_49 (by decide) ?_
        refine e_go (ih (i + 1) (e_up wl (d + 1) (e_ia 8 (e_fu f i (A2 i)))) (e_fu f i (A2 i)) (by omega) ⟨by omega, by omega, by rw [e_up_n (by omega)]; exact g0, e_up_s, fun j j0 j1 => ?_, ⟨g, by rw [e_up_n (by omega)]; exact gg⟩, ⟨by rw [e_up_n (by omega)]; exact k0, ⟨f2, by rw [e_up_n (by omega)]; exact kf, kfA⟩, ⟨g2, by rw [e_up_n (by omega)]; exact kg, kgB⟩, hfl2, hdg2, hsc2, hA2, hB2⟩, fun q q1 q2 q3 => by rw [e_up_n q2]; exact hDF q q1 q2 q3⟩) (And.intro rfl (And.intro rfl (And.intro rfl trivial)))
        unfold e_fu
        split
        · rename_i q; rw [q]
        · exact gfA j j0 (by omega)
  have hD0 := hD
  obtain ⟨h0, ⟨f, hf, hfA⟩, ⟨g, hg, hgB⟩, hfl, hdg, hsc, hA, hB⟩ := hD
  obtain ⟨k0, ⟨f2, kf, kfA⟩, ⟨g2, kg, kgB⟩, hfl2, hdg2, hsc2, hA2, hB2⟩ := hO
  have hod : o ≠ d := by omega
  refine e_aload_n F dX0_take_0 rfl ?_
  refine e_aload_n F dX0_take_1 rfl ?_
  refine e_get (ci := 0) (fi := 0) (q := (RX0, TX0, 5)) F (by first | assumption | exact e_up_s | (rw [e_up_n (by first | assumption | omega)]; first | assumption | exact e_up_s | (rw [e_up_n (by first | assumption | omega)]; first | assumption | exact e_up_s | (rw [e_up_n (by first | assumption | omega)]; first | assumption | exact e_up_s))) | exact hD.1 | exact hD1.1 | exact hD2.1 | exact gD.1 | exact gD1.1 | exact gD2.1 | exact gQ.1 | exact hQ.1 | exact gS.1 | exact hS.1 | exact zD.1) rfl (by decide) w_fl_RX0_21 (by rfl) dX0_take_2 ?_
  refine e_set (host := "") (ci := 0) (fi := 0) (q := (RX0, TX0, 5)) F (by first | assumption | exact e_up_s | (rw [e_up_n (by first | assumption | omega)]; first | assumption | exact e_up_s | (rw [e_up_n (by first | assumption | omega)]; first | assumption | exact e_up_s | (rw [e_up_n (by first | assumption | omega)]; first | assumption | exact e_up_s))) | exact hD.1 | exact hD1.1 | exact hD2.1 | exact gD.1 | exact gD1.1 | exact gD2.1 | exact gQ.1 | exact hQ.1 | exact gS.1 | exact hS.1 | exact zD.1) rfl (by decide) w_fl_RX0_21 rfl (by rcases hfl2 with h | h <;> rw [h] <;> rfl) (by rcases hfl2 with h | h <;> rw [h] <;> rfl) (Nat.le_of_ble_eq_true rfl) dX0_take_5 ?_
  refine e_aload_n F dX0_take_8 rfl ?_
  refine e_aload_n F dX0_take_9 rfl ?_
  refine e_get (ci := 0) (fi := 1) (q := (RX0, TX0, 5)) F (by first | assumption | exact e_up_s | (rw [e_up_n (by first | assumption | omega)]; first | assumption | exact e_up_s | (rw [e_up_n (by first | assumption | omega)]; first | assumption | exact e_up_s | (rw [e_up_n (by first | assumption | omega)]; first | assumption | exact e_up_s))) | exact hD.1 | exact hD1.1 | exact hD2.1 | exact gD.1 | exact gD1.1 | exact gD2.1 | exact gQ.1 | exact hQ.1 | exact gS.1 | exact hS.1 | exact zD.1) rfl (by decide) w_fl_RX0_25 (by rfl) dX0_take_10 ?_
  refine e_set (host := "") (ci := 0) (fi := 1) (q := (RX0, TX0, 5)) F (by first | assumption | exact e_up_s | (rw [e_up_n (by first | assumption | omega)]; first | assumption | exact e_up_s | (rw [e_up_n (by first | assumption | omega)]; first | assumption | exact e_up_s | (rw [e_up_n (by first | assumption | omega)]; first | assumption | exact e_up_s))) | exact hD.1 | exact hD1.1 | exact hD2.1 | exact gD.1 | exact gD1.1 | exact gD2.1 | exact gQ.1 | exact hQ.1 | exact gS.1 | exact hS.1 | exact zD.1) rfl (by decide) w_fl_RX0_25 rfl (by rfl) (by rfl) (Nat.le_of_ble_eq_true rfl) dX0_take_13 ?_
  refine e_aload_n F dX0_take_16 rfl ?_
  refine e_aload_n F dX0_take_17 rfl ?_
  refine e_get (ci := 0) (fi := 2) (q := (RX0, TX0, 5)) F (by first | assumption | exact e_up_s | (rw [e_up_n (by first | assumption | omega)]; first | assumption | exact e_up_s | (rw [e_up_n (by first | assumption | omega)]; first | assumption | exact e_up_s | (rw [e_up_n (by first | assumption | omega)]; first | assumption | exact e_up_s))) | exact hD.1 | exact hD1.1 | exact hD2.1 | exact gD.1 | exact gD1.1 | exact gD2.1 | exact gQ.1 | exact hQ.1 | exact gS.1 | exact hS.1 | exact zD.1) rfl (by decide) w_fl_RX0_29 (by rfl) dX0_take_18 ?_
  refine e_set (host := "") (ci := 0) (fi := 2) (q := (RX0, TX0, 5)) F (by first | assumption | exact e_up_s | (rw [e_up_n (by first | assumption | omega)]; first | assumption | exact e_up_s | (rw [e_up_n (by first | assumption | omega)]; first | assumption | exact e_up_s | (rw [e_up_n (by first | assumption | omega)]; first | assumption | exact e_up_s))) | exact hD.1 | exact hD1.1 | exact hD2.1 | exact gD.1 | exact gD1.1 | exact gD2.1 | exact gQ.1 | exact hQ.1 | exact gS.1 | exact hS.1 | exact zD.1) rfl (by decide) w_fl_RX0_29 rfl (by rfl) (by rfl) (Nat.le_of_ble_eq_true rfl) dX0_take_21 ?_
  refine e_iconst F dX0_take_24 ?_
  refine e_istore_n F dX0_take_25 (by decide) ?_
  have hn1 : d + 1 ≠ d := by omega
  have hn2 : d + 2 ≠ d := by omega
  have ho1 : o + 1 ≠ d := by omega
  have ho2 : o + 2 ≠ d := by omega
  exact e_go (lp 8 1 _ f (by omega) ⟨by omega, by omega, e_up_s, by simp only [e_up, if_neg hn1]; exact hf, fun j _ _ => by omega, ⟨g, by simp only [e_up, if_neg hn2]; exact hg⟩, ⟨by simp only [e_up, if_neg hod]; exact k0, ⟨f2, by simp only [e_up, if_neg ho1]; exact kf, kfA⟩, ⟨g2, by simp only [e_up, if_neg ho2]; exact kg, kgB⟩, hfl2, hdg2, hsc2, hA2, hB2⟩, fun q q1 _ _ => by simp only [e_up, if_neg q1]⟩) (And.intro rfl (And.intro rfl (And.intro rfl trivial)))
set_option maxHeartbeats 4000000 in
set_option maxRecDepth 100000 in
theorem c_X0_takeS {K : e_K} {l : Launch} {w : e_W} {n : Nat} {d : Nat} {fl dg sc : Int} {A B : Int → Int} (hD : DL w d fl dg sc A B) : e_Met K l yX0_take (Cond.code yX0_take cX0_take 3 none :: e_TB) (1) (0) [.ref d, .ref d] w n (fun r w' n' => r = none ∧ n' = n ∧ DL w' d fl dg sc A B ∧ DF w w' d) (e_px0) := by
  refine e_ofV rfl (Nat.le_of_ble_eq_true rfl) ?_
  intro P9 E9 S9 M9 A9 B9 T9 C9 F hnm
  have lq : ∀ (N : Nat) (i : Int) (wl : e_W), (7 - i).toNat < N → (0 ≤ i ∧ i ≤ 7 ∧ DL wl d fl dg sc A B ∧ DF w wl d) → e_V K P9 l E9 (1) (0) S9 M9 A9 B9 T9 C9 3 (fun r w' n' => r = none ∧ n' = n ∧ DL w' d fl dg sc A B ∧ DF w w' d) (e_px0) 54 [(0, .ref d), (1, .ref d), (2, .int (eI i))] [] wl n (0) := by
    intro N
    induction N with
    | zero => intro i wl hN; exact absurd hN (Nat.not_lt_zero _)
    | succ N ih =>
      intro i wl hN ⟨h1, h2, hD, hDF⟩
      have hD0 := hD
      obtain ⟨h0, ⟨f, hf, hfA⟩, ⟨g, hg, hgB⟩, hfl, hdg, hsc, hA, hB⟩ := hD
      refine e_iload_n F dX0_take_54 rfl ?_
      refine e_aload_n F dX0_take_55 rfl ?_
      refine e_get (ci := 0) (fi := 4) (q := (RX0, TX0, 5)) F (by first | assumption | exact e_up_s | (rw [e_up_n (by first | assumption | omega)]; first | assumption | exact e_up_s | (rw [e_up_n (by first | assumption | omega)]; first | assumption | exact e_up_s | (rw [e_up_n (by first | assumption | omega)]; first | assumption | exact e_up_s))) | exact hD.1 | exact hD1.1 | exact hD2.1 | exact gD.1 | exact gD1.1 | exact gD2.1 | exact gQ.1 | exact hQ.1 | exact gS.1 | exact hS.1 | exact zD.1) rfl (by decide) w_fl_RX0_15 (by rfl) dX0_take_56 ?_
      refine e_alenI F (by first | assumption | exact e_up_s | (rw [e_up_n (by first | assumption | omega)]; first | assumption | exact e_up_s | (rw [e_up_n (by first | assumption | omega)]; first | assumption | exact e_up_s | (rw [e_up_n (by first | assumption | omega)]; first | assumption | exact e_up_s))) | exact hD.1 | exact hD1.1 | exact hD2.1 | exact gD.1 | exact gD1.1 | exact gD2.1 | exact gQ.1 | exact hQ.1 | exact gS.1 | exact hS.1 | exact zD.1) dX0_take_59 ?_
      refine e_icmp_ge F 80 dX0_take_60 (by decide) (⟨by omega, by omega⟩) (⟨by omega, by omega⟩) (fun c_60 => ?_) (fun c_60 => ?_)
      · refine e_vret F rfl (by omega) ?_ dX0_take_80
        exact ⟨rfl, rfl, hD0, hDF⟩
      · refine e_aload_n F dX0_take_63 rfl ?_
        refine e_get (ci := 0) (fi := 4) (q := (RX0, TX0, 5)) F (by first | assumption | exact e_up_s | (rw [e_up_n (by first | assumption | omega)]; first | assumption | exact e_up_s | (rw [e_up_n (by first | assumption | omega)]; first | assumption | exact e_up_s | (rw [e_up_n (by first | assumption | omega)]; first | assumption | exact e_up_s))) | exact hD.1 | exact hD1.1 | exact hD2.1 | exact gD.1 | exact gD1.1 | exact gD2.1 | exact gQ.1 | exact hQ.1 | exact gS.1 | exact hS.1 | exact zD.1) rfl (by decide) w_fl_RX0_15 (by rfl) dX0_take_64 ?_
        refine e_iload_n F dX0_take_67 rfl ?_
        refine e_aload_n F dX0_take_68 rfl ?_
        refine e_iload_n F dX0_take_69 rfl ?_
        refine e_callVV F u_X0_sealAt (by rfl) (c_X0_sealAt hD0 ⟨by omega, by omega⟩) h0 rfl rfl w_ml_RX0_36 dX0_take_70 (by rfl) (Nat.le_of_ble_eq_true rfl) (by decide) (by omega) (fun _ _ _ h _ => False.elim h) (fun r_70 w_70 n_70 h_70 hn_70 => ?_)
        obtain ⟨rfl, ew_70, en_70⟩ := h_70
        rw [ew_70, en_70]
        refine e_iast F (by first | assumption | exact e_up_s | (rw [e_up_n (by first | assumption | omega)]; first | assumption | exact e_up_s | (rw [e_up_n (by first | assumption | omega)]; first | assumption | exact e_up_s | (rw [e_up_n (by first | assumption | omega)]; first | assumption | exact e_up_s))) | exact hD.1 | exact hD1.1 | exact hD2.1 | exact gD.1 | exact gD1.1 | exact gD2.1 | exact gQ.1 | exact hQ.1 | exact gS.1 | exact hS.1 | exact zD.1) (by omega) (by omega) (by first | decide | omega) dX0_take_73 ?_
        refine e_iinc F dX0_take_74 rfl (by decide) ?_
        refine e_goto F 54 dX0_take_77 (by decide) ?_
        refine e_go (ih (i + 1) (e_up wl (d + 2) (e_ia 7 (e_fu g i (if 0 ≤ i ∧ i < sc then B i else -1)))) (by omega) ⟨by omega, by omega, ⟨by rw [e_up_n (by omega)]; exact h0, ⟨f, by rw [e_up_n (by omega)]; exact hf, hfA⟩, ⟨_, e_up_s, fun j j0 j1 => ?_⟩, hfl, hdg, hsc, hA, hB⟩, fun q q1 q2 q3 => by rw [e_up_n q3]; exact hDF q q1 q2 q3⟩) (And.intro rfl (And.intro rfl (And.intro rfl trivial)))
        unfold e_fu
        split
        · rename_i q; rw [← q, if_pos ⟨j0, j1⟩]
        · exact hgB j j0 j1
  have lp : ∀ (N : Nat) (i : Int) (wl : e_W), (8 - i).toNat < N → (1 ≤ i ∧ i ≤ 8 ∧ DL wl d fl dg sc A B ∧ DF w wl d) → e_V K P9 l E9 (1) (0) S9 M9 A9 B9 T9 C9 3 (fun r w' n' => r = none ∧ n' = n ∧ DL w' d fl dg sc A B ∧ DF w w' d) (e_px0) 26 [(0, .ref d), (1, .ref d), (2, .int (eI i))] [] wl n (0) := by
    intro N
    induction N with
    | zero => intro i wl hN; exact absurd hN (Nat.not_lt_zero _)
    | succ N ih =>
      intro i wl hN ⟨h1, h2, hD, hDF⟩
      have hD0 := hD
      obtain ⟨h0, ⟨f, hf, hfA⟩, ⟨g, hg, hgB⟩, hfl, hdg, hsc, hA, hB⟩ := hD
      refine e_iload_n F dX0_take_26 rfl ?_
      refine e_aload_n F dX0_take_27 rfl ?_
      refine e_get (ci := 0) (fi := 3) (q := (RX0, TX0, 5)) F (by first | assumption | exact e_up_s | (rw [e_up_n (by first | assumption | omega)]; first | assumption | exact e_up_s | (rw [e_up_n (by first | assumption | omega)]; first | assumption | exact e_up_s | (rw [e_up_n (by first | assumption | omega)]; first | assumption | exact e_up_s))) | exact hD.1 | exact hD1.1 | exact hD2.1 | exact gD.1 | exact gD1.1 | exact gD2.1 | exact gQ.1 | exact hQ.1 | exact gS.1 | exact hS.1 | exact zD.1) rfl (by decide) w_fl_RX0_9 (by rfl) dX0_take_28 ?_
      refine e_alenI F (by first | assumption | exact e_up_s | (rw [e_up_n (by first | assumption | omega)]; first | assumption | exact e_up_s | (rw [e_up_n (by first | assumption | omega)]; first | assumption | exact e_up_s | (rw [e_up_n (by first | assumption | omega)]; first | assumption | exact e_up_s))) | exact hD.1 | exact hD1.1 | exact hD2.1 | exact gD.1 | exact gD1.1 | exact gD2.1 | exact gQ.1 | exact hQ.1 | exact gS.1 | exact hS.1 | exact zD.1) dX0_take_31 ?_
      refine e_icmp_ge F 52 dX0_take_32 (by decide) (⟨by omega, by omega⟩) (⟨by omega, by omega⟩) (fun c_32 => ?_) (fun c_32 => ?_)
      · refine e_iconst F dX0_take_52 ?_
        refine e_istore_n F dX0_take_53 (by decide) ?_
        exact e_go (lq 8 0 wl (by omega) ⟨by omega, by omega, hD0, hDF⟩) (And.intro rfl (And.intro rfl (And.intro rfl trivial)))
      · refine e_aload_n F dX0_take_35 rfl ?_
        refine e_get (ci := 0) (fi := 3) (q := (RX0, TX0, 5)) F (by first | assumption | exact e_up_s | (rw [e_up_n (by first | assumption | omega)]; first | assumption | exact e_up_s | (rw [e_up_n (by first | assumption | omega)]; first | assumption | exact e_up_s | (rw [e_up_n (by first | assumption | omega)]; first | assumption | exact e_up_s))) | exact hD.1 | exact hD1.1 | exact hD2.1 | exact gD.1 | exact gD1.1 | exact gD2.1 | exact gQ.1 | exact hQ.1 | exact gS.1 | exact hS.1 | exact zD.1) rfl (by decide) w_fl_RX0_9 (by rfl) dX0_take_36 ?_
        refine e_iload_n F dX0_take_39 rfl ?_
        refine e_aload_n F dX0_take_40 rfl ?_
        refine e_iload_n F dX0_take_41 rfl ?_
        refine e_callVV F u_X0_shareAt (by rfl) (c_X0_shareAt hD0 (by omega) (by omega)) h0 rfl rfl w_ml_RX0_32 dX0_take_42 (by rfl) (Nat.le_of_ble_eq_true rfl) (by decide) (by omega) (fun _ _ _ h _ => False.elim h) (fun r_42 w_42 n_42 h_42 hn_42 => ?_)
        obtain ⟨rfl, ew_42, en_42⟩ := h_42
        rw [ew_42, en_42]
        refine e_iast F (by first | assumption | exact e_up_s | (rw [e_up_n (by first | assumption | omega)]; first | assumption | exact e_up_s | (rw [e_up_n (by first | assumption | omega)]; first | assumption | exact e_up_s | (rw [e_up_n (by first | assumption | omega)]; first | assumption | exact e_up_s))) | exact hD.1 | exact hD1.1 | exact hD2.1 | exact gD.1 | exact gD1.1 | exact gD2.1 | exact gQ.1 | exact hQ.1 | exact gS.1 | exact hS.1 | exact zD.1) (by omega) (by omega) (by first | decide | omega) dX0_take_45 ?_
        refine e_iinc F dX0_take_46 rfl (by decide) ?_
        refine e_goto F 26 dX0_take_49 (by decide) ?_
        refine e_go (ih (i + 1) (e_up wl (d + 1) (e_ia 8 (e_fu f i (A i)))) (by omega) ⟨by omega, by omega, ⟨by rw [e_up_n (by omega)]; exact h0, ⟨_, e_up_s, fun j j0 j1 => ?_⟩, ⟨g, by rw [e_up_n (by omega)]; exact hg, hgB⟩, hfl, hdg, hsc, hA, hB⟩, fun q q1 q2 q3 => by rw [e_up_n q2]; exact hDF q q1 q2 q3⟩) (And.intro rfl (And.intro rfl (And.intro rfl trivial)))
        unfold e_fu
        split
        · rename_i q; rw [q]
        · exact hfA j j0 j1
  have hD0 := hD
  obtain ⟨h0, ⟨f, hf, hfA⟩, ⟨g, hg, hgB⟩, hfl, hdg, hsc, hA, hB⟩ := hD
  refine e_aload_n F dX0_take_0 rfl ?_
  refine e_aload_n F dX0_take_1 rfl ?_
  refine e_get (ci := 0) (fi := 0) (q := (RX0, TX0, 5)) F (by first | assumption | exact e_up_s | (rw [e_up_n (by first | assumption | omega)]; first | assumption | exact e_up_s | (rw [e_up_n (by first | assumption | omega)]; first | assumption | exact e_up_s | (rw [e_up_n (by first | assumption | omega)]; first | assumption | exact e_up_s))) | exact hD.1 | exact hD1.1 | exact hD2.1 | exact gD.1 | exact gD1.1 | exact gD2.1 | exact gQ.1 | exact hQ.1 | exact gS.1 | exact hS.1 | exact zD.1) rfl (by decide) w_fl_RX0_21 (by rfl) dX0_take_2 ?_
  refine e_set (host := "") (ci := 0) (fi := 0) (q := (RX0, TX0, 5)) F (by first | assumption | exact e_up_s | (rw [e_up_n (by first | assumption | omega)]; first | assumption | exact e_up_s | (rw [e_up_n (by first | assumption | omega)]; first | assumption | exact e_up_s | (rw [e_up_n (by first | assumption | omega)]; first | assumption | exact e_up_s))) | exact hD.1 | exact hD1.1 | exact hD2.1 | exact gD.1 | exact gD1.1 | exact gD2.1 | exact gQ.1 | exact hQ.1 | exact gS.1 | exact hS.1 | exact zD.1) rfl (by decide) w_fl_RX0_21 rfl (by rcases hfl with h | h <;> rw [h] <;> rfl) (by rcases hfl with h | h <;> rw [h] <;> rfl) (Nat.le_of_ble_eq_true rfl) dX0_take_5 ?_
  refine e_aload_n F dX0_take_8 rfl ?_
  refine e_aload_n F dX0_take_9 rfl ?_
  refine e_get (ci := 0) (fi := 1) (q := (RX0, TX0, 5)) F (by first | assumption | exact e_up_s | (rw [e_up_n (by first | assumption | omega)]; first | assumption | exact e_up_s | (rw [e_up_n (by first | assumption | omega)]; first | assumption | exact e_up_s | (rw [e_up_n (by first | assumption | omega)]; first | assumption | exact e_up_s))) | exact hD.1 | exact hD1.1 | exact hD2.1 | exact gD.1 | exact gD1.1 | exact gD2.1 | exact gQ.1 | exact hQ.1 | exact gS.1 | exact hS.1 | exact zD.1) rfl (by decide) w_fl_RX0_25 (by rfl) dX0_take_10 ?_
  refine e_set (host := "") (ci := 0) (fi := 1) (q := (RX0, TX0, 5)) F (by first | assumption | exact e_up_s | (rw [e_up_n (by first | assumption | omega)]; first | assumption | exact e_up_s | (rw [e_up_n (by first | assumption | omega)]; first | assumption | exact e_up_s | (rw [e_up_n (by first | assumption | omega)]; first | assumption | exact e_up_s))) | exact hD.1 | exact hD1.1 | exact hD2.1 | exact gD.1 | exact gD1.1 | exact gD2.1 | exact gQ.1 | exact hQ.1 | exact gS.1 | exact hS.1 | exact zD.1) rfl (by decide) w_fl_RX0_25 rfl (by rfl) (by rfl) (Nat.le_of_ble_eq_true rfl) dX0_take_13 ?_
  refine e_aload_n F dX0_take_16 rfl ?_
  refine e_aload_n F dX0_take_17 rfl ?_
  refine e_get (ci := 0) (fi := 2) (q := (RX0, TX0, 5)) F (by first | assumption | exact e_up_s | (rw [e_up_n (by first | assumption | omega)]; first | assumption | exact e_up_s | (rw [e_up_n (by first | assumption | omega)]; first | assumption | exact e_up_s | (rw [e_up_n (by first | assumption | omega)]; first | assumption | exact e_up_s))) | exact hD.1 | exact hD1.1 | exact hD2.1 | exact gD.1 | exact gD1.1 | exact gD2.1 | exact gQ.1 | exact hQ.1 | exact gS.1 | exact hS.1 | exact zD.1) rfl (by decide) w_fl_RX0_29 (by rfl) dX0_take_18 ?_
  refine e_set (host := "") (ci := 0) (fi := 2) (q := (RX0, TX0, 5)) F (by first | assumption | exact e_up_s | (rw [e_up_n (by first | assumption | omega)]; first | assumption | exact e_up_s | (rw [e_up_n (by first | assumption | omega)]; first | assumption | exact e_up_s | (rw [e_up_n (by first | assumption | omega)]; first | assumption | exact e_up_s))) | exact hD.1 | exact hD1.1 | exact hD2.1 | exact gD.1 | exact gD1.1 | exact gD2.1 | exact gQ.1 | exact hQ.1 | exact gS.1 | exact hS.1 | exact zD.1) rfl (by decide) w_fl_RX0_29 rfl (by rfl) (by rfl) (Nat.le_of_ble_eq_true rfl) dX0_take_21 ?_
  refine e_iconst F dX0_take_24 ?_
  refine e_istore_n F dX0_take_25 (by decide) ?_
  have hn1 : d + 1 ≠ d := by omega
  have hn2 : d + 2 ≠ d := by omega
  exact e_go (lp 8 1 _ (by omega) ⟨by omega, by omega, ⟨e_up_s, ⟨f, by simp only [e_up, if_neg hn1]; exact hf, hfA⟩, ⟨g, by simp only [e_up, if_neg hn2]; exact hg, hgB⟩, hfl, hdg, hsc, hA, hB⟩, fun q q1 _ _ => by simp only [e_up, if_neg q1]⟩) (And.intro rfl (And.intro rfl (And.intro rfl trivial)))
end
-- 15.poly.lean.txt
section
/-! Poly -/
abbrev PO (a : Nat) : e_C := .inl (2, [.ref (a + 1), .ref (a + 2)])
def PR (p : Int) (P : Int → Int) : Prop := ∀ j, 0 ≤ j → j < 7 → 0 ≤ P j ∧ P j < p
def PL (w : e_W) (a : Nat) (P : Int → Int) : Prop := w a = some (PO a) ∧ PA w (a + 1) 7 0 7 P ∧ (∃ t, w (a + 2) = some (e_ia 7 t)) ∧ PR 1000003 P
def PF (w w' : e_W) (a : Nat) : Prop := ∀ q, q ≠ a + 1 → q ≠ a + 2 → w' q = w q
theorem PL.to {w : e_W} {a : Nat} {P Q : Int → Int} (h : PL w a P) (hq : ∀ j, 0 ≤ j → j < 7 → P j = Q j) : PL w a Q := by
  obtain ⟨h0, ⟨f, hf, hfP⟩, ht, hr⟩ := h
  exact ⟨h0, ⟨f, hf, fun j j0 j1 => by rw [hfP j j0 j1, hq j j0 j1]⟩, ht, fun j j0 j1 => by rw [← hq j j0 j1]; exact hr j j0 j1⟩
theorem FO_ne {w : e_W} {f a N : Nat} {g : Int → Int} {wh : Nat} (h1 : w f = some (FO wh)) (h2 : w a = some (e_ia N g)) : f ≠ a := by
  intro e
  rw [e, h2] at h1
  cases h1
def bcm (p dg a b c d : Int) : Int → Int := fun j => if j = 0 then a % p else if j = 1 then (if 1 ≤ dg then b % p else 0) else if j = 2 then (if 2 ≤ dg then c % p else 0) else if j = 3 then (if 3 ≤ dg then d % p else 0) else 0
/-- the value by steps from the greatest coefficient on -/
def hz (p x : Int) (P : Int → Int) : Nat → Int
  | 0 => 0
  | j + 1 => (hz p x P j * x + P (6 - (j : Int))) % p
theorem hz_rg {p x : Int} {P : Int → Int} (hp : 0 < p) (j : Nat) : 0 ≤ hz p x P j ∧ hz p x P j < p := by
  cases j with
  | zero => unfold hz; omega
  | succ j => unfold hz; exact ⟨Int.emod_nonneg _ (by omega), Int.emod_lt_of_pos _ hp⟩
def hiK (P : Int → Int) : Nat → Int
  | 0 => -1
  | j + 1 => if P (j : Int) ≠ 0 then (j : Int) else hiK P j
def tmS (p o : Int) (t : Int → Int) : Int → Int := fun c => ((if 0 < c then t (c - 1) else 0) - o * t c) % p
def tm (p h set : Int) : Nat → Int → Int
  | 0 => fun c => if c = 0 then 1 else 0
  | k + 1 => if ((k : Int) + 1 ≠ h ∧ hs set ((k : Int) + 1)) then tmS p ((k : Int) + 1) (tm p h set k) else tm p h set k
theorem tm_rg {p h set : Int} (hp : 2 ≤ p) (k : Nat) (c : Int) : 0 ≤ tm p h set k c ∧ tm p h set k c < p := by
  induction k generalizing c with
  | zero => unfold tm; split <;> omega
  | succ k ih =>
    unfold tm
    split
    · exact ⟨Int.emod_nonneg _ (by omega), Int.emod_lt_of_pos _ (by omega)⟩
    · exact ih c
def fac (wh : Nat) (set : Int) (A : Int → Int) (h : Int) : Int := A h * iv wh (wpr (pr wh) h h set (ho wh).toNat) % pr wh
def gt (wh : Nat) (set : Int) (A : Int → Int) : Nat → Int → Int
  | 0 => fun _ => 0
  | k + 1 => if hs set ((k : Int) + 1) then fun c => (gt wh set A k c + fac wh set A ((k : Int) + 1) * tm (pr wh) ((k : Int) + 1) set (ho wh).toNat c) % pr wh else gt wh set A k
theorem mul_rg3 {a b c : Int} (ha : 0 ≤ a) (ha2 : a ≤ 36000109) (hb : -2147483700 ≤ b) (hb2 : b ≤ 2147483700) (hc : -2147483700 ≤ c) (hc2 : c ≤ 2147483700) : e_r8 (c + a * b) ∧ e_r8 (a * b + c) ∧ e_r8 (c - a * b) := by
  have h1 : a * b ≤ a * 2147483700 := Int.mul_le_mul_of_nonneg_left hb2 ha
  have h2 : a * (-2147483700) ≤ a * b := Int.mul_le_mul_of_nonneg_left hb ha
  refine ⟨⟨?_, ?_⟩, ⟨?_, ?_⟩, ⟨?_, ?_⟩⟩ <;> omega
set_option maxHeartbeats 4000000 in
set_option maxRecDepth 100000 in
theorem c_X2_clear {K : e_K} {l : Launch} {w : e_W} {n : Nat} {a : Nat} {g : Int → Int} (h0 : w a = some (PO a)) (hg : w (a + 1) = some (e_ia 7 g)) : e_Met K l yX2_clear (Cond.code yX2_clear cX2_clear 2 none :: e_TB) (0) (0) [.ref a] w n (fun r w' n' => r = none ∧ n' = n ∧ w' a = some (PO a) ∧ (∃ f', w' (a + 1) = some (e_ia 7 f') ∧ ∀ j, 0 ≤ j → j < 7 → f' j = 0) ∧ ∀ q, q ≠ a + 1 → w' q = w q) (e_px0) := by
  refine e_ofV rfl (Nat.le_of_ble_eq_true rfl) ?_
  intro P9 E9 S9 M9 A9 B9 T9 C9 F hnm
  have lp : ∀ (N : Nat) (i : Int) (wl : e_W) (g : Int → Int), (7 - i).toNat < N → (0 ≤ i ∧ i ≤ 7 ∧ wl a = some (PO a) ∧ wl (a + 1) = some (e_ia 7 g) ∧ (∀ j, 0 ≤ j → j < i → g j = 0) ∧ ∀ q, q ≠ a + 1 → wl q = w q) → e_V K P9 l E9 (0) (0) S9 M9 A9 B9 T9 C9 2 (fun r w' n' => r = none ∧ n' = n ∧ w' a = some (PO a) ∧ (∃ f', w' (a + 1) = some (e_ia 7 f') ∧ ∀ j, 0 ≤ j → j < 7 → f' j = 0) ∧ ∀ q, q ≠ a + 1 → w' q = w q) (e_px0) 2 [(0, .ref a), (1, .int (eI i))] [] wl n (0) := by
    intro N
    induction N with
    | zero => intro i wl g hN; exact absurd hN (Nat.not_lt_zero _)
    | succ N ih =>
      intro i wl g hN ⟨h1, h2, h3, h4, h5, h6⟩
      refine e_iload_n F dX2_clear_2 rfl ?_
      refine e_aload_n F dX2_clear_3 rfl ?_
      refine e_get (ci := 2) (fi := 0) (q := (RX2, TX2, 2)) F (by first | assumption | exact e_up_s | (rw [e_up_n (by first | assumption | omega)]; first | assumption | exact e_up_s | (rw [e_up_n (by first | assumption | omega)]; first | assumption | exact e_up_s | (rw [e_up_n (by first | assumption | omega)]; first | assumption | exact e_up_s))) | exact hD.1 | exact hD1.1 | exact hD2.1 | exact gD.1 | exact gD1.1 | exact gD2.1 | exact gQ.1 | exact hQ.1 | exact gS.1 | exact hS.1 | exact zD.1) rfl (by decide) w_fl_RX2_9 (by rfl) dX2_clear_4 ?_
      refine e_alenI F (by first | assumption | exact e_up_s | (rw [e_up_n (by first | assumption | omega)]; first | assumption | exact e_up_s | (rw [e_up_n (by first | assumption | omega)]; first | assumption | exact e_up_s | (rw [e_up_n (by first | assumption | omega)]; first | assumption | exact e_up_s))) | exact hD.1 | exact hD1.1 | exact hD2.1 | exact gD.1 | exact gD1.1 | exact gD2.1 | exact gQ.1 | exact hQ.1 | exact gS.1 | exact hS.1 | exact zD.1) dX2_clear_7 ?_
      refine e_icmp_ge F 24 dX2_clear_8 (by decide) (⟨by omega, by omega⟩) (⟨by omega, by omega⟩) (fun c_8 => ?_) (fun c_8 => ?_)
      · refine e_vret F rfl (by omega) ?_ dX2_clear_24
        exact ⟨rfl, rfl, h3, ⟨g, h4, fun j j0 j1 => h5 j j0 (by omega)⟩, h6⟩
      · refine e_aload_n F dX2_clear_11 rfl ?_
        refine e_get (ci := 2) (fi := 0) (q := (RX2, TX2, 2)) F (by first | assumption | exact e_up_s | (rw [e_up_n (by first | assumption | omega)]; first | assumption | exact e_up_s | (rw [e_up_n (by first | assumption | omega)]; first | assumption | exact e_up_s | (rw [e_up_n (by first | assumption | omega)]; first | assumption | exact e_up_s))) | exact hD.1 | exact hD1.1 | exact hD2.1 | exact gD.1 | exact gD1.1 | exact gD2.1 | exact gQ.1 | exact hQ.1 | exact gS.1 | exact hS.1 | exact zD.1) rfl (by decide) w_fl_RX2_9 (by rfl) dX2_clear_12 ?_
        refine e_iload_n F dX2_clear_15 rfl ?_
        refine e_iconst F dX2_clear_16 ?_
        refine e_iast F (by first | assumption | exact e_up_s | (rw [e_up_n (by first | assumption | omega)]; first | assumption | exact e_up_s | (rw [e_up_n (by first | assumption | omega)]; first | assumption | exact e_up_s | (rw [e_up_n (by first | assumption | omega)]; first | assumption | exact e_up_s))) | exact hD.1 | exact hD1.1 | exact hD2.1 | exact gD.1 | exact gD1.1 | exact gD2.1 | exact gQ.1 | exact hQ.1 | exact gS.1 | exact hS.1 | exact zD.1) (by omega) (by omega) (by first | decide | omega) dX2_clear_17 ?_
        refine e_iinc F dX2_clear_18 rfl (by decide) ?_
        refine e_goto F 2 dX2_clear_21 (by decide) ?_
        refine e_go (ih (i + 1) (e_up wl (a + 1) (e_ia 7 (e_fu g i 0))) (e_fu g i 0) (by omega) ⟨by omega, by omega, by rw [e_up_n (by omega)]; exact h3, e_up_s, fun j j0 j1 => ?_, fun q hq1 => by rw [e_up_n hq1]; exact h6 q hq1⟩) (And.intro rfl (And.intro rfl (trivial)))
        unfold e_fu
        split
        · rfl
        · exact h5 j j0 (by omega)
  refine e_iconst F dX2_clear_0 ?_
  refine e_istore_n F dX2_clear_1 (by decide) ?_
  exact e_go (lp 8 0 w g (by omega) ⟨by omega, by omega, h0, hg, fun j _ _ => by omega, fun q _ => rfl⟩) (And.intro rfl (And.intro rfl (trivial)))
set_option maxHeartbeats 4000000 in
set_option maxRecDepth 100000 in
theorem c_X2_init {K : e_K} {l : Launch} {w : e_W} {n : Nat} {a : Nat} {v0 v1 : Value} (h0 : w a = some (.inl (2, [v0, v1]))) (hn : n = a + 1) : e_Met K l yX2_init (Cond.code yX2_init cX2_init 1 none :: e_TB) (1) (2) [.ref a] w n (fun r w' n' => r = none ∧ n' = a + 3 ∧ PL w' a (fun _ => 0) ∧ ∀ q, q < a → w' q = w q) (e_px0) := by
  refine e_ofV rfl (Nat.le_of_ble_eq_true rfl) ?_
  intro P9 E9 S9 M9 A9 B9 T9 C9 F hnm
  subst hn
  refine e_aload_n F dX2_init_0 rfl ?_
  refine e_oinit F w_ml_RX2_3 w_im_java_lang_Object__init____V w_co_oinit (Nat.le_of_ble_eq_true rfl) (by decide) dX2_init_1 ?_
  refine e_aload_n F dX2_init_4 rfl ?_
  refine e_bipush F dX2_init_5 (by decide) ?_
  refine e_newI F (N := 7) (by first | rfl | omega) (by decide) (by omega) w_ac_int dX2_init_7 ?_
  refine e_setF (host := "") (ci := 2) (fi := 0) (q := (RX2, TX2, 2)) F (by first | assumption | exact e_up_s | (rw [e_up_n (by first | assumption | omega)]; first | assumption | exact e_up_s | (rw [e_up_n (by first | assumption | omega)]; first | assumption | exact e_up_s | (rw [e_up_n (by first | assumption | omega)]; first | assumption | exact e_up_s))) | exact hD.1 | exact hD1.1 | exact hD2.1 | exact gD.1 | exact gD1.1 | exact gD2.1 | exact gQ.1 | exact hQ.1 | exact gS.1 | exact hS.1 | exact zD.1) rfl (by decide) w_fl_RX2_9 hnm rfl rfl rfl (by rfl) (Nat.le_of_ble_eq_true rfl) dX2_init_9 ?_
  refine e_aload_n F dX2_init_12 rfl ?_
  refine e_bipush F dX2_init_13 (by decide) ?_
  refine e_newI F (N := 7) (by first | rfl | omega) (by decide) (by omega) w_ac_int dX2_init_15 ?_
  refine e_setF (host := "") (ci := 2) (fi := 1) (q := (RX2, TX2, 2)) F (by first | assumption | exact e_up_s | (rw [e_up_n (by first | assumption | omega)]; first | assumption | exact e_up_s | (rw [e_up_n (by first | assumption | omega)]; first | assumption | exact e_up_s | (rw [e_up_n (by first | assumption | omega)]; first | assumption | exact e_up_s))) | exact hD.1 | exact hD1.1 | exact hD2.1 | exact gD.1 | exact gD1.1 | exact gD2.1 | exact gQ.1 | exact hQ.1 | exact gS.1 | exact hS.1 | exact zD.1) rfl (by decide) w_fl_RX2_15 hnm rfl rfl rfl (by rfl) (Nat.le_of_ble_eq_true rfl) dX2_init_17 ?_
  refine e_vret F rfl (by omega) ?_ dX2_init_20
  have hne1 : a + 1 ≠ a := by omega
  have hne2 : a + 1 + 1 ≠ a := by omega
  have hne4 : a + 1 ≠ a + 1 + 1 := by omega
  refine ⟨rfl, rfl, ⟨e_up_s, ⟨fun _ => 0, by simp only [e_up, if_neg hne1, if_neg hne4]; rfl, fun j _ _ => rfl⟩, ⟨fun _ => 0, ?_⟩, fun j _ _ => by dsimp only; omega⟩, fun q hq => ?_⟩
  · show e_up _ a _ (a + 1 + 1) = _
    rw [e_up_n hne2, e_up_s]
  · rw [e_up_n (by omega), e_up_n (by omega), e_up_n (by omega), e_up_n (by omega)]
set_option maxHeartbeats 4000000 in
set_option maxRecDepth 100000 in
theorem c_X2_at {K : e_K} {l : Launch} {w : e_W} {n : Nat} {a : Nat} {P : Int → Int} (hQ : PL w a P) {h : Int} (h1 : e_r h) : e_Met K l yX2_at (Cond.code yX2_at cX2_at 2 (Option.some .int) :: e_TB) (0) (0) [.ref a, .int (eI h)] w n (fun r w' n' => r = some (.int (eI (if 0 ≤ h ∧ h < 7 then P h else 0))) ∧ w' = w ∧ n' = n) (e_px0) := by
  refine e_ofV rfl (Nat.le_of_ble_eq_true rfl) ?_
  intro P9 E9 S9 M9 A9 B9 T9 C9 F hnm
  have hQ0 := hQ
  obtain ⟨h0, ⟨P9f, hf, hfP⟩, ⟨t, ht⟩, hr⟩ := hQ
  refine e_iload_n F dX2_at_0 rfl ?_
  refine e_if_lt F 22 dX2_at_1 (by decide) (h1) (fun c_1 => ?_) (fun c_1 => ?_)
  · refine e_iconst F dX2_at_22 ?_
    refine e_iret F rfl (by omega) ?_ dX2_at_23
    refine ⟨?_, rfl, rfl⟩
    first | rw [if_neg (by omega)] | rw [if_pos (by omega), hfP h (by omega) (by omega)]
  · refine e_iload_n F dX2_at_4 rfl ?_
    refine e_aload_n F dX2_at_5 rfl ?_
    refine e_get (ci := 2) (fi := 0) (q := (RX2, TX2, 2)) F (by first | assumption | exact e_up_s | (rw [e_up_n (by first | assumption | omega)]; first | assumption | exact e_up_s | (rw [e_up_n (by first | assumption | omega)]; first | assumption | exact e_up_s | (rw [e_up_n (by first | assumption | omega)]; first | assumption | exact e_up_s))) | exact hD.1 | exact hD1.1 | exact hD2.1 | exact gD.1 | exact gD1.1 | exact gD2.1 | exact gQ.1 | exact hQ.1 | exact gS.1 | exact hS.1 | exact zD.1) rfl (by decide) w_fl_RX2_9 (by rfl) dX2_at_6 ?_
    refine e_alenI F (by first | assumption | exact e_up_s | (rw [e_up_n (by first | assumption | omega)]; first | assumption | exact e_up_s | (rw [e_up_n (by first | assumption | omega)]; first | assumption | exact e_up_s | (rw [e_up_n (by first | assumption | omega)]; first | assumption | exact e_up_s))) | exact hD.1 | exact hD1.1 | exact hD2.1 | exact gD.1 | exact gD1.1 | exact gD2.1 | exact gQ.1 | exact hQ.1 | exact gS.1 | exact hS.1 | exact zD.1) dX2_at_9 ?_
    refine e_icmp_ge F 22 dX2_at_10 (by decide) (h1) (⟨by omega, by omega⟩) (fun c_10 => ?_) (fun c_10 => ?_)
    · refine e_iconst F dX2_at_22 ?_
      refine e_iret F rfl (by omega) ?_ dX2_at_23
      refine ⟨?_, rfl, rfl⟩
      first | rw [if_neg (by omega)] | rw [if_pos (by omega), hfP h (by omega) (by omega)]
    · refine e_aload_n F dX2_at_13 rfl ?_
      refine e_get (ci := 2) (fi := 0) (q := (RX2, TX2, 2)) F (by first | assumption | exact e_up_s | (rw [e_up_n (by first | assumption | omega)]; first | assumption | exact e_up_s | (rw [e_up_n (by first | assumption | omega)]; first | assumption | exact e_up_s | (rw [e_up_n (by first | assumption | omega)]; first | assumption | exact e_up_s))) | exact hD.1 | exact hD1.1 | exact hD2.1 | exact gD.1 | exact gD1.1 | exact gD2.1 | exact gQ.1 | exact hQ.1 | exact gS.1 | exact hS.1 | exact zD.1) rfl (by decide) w_fl_RX2_9 (by rfl) dX2_at_14 ?_
      refine e_iload_n F dX2_at_17 rfl ?_
      refine e_iald F (by first | assumption | exact e_up_s | (rw [e_up_n (by first | assumption | omega)]; first | assumption | exact e_up_s | (rw [e_up_n (by first | assumption | omega)]; first | assumption | exact e_up_s | (rw [e_up_n (by first | assumption | omega)]; first | assumption | exact e_up_s))) | exact hD.1 | exact hD1.1 | exact hD2.1 | exact gD.1 | exact gD1.1 | exact gD2.1 | exact gQ.1 | exact hQ.1 | exact gS.1 | exact hS.1 | exact zD.1) (by omega) (by omega) (by first | decide | omega) dX2_at_18 ?_
      refine e_goto F 23 dX2_at_19 (by decide) ?_
      refine e_iret F rfl (by omega) ?_ dX2_at_23
      refine ⟨?_, rfl, rfl⟩
      first | rw [if_neg (by omega)] | rw [if_pos (by omega), hfP h (by omega) (by omega)]
set_option maxHeartbeats 4000000 in
set_option maxRecDepth 100000 in
theorem c_X2_addTo {K : e_K} {l : Launch} {w : e_W} {n : Nat} {a : Nat} {P : Int → Int} (hQ : PL w a P) {f wh : Nat} (hF : w f = some (FO wh)) (hwh : wh < 7) {h v u : Int} (h1 : 0 ≤ h) (h2 : h < 7) (hv : 0 ≤ v ∧ v < 1000003) (hu : e_r u) : e_Met K l yX2_addTo (Cond.code yX2_addTo cX2_addTo 5 none :: e_TB) (1) (0) [.ref a, .ref f, .int (eI h), .int (eI v), .int (eI u)] w n (fun r w' n' => r = none ∧ n' = n ∧ PL w' a (e_fu P h ((P h + v * u) % pr wh)) ∧ PF w w' a) (e_px0) := by
  refine e_ofV rfl (Nat.le_of_ble_eq_true rfl) ?_
  intro P9 E9 S9 M9 A9 B9 T9 C9 F hnm
  have hp := pr_rg wh hwh
  have ho9 := ho_rg wh hwh
  have hQ0 := hQ
  obtain ⟨h0, ⟨P9f, hf, hfP⟩, ⟨t, ht⟩, hr⟩ := hQ
  have hr9 := hr h h1 h2
  have hm := mul_rg3 hv.1 (by omega) (b := u) (by omega) (by omega) (c := P h) (by omega) (by omega)
  refine e_iload_n F dX2_addTo_0 rfl ?_
  refine e_if_lt F 37 dX2_addTo_1 (by decide) (⟨by omega, by omega⟩) (fun c_1 => ?_) (fun c_1 => ?_)
  · exact absurd c_1 (by omega)
  · refine e_iload_n F dX2_addTo_4 rfl ?_
    refine e_aload_n F dX2_addTo_5 rfl ?_
    refine e_get (ci := 2) (fi := 0) (q := (RX2, TX2, 2)) F (by first | assumption | exact e_up_s | (rw [e_up_n (by first | assumption | omega)]; first | assumption | exact e_up_s | (rw [e_up_n (by first | assumption | omega)]; first | assumption | exact e_up_s | (rw [e_up_n (by first | assumption | omega)]; first | assumption | exact e_up_s))) | exact hD.1 | exact hD1.1 | exact hD2.1 | exact gD.1 | exact gD1.1 | exact gD2.1 | exact gQ.1 | exact hQ.1 | exact gS.1 | exact hS.1 | exact zD.1) rfl (by decide) w_fl_RX2_9 (by rfl) dX2_addTo_6 ?_
    refine e_alenI F (by first | assumption | exact e_up_s | (rw [e_up_n (by first | assumption | omega)]; first | assumption | exact e_up_s | (rw [e_up_n (by first | assumption | omega)]; first | assumption | exact e_up_s | (rw [e_up_n (by first | assumption | omega)]; first | assumption | exact e_up_s))) | exact hD.1 | exact hD1.1 | exact hD2.1 | exact gD.1 | exact gD1.1 | exact gD2.1 | exact gQ.1 | exact hQ.1 | exact gS.1 | exact hS.1 | exact zD.1) dX2_addTo_9 ?_
    refine e_icmp_ge F 37 dX2_addTo_10 (by decide) (⟨by omega, by omega⟩) (⟨by omega, by omega⟩) (fun c_10 => ?_) (fun c_10 => ?_)
    · exact absurd c_10 (by omega)
    · refine e_aload_n F dX2_addTo_13 rfl ?_
      refine e_get (ci := 2) (fi := 0) (q := (RX2, TX2, 2)) F (by first | assumption | exact e_up_s | (rw [e_up_n (by first | assumption | omega)]; first | assumption | exact e_up_s | (rw [e_up_n (by first | assumption | omega)]; first | assumption | exact e_up_s | (rw [e_up_n (by first | assumption | omega)]; first | assumption | exact e_up_s))) | exact hD.1 | exact hD1.1 | exact hD2.1 | exact gD.1 | exact gD1.1 | exact gD2.1 | exact gQ.1 | exact hQ.1 | exact gS.1 | exact hS.1 | exact zD.1) rfl (by decide) w_fl_RX2_9 (by rfl) dX2_addTo_14 ?_
      refine e_iload_n F dX2_addTo_17 rfl ?_
      refine e_aload_n F dX2_addTo_18 rfl ?_
      refine e_aload_n F dX2_addTo_19 rfl ?_
      refine e_get (ci := 2) (fi := 0) (q := (RX2, TX2, 2)) F (by first | assumption | exact e_up_s | (rw [e_up_n (by first | assumption | omega)]; first | assumption | exact e_up_s | (rw [e_up_n (by first | assumption | omega)]; first | assumption | exact e_up_s | (rw [e_up_n (by first | assumption | omega)]; first | assumption | exact e_up_s))) | exact hD.1 | exact hD1.1 | exact hD2.1 | exact gD.1 | exact gD1.1 | exact gD2.1 | exact gQ.1 | exact hQ.1 | exact gS.1 | exact hS.1 | exact zD.1) rfl (by decide) w_fl_RX2_9 (by rfl) dX2_addTo_20 ?_
      refine e_iload_n F dX2_addTo_23 rfl ?_
      refine e_iald F (by first | assumption | exact e_up_s | (rw [e_up_n (by first | assumption | omega)]; first | assumption | exact e_up_s | (rw [e_up_n (by first | assumption | omega)]; first | assumption | exact e_up_s | (rw [e_up_n (by first | assumption | omega)]; first | assumption | exact e_up_s))) | exact hD.1 | exact hD1.1 | exact hD2.1 | exact gD.1 | exact gD1.1 | exact gD2.1 | exact gQ.1 | exact hQ.1 | exact gS.1 | exact hS.1 | exact zD.1) (by omega) (by omega) (by first | decide | omega) dX2_addTo_24 ?_
      rw [hfP h h1 h2]
      refine e_i2l F dX2_addTo_25 (⟨by omega, by omega⟩) ?_
      refine e_iload_n F dX2_addTo_26 rfl ?_
      refine e_i2l F dX2_addTo_27 (⟨by omega, by omega⟩) ?_
      refine e_iload F dX2_addTo_28 rfl ?_
      refine e_i2l F dX2_addTo_30 (⟨by omega, by omega⟩) ?_
      refine e_lmul F dX2_addTo_31 ?_
      refine e_ladd F dX2_addTo_32 ?_
      refine e_callVN F u_X1_modPrime (by rfl) (c_X1_modPrime hF hwh hm.1) (by first | assumption | exact e_up_s | (rw [e_up_n (by first | assumption | omega)]; first | assumption | exact e_up_s | (rw [e_up_n (by first | assumption | omega)]; first | assumption | exact e_up_s | (rw [e_up_n (by first | assumption | omega)]; first | assumption | exact e_up_s))) | exact hD.1 | exact hD1.1 | exact hD2.1 | exact gD.1 | exact gD1.1 | exact gD2.1 | exact gQ.1 | exact hQ.1 | exact gS.1 | exact hS.1 | exact zD.1) rfl rfl w_mn_RX2_18 dX2_addTo_33 (by rfl) (Nat.le_of_ble_eq_true rfl) (by decide) (by omega) (fun _ _ _ h _ => False.elim h) (fun r_33 w_33 n_33 h_33 hn_33 => ?_)
      obtain ⟨rfl, ew_33, en_33⟩ := h_33
      rw [ew_33, en_33]
      refine e_iast F (by first | assumption | exact e_up_s | (rw [e_up_n (by first | assumption | omega)]; first | assumption | exact e_up_s | (rw [e_up_n (by first | assumption | omega)]; first | assumption | exact e_up_s | (rw [e_up_n (by first | assumption | omega)]; first | assumption | exact e_up_s))) | exact hD.1 | exact hD1.1 | exact hD2.1 | exact gD.1 | exact gD1.1 | exact gD2.1 | exact gQ.1 | exact hQ.1 | exact gS.1 | exact hS.1 | exact zD.1) (by omega) (by omega) (by first | decide | omega) dX2_addTo_36 ?_
      refine e_vret F rfl (by omega) ?_ dX2_addTo_37
      refine ⟨rfl, rfl, ⟨by rw [e_up_n (by omega)]; exact h0, ⟨_, e_up_s, fun j j0 j1 => ?_⟩, ⟨t, by rw [e_up_n (by omega)]; exact ht⟩, fun j j0 j1 => ?_⟩, fun q q1 _ => e_up_n q1⟩
      · unfold e_fu
        split
        · rfl
        · exact hfP j j0 j1
      · unfold e_fu
        split
        · have h8 := emod_rg (P h + v * u) hwh
          omega
        · exact hr j j0 j1
set_option maxHeartbeats 4000000 in
set_option maxRecDepth 100000 in
theorem c_X2_become {K : e_K} {l : Launch} {w : e_W} {n : Nat} {a : Nat} {P : Int → Int} (hQ : PL w a P) {f wh : Nat} (hF : w f = some (FO wh)) (hwh : wh < 7) {dg a0 b0 c0 d0 : Int} (hdg : 0 ≤ dg ∧ dg ≤ 6) (ha : e_r a0) (hb : e_r b0) (hc : e_r c0) (hd : e_r d0) : e_Met K l yX2_become (Cond.code yX2_become cX2_become 7 none :: e_TB) (2) (0) [.ref a, .ref f, .int (eI dg), .int (eI a0), .int (eI b0), .int (eI c0), .int (eI d0)] w n (fun r w' n' => r = none ∧ n' = n ∧ PL w' a (bcm (pr wh) dg a0 b0 c0 d0) ∧ PF w w' a) (e_px0) := by
  refine e_ofV rfl (Nat.le_of_ble_eq_true rfl) ?_
  intro P9 E9 S9 M9 A9 B9 T9 C9 F hnm
  have hp := pr_rg wh hwh
  have ho9 := ho_rg wh hwh
  have hQ0 := hQ
  obtain ⟨h0, ⟨P9f, hf, hfP⟩, ⟨t, ht⟩, hr⟩ := hQ
  have hne1 : f ≠ a + 1 := FO_ne hF hf
  have hne2 : f ≠ a + 2 := FO_ne hF ht
  rcases (show dg = 0 ∨ dg = 1 ∨ dg = 2 ∨ dg = 3 ∨ dg = 4 ∨ dg = 5 ∨ dg = 6 by omega) with rfl | rfl | rfl | rfl | rfl | rfl | rfl
  · refine e_aload_n F dX2_become_0 rfl ?_
    refine e_callVV F u_X2_clear (by rfl) (c_X2_clear h0 hf) (by first | assumption | exact e_up_s | (rw [e_up_n (by first | assumption | omega)]; first | assumption | exact e_up_s | (rw [e_up_n (by first | assumption | omega)]; first | assumption | exact e_up_s | (rw [e_up_n (by first | assumption | omega)]; first | assumption | exact e_up_s))) | exact hD.1 | exact hD1.1 | exact hD2.1 | exact gD.1 | exact gD1.1 | exact gD2.1 | exact gQ.1 | exact hQ.1 | exact gS.1 | exact hS.1 | exact zD.1) rfl rfl w_ml_RX2_24 dX2_become_1 (by rfl) (Nat.le_of_ble_eq_true rfl) (by decide) (by omega) (fun _ _ _ h _ => False.elim h) (fun r_1 w_1 n_1 h_1 hn_1 => ?_)
    obtain ⟨rfl, en0, g0a, ⟨f1, g0b, g0c⟩, e0⟩ := h_1
    rw [en0]
    have hF0 : w_1 f = some (FO wh) := by rw [e0 f hne1]; exact hF
    have g0 : PL w_1 a (fun _ => 0) := ⟨g0a, ⟨f1, g0b, g0c⟩, ⟨t, by rw [e0 _ (by omega)]; exact ht⟩, fun j _ _ => by dsimp only; omega⟩
    refine e_aload_n F dX2_become_4 rfl ?_
    refine e_aload_n F dX2_become_5 rfl ?_
    refine e_iconst F dX2_become_6 ?_
    refine e_iconst F dX2_become_7 ?_
    refine e_iload_n F dX2_become_8 rfl ?_
    refine e_callVV F u_X2_addTo (by rfl) (c_X2_addTo g0 hF0 hwh (by omega) (by omega) (by omega) ha) g0.1 rfl rfl w_ml_RX2_27 dX2_become_9 (by rfl) (Nat.le_of_ble_eq_true rfl) (by decide) (by omega) (fun _ _ _ h _ => False.elim h) (fun r_9 w_9 n_9 h_9 hn_9 => ?_)
    obtain ⟨rfl, en1, g1, e1⟩ := h_9
    rw [en1]
    have hF1 : w_9 f = some (FO wh) := by rw [e1 f hne1 hne2]; exact hF0
    refine e_iload_n F dX2_become_12 rfl ?_
    refine e_iconst F dX2_become_13 ?_
    refine e_icmp_lt F 26 dX2_become_14 (by decide) (⟨by omega, by omega⟩) (⟨by omega, by omega⟩) (fun c_14 => ?_) (fun c_14 => ?_)
    · refine e_iload_n F dX2_become_26 rfl ?_
      refine e_iconst F dX2_become_27 ?_
      refine e_icmp_lt F 40 dX2_become_28 (by decide) (⟨by omega, by omega⟩) (⟨by omega, by omega⟩) (fun c_28 => ?_) (fun c_28 => ?_)
      · refine e_iload_n F dX2_become_40 rfl ?_
        refine e_iconst F dX2_become_41 ?_
        refine e_icmp_lt F 54 dX2_become_42 (by decide) (⟨by omega, by omega⟩) (⟨by omega, by omega⟩) (fun c_42 => ?_) (fun c_42 => ?_)
        · refine e_vret F rfl (by omega) ?_ dX2_become_54
          refine ⟨rfl, rfl, g1.to (fun j j0 j1 => ?_), fun q q1 q2 => by rw [e1 q q1 q2, e0 q q1]⟩
          rcases (show j = 0 ∨ j = 1 ∨ j = 2 ∨ j = 3 ∨ j = 4 ∨ j = 5 ∨ j = 6 by omega) with rfl | rfl | rfl | rfl | rfl | rfl | rfl <;> simp [e_fu, bcm]
        · exact absurd c_42 (by omega)
      · exact absurd c_28 (by omega)
    · exact absurd c_14 (by omega)
  · refine e_aload_n F dX2_become_0 rfl ?_
    refine e_callVV F u_X2_clear (by rfl) (c_X2_clear h0 hf) (by first | assumption | exact e_up_s | (rw [e_up_n (by first | assumption | omega)]; first | assumption | exact e_up_s | (rw [e_up_n (by first | assumption | omega)]; first | assumption | exact e_up_s | (rw [e_up_n (by first | assumption | omega)]; first | assumption | exact e_up_s))) | exact hD.1 | exact hD1.1 | exact hD2.1 | exact gD.1 | exact gD1.1 | exact gD2.1 | exact gQ.1 | exact hQ.1 | exact gS.1 | exact hS.1 | exact zD.1) rfl rfl w_ml_RX2_24 dX2_become_1 (by rfl) (Nat.le_of_ble_eq_true rfl) (by decide) (by omega) (fun _ _ _ h _ => False.elim h) (fun r_1 w_1 n_1 h_1 hn_1 => ?_)
    obtain ⟨rfl, en0, g0a, ⟨f1, g0b, g0c⟩, e0⟩ := h_1
    rw [en0]
    have hF0 : w_1 f = some (FO wh) := by rw [e0 f hne1]; exact hF
    have g0 : PL w_1 a (fun _ => 0) := ⟨g0a, ⟨f1, g0b, g0c⟩, ⟨t, by rw [e0 _ (by omega)]; exact ht⟩, fun j _ _ => by dsimp only; omega⟩
    refine e_aload_n F dX2_become_4 rfl ?_
    refine e_aload_n F dX2_become_5 rfl ?_
    refine e_iconst F dX2_become_6 ?_
    refine e_iconst F dX2_become_7 ?_
    refine e_iload_n F dX2_become_8 rfl ?_
    refine e_callVV F u_X2_addTo (by rfl) (c_X2_addTo g0 hF0 hwh (by omega) (by omega) (by omega) ha) g0.1 rfl rfl w_ml_RX2_27 dX2_become_9 (by rfl) (Nat.le_of_ble_eq_true rfl) (by decide) (by omega) (fun _ _ _ h _ => False.elim h) (fun r_9 w_9 n_9 h_9 hn_9 => ?_)
    obtain ⟨rfl, en1, g1, e1⟩ := h_9
    rw [en1]
    have hF1 : w_9 f = some (FO wh) := by rw [e1 f hne1 hne2]; exact hF0
    refine e_iload_n F dX2_become_12 rfl ?_
    refine e_iconst F dX2_become_13 ?_
    refine e_icmp_lt F 26 dX2_become_14 (by decide) (⟨by omega, by omega⟩) (⟨by omega, by omega⟩) (fun c_14 => ?_) (fun c_14 => ?_)
    · exact absurd c_14 (by omega)
    · refine e_aload_n F dX2_become_17 rfl ?_
      refine e_aload_n F dX2_become_18 rfl ?_
      refine e_iconst F dX2_become_19 ?_
      refine e_iconst F dX2_become_20 ?_
      refine e_iload F dX2_become_21 rfl ?_
      refine e_callVV F u_X2_addTo (by rfl) (c_X2_addTo g1 hF1 hwh (by omega) (by omega) (by omega) hb) g1.1 rfl rfl w_ml_RX2_27 dX2_become_23 (by rfl) (Nat.le_of_ble_eq_true rfl) (by decide) (by omega) (fun _ _ _ h _ => False.elim h) (fun r_23 w_23 n_23 h_23 hn_23 => ?_)
      obtain ⟨rfl, en2, g2, e2⟩ := h_23
      rw [en2]
      have hF2 : w_23 f = some (FO wh) := by rw [e2 f hne1 hne2]; exact hF1
      refine e_iload_n F dX2_become_26 rfl ?_
      refine e_iconst F dX2_become_27 ?_
      refine e_icmp_lt F 40 dX2_become_28 (by decide) (⟨by omega, by omega⟩) (⟨by omega, by omega⟩) (fun c_28 => ?_) (fun c_28 => ?_)
      · refine e_iload_n F dX2_become_40 rfl ?_
        refine e_iconst F dX2_become_41 ?_
        refine e_icmp_lt F 54 dX2_become_42 (by decide) (⟨by omega, by omega⟩) (⟨by omega, by omega⟩) (fun c_42 => ?_) (fun c_42 => ?_)
        · refine e_vret F rfl (by omega) ?_ dX2_become_54
          refine ⟨rfl, rfl, g2.to (fun j j0 j1 => ?_), fun q q1 q2 => by rw [e2 q q1 q2, e1 q q1 q2, e0 q q1]⟩
          rcases (show j = 0 ∨ j = 1 ∨ j = 2 ∨ j = 3 ∨ j = 4 ∨ j = 5 ∨ j = 6 by omega) with rfl | rfl | rfl | rfl | rfl | rfl | rfl <;> simp [e_fu, bcm]
        · exact absurd c_42 (by omega)
      · exact absurd c_28 (by omega)
  · refine e_aload_n F dX2_become_0 rfl ?_
    refine e_callVV F u_X2_clear (by rfl) (c_X2_clear h0 hf) (by first | assumption | exact e_up_s | (rw [e_up_n (by first | assumption | omega)]; first | assumption | exact e_up_s | (rw [e_up_n (by first | assumption | omega)]; first | assumption | exact e_up_s | (rw [e_up_n (by first | assumption | omega)]; first | assumption | exact e_up_s))) | exact hD.1 | exact hD1.1 | exact hD2.1 | exact gD.1 | exact gD1.1 | exact gD2.1 | exact gQ.1 | exact hQ.1 | exact gS.1 | exact hS.1 | exact zD.1) rfl rfl w_ml_RX2_24 dX2_become_1 (by rfl) (Nat.le_of_ble_eq_true rfl) (by decide) (by omega) (fun _ _ _ h _ => False.elim h) (fun r_1 w_1 n_1 h_1 hn_1 => ?_)
    obtain ⟨rfl, en0, g0a, ⟨f1, g0b, g0c⟩, e0⟩ := h_1
    rw [en0]
    have hF0 : w_1 f = some (FO wh) := by rw [e0 f hne1]; exact hF
    have g0 : PL w_1 a (fun _ => 0) := ⟨g0a, ⟨f1, g0b, g0c⟩, ⟨t, by rw [e0 _ (by omega)]; exact ht⟩, fun j _ _ => by dsimp only; omega⟩
    refine e_aload_n F dX2_become_4 rfl ?_
    refine e_aload_n F dX2_become_5 rfl ?_
    refine e_iconst F dX2_become_6 ?_
    refine e_iconst F dX2_become_7 ?_
    refine e_iload_n F dX2_become_8 rfl ?_
    refine e_callVV F u_X2_addTo (by rfl) (c_X2_addTo g0 hF0 hwh (by omega) (by omega) (by omega) ha) g0.1 rfl rfl w_ml_RX2_27 dX2_become_9 (by rfl) (Nat.le_of_ble_eq_true rfl) (by decide) (by omega) (fun _ _ _ h _ => False.elim h) (fun r_9 w_9 n_9 h_9 hn_9 => ?_)
    obtain ⟨rfl, en1, g1, e1⟩ := h_9
    rw [en1]
    have hF1 : w_9 f = some (FO wh) := by rw [e1 f hne1 hne2]; exact hF0
    refine e_iload_n F dX2_become_12 rfl ?_
    refine e_iconst F dX2_become_13 ?_
    refine e_icmp_lt F 26 dX2_become_14 (by decide) (⟨by omega, by omega⟩) (⟨by omega, by omega⟩) (fun c_14 => ?_) (fun c_14 => ?_)
    · exact absurd c_14 (by omega)
    · refine e_aload_n F dX2_become_17 rfl ?_
      refine e_aload_n F dX2_become_18 rfl ?_
      refine e_iconst F dX2_become_19 ?_
      refine e_iconst F dX2_become_20 ?_
      refine e_iload F dX2_become_21 rfl ?_
      refine e_callVV F u_X2_addTo (by rfl) (c_X2_addTo g1 hF1 hwh (by omega) (by omega) (by omega) hb) g1.1 rfl rfl w_ml_RX2_27 dX2_become_23 (by rfl) (Nat.le_of_ble_eq_true rfl) (by decide) (by omega) (fun _ _ _ h _ => False.elim h) (fun r_23 w_23 n_23 h_23 hn_23 => ?_)
      obtain ⟨rfl, en2, g2, e2⟩ := h_23
      rw [en2]
      have hF2 : w_23 f = some (FO wh) := by rw [e2 f hne1 hne2]; exact hF1
      refine e_iload_n F dX2_become_26 rfl ?_
      refine e_iconst F dX2_become_27 ?_
      refine e_icmp_lt F 40 dX2_become_28 (by decide) (⟨by omega, by omega⟩) (⟨by omega, by omega⟩) (fun c_28 => ?_) (fun c_28 => ?_)
      · exact absurd c_28 (by omega)
      · refine e_aload_n F dX2_become_31 rfl ?_
        refine e_aload_n F dX2_become_32 rfl ?_
        refine e_iconst F dX2_become_33 ?_
        refine e_iconst F dX2_become_34 ?_
        refine e_iload F dX2_become_35 rfl ?_
        refine e_callVV F u_X2_addTo (by rfl) (c_X2_addTo g2 hF2 hwh (by omega) (by omega) (by omega) hc) g2.1 rfl rfl w_ml_RX2_27 dX2_become_37 (by rfl) (Nat.le_of_ble_eq_true rfl) (by decide) (by omega) (fun _ _ _ h _ => False.elim h) (fun r_37 w_37 n_37 h_37 hn_37 => ?_)
        obtain ⟨rfl, en3, g3, e3⟩ := h_37
        rw [en3]
        have hF3 : w_37 f = some (FO wh) := by rw [e3 f hne1 hne2]; exact hF2
        refine e_iload_n F dX2_become_40 rfl ?_
        refine e_iconst F dX2_become_41 ?_
        refine e_icmp_lt F 54 dX2_become_42 (by decide) (⟨by omega, by omega⟩) (⟨by omega, by omega⟩) (fun c_42 => ?_) (fun c_42 => ?_)
        · refine e_vret F rfl (by omega) ?_ dX2_become_54
          refine ⟨rfl, rfl, g3.to (fun j j0 j1 => ?_), fun q q1 q2 => by rw [e3 q q1 q2, e2 q q1 q2, e1 q q1 q2, e0 q q1]⟩
          rcases (show j = 0 ∨ j = 1 ∨ j = 2 ∨ j = 3 ∨ j = 4 ∨ j = 5 ∨ j = 6 by omega) with rfl | rfl | rfl | rfl | rfl | rfl | rfl <;> simp [e_fu, bcm]
        · exact absurd c_42 (by omega)
  · refine e_aload_n F dX2_become_0 rfl ?_
    refine e_callVV F u_X2_clear (by rfl) (c_X2_clear h0 hf) (by first | assumption | exact e_up_s | (rw [e_up_n (by first | assumption | omega)]; first | assumption | exact e_up_s | (rw [e_up_n (by first | assumption | omega)]; first | assumption | exact e_up_s | (rw [e_up_n (by first | assumption | omega)]; first | assumption | exact e_up_s))) | exact hD.1 | exact hD1.1 | exact hD2.1 | exact gD.1 | exact gD1.1 | exact gD2.1 | exact gQ.1 | exact hQ.1 | exact gS.1 | exact hS.1 | exact zD.1) rfl rfl w_ml_RX2_24 dX2_become_1 (by rfl) (Nat.le_of_ble_eq_true rfl) (by decide) (by omega) (fun _ _ _ h _ => False.elim h) (fun r_1 w_1 n_1 h_1 hn_1 => ?_)
    obtain ⟨rfl, en0, g0a, ⟨f1, g0b, g0c⟩, e0⟩ := h_1
    rw [en0]
    have hF0 : w_1 f = some (FO wh) := by rw [e0 f hne1]; exact hF
    have g0 : PL w_1 a (fun _ => 0) := ⟨g0a, ⟨f1, g0b, g0c⟩, ⟨t, by rw [e0 _ (by omega)]; exact ht⟩, fun j _ _ => by dsimp only; omega⟩
    refine e_aload_n F dX2_become_4 rfl ?_
    refine e_aload_n F dX2_become_5 rfl ?_
    refine e_iconst F dX2_become_6 ?_
    refine e_iconst F dX2_become_7 ?_
    refine e_iload_n F dX2_become_8 rfl ?_
    refine e_callVV F u_X2_addTo (by rfl) (c_X2_addTo g0 hF0 hwh (by omega) (by omega) (by omega) ha) g0.1 rfl rfl w_ml_RX2_27 dX2_become_9 (by rfl) (Nat.le_of_ble_eq_true rfl) (by decide) (by omega) (fun _ _ _ h _ => False.elim h) (fun r_9 w_9 n_9 h_9 hn_9 => ?_)
    obtain ⟨rfl, en1, g1, e1⟩ := h_9
    rw [en1]
    have hF1 : w_9 f = some (FO wh) := by rw [e1 f hne1 hne2]; exact hF0
    refine e_iload_n F dX2_become_12 rfl ?_
    refine e_iconst F dX2_become_13 ?_
    refine e_icmp_lt F 26 dX2_become_14 (by decide) (⟨by omega, by omega⟩) (⟨by omega, by omega⟩) (fun c_14 => ?_) (fun c_14 => ?_)
    · exact absurd c_14 (by omega)
    · refine e_aload_n F dX2_become_17 rfl ?_
      refine e_aload_n F dX2_become_18 rfl ?_
      refine e_iconst F dX2_become_19 ?_
      refine e_iconst F dX2_become_20 ?_
      refine e_iload F dX2_become_21 rfl ?_
      refine e_callVV F u_X2_addTo (by rfl) (c_X2_addTo g1 hF1 hwh (by omega) (by omega) (by omega) hb) g1.1 rfl rfl w_ml_RX2_27 dX2_become_23 (by rfl) (Nat.le_of_ble_eq_true rfl) (by decide) (by omega) (fun _ _ _ h _ => False.elim h) (fun r_23 w_23 n_23 h_23 hn_23 => ?_)
      obtain ⟨rfl, en2, g2, e2⟩ := h_23
      rw [en2]
      have hF2 : w_23 f = some (FO wh) := by rw [e2 f hne1 hne2]; exact hF1
      refine e_iload_n F dX2_become_26 rfl ?_
      refine e_iconst F dX2_become_27 ?_
      refine e_icmp_lt F 40 dX2_become_28 (by decide) (⟨by omega, by omega⟩) (⟨by omega, by omega⟩) (fun c_28 => ?_) (fun c_28 => ?_)
      · exact absurd c_28 (by omega)
      · refine e_aload_n F dX2_become_31 rfl ?_
        refine e_aload_n F dX2_become_32 rfl ?_
        refine e_iconst F dX2_become_33 ?_
        refine e_iconst F dX2_become_34 ?_
        refine e_iload F dX2_become_35 rfl ?_
        refine e_callVV F u_X2_addTo (by rfl) (c_X2_addTo g2 hF2 hwh (by omega) (by omega) (by omega) hc) g2.1 rfl rfl w_ml_RX2_27 dX2_become_37 (by rfl) (Nat.le_of_ble_eq_true rfl) (by decide) (by omega) (fun _ _ _ h _ => False.elim h) (fun r_37 w_37 n_37 h_37 hn_37 => ?_)
        obtain ⟨rfl, en3, g3, e3⟩ := h_37
        rw [en3]
        have hF3 : w_37 f = some (FO wh) := by rw [e3 f hne1 hne2]; exact hF2
        refine e_iload_n F dX2_become_40 rfl ?_
        refine e_iconst F dX2_become_41 ?_
        refine e_icmp_lt F 54 dX2_become_42 (by decide) (⟨by omega, by omega⟩) (⟨by omega, by omega⟩) (fun c_42 => ?_) (fun c_42 => ?_)
        · exact absurd c_42 (by omega)
        · refine e_aload_n F dX2_become_45 rfl ?_
          refine e_aload_n F dX2_become_46 rfl ?_
          refine e_iconst F dX2_become_47 ?_
          refine e_iconst F dX2_become_48 ?_
          refine e_iload F dX2_become_49 rfl ?_
          refine e_callVV F u_X2_addTo (by rfl) (c_X2_addTo g3 hF3 hwh (by omega) (by omega) (by omega) hd) g3.1 rfl rfl w_ml_RX2_27 dX2_become_51 (by rfl) (Nat.le_of_ble_eq_true rfl) (by decide) (by omega) (fun _ _ _ h _ => False.elim h) (fun r_51 w_51 n_51 h_51 hn_51 => ?_)
          obtain ⟨rfl, en4, g4, e4⟩ := h_51
          rw [en4]
          have hF4 : w_51 f = some (FO wh) := by rw [e4 f hne1 hne2]; exact hF3
          refine e_vret F rfl (by omega) ?_ dX2_become_54
          refine ⟨rfl, rfl, g4.to (fun j j0 j1 => ?_), fun q q1 q2 => by rw [e4 q q1 q2, e3 q q1 q2, e2 q q1 q2, e1 q q1 q2, e0 q q1]⟩
          rcases (show j = 0 ∨ j = 1 ∨ j = 2 ∨ j = 3 ∨ j = 4 ∨ j = 5 ∨ j = 6 by omega) with rfl | rfl | rfl | rfl | rfl | rfl | rfl <;> simp [e_fu, bcm]
  · refine e_aload_n F dX2_become_0 rfl ?_
    refine e_callVV F u_X2_clear (by rfl) (c_X2_clear h0 hf) (by first | assumption | exact e_up_s | (rw [e_up_n (by first | assumption | omega)]; first | assumption | exact e_up_s | (rw [e_up_n (by first | assumption | omega)]; first | assumption | exact e_up_s | (rw [e_up_n (by first | assumption | omega)]; first | assumption | exact e_up_s))) | exact hD.1 | exact hD1.1 | exact hD2.1 | exact gD.1 | exact gD1.1 | exact gD2.1 | exact gQ.1 | exact hQ.1 | exact gS.1 | exact hS.1 | exact zD.1) rfl rfl w_ml_RX2_24 dX2_become_1 (by rfl) (Nat.le_of_ble_eq_true rfl) (by decide) (by omega) (fun _ _ _ h _ => False.elim h) (fun r_1 w_1 n_1 h_1 hn_1 => ?_)
    obtain ⟨rfl, en0, g0a, ⟨f1, g0b, g0c⟩, e0⟩ := h_1
    rw [en0]
    have hF0 : w_1 f = some (FO wh) := by rw [e0 f hne1]; exact hF
    have g0 : PL w_1 a (fun _ => 0) := ⟨g0a, ⟨f1, g0b, g0c⟩, ⟨t, by rw [e0 _ (by omega)]; exact ht⟩, fun j _ _ => by dsimp only; omega⟩
    refine e_aload_n F dX2_become_4 rfl ?_
    refine e_aload_n F dX2_become_5 rfl ?_
    refine e_iconst F dX2_become_6 ?_
    refine e_iconst F dX2_become_7 ?_
    refine e_iload_n F dX2_become_8 rfl ?_
    refine e_callVV F u_X2_addTo (by rfl) (c_X2_addTo g0 hF0 hwh (by omega) (by omega) (by omega) ha) g0.1 rfl rfl w_ml_RX2_27 dX2_become_9 (by rfl) (Nat.le_of_ble_eq_true rfl) (by decide) (by omega) (fun _ _ _ h _ => False.elim h) (fun r_9 w_9 n_9 h_9 hn_9 => ?_)
    obtain ⟨rfl, en1, g1, e1⟩ := h_9
    rw [en1]
    have hF1 : w_9 f = some (FO wh) := by rw [e1 f hne1 hne2]; exact hF0
    refine e_iload_n F dX2_become_12 rfl ?_
    refine e_iconst F dX2_become_13 ?_
    refine e_icmp_lt F 26 dX2_become_14 (by decide) (⟨by omega, by omega⟩) (⟨by omega, by omega⟩) (fun c_14 => ?_) (fun c_14 => ?_)
    · exact absurd c_14 (by omega)
    · refine e_aload_n F dX2_become_17 rfl ?_
      refine e_aload_n F dX2_become_18 rfl ?_
      refine e_iconst F dX2_become_19 ?_
      refine e_iconst F dX2_become_20 ?_
      refine e_iload F dX2_become_21 rfl ?_
      refine e_callVV F u_X2_addTo (by rfl) (c_X2_addTo g1 hF1 hwh (by omega) (by omega) (by omega) hb) g1.1 rfl rfl w_ml_RX2_27 dX2_become_23 (by rfl) (Nat.le_of_ble_eq_true rfl) (by decide) (by omega) (fun _ _ _ h _ => False.elim h) (fun r_23 w_23 n_23 h_23 hn_23 => ?_)
      obtain ⟨rfl, en2, g2, e2⟩ := h_23
      rw [en2]
      have hF2 : w_23 f = some (FO wh) := by rw [e2 f hne1 hne2]; exact hF1
      refine e_iload_n F dX2_become_26 rfl ?_
      refine e_iconst F dX2_become_27 ?_
      refine e_icmp_lt F 40 dX2_become_28 (by decide) (⟨by omega, by omega⟩) (⟨by omega, by omega⟩) (fun c_28 => ?_) (fun c_28 => ?_)
      · exact absurd c_28 (by omega)
      · refine e_aload_n F dX2_become_31 rfl ?_
        refine e_aload_n F dX2_become_32 rfl ?_
        refine e_iconst F dX2_become_33 ?_
        refine e_iconst F dX2_become_34 ?_
        refine e_iload F dX2_become_35 rfl ?_
        refine e_callVV F u_X2_addTo (by rfl) (c_X2_addTo g2 hF2 hwh (by omega) (by omega) (by omega) hc) g2.1 rfl rfl w_ml_RX2_27 dX2_become_37 (by rfl) (Nat.le_of_ble_eq_true rfl) (by decide) (by omega) (fun _ _ _ h _ => False.elim h) (fun r_37 w_37 n_37 h_37 hn_37 => ?_)
        obtain ⟨rfl, en3, g3, e3⟩ := h_37
        rw [en3]
        have hF3 : w_37 f = some (FO wh) := by rw [e3 f hne1 hne2]; exact hF2
        refine e_iload_n F dX2_become_40 rfl ?_
        refine e_iconst F dX2_become_41 ?_
        refine e_icmp_lt F 54 dX2_become_42 (by decide) (⟨by omega, by omega⟩) (⟨by omega, by omega⟩) (fun c_42 => ?_) (fun c_42 => ?_)
        · exact absurd c_42 (by omega)
        · refine e_aload_n F dX2_become_45 rfl ?_
          refine e_aload_n F dX2_become_46 rfl ?_
          refine e_iconst F dX2_become_47 ?_
          refine e_iconst F dX2_become_48 ?_
          refine e_iload F dX2_become_49 rfl ?_
          refine e_callVV F u_X2_addTo (by rfl) (c_X2_addTo g3 hF3 hwh (by omega) (by omega) (by omega) hd) g3.1 rfl rfl w_ml_RX2_27 dX2_become_51 (by rfl) (Nat.le_of_ble_eq_true rfl) (by decide) (by omega) (fun _ _ _ h _ => False.elim h) (fun r_51 w_51 n_51 h_51 hn_51 => ?_)
          obtain ⟨rfl, en4, g4, e4⟩ := h_51
          rw [en4]
          have hF4 : w_51 f = some (FO wh) := by rw [e4 f hne1 hne2]; exact hF3
          refine e_vret F rfl (by omega) ?_ dX2_become_54
          refine ⟨rfl, rfl, g4.to (fun j j0 j1 => ?_), fun q q1 q2 => by rw [e4 q q1 q2, e3 q q1 q2, e2 q q1 q2, e1 q q1 q2, e0 q q1]⟩
          rcases (show j = 0 ∨ j = 1 ∨ j = 2 ∨ j = 3 ∨ j = 4 ∨ j = 5 ∨ j = 6 by omega) with rfl | rfl | rfl | rfl | rfl | rfl | rfl <;> simp [e_fu, bcm]
  · refine e_aload_n F dX2_become_0 rfl ?_
    refine e_callVV F u_X2_clear (by rfl) (c_X2_clear h0 hf) (by first | assumption | exact e_up_s | (rw [e_up_n (by first | assumption | omega)]; first | assumption | exact e_up_s | (rw [e_up_n (by first | assumption | omega)]; first | assumption | exact e_up_s | (rw [e_up_n (by first | assumption | omega)]; first | assumption | exact e_up_s))) | exact hD.1 | exact hD1.1 | exact hD2.1 | exact gD.1 | exact gD1.1 | exact gD2.1 | exact gQ.1 | exact hQ.1 | exact gS.1 | exact hS.1 | exact zD.1) rfl rfl w_ml_RX2_24 dX2_become_1 (by rfl) (Nat.le_of_ble_eq_true rfl) (by decide) (by omega) (fun _ _ _ h _ => False.elim h) (fun r_1 w_1 n_1 h_1 hn_1 => ?_)
    obtain ⟨rfl, en0, g0a, ⟨f1, g0b, g0c⟩, e0⟩ := h_1
    rw [en0]
    have hF0 : w_1 f = some (FO wh) := by rw [e0 f hne1]; exact hF
    have g0 : PL w_1 a (fun _ => 0) := ⟨g0a, ⟨f1, g0b, g0c⟩, ⟨t, by rw [e0 _ (by omega)]; exact ht⟩, fun j _ _ => by dsimp only; omega⟩
    refine e_aload_n F dX2_become_4 rfl ?_
    refine e_aload_n F dX2_become_5 rfl ?_
    refine e_iconst F dX2_become_6 ?_
    refine e_iconst F dX2_become_7 ?_
    refine e_iload_n F dX2_become_8 rfl ?_
    refine e_callVV F u_X2_addTo (by rfl) (c_X2_addTo g0 hF0 hwh (by omega) (by omega) (by omega) ha) g0.1 rfl rfl w_ml_RX2_27 dX2_become_9 (by rfl) (Nat.le_of_ble_eq_true rfl) (by decide) (by omega) (fun _ _ _ h _ => False.elim h) (fun r_9 w_9 n_9 h_9 hn_9 => ?_)
    obtain ⟨rfl, en1, g1, e1⟩ := h_9
    rw [en1]
    have hF1 : w_9 f = some (FO wh) := by rw [e1 f hne1 hne2]; exact hF0
    refine e_iload_n F dX2_become_12 rfl ?_
    refine e_iconst F dX2_become_13 ?_
    refine e_icmp_lt F 26 dX2_become_14 (by decide) (⟨by omega, by omega⟩) (⟨by omega, by omega⟩) (fun c_14 => ?_) (fun c_14 => ?_)
    · exact absurd c_14 (by omega)
    · refine e_aload_n F dX2_become_17 rfl ?_
      refine e_aload_n F dX2_become_18 rfl ?_
      refine e_iconst F dX2_become_19 ?_
      refine e_iconst F dX2_become_20 ?_
      refine e_iload F dX2_become_21 rfl ?_
      refine e_callVV F u_X2_addTo (by rfl) (c_X2_addTo g1 hF1 hwh (by omega) (by omega) (by omega) hb) g1.1 rfl rfl w_ml_RX2_27 dX2_become_23 (by rfl) (Nat.le_of_ble_eq_true rfl) (by decide) (by omega) (fun _ _ _ h _ => False.elim h) (fun r_23 w_23 n_23 h_23 hn_23 => ?_)
      obtain ⟨rfl, en2, g2, e2⟩ := h_23
      rw [en2]
      have hF2 : w_23 f = some (FO wh) := by rw [e2 f hne1 hne2]; exact hF1
      refine e_iload_n F dX2_become_26 rfl ?_
      refine e_iconst F dX2_become_27 ?_
      refine e_icmp_lt F 40 dX2_become_28 (by decide) (⟨by omega, by omega⟩) (⟨by omega, by omega⟩) (fun c_28 => ?_) (fun c_28 => ?_)
      · exact absurd c_28 (by omega)
      · refine e_aload_n F dX2_become_31 rfl ?_
        refine e_aload_n F dX2_become_32 rfl ?_
        refine e_iconst F dX2_become_33 ?_
        refine e_iconst F dX2_become_34 ?_
        refine e_iload F dX2_become_35 rfl ?_
        refine e_callVV F u_X2_addTo (by rfl) (c_X2_addTo g2 hF2 hwh (by omega) (by omega) (by omega) hc) g2.1 rfl rfl w_ml_RX2_27 dX2_become_37 (by rfl) (Nat.le_of_ble_eq_true rfl) (by decide) (by omega) (fun _ _ _ h _ => False.elim h) (fun r_37 w_37 n_37 h_37 hn_37 => ?_)
        obtain ⟨rfl, en3, g3, e3⟩ := h_37
        rw [en3]
        have hF3 : w_37 f = some (FO wh) := by rw [e3 f hne1 hne2]; exact hF2
        refine e_iload_n F dX2_become_40 rfl ?_
        refine e_iconst F dX2_become_41 ?_
        refine e_icmp_lt F 54 dX2_become_42 (by decide) (⟨by omega, by omega⟩) (⟨by omega, by omega⟩) (fun c_42 => ?_) (fun c_42 => ?_)
        · exact absurd c_42 (by omega)
        · refine e_aload_n F dX2_become_45 rfl ?_
          refine e_aload_n F dX2_become_46 rfl ?_
          refine e_iconst F dX2_become_47 ?_
          refine e_iconst F dX2_become_48 ?_
          refine e_iload F dX2_become_49 rfl ?_
          refine e_callVV F u_X2_addTo (by rfl) (c_X2_addTo g3 hF3 hwh (by omega) (by omega) (by omega) hd) g3.1 rfl rfl w_ml_RX2_27 dX2_become_51 (by rfl) (Nat.le_of_ble_eq_true rfl) (by decide) (by omega) (fun _ _ _ h _ => False.elim h) (fun r_51 w_51 n_51 h_51 hn_51 => ?_)
          obtain ⟨rfl, en4, g4, e4⟩ := h_51
          rw [en4]
          have hF4 : w_51 f = some (FO wh) := by rw [e4 f hne1 hne2]; exact hF3
          refine e_vret F rfl (by omega) ?_ dX2_become_54
          refine ⟨rfl, rfl, g4.to (fun j j0 j1 => ?_), fun q q1 q2 => by rw [e4 q q1 q2, e3 q q1 q2, e2 q q1 q2, e1 q q1 q2, e0 q q1]⟩
          rcases (show j = 0 ∨ j = 1 ∨ j = 2 ∨ j = 3 ∨ j = 4 ∨ j = 5 ∨ j = 6 by omega) with rfl | rfl | rfl | rfl | rfl | rfl | rfl <;> simp [e_fu, bcm]
  · refine e_aload_n F dX2_become_0 rfl ?_
    refine e_callVV F u_X2_clear (by rfl) (c_X2_clear h0 hf) (by first | assumption | exact e_up_s | (rw [e_up_n (by first | assumption | omega)]; first | assumption | exact e_up_s | (rw [e_up_n (by first | assumption | omega)]; first | assumption | exact e_up_s | (rw [e_up_n (by first | assumption | omega)]; first | assumption | exact e_up_s))) | exact hD.1 | exact hD1.1 | exact hD2.1 | exact gD.1 | exact gD1.1 | exact gD2.1 | exact gQ.1 | exact hQ.1 | exact gS.1 | exact hS.1 | exact zD.1) rfl rfl w_ml_RX2_24 dX2_become_1 (by rfl) (Nat.le_of_ble_eq_true rfl) (by decide) (by omega) (fun _ _ _ h _ => False.elim h) (fun r_1 w_1 n_1 h_1 hn_1 => ?_)
    obtain ⟨rfl, en0, g0a, ⟨f1, g0b, g0c⟩, e0⟩ := h_1
    rw [en0]
    have hF0 : w_1 f = some (FO wh) := by rw [e0 f hne1]; exact hF
    have g0 : PL w_1 a (fun _ => 0) := ⟨g0a, ⟨f1, g0b, g0c⟩, ⟨t, by rw [e0 _ (by omega)]; exact ht⟩, fun j _ _ => by dsimp only; omega⟩
    refine e_aload_n F dX2_become_4 rfl ?_
    refine e_aload_n F dX2_become_5 rfl ?_
    refine e_iconst F dX2_become_6 ?_
    refine e_iconst F dX2_become_7 ?_
    refine e_iload_n F dX2_become_8 rfl ?_
    refine e_callVV F u_X2_addTo (by rfl) (c_X2_addTo g0 hF0 hwh (by omega) (by omega) (by omega) ha) g0.1 rfl rfl w_ml_RX2_27 dX2_become_9 (by rfl) (Nat.le_of_ble_eq_true rfl) (by decide) (by omega) (fun _ _ _ h _ => False.elim h) (fun r_9 w_9 n_9 h_9 hn_9 => ?_)
    obtain ⟨rfl, en1, g1, e1⟩ := h_9
    rw [en1]
    have hF1 : w_9 f = some (FO wh) := by rw [e1 f hne1 hne2]; exact hF0
    refine e_iload_n F dX2_become_12 rfl ?_
    refine e_iconst F dX2_become_13 ?_
    refine e_icmp_lt F 26 dX2_become_14 (by decide) (⟨by omega, by omega⟩) (⟨by omega, by omega⟩) (fun c_14 => ?_) (fun c_14 => ?_)
    · exact absurd c_14 (by omega)
    · refine e_aload_n F dX2_become_17 rfl ?_
      refine e_aload_n F dX2_become_18 rfl ?_
      refine e_iconst F dX2_become_19 ?_
      refine e_iconst F dX2_become_20 ?_
      refine e_iload F dX2_become_21 rfl ?_
      refine e_callVV F u_X2_addTo (by rfl) (c_X2_addTo g1 hF1 hwh (by omega) (by omega) (by omega) hb) g1.1 rfl rfl w_ml_RX2_27 dX2_become_23 (by rfl) (Nat.le_of_ble_eq_true rfl) (by decide) (by omega) (fun _ _ _ h _ => False.elim h) (fun r_23 w_23 n_23 h_23 hn_23 => ?_)
      obtain ⟨rfl, en2, g2, e2⟩ := h_23
      rw [en2]
      have hF2 : w_23 f = some (FO wh) := by rw [e2 f hne1 hne2]; exact hF1
      refine e_iload_n F dX2_become_26 rfl ?_
      refine e_iconst F dX2_become_27 ?_
      refine e_icmp_lt F 40 dX2_become_28 (by decide) (⟨by omega, by omega⟩) (⟨by omega, by omega⟩) (fun c_28 => ?_) (fun c_28 => ?_)
      · exact absurd c_28 (by omega)
      · refine e_aload_n F dX2_become_31 rfl ?_
        refine e_aload_n F dX2_become_32 rfl ?_
        refine e_iconst F dX2_become_33 ?_
        refine e_iconst F dX2_become_34 ?_
        refine e_iload F dX2_become_35 rfl ?_
        refine e_callVV F u_X2_addTo (by rfl) (c_X2_addTo g2 hF2 hwh (by omega) (by omega) (by omega) hc) g2.1 rfl rfl w_ml_RX2_27 dX2_become_37 (by rfl) (Nat.le_of_ble_eq_true rfl) (by decide) (by omega) (fun _ _ _ h _ => False.elim h) (fun r_37 w_37 n_37 h_37 hn_37 => ?_)
        obtain ⟨rfl, en3, g3, e3⟩ := h_37
        rw [en3]
        have hF3 : w_37 f = some (FO wh) := by rw [e3 f hne1 hne2]; exact hF2
        refine e_iload_n F dX2_become_40 rfl ?_
        refine e_iconst F dX2_become_41 ?_
        refine e_icmp_lt F 54 dX2_become_42 (by decide) (⟨by omega, by omega⟩) (⟨by omega, by omega⟩) (fun c_42 => ?_) (fun c_42 => ?_)
        · exact absurd c_42 (by omega)
        · refine e_aload_n F dX2_become_45 rfl ?_
          refine e_aload_n F dX2_become_46 rfl ?_
          refine e_iconst F dX2_become_47 ?_
          refine e_iconst F dX2_become_48 ?_
          refine e_iload F dX2_become_49 rfl ?_
          refine e_callVV F u_X2_addTo (by rfl) (c_X2_addTo g3 hF3 hwh (by omega) (by omega) (by omega) hd) g3.1 rfl rfl w_ml_RX2_27 dX2_become_51 (by rfl) (Nat.le_of_ble_eq_true rfl) (by decide) (by omega) (fun _ _ _ h _ => False.elim h) (fun r_51 w_51 n_51 h_51 hn_51 => ?_)
          obtain ⟨rfl, en4, g4, e4⟩ := h_51
          rw [en4]
          have hF4 : w_51 f = some (FO wh) := by rw [e4 f hne1 hne2]; exact hF3
          refine e_vret F rfl (by omega) ?_ dX2_become_54
          refine ⟨rfl, rfl, g4.to (fun j j0 j1 => ?_), fun q q1 q2 => by rw [e4 q q1 q2, e3 q q1 q2, e2 q q1 q2, e1 q q1 q2, e0 q q1]⟩
          rcases (show j = 0 ∨ j = 1 ∨ j = 2 ∨ j = 3 ∨ j = 4 ∨ j = 5 ∨ j = 6 by omega) with rfl | rfl | rfl | rfl | rfl | rfl | rfl <;> simp [e_fu, bcm]
set_option maxHeartbeats 4000000 in
set_option maxRecDepth 100000 in
theorem c_X2_valueAt {K : e_K} {l : Launch} {w : e_W} {n : Nat} {a : Nat} {P : Int → Int} (hQ : PL w a P) {f wh : Nat} (hF : w f = some (FO wh)) (hwh : wh < 7) {x : Int} (hx : e_r x) : e_Met K l yX2_valueAt (Cond.code yX2_valueAt cX2_valueAt 5 (Option.some .int) :: e_TB) (1) (0) [.ref a, .ref f, .int (eI x)] w n (fun r w' n' => r = some (.int (eI (hz (pr wh) x P 7))) ∧ w' = w ∧ n' = n) (e_px0) := by
  refine e_ofV rfl (Nat.le_of_ble_eq_true rfl) ?_
  intro P9 E9 S9 M9 A9 B9 T9 C9 F hnm
  have hp := pr_rg wh hwh
  have ho9 := ho_rg wh hwh
  have hQ0 := hQ
  obtain ⟨h0, ⟨P9f, hf, hfP⟩, ⟨t, ht⟩, hr⟩ := hQ
  have lp : ∀ (N : Nat) (k : Nat), (7 - k) < N → k ≤ 7 → e_V K P9 l E9 (1) (0) S9 M9 A9 B9 T9 C9 5 (fun r w' n' => r = some (.int (eI (hz (pr wh) x P 7))) ∧ w' = w ∧ n' = n) (e_px0) 11 [(0, .ref a), (1, .ref f), (2, .int (eI x)), (3, .int (eI (hz (pr wh) x P k))), (4, .int (eI (6 - (k : Int))))] [] w n (0) := by
    intro N
    induction N with
    | zero => intro k hN; exact absurd hN (Nat.not_lt_zero _)
    | succ N ih =>
      intro k hN hk
      have hz9 := hz_rg (x := x) (P := P) (show 0 < pr wh by omega) k
      refine e_iload F dX2_valueAt_11 rfl ?_
      refine e_if_lt F 41 dX2_valueAt_13 (by decide) (⟨by omega, by omega⟩) (fun c_13 => ?_) (fun c_13 => ?_)
      ·
        obtain rfl : k = 7 := by omega
        refine e_iload_n F dX2_valueAt_41 rfl ?_
        refine e_iret F rfl (by omega) ?_ dX2_valueAt_42
        exact ⟨rfl, rfl, rfl⟩
      · refine e_aload_n F dX2_valueAt_16 rfl ?_
        refine e_iload_n F dX2_valueAt_17 rfl ?_
        refine e_i2l F dX2_valueAt_18 (⟨by omega, by omega⟩) ?_
        refine e_iload_n F dX2_valueAt_19 rfl ?_
        refine e_i2l F dX2_valueAt_20 (⟨by omega, by omega⟩) ?_
        refine e_lmul F dX2_valueAt_21 ?_
        refine e_aload_n F dX2_valueAt_22 rfl ?_
        refine e_get (ci := 2) (fi := 0) (q := (RX2, TX2, 2)) F (by first | assumption | exact e_up_s | (rw [e_up_n (by first | assumption | omega)]; first | assumption | exact e_up_s | (rw [e_up_n (by first | assumption | omega)]; first | assumption | exact e_up_s | (rw [e_up_n (by first | assumption | omega)]; first | assumption | exact e_up_s))) | exact hD.1 | exact hD1.1 | exact hD2.1 | exact gD.1 | exact gD1.1 | exact gD2.1 | exact gQ.1 | exact hQ.1 | exact gS.1 | exact hS.1 | exact zD.1) rfl (by decide) w_fl_RX2_9 (by rfl) dX2_valueAt_23 ?_
        refine e_iload F dX2_valueAt_26 rfl ?_
        refine e_iald F (by first | assumption | exact e_up_s | (rw [e_up_n (by first | assumption | omega)]; first | assumption | exact e_up_s | (rw [e_up_n (by first | assumption | omega)]; first | assumption | exact e_up_s | (rw [e_up_n (by first | assumption | omega)]; first | assumption | exact e_up_s))) | exact hD.1 | exact hD1.1 | exact hD2.1 | exact gD.1 | exact gD1.1 | exact gD2.1 | exact gQ.1 | exact hQ.1 | exact gS.1 | exact hS.1 | exact zD.1) (by omega) (by omega) (by first | decide | omega) dX2_valueAt_28 ?_
        have hr9 := hr (6 - (k : Int)) (by omega) (by omega)
        have hm := mul_rg3 hz9.1 (by omega) (b := x) (by omega) (by omega) (c := P (6 - (k : Int))) (by omega) (by omega)
        rw [hfP _ (by omega) (by omega)]
        refine e_i2l F dX2_valueAt_29 (⟨by omega, by omega⟩) ?_
        refine e_ladd F dX2_valueAt_30 ?_
        refine e_callVN F u_X1_modPrime (by rfl) (c_X1_modPrime hF hwh hm.2.1) (by first | assumption | exact e_up_s | (rw [e_up_n (by first | assumption | omega)]; first | assumption | exact e_up_s | (rw [e_up_n (by first | assumption | omega)]; first | assumption | exact e_up_s | (rw [e_up_n (by first | assumption | omega)]; first | assumption | exact e_up_s))) | exact hD.1 | exact hD1.1 | exact hD2.1 | exact gD.1 | exact gD1.1 | exact gD2.1 | exact gQ.1 | exact hQ.1 | exact gS.1 | exact hS.1 | exact zD.1) rfl rfl w_mn_RX2_18 dX2_valueAt_31 (by rfl) (Nat.le_of_ble_eq_true rfl) (by decide) (by omega) (fun _ _ _ h _ => False.elim h) (fun r_31 w_31 n_31 h_31 hn_31 => ?_)
        obtain ⟨rfl, ew_31, en_31⟩ := h_31
        rw [ew_31, en_31]
        refine e_istore_n F dX2_valueAt_34 (by decide) ?_
        refine e_iinc F dX2_valueAt_35 rfl (by decide) ?_
        refine e_goto F 11 dX2_valueAt_38 (by decide) ?_
        refine e_go (ih (k + 1) (by omega) (by omega)) ?_
        have e9 : (6 : Int) - ((k + 1 : Nat) : Int) = 6 - (k : Int) + (-1) := by omega
        rw [e9]
        exact (And.intro rfl (And.intro rfl (And.intro rfl (And.intro rfl (And.intro rfl (trivial))))))
  refine e_iconst F dX2_valueAt_0 ?_
  refine e_istore_n F dX2_valueAt_1 (by decide) ?_
  refine e_aload_n F dX2_valueAt_2 rfl ?_
  refine e_get (ci := 2) (fi := 0) (q := (RX2, TX2, 2)) F (by first | assumption | exact e_up_s | (rw [e_up_n (by first | assumption | omega)]; first | assumption | exact e_up_s | (rw [e_up_n (by first | assumption | omega)]; first | assumption | exact e_up_s | (rw [e_up_n (by first | assumption | omega)]; first | assumption | exact e_up_s))) | exact hD.1 | exact hD1.1 | exact hD2.1 | exact gD.1 | exact gD1.1 | exact gD2.1 | exact gQ.1 | exact hQ.1 | exact gS.1 | exact hS.1 | exact zD.1) rfl (by decide) w_fl_RX2_9 (by rfl) dX2_valueAt_3 ?_
  refine e_alenI F (by first | assumption | exact e_up_s | (rw [e_up_n (by first | assumption | omega)]; first | assumption | exact e_up_s | (rw [e_up_n (by first | assumption | omega)]; first | assumption | exact e_up_s | (rw [e_up_n (by first | assumption | omega)]; first | assumption | exact e_up_s))) | exact hD.1 | exact hD1.1 | exact hD2.1 | exact gD.1 | exact gD1.1 | exact gD2.1 | exact gQ.1 | exact hQ.1 | exact gS.1 | exact hS.1 | exact zD.1) dX2_valueAt_6 ?_
  refine e_iconst F dX2_valueAt_7 ?_
  refine e_isub F dX2_valueAt_8 ?_
  refine e_istore F dX2_valueAt_9 (by decide) ?_
  exact e_go (lp 8 0 (by omega) (by omega)) (And.intro rfl (And.intro rfl (And.intro rfl (And.intro rfl (And.intro rfl (trivial))))))
set_option maxHeartbeats 4000000 in
set_option maxRecDepth 100000 in
theorem c_X2_highest {K : e_K} {l : Launch} {w : e_W} {n : Nat} {a : Nat} {P : Int → Int} (hQ : PL w a P) : e_Met K l yX2_highest (Cond.code yX2_highest cX2_highest 2 (Option.some .int) :: e_TB) (0) (0) [.ref a] w n (fun r w' n' => r = some (.int (eI (hiK P 7))) ∧ w' = w ∧ n' = n) (e_px0) := by
  refine e_ofV rfl (Nat.le_of_ble_eq_true rfl) ?_
  intro P9 E9 S9 M9 A9 B9 T9 C9 F hnm
  have hQ0 := hQ
  obtain ⟨h0, ⟨P9f, hf, hfP⟩, ⟨t, ht⟩, hr⟩ := hQ
  have lp : ∀ (N : Nat) (k : Nat), k < N → (k ≤ 7 ∧ hiK P k = hiK P 7) → e_V K P9 l E9 (0) (0) S9 M9 A9 B9 T9 C9 2 (fun r w' n' => r = some (.int (eI (hiK P 7))) ∧ w' = w ∧ n' = n) (e_px0) 8 [(0, .ref a), (1, .int (eI ((k : Int) - 1)))] [] w n (0) := by
    intro N
    induction N with
    | zero => intro k hN; exact absurd hN (Nat.not_lt_zero _)
    | succ N ih =>
      intro k hN ⟨hk, hq⟩
      refine e_iload_n F dX2_highest_8 rfl ?_
      refine e_if_lt F 29 dX2_highest_9 (by decide) (⟨by omega, by omega⟩) (fun c_9 => ?_) (fun c_9 => ?_)
      · refine e_iconst F dX2_highest_29 ?_
        refine e_iret F rfl (by omega) ?_ dX2_highest_30
        refine ⟨?_, rfl, rfl⟩
        obtain rfl : k = 0 := by omega
        rw [← hq]
        rfl
      · refine e_aload_n F dX2_highest_12 rfl ?_
        refine e_get (ci := 2) (fi := 0) (q := (RX2, TX2, 2)) F (by first | assumption | exact e_up_s | (rw [e_up_n (by first | assumption | omega)]; first | assumption | exact e_up_s | (rw [e_up_n (by first | assumption | omega)]; first | assumption | exact e_up_s | (rw [e_up_n (by first | assumption | omega)]; first | assumption | exact e_up_s))) | exact hD.1 | exact hD1.1 | exact hD2.1 | exact gD.1 | exact gD1.1 | exact gD2.1 | exact gQ.1 | exact hQ.1 | exact gS.1 | exact hS.1 | exact zD.1) rfl (by decide) w_fl_RX2_9 (by rfl) dX2_highest_13 ?_
        refine e_iload_n F dX2_highest_16 rfl ?_
        refine e_iald F (by first | assumption | exact e_up_s | (rw [e_up_n (by first | assumption | omega)]; first | assumption | exact e_up_s | (rw [e_up_n (by first | assumption | omega)]; first | assumption | exact e_up_s | (rw [e_up_n (by first | assumption | omega)]; first | assumption | exact e_up_s))) | exact hD.1 | exact hD1.1 | exact hD2.1 | exact gD.1 | exact gD1.1 | exact gD2.1 | exact gQ.1 | exact hQ.1 | exact gS.1 | exact hS.1 | exact zD.1) (by omega) (by omega) (by first | decide | omega) dX2_highest_17 ?_
        rw [hfP _ (by omega) (by omega)]
        have hr9 := hr ((k : Int) - 1) (by omega) (by omega)
        refine e_if_eq F 23 dX2_highest_18 (by decide) (⟨by omega, by omega⟩) (fun c_18 => ?_) (fun c_18 => ?_)
        · refine e_iinc F dX2_highest_23 rfl (by decide) ?_
          refine e_goto F 8 dX2_highest_26 (by decide) ?_
          obtain ⟨k, rfl⟩ : ∃ z, k = z + 1 := ⟨k - 1, by omega⟩
          refine e_go (ih k (by omega) ⟨by omega, ?_⟩) ?_
          · rw [← hq]
            show _ = if P (k : Int) ≠ 0 then (k : Int) else hiK P k
            rw [if_neg]
            have e8 : ((k + 1 : Nat) : Int) - 1 = (k : Int) := by omega
            rw [e8] at c_18
            exact fun q => q c_18
          · have e9 : ((k + 1 : Nat) : Int) - 1 + (-1) = (k : Int) - 1 := by omega
            rw [e9]
            exact (And.intro rfl (And.intro rfl (trivial)))
        · refine e_iload_n F dX2_highest_21 rfl ?_
          refine e_iret F rfl (by omega) ?_ dX2_highest_22
          refine ⟨?_, rfl, rfl⟩
          obtain ⟨k, rfl⟩ : ∃ z, k = z + 1 := ⟨k - 1, by omega⟩
          have e8 : ((k + 1 : Nat) : Int) - 1 = (k : Int) := by omega
          rw [e8] at c_18 ⊢
          rw [← hq]
          show _ = some (Value.int (eI (if P (k : Int) ≠ 0 then (k : Int) else hiK P k)))
          rw [if_pos c_18]
  refine e_aload_n F dX2_highest_0 rfl ?_
  refine e_get (ci := 2) (fi := 0) (q := (RX2, TX2, 2)) F (by first | assumption | exact e_up_s | (rw [e_up_n (by first | assumption | omega)]; first | assumption | exact e_up_s | (rw [e_up_n (by first | assumption | omega)]; first | assumption | exact e_up_s | (rw [e_up_n (by first | assumption | omega)]; first | assumption | exact e_up_s))) | exact hD.1 | exact hD1.1 | exact hD2.1 | exact gD.1 | exact gD1.1 | exact gD2.1 | exact gQ.1 | exact hQ.1 | exact gS.1 | exact hS.1 | exact zD.1) rfl (by decide) w_fl_RX2_9 (by rfl) dX2_highest_1 ?_
  refine e_alenI F (by first | assumption | exact e_up_s | (rw [e_up_n (by first | assumption | omega)]; first | assumption | exact e_up_s | (rw [e_up_n (by first | assumption | omega)]; first | assumption | exact e_up_s | (rw [e_up_n (by first | assumption | omega)]; first | assumption | exact e_up_s))) | exact hD.1 | exact hD1.1 | exact hD2.1 | exact gD.1 | exact gD1.1 | exact gD2.1 | exact gQ.1 | exact hQ.1 | exact gS.1 | exact hS.1 | exact zD.1) dX2_highest_4 ?_
  refine e_iconst F dX2_highest_5 ?_
  refine e_isub F dX2_highest_6 ?_
  refine e_istore_n F dX2_highest_7 (by decide) ?_
  exact e_go (lp 8 7 (by omega) ⟨by omega, rfl⟩) (And.intro rfl (And.intro rfl (trivial)))
theorem fu_ite {u : Int → Int} {i v : Int} {D : Int → Int} (hv : v = D i) (gp : ∀ j, 0 ≤ j → j < i → u j = D j) : ∀ j, 0 ≤ j → j < i + 1 → e_fu u i v j = D j := by
  intro j j0 j1
  unfold e_fu
  split
  · rename_i q; rw [q, hv]
  · exact gp j j0 (by omega)
set_option maxHeartbeats 4000000 in
set_option maxRecDepth 100000 in
theorem c_X2_makeTerm {K : e_K} {l : Launch} {w : e_W} {n : Nat} {a : Nat} {P : Int → Int} (hQ : PL w a P) {f wh : Nat} (hF : w f = some (FO wh)) (hwh : wh < 7) {set h : Int} (h1 : 0 ≤ set) (h2 : set < 2147483648) (h3 : 1 ≤ h) (h4 : h ≤ 7) : e_Met K l yX2_makeTerm (Cond.code yX2_makeTerm cX2_makeTerm 8 (Option.some .int) :: e_TB) (2) (0) [.ref a, .ref f, .int (eI set), .int (eI h)] w n (fun r w' n' => r = some (.int (eI (wpr (pr wh) h h set (ho wh).toNat))) ∧ n' = n ∧ w' a = some (PO a) ∧ (∃ u, w' (a + 2) = some (e_ia 7 u) ∧ ∀ j, 0 ≤ j → j < 7 → u j = tm (pr wh) h set (ho wh).toNat j) ∧ ∀ q, q ≠ a + 2 → w' q = w q) (e_px0) := by
  refine e_ofV rfl (Nat.le_of_ble_eq_true rfl) ?_
  intro P9 E9 S9 M9 A9 B9 T9 C9 F hnm
  have hp := pr_rg wh hwh
  have ho9 := ho_rg wh hwh
  have hQ0 := hQ
  obtain ⟨h0, ⟨P9f, hf, hfP⟩, ⟨t, ht⟩, hr⟩ := hQ
  have hne2 : f ≠ a + 2 := FO_ne hF ht
  have li : ∀ (N : Nat) (k : Nat) (kk : Int) (wl : e_W) (u : Int → Int), (kk + 1).toNat < N → ((k : Int) < 7 ∧ -1 ≤ kk ∧ kk ≤ 6 ∧ wl a = some (PO a) ∧ wl (a + 2) = some (e_ia 7 u) ∧ (∀ q, q ≠ a + 2 → wl q = w q) ∧ (∀ j, 0 ≤ j → j < 7 → u j = if kk < j then tmS (pr wh) ((k : Int) + 1) (tm (pr wh) h set k) j else tm (pr wh) h set k j) ∧ (∀ (wl2 : e_W) (u2 : Int → Int), wl2 a = some (PO a) → wl2 (a + 2) = some (e_ia 7 u2) → (∀ q, q ≠ a + 2 → wl2 q = w q) → (∀ j, 0 ≤ j → j < 7 → u2 j = tmS (pr wh) ((k : Int) + 1) (tm (pr wh) h set k) j) → e_V K P9 l E9 (2) (0) S9 M9 A9 B9 T9 C9 8 (fun r w' n' => r = some (.int (eI (wpr (pr wh) h h set (ho wh).toNat))) ∧ n' = n ∧ w' a = some (PO a) ∧ (∃ u, w' (a + 2) = some (e_ia 7 u) ∧ ∀ j, 0 ≤ j → j < 7 → u j = tm (pr wh) h set (ho wh).toNat j) ∧ ∀ q, q ≠ a + 2 → w' q = w q) (e_px0) 133 [(0, .ref a), (1, .ref f), (2, .int (eI set)), (3, .int (eI h)), (4, .int (eI (wpr (pr wh) h h set k))), (5, .int (eI ((k : Int) + 1)))] [] wl2 n (0))) → e_V K P9 l E9 (2) (0) S9 M9 A9 B9 T9 C9 8 (fun r w' n' => r = some (.int (eI (wpr (pr wh) h h set (ho wh).toNat))) ∧ n' = n ∧ w' a = some (PO a) ∧ (∃ u, w' (a + 2) = some (e_ia 7 u) ∧ ∀ j, 0 ≤ j → j < 7 → u j = tm (pr wh) h set (ho wh).toNat j) ∧ ∀ q, q ≠ a + 2 → w' q = w q) (e_px0) 75 [(0, .ref a), (1, .ref f), (2, .int (eI set)), (3, .int (eI h)), (4, .int (eI (wpr (pr wh) h h set k))), (5, .int (eI ((k : Int) + 1))), (6, .int (eI kk))] [] wl n (0) := by
    intro N
    induction N with
    | zero => intro k kk wl u hN; exact absurd hN (Nat.not_lt_zero _)
    | succ N ih =>
      intro k kk wl u hN ⟨h0k, h1, h2, g0, gu, gF, gp, cont⟩
      have hF9 : wl f = some (FO wh) := by rw [gF f hne2]; exact hF
      have htr : ∀ c, 0 ≤ tm (pr wh) h set k c ∧ tm (pr wh) h set k c < pr wh := fun c => tm_rg (by omega) k c
      have ht1 := htr kk
      have ht2 := htr (kk - 1)
      refine e_iload F dX2_makeTerm_75 rfl ?_
      refine e_if_lt F 133 dX2_makeTerm_77 (by decide) (⟨by omega, by omega⟩) (fun c_77 => ?_) (fun c_77 => ?_)
      · exact e_go (cont wl u g0 gu gF (fun j j0 j1 => by rw [gp j j0 j1, if_pos (by omega)])) (And.intro rfl (And.intro rfl (And.intro rfl (And.intro rfl (And.intro rfl (And.intro rfl (trivial)))))))
      · refine e_iload F dX2_makeTerm_80 rfl ?_
        refine e_if_le F 97 dX2_makeTerm_82 (by decide) (⟨by omega, by omega⟩) (fun c_82 => ?_) (fun c_82 => ?_)
        ·
          have e5 : (if 0 < kk then tm (pr wh) h set k (kk - 1) else 0) = 0 := if_neg (by omega)
          have hm := mul_rg3 (a := (k : Int) + 1) (by omega) (by omega) (b := tm (pr wh) h set k kk) (by omega) (by omega) (c := 0) (by omega) (by omega)
          refine e_iconst F dX2_makeTerm_97 ?_
          refine e_istore F dX2_makeTerm_98 (by decide) ?_
          refine e_aload_n F dX2_makeTerm_100 rfl ?_
          refine e_get (ci := 2) (fi := 1) (q := (RX2, TX2, 2)) F (by first | assumption | exact e_up_s | (rw [e_up_n (by first | assumption | omega)]; first | assumption | exact e_up_s | (rw [e_up_n (by first | assumption | omega)]; first | assumption | exact e_up_s | (rw [e_up_n (by first | assumption | omega)]; first | assumption | exact e_up_s))) | exact hD.1 | exact hD1.1 | exact hD2.1 | exact gD.1 | exact gD1.1 | exact gD2.1 | exact gQ.1 | exact hQ.1 | exact gS.1 | exact hS.1 | exact zD.1) rfl (by decide) w_fl_RX2_15 (by rfl) dX2_makeTerm_101 ?_
          refine e_iload F dX2_makeTerm_104 rfl ?_
          refine e_aload_n F dX2_makeTerm_106 rfl ?_
          refine e_iload F dX2_makeTerm_107 rfl ?_
          refine e_i2l F dX2_makeTerm_109 (⟨by omega, by omega⟩) ?_
          refine e_iload F dX2_makeTerm_110 rfl ?_
          refine e_i2l F dX2_makeTerm_112 (⟨by omega, by omega⟩) ?_
          refine e_aload_n F dX2_makeTerm_113 rfl ?_
          refine e_get (ci := 2) (fi := 1) (q := (RX2, TX2, 2)) F (by first | assumption | exact e_up_s | (rw [e_up_n (by first | assumption | omega)]; first | assumption | exact e_up_s | (rw [e_up_n (by first | assumption | omega)]; first | assumption | exact e_up_s | (rw [e_up_n (by first | assumption | omega)]; first | assumption | exact e_up_s))) | exact hD.1 | exact hD1.1 | exact hD2.1 | exact gD.1 | exact gD1.1 | exact gD2.1 | exact gQ.1 | exact hQ.1 | exact gS.1 | exact hS.1 | exact zD.1) rfl (by decide) w_fl_RX2_15 (by rfl) dX2_makeTerm_114 ?_
          refine e_iload F dX2_makeTerm_117 rfl ?_
          refine e_iald F gu (by omega) (by omega) (by first | decide | omega) dX2_makeTerm_119 ?_
          rw [gp kk (by omega) (by omega), if_neg (by omega)]
          refine e_i2l F dX2_makeTerm_120 (⟨by omega, by omega⟩) ?_
          refine e_lmul F dX2_makeTerm_121 ?_
          refine e_lsub F dX2_makeTerm_122 ?_
          refine e_callVN F u_X1_modPrime (by rfl) (c_X1_modPrime hF9 hwh hm.2.2) (by first | assumption | exact e_up_s | (rw [e_up_n (by first | assumption | omega)]; first | assumption | exact e_up_s | (rw [e_up_n (by first | assumption | omega)]; first | assumption | exact e_up_s | (rw [e_up_n (by first | assumption | omega)]; first | assumption | exact e_up_s))) | exact hD.1 | exact hD1.1 | exact hD2.1 | exact gD.1 | exact gD1.1 | exact gD2.1 | exact gQ.1 | exact hQ.1 | exact gS.1 | exact hS.1 | exact zD.1) rfl rfl w_mn_RX2_18 dX2_makeTerm_123 (by rfl) (Nat.le_of_ble_eq_true rfl) (by decide) (by omega) (fun _ _ _ h _ => False.elim h) (fun r_123 w_123 n_123 h_123 hn_123 => ?_)
          obtain ⟨rfl, ew_123, en_123⟩ := h_123
          rw [ew_123, en_123]
          have e7 : tmS (pr wh) ((k : Int) + 1) (tm (pr wh) h set k) kk = ((if 0 < kk then tm (pr wh) h set k (kk - 1) else 0) - ((k : Int) + 1) * tm (pr wh) h set k kk) % pr wh := rfl
          rw [e5] at e7
          rw [← e7]
          refine e_iast F gu (by omega) (by omega) (by first | decide | omega) dX2_makeTerm_126 ?_
          refine e_iinc F dX2_makeTerm_127 rfl (by decide) ?_
          refine e_goto F 75 dX2_makeTerm_130 (by decide) ?_
          have e9 : kk + (-1) = kk - 1 := by omega
          rw [e9]
          refine e_go (ih k (kk - 1) (e_up wl (a + 2) (e_ia 7 (e_fu u kk (tmS (pr wh) ((k : Int) + 1) (tm (pr wh) h set k) kk)))) (e_fu u kk (tmS (pr wh) ((k : Int) + 1) (tm (pr wh) h set k) kk)) (by omega) ⟨h0k, by omega, by omega, by rw [e_up_n (by omega)]; exact g0, e_up_s, fun q q1 => by rw [e_up_n q1]; exact gF q q1, fun j j0 j1 => ?_, cont⟩) (And.intro rfl (And.intro rfl (And.intro rfl (And.intro rfl (And.intro rfl (And.intro rfl (And.intro rfl (trivial))))))))
          unfold e_fu
          split
          · rename_i q; rw [if_pos (by omega), q]
          · rw [gp j j0 j1]
            by_cases q : kk < j
            · rw [if_pos q, if_pos (by omega)]
            · rw [if_neg q, if_neg (by omega)]
        ·
          have e5 : (if 0 < kk then tm (pr wh) h set k (kk - 1) else 0) = tm (pr wh) h set k (kk - 1) := if_pos (by omega)
          have hm := mul_rg3 (a := (k : Int) + 1) (by omega) (by omega) (b := tm (pr wh) h set k kk) (by omega) (by omega) (c := tm (pr wh) h set k (kk - 1)) (by omega) (by omega)
          refine e_aload_n F dX2_makeTerm_85 rfl ?_
          refine e_get (ci := 2) (fi := 1) (q := (RX2, TX2, 2)) F (by first | assumption | exact e_up_s | (rw [e_up_n (by first | assumption | omega)]; first | assumption | exact e_up_s | (rw [e_up_n (by first | assumption | omega)]; first | assumption | exact e_up_s | (rw [e_up_n (by first | assumption | omega)]; first | assumption | exact e_up_s))) | exact hD.1 | exact hD1.1 | exact hD2.1 | exact gD.1 | exact gD1.1 | exact gD2.1 | exact gQ.1 | exact hQ.1 | exact gS.1 | exact hS.1 | exact zD.1) rfl (by decide) w_fl_RX2_15 (by rfl) dX2_makeTerm_86 ?_
          refine e_iload F dX2_makeTerm_89 rfl ?_
          refine e_iconst F dX2_makeTerm_91 ?_
          refine e_isub F dX2_makeTerm_92 ?_
          refine e_iald F gu (by omega) (by omega) (by first | decide | omega) dX2_makeTerm_93 ?_
          rw [gp (kk - 1) (by omega) (by omega), if_neg (by omega)]
          refine e_goto F 98 dX2_makeTerm_94 (by decide) ?_
          refine e_istore F dX2_makeTerm_98 (by decide) ?_
          refine e_aload_n F dX2_makeTerm_100 rfl ?_
          refine e_get (ci := 2) (fi := 1) (q := (RX2, TX2, 2)) F (by first | assumption | exact e_up_s | (rw [e_up_n (by first | assumption | omega)]; first | assumption | exact e_up_s | (rw [e_up_n (by first | assumption | omega)]; first | assumption | exact e_up_s | (rw [e_up_n (by first | assumption | omega)]; first | assumption | exact e_up_s))) | exact hD.1 | exact hD1.1 | exact hD2.1 | exact gD.1 | exact gD1.1 | exact gD2.1 | exact gQ.1 | exact hQ.1 | exact gS.1 | exact hS.1 | exact zD.1) rfl (by decide) w_fl_RX2_15 (by rfl) dX2_makeTerm_101 ?_
          refine e_iload F dX2_makeTerm_104 rfl ?_
          refine e_aload_n F dX2_makeTerm_106 rfl ?_
          refine e_iload F dX2_makeTerm_107 rfl ?_
          refine e_i2l F dX2_makeTerm_109 (⟨by omega, by omega⟩) ?_
          refine e_iload F dX2_makeTerm_110 rfl ?_
          refine e_i2l F dX2_makeTerm_112 (⟨by omega, by omega⟩) ?_
          refine e_aload_n F dX2_makeTerm_113 rfl ?_
          refine e_get (ci := 2) (fi := 1) (q := (RX2, TX2, 2)) F (by first | assumption | exact e_up_s | (rw [e_up_n (by first | assumption | omega)]; first | assumption | exact e_up_s | (rw [e_up_n (by first | assumption | omega)]; first | assumption | exact e_up_s | (rw [e_up_n (by first | assumption | omega)]; first | assumption | exact e_up_s))) | exact hD.1 | exact hD1.1 | exact hD2.1 | exact gD.1 | exact gD1.1 | exact gD2.1 | exact gQ.1 | exact hQ.1 | exact gS.1 | exact hS.1 | exact zD.1) rfl (by decide) w_fl_RX2_15 (by rfl) dX2_makeTerm_114 ?_
          refine e_iload F dX2_makeTerm_117 rfl ?_
          refine e_iald F gu (by omega) (by omega) (by first | decide | omega) dX2_makeTerm_119 ?_
          rw [gp kk (by omega) (by omega), if_neg (by omega)]
          refine e_i2l F dX2_makeTerm_120 (⟨by omega, by omega⟩) ?_
          refine e_lmul F dX2_makeTerm_121 ?_
          refine e_lsub F dX2_makeTerm_122 ?_
          refine e_callVN F u_X1_modPrime (by rfl) (c_X1_modPrime hF9 hwh hm.2.2) (by first | assumption | exact e_up_s | (rw [e_up_n (by first | assumption | omega)]; first | assumption | exact e_up_s | (rw [e_up_n (by first | assumption | omega)]; first | assumption | exact e_up_s | (rw [e_up_n (by first | assumption | omega)]; first | assumption | exact e_up_s))) | exact hD.1 | exact hD1.1 | exact hD2.1 | exact gD.1 | exact gD1.1 | exact gD2.1 | exact gQ.1 | exact hQ.1 | exact gS.1 | exact hS.1 | exact zD.1) rfl rfl w_mn_RX2_18 dX2_makeTerm_123 (by rfl) (Nat.le_of_ble_eq_true rfl) (by decide) (by omega) (fun _ _ _ h _ => False.elim h) (fun r_123 w_123 n_123 h_123 hn_123 => ?_)
          obtain ⟨rfl, ew_123, en_123⟩ := h_123
          rw [ew_123, en_123]
          have e7 : tmS (pr wh) ((k : Int) + 1) (tm (pr wh) h set k) kk = ((if 0 < kk then tm (pr wh) h set k (kk - 1) else 0) - ((k : Int) + 1) * tm (pr wh) h set k kk) % pr wh := rfl
          rw [e5] at e7
          rw [← e7]
          refine e_iast F gu (by omega) (by omega) (by first | decide | omega) dX2_makeTerm_126 ?_
          refine e_iinc F dX2_makeTerm_127 rfl (by decide) ?_
          refine e_goto F 75 dX2_makeTerm_130 (by decide) ?_
          have e9 : kk + (-1) = kk - 1 := by omega
          rw [e9]
          refine e_go (ih k (kk - 1) (e_up wl (a + 2) (e_ia 7 (e_fu u kk (tmS (pr wh) ((k : Int) + 1) (tm (pr wh) h set k) kk)))) (e_fu u kk (tmS (pr wh) ((k : Int) + 1) (tm (pr wh) h set k) kk)) (by omega) ⟨h0k, by omega, by omega, by rw [e_up_n (by omega)]; exact g0, e_up_s, fun q q1 => by rw [e_up_n q1]; exact gF q q1, fun j j0 j1 => ?_, cont⟩) (And.intro rfl (And.intro rfl (And.intro rfl (And.intro rfl (And.intro rfl (And.intro rfl (And.intro rfl (trivial))))))))
          unfold e_fu
          split
          · rename_i q; rw [if_pos (by omega), q]
          · rw [gp j j0 j1]
            by_cases q : kk < j
            · rw [if_pos q, if_pos (by omega)]
            · rw [if_neg q, if_neg (by omega)]
  have lo : ∀ (N : Nat) (k : Nat) (wl : e_W) (u : Int → Int), (7 - k) < N → (k ≤ (ho wh).toNat ∧ wl a = some (PO a) ∧ wl (a + 2) = some (e_ia 7 u) ∧ (∀ q, q ≠ a + 2 → wl q = w q) ∧ (∀ j, 0 ≤ j → j < 7 → u j = tm (pr wh) h set k j)) → e_V K P9 l E9 (2) (0) S9 M9 A9 B9 T9 C9 8 (fun r w' n' => r = some (.int (eI (wpr (pr wh) h h set (ho wh).toNat))) ∧ n' = n ∧ w' a = some (PO a) ∧ (∃ u, w' (a + 2) = some (e_ia 7 u) ∧ ∀ j, 0 ≤ j → j < 7 → u j = tm (pr wh) h set (ho wh).toNat j) ∧ ∀ q, q ≠ a + 2 → w' q = w q) (e_px0) 42 [(0, .ref a), (1, .ref f), (2, .int (eI set)), (3, .int (eI h)), (4, .int (eI (wpr (pr wh) h h set k))), (5, .int (eI ((k : Int) + 1)))] [] wl n (0) := by
    intro N
    induction N with
    | zero => intro k wl u hN; exact absurd hN (Nat.not_lt_zero _)
    | succ N ih =>
      intro k wl u hN ⟨hk, g0, gu, gF, gp⟩
      have hF9 : wl f = some (FO wh) := by rw [gF f hne2]; exact hF
      have hwp := wpr_rg (x := h) (h := h) (set := set) (show 2 ≤ pr wh by omega) k
      refine e_iload F dX2_makeTerm_42 rfl ?_
      refine e_aload_n F dX2_makeTerm_44 rfl ?_
      refine e_getN (ci := 1) (fi := 4) (q := (RX1, TX1, 5)) F (by first | assumption | exact e_up_s | (rw [e_up_n (by first | assumption | omega)]; first | assumption | exact e_up_s | (rw [e_up_n (by first | assumption | omega)]; first | assumption | exact e_up_s | (rw [e_up_n (by first | assumption | omega)]; first | assumption | exact e_up_s))) | exact hD.1 | exact hD1.1 | exact hD2.1 | exact gD.1 | exact gD1.1 | exact gD2.1 | exact gQ.1 | exact hQ.1 | exact gS.1 | exact hS.1 | exact zD.1) rfl (by decide) w_fn_RX2_31 (by rfl) dX2_makeTerm_45 ?_
      refine e_icmp_gt F 154 dX2_makeTerm_48 (by decide) (⟨by omega, by omega⟩) (⟨by omega, by omega⟩) (fun c_48 => ?_) (fun c_48 => ?_)
      ·
        obtain rfl : k = (ho wh).toNat := by omega
        refine e_iload F dX2_makeTerm_154 rfl ?_
        refine e_iret F rfl (by omega) ?_ dX2_makeTerm_156
        exact ⟨rfl, rfl, g0, ⟨u, gu, gp⟩, gF⟩
      · refine e_iload F dX2_makeTerm_51 rfl ?_
        refine e_iload_n F dX2_makeTerm_53 rfl ?_
        refine e_icmp_eq F 148 dX2_makeTerm_54 (by decide) (⟨by omega, by omega⟩) (⟨by omega, by omega⟩) (fun c_54 => ?_) (fun c_54 => ?_)
        ·
          have q1 : wpr (pr wh) h h set (k + 1) = wpr (pr wh) h h set k := if_neg (fun q => q.1 c_54)
          have q2 : tm (pr wh) h set (k + 1) = tm (pr wh) h set k := if_neg (fun q => q.1 c_54)
          have hwl : ∃ z, z = wl := ⟨_, rfl⟩
          refine e_iinc F dX2_makeTerm_148 rfl (by decide) ?_
          refine e_goto F 42 dX2_makeTerm_151 (by decide) ?_
          first
          | (refine e_go (ih (k + 1) wl2 u2 (by omega) ⟨by omega, z0, zu, zF, fun j j0 j1 => by rw [q2]; exact zp j j0 j1⟩) ?_; rw [q1]; exact (And.intro rfl (And.intro rfl (And.intro rfl (And.intro rfl (And.intro rfl (And.intro rfl (trivial))))))))
          | (refine e_go (ih (k + 1) wl u (by omega) ⟨by omega, g0, gu, gF, fun j j0 j1 => by rw [q2]; exact gp j j0 j1⟩) ?_; rw [q1]; exact (And.intro rfl (And.intro rfl (And.intro rfl (And.intro rfl (And.intro rfl (And.intro rfl (trivial))))))))
        · refine e_iload_n F dX2_makeTerm_57 rfl ?_
          refine e_iload F dX2_makeTerm_58 rfl ?_
          refine e_callSN F u_X3_isIn (by rfl) (c_X3_isIn h1 h2 (h := (k : Int) + 1) (by omega) (by omega)) w_mn_RX2_35 dX2_makeTerm_60 (by rfl) (Nat.le_of_ble_eq_true rfl) (by decide) (by omega) (fun _ _ _ h _ => False.elim h) (fun r_60 w_60 n_60 h_60 hn_60 => ?_)
          obtain ⟨rfl, ew_60, en_60⟩ := h_60
          rw [ew_60, en_60]
          refine e_if_eq F 148 dX2_makeTerm_63 (by decide) (b01_r _) (fun c_63 => ?_) (fun c_63 => ?_)
          ·
            rw [b01_0] at c_63
            have q1 : wpr (pr wh) h h set (k + 1) = wpr (pr wh) h h set k := if_neg (fun q => c_63 q.2)
            have q2 : tm (pr wh) h set (k + 1) = tm (pr wh) h set k := if_neg (fun q => c_63 q.2)
            have hwl : ∃ z, z = wl := ⟨_, rfl⟩
            refine e_iinc F dX2_makeTerm_148 rfl (by decide) ?_
            refine e_goto F 42 dX2_makeTerm_151 (by decide) ?_
            first
            | (refine e_go (ih (k + 1) wl2 u2 (by omega) ⟨by omega, z0, zu, zF, fun j j0 j1 => by rw [q2]; exact zp j j0 j1⟩) ?_; rw [q1]; exact (And.intro rfl (And.intro rfl (And.intro rfl (And.intro rfl (And.intro rfl (And.intro rfl (trivial))))))))
            | (refine e_go (ih (k + 1) wl u (by omega) ⟨by omega, g0, gu, gF, fun j j0 j1 => by rw [q2]; exact gp j j0 j1⟩) ?_; rw [q1]; exact (And.intro rfl (And.intro rfl (And.intro rfl (And.intro rfl (And.intro rfl (And.intro rfl (trivial))))))))
          ·
            rw [b01_0, Classical.not_not] at c_63
            have q1 : wpr (pr wh) h h set (k + 1) = (wpr (pr wh) h h set k * (h - ((k : Int) + 1))) % pr wh := if_pos ⟨c_54, c_63⟩
            have q2 : tm (pr wh) h set (k + 1) = tmS (pr wh) ((k : Int) + 1) (tm (pr wh) h set k) := if_pos ⟨c_54, c_63⟩
            refine e_aload_n F dX2_makeTerm_66 rfl ?_
            refine e_get (ci := 2) (fi := 1) (q := (RX2, TX2, 2)) F (by first | assumption | exact e_up_s | (rw [e_up_n (by first | assumption | omega)]; first | assumption | exact e_up_s | (rw [e_up_n (by first | assumption | omega)]; first | assumption | exact e_up_s | (rw [e_up_n (by first | assumption | omega)]; first | assumption | exact e_up_s))) | exact hD.1 | exact hD1.1 | exact hD2.1 | exact gD.1 | exact gD1.1 | exact gD2.1 | exact gQ.1 | exact hQ.1 | exact gS.1 | exact hS.1 | exact zD.1) rfl (by decide) w_fl_RX2_15 (by rfl) dX2_makeTerm_67 ?_
            refine e_alenI F (by first | assumption | exact e_up_s | (rw [e_up_n (by first | assumption | omega)]; first | assumption | exact e_up_s | (rw [e_up_n (by first | assumption | omega)]; first | assumption | exact e_up_s | (rw [e_up_n (by first | assumption | omega)]; first | assumption | exact e_up_s))) | exact hD.1 | exact hD1.1 | exact hD2.1 | exact gD.1 | exact gD1.1 | exact gD2.1 | exact gQ.1 | exact hQ.1 | exact gS.1 | exact hS.1 | exact zD.1) dX2_makeTerm_70 ?_
            refine e_iconst F dX2_makeTerm_71 ?_
            refine e_isub F dX2_makeTerm_72 ?_
            refine e_istore F dX2_makeTerm_73 (by decide) ?_
            refine e_go (li 8 k 6 wl u (by omega) ⟨by omega, by omega, by omega, g0, gu, gF, fun j j0 j1 => by rw [gp j j0 j1, if_neg (by omega)], fun wl2 u2 z0 zu zF zp => ?_⟩) (And.intro rfl (And.intro rfl (And.intro rfl (And.intro rfl (And.intro rfl (And.intro rfl (And.intro rfl (trivial))))))))
            have hF8 : wl2 f = some (FO wh) := by rw [zF f hne2]; exact hF
            refine e_aload_n F dX2_makeTerm_133 rfl ?_
            refine e_iload F dX2_makeTerm_134 rfl ?_
            refine e_i2l F dX2_makeTerm_136 (⟨by omega, by omega⟩) ?_
            refine e_iload_n F dX2_makeTerm_137 rfl ?_
            refine e_iload F dX2_makeTerm_138 rfl ?_
            refine e_isub F dX2_makeTerm_140 ?_
            refine e_i2l F dX2_makeTerm_141 (⟨by omega, by omega⟩) ?_
            refine e_lmul F dX2_makeTerm_142 ?_
            refine e_callVN F u_X1_modPrime (by rfl) (c_X1_modPrime hF8 hwh (mul_rg2 (by omega) (by omega) (by omega) (by omega))) (by first | assumption | exact e_up_s | (rw [e_up_n (by first | assumption | omega)]; first | assumption | exact e_up_s | (rw [e_up_n (by first | assumption | omega)]; first | assumption | exact e_up_s | (rw [e_up_n (by first | assumption | omega)]; first | assumption | exact e_up_s))) | exact hD.1 | exact hD1.1 | exact hD2.1 | exact gD.1 | exact gD1.1 | exact gD2.1 | exact gQ.1 | exact hQ.1 | exact gS.1 | exact hS.1 | exact zD.1) rfl rfl w_mn_RX2_18 dX2_makeTerm_143 (by rfl) (Nat.le_of_ble_eq_true rfl) (by decide) (by omega) (fun _ _ _ h _ => False.elim h) (fun r_143 w_143 n_143 h_143 hn_143 => ?_)
            obtain ⟨rfl, ew_143, en_143⟩ := h_143
            rw [ew_143, en_143]
            refine e_istore F dX2_makeTerm_146 (by decide) ?_
            refine e_iinc F dX2_makeTerm_148 rfl (by decide) ?_
            refine e_goto F 42 dX2_makeTerm_151 (by decide) ?_
            first
            | (refine e_go (ih (k + 1) wl2 u2 (by omega) ⟨by omega, z0, zu, zF, fun j j0 j1 => by rw [q2]; exact zp j j0 j1⟩) ?_; rw [q1]; exact (And.intro rfl (And.intro rfl (And.intro rfl (And.intro rfl (And.intro rfl (And.intro rfl (trivial))))))))
            | (refine e_go (ih (k + 1) wl u (by omega) ⟨by omega, g0, gu, gF, fun j j0 j1 => by rw [q2]; exact gp j j0 j1⟩) ?_; rw [q1]; exact (And.intro rfl (And.intro rfl (And.intro rfl (And.intro rfl (And.intro rfl (And.intro rfl (trivial))))))))
  have lf : ∀ (N : Nat) (i : Int) (wl : e_W) (u : Int → Int), (7 - i).toNat < N → (0 ≤ i ∧ i ≤ 7 ∧ wl a = some (PO a) ∧ wl (a + 2) = some (e_ia 7 u) ∧ (∀ q, q ≠ a + 2 → wl q = w q) ∧ (∀ j, 0 ≤ j → j < i → u j = if j = 0 then 1 else 0)) → e_V K P9 l E9 (2) (0) S9 M9 A9 B9 T9 C9 8 (fun r w' n' => r = some (.int (eI (wpr (pr wh) h h set (ho wh).toNat))) ∧ n' = n ∧ w' a = some (PO a) ∧ (∃ u, w' (a + 2) = some (e_ia 7 u) ∧ ∀ j, 0 ≤ j → j < 7 → u j = tm (pr wh) h set (ho wh).toNat j) ∧ ∀ q, q ≠ a + 2 → w' q = w q) (e_px0) 6 [(0, .ref a), (1, .ref f), (2, .int (eI set)), (3, .int (eI h)), (4, .int (eI 1)), (5, .int (eI i))] [] wl n (0) := by
    intro N
    induction N with
    | zero => intro i wl u hN; exact absurd hN (Nat.not_lt_zero _)
    | succ N ih =>
      intro i wl u hN ⟨h91, h92, g0, gu, gF, gp⟩
      refine e_iload F dX2_makeTerm_6 rfl ?_
      refine e_aload_n F dX2_makeTerm_8 rfl ?_
      refine e_get (ci := 2) (fi := 1) (q := (RX2, TX2, 2)) F (by first | assumption | exact e_up_s | (rw [e_up_n (by first | assumption | omega)]; first | assumption | exact e_up_s | (rw [e_up_n (by first | assumption | omega)]; first | assumption | exact e_up_s | (rw [e_up_n (by first | assumption | omega)]; first | assumption | exact e_up_s))) | exact hD.1 | exact hD1.1 | exact hD2.1 | exact gD.1 | exact gD1.1 | exact gD2.1 | exact gQ.1 | exact hQ.1 | exact gS.1 | exact hS.1 | exact zD.1) rfl (by decide) w_fl_RX2_15 (by rfl) dX2_makeTerm_9 ?_
      refine e_alenI F (by first | assumption | exact e_up_s | (rw [e_up_n (by first | assumption | omega)]; first | assumption | exact e_up_s | (rw [e_up_n (by first | assumption | omega)]; first | assumption | exact e_up_s | (rw [e_up_n (by first | assumption | omega)]; first | assumption | exact e_up_s))) | exact hD.1 | exact hD1.1 | exact hD2.1 | exact gD.1 | exact gD1.1 | exact gD2.1 | exact gQ.1 | exact hQ.1 | exact gS.1 | exact hS.1 | exact zD.1) dX2_makeTerm_12 ?_
      refine e_icmp_ge F 39 dX2_makeTerm_13 (by decide) (⟨by omega, by omega⟩) (⟨by omega, by omega⟩) (fun c_13 => ?_) (fun c_13 => ?_)
      · refine e_iconst F dX2_makeTerm_39 ?_
        refine e_istore F dX2_makeTerm_40 (by decide) ?_
        exact e_go (lo 8 0 wl u (by omega) ⟨by omega, g0, gu, gF, fun j j0 j1 => gp j j0 (by omega)⟩) (And.intro rfl (And.intro rfl (And.intro rfl (And.intro rfl (And.intro rfl (And.intro rfl (trivial)))))))
      · refine e_aload_n F dX2_makeTerm_16 rfl ?_
        refine e_get (ci := 2) (fi := 1) (q := (RX2, TX2, 2)) F (by first | assumption | exact e_up_s | (rw [e_up_n (by first | assumption | omega)]; first | assumption | exact e_up_s | (rw [e_up_n (by first | assumption | omega)]; first | assumption | exact e_up_s | (rw [e_up_n (by first | assumption | omega)]; first | assumption | exact e_up_s))) | exact hD.1 | exact hD1.1 | exact hD2.1 | exact gD.1 | exact gD1.1 | exact gD2.1 | exact gQ.1 | exact hQ.1 | exact gS.1 | exact hS.1 | exact zD.1) rfl (by decide) w_fl_RX2_15 (by rfl) dX2_makeTerm_17 ?_
        refine e_iload F dX2_makeTerm_20 rfl ?_
        refine e_iload F dX2_makeTerm_22 rfl ?_
        refine e_if_ne F 31 dX2_makeTerm_24 (by decide) (⟨by omega, by omega⟩) (fun c_24 => ?_) (fun c_24 => ?_)
        · refine e_iconst F dX2_makeTerm_31 ?_
          refine e_iast F gu (by omega) (by omega) (by first | decide | omega) dX2_makeTerm_32 ?_
          refine e_iinc F dX2_makeTerm_33 rfl (by decide) ?_
          refine e_goto F 6 dX2_makeTerm_36 (by decide) ?_
          first
          | (exact e_go (ih (i + 1) (e_up wl (a + 2) (e_ia 7 (e_fu u i 0))) (e_fu u i 0) (by omega) ⟨by omega, by omega, by rw [e_up_n (by omega)]; exact g0, e_up_s, fun q q1 => by rw [e_up_n q1]; exact gF q q1, fun j j0 j1 => fu_ite (by rw [if_neg (by omega)]) gp j j0 j1⟩) (And.intro rfl (And.intro rfl (And.intro rfl (And.intro rfl (And.intro rfl (And.intro rfl (trivial))))))))
          | (exact e_go (ih (i + 1) (e_up wl (a + 2) (e_ia 7 (e_fu u i 1))) (e_fu u i 1) (by omega) ⟨by omega, by omega, by rw [e_up_n (by omega)]; exact g0, e_up_s, fun q q1 => by rw [e_up_n q1]; exact gF q q1, fun j j0 j1 => fu_ite (by rw [if_pos (by omega)]) gp j j0 j1⟩) (And.intro rfl (And.intro rfl (And.intro rfl (And.intro rfl (And.intro rfl (And.intro rfl (trivial))))))))
        · refine e_iconst F dX2_makeTerm_27 ?_
          refine e_goto F 32 dX2_makeTerm_28 (by decide) ?_
          refine e_iast F gu (by omega) (by omega) (by first | decide | omega) dX2_makeTerm_32 ?_
          refine e_iinc F dX2_makeTerm_33 rfl (by decide) ?_
          refine e_goto F 6 dX2_makeTerm_36 (by decide) ?_
          first
          | (exact e_go (ih (i + 1) (e_up wl (a + 2) (e_ia 7 (e_fu u i 0))) (e_fu u i 0) (by omega) ⟨by omega, by omega, by rw [e_up_n (by omega)]; exact g0, e_up_s, fun q q1 => by rw [e_up_n q1]; exact gF q q1, fun j j0 j1 => fu_ite (by rw [if_neg (by omega)]) gp j j0 j1⟩) (And.intro rfl (And.intro rfl (And.intro rfl (And.intro rfl (And.intro rfl (And.intro rfl (trivial))))))))
          | (exact e_go (ih (i + 1) (e_up wl (a + 2) (e_ia 7 (e_fu u i 1))) (e_fu u i 1) (by omega) ⟨by omega, by omega, by rw [e_up_n (by omega)]; exact g0, e_up_s, fun q q1 => by rw [e_up_n q1]; exact gF q q1, fun j j0 j1 => fu_ite (by rw [if_pos (by omega)]) gp j j0 j1⟩) (And.intro rfl (And.intro rfl (And.intro rfl (And.intro rfl (And.intro rfl (And.intro rfl (trivial))))))))
  refine e_iconst F dX2_makeTerm_0 ?_
  refine e_istore F dX2_makeTerm_1 (by decide) ?_
  refine e_iconst F dX2_makeTerm_3 ?_
  refine e_istore F dX2_makeTerm_4 (by decide) ?_
  exact e_go (lf 8 0 w t (by omega) ⟨by omega, by omega, h0, ht, fun q _ => rfl, fun j _ _ => by omega⟩) (And.intro rfl (And.intro rfl (And.intro rfl (And.intro rfl (And.intro rfl (And.intro rfl (trivial)))))))
end
-- 16.poly2.lean.txt
section
/-! Poly: addTerm, goThrough -/
theorem PA.fr {w w' : e_W} {a N : Nat} {lo hi : Int} {P : Int → Int} (h : PA w a N lo hi P) (hq : w' a = w a) : PA w' a N lo hi P := by
  obtain ⟨f, h1, h2⟩ := h
  exact ⟨f, by rw [hq]; exact h1, h2⟩
theorem DL.fr {w w' : e_W} {d : Nat} {fl dg sc : Int} {A B : Int → Int} (h : DL w d fl dg sc A B) (h0 : w' d = w d) (h1 : w' (d + 1) = w (d + 1)) (h2 : w' (d + 2) = w (d + 2)) : DL w' d fl dg sc A B :=
  ⟨by rw [h0]; exact h.1, h.2.1.fr h1, h.2.2.1.fr h2, h.2.2.2⟩
theorem DO_ne {w : e_W} {d a N : Nat} {g : Int → Int} {x y z : Int} (h1 : w d = some (DO d x y z)) (h2 : w a = some (e_ia N g)) : d ≠ a := by
  intro e
  rw [e, h2] at h1
  cases h1
theorem ia_ne {w : e_W} {d a N M : Nat} {f g : Int → Int} (h1 : w d = some (e_ia M f)) (h2 : w a = some (e_ia N g)) (hn : M ≠ N) : d ≠ a := by
  intro e
  rw [e, h2] at h1
  have h3 := Sum.inr.inj (Option.some.inj h1)
  exact hn (Prod.mk.inj (Prod.mk.inj h3).2).1.symm
set_option maxHeartbeats 4000000 in
set_option maxRecDepth 100000 in
theorem c_X2_addTerm {K : e_K} {l : Launch} {w : e_W} {n : Nat} {a : Nat} {P : Int → Int} (hQ : PL w a P) {f wh : Nat} (hF : w f = some (FO wh)) (hwh : wh < 7) {fc : Int} {t : Int → Int} (hfc : 0 ≤ fc ∧ fc < pr wh) (ht : w (a + 2) = some (e_ia 7 t)) (htr : ∀ j, 0 ≤ j → j < 7 → 0 ≤ t j ∧ t j < pr wh) : e_Met K l yX2_addTerm (Cond.code yX2_addTerm cX2_addTerm 4 none :: e_TB) (1) (0) [.ref a, .ref f, .int (eI fc)] w n (fun r w' n' => r = none ∧ n' = n ∧ PL w' a (fun j => (P j + fc * t j) % pr wh) ∧ ∀ q, q ≠ a + 1 → w' q = w q) (e_px0) := by
  refine e_ofV rfl (Nat.le_of_ble_eq_true rfl) ?_
  intro P9 E9 S9 M9 A9 B9 T9 C9 F hnm
  have hp := pr_rg wh hwh
  have ho9 := ho_rg wh hwh
  have hQ0 := hQ
  obtain ⟨h0, ⟨P9f, hf, hfP⟩, ⟨t9, ht9⟩, hr⟩ := hQ
  have hne1 : f ≠ a + 1 := FO_ne hF hf
  have lp : ∀ (N : Nat) (i : Int) (wl : e_W) (u : Int → Int), (7 - i).toNat < N → (0 ≤ i ∧ i ≤ 7 ∧ wl a = some (PO a) ∧ wl (a + 1) = some (e_ia 7 u) ∧ wl (a + 2) = some (e_ia 7 t) ∧ (∀ q, q ≠ a + 1 → wl q = w q) ∧ (∀ j, 0 ≤ j → j < 7 → u j = if j < i then (P j + fc * t j) % pr wh else P j)) → e_V K P9 l E9 (1) (0) S9 M9 A9 B9 T9 C9 4 (fun r w' n' => r = none ∧ n' = n ∧ PL w' a (fun j => (P j + fc * t j) % pr wh) ∧ ∀ q, q ≠ a + 1 → w' q = w q) (e_px0) 2 [(0, .ref a), (1, .ref f), (2, .int (eI fc)), (3, .int (eI i))] [] wl n (0) := by
    intro N
    induction N with
    | zero => intro i wl u hN; exact absurd hN (Nat.not_lt_zero _)
    | succ N ih =>
      intro i wl u hN ⟨h1, h2, g0, gr, gt9, gF, gp⟩
      have hF9 : wl f = some (FO wh) := by rw [gF f hne1]; exact hF
      refine e_iload_n F dX2_addTerm_2 rfl ?_
      refine e_aload_n F dX2_addTerm_3 rfl ?_
      refine e_get (ci := 2) (fi := 0) (q := (RX2, TX2, 2)) F (by first | assumption | exact e_up_s | (rw [e_up_n (by first | assumption | omega)]; first | assumption | exact e_up_s | (rw [e_up_n (by first | assumption | omega)]; first | assumption | exact e_up_s | (rw [e_up_n (by first | assumption | omega)]; first | assumption | exact e_up_s))) | exact hD.1 | exact hD1.1 | exact hD2.1 | exact gD.1 | exact gD1.1 | exact gD2.1 | exact gQ.1 | exact hQ.1 | exact gS.1 | exact hS.1 | exact zD.1) rfl (by decide) w_fl_RX2_9 (by rfl) dX2_addTerm_4 ?_
      refine e_alenI F (by first | assumption | exact e_up_s | (rw [e_up_n (by first | assumption | omega)]; first | assumption | exact e_up_s | (rw [e_up_n (by first | assumption | omega)]; first | assumption | exact e_up_s | (rw [e_up_n (by first | assumption | omega)]; first | assumption | exact e_up_s))) | exact hD.1 | exact hD1.1 | exact hD2.1 | exact gD.1 | exact gD1.1 | exact gD2.1 | exact gQ.1 | exact hQ.1 | exact gS.1 | exact hS.1 | exact zD.1) dX2_addTerm_7 ?_
      refine e_icmp_ge F 54 dX2_addTerm_8 (by decide) (⟨by omega, by omega⟩) (⟨by omega, by omega⟩) (fun c_8 => ?_) (fun c_8 => ?_)
      · refine e_vret F rfl (by omega) ?_ dX2_addTerm_54
        refine ⟨rfl, rfl, ⟨g0, ⟨u, gr, fun j j0 j1 => by rw [gp j j0 j1, if_pos (by omega)]⟩, ⟨t, gt9⟩, fun j j0 j1 => ?_⟩, gF⟩
        have h8 := emod_rg (P j + fc * t j) hwh
        dsimp only
        omega
      · refine e_iload_n F dX2_addTerm_11 rfl ?_
        refine e_aload_n F dX2_addTerm_12 rfl ?_
        refine e_get (ci := 2) (fi := 1) (q := (RX2, TX2, 2)) F (by first | assumption | exact e_up_s | (rw [e_up_n (by first | assumption | omega)]; first | assumption | exact e_up_s | (rw [e_up_n (by first | assumption | omega)]; first | assumption | exact e_up_s | (rw [e_up_n (by first | assumption | omega)]; first | assumption | exact e_up_s))) | exact hD.1 | exact hD1.1 | exact hD2.1 | exact gD.1 | exact gD1.1 | exact gD2.1 | exact gQ.1 | exact hQ.1 | exact gS.1 | exact hS.1 | exact zD.1) rfl (by decide) w_fl_RX2_15 (by rfl) dX2_addTerm_13 ?_
        refine e_alenI F gt9 dX2_addTerm_16 ?_
        refine e_icmp_ge F 54 dX2_addTerm_17 (by decide) (⟨by omega, by omega⟩) (⟨by omega, by omega⟩) (fun c_17 => ?_) (fun c_17 => ?_)
        · exact absurd c_17 (by omega)
        · refine e_aload_n F dX2_addTerm_20 rfl ?_
          refine e_get (ci := 2) (fi := 0) (q := (RX2, TX2, 2)) F (by first | assumption | exact e_up_s | (rw [e_up_n (by first | assumption | omega)]; first | assumption | exact e_up_s | (rw [e_up_n (by first | assumption | omega)]; first | assumption | exact e_up_s | (rw [e_up_n (by first | assumption | omega)]; first | assumption | exact e_up_s))) | exact hD.1 | exact hD1.1 | exact hD2.1 | exact gD.1 | exact gD1.1 | exact gD2.1 | exact gQ.1 | exact hQ.1 | exact gS.1 | exact hS.1 | exact zD.1) rfl (by decide) w_fl_RX2_9 (by rfl) dX2_addTerm_21 ?_
          refine e_iload_n F dX2_addTerm_24 rfl ?_
          refine e_aload_n F dX2_addTerm_25 rfl ?_
          refine e_aload_n F dX2_addTerm_26 rfl ?_
          refine e_get (ci := 2) (fi := 0) (q := (RX2, TX2, 2)) F (by first | assumption | exact e_up_s | (rw [e_up_n (by first | assumption | omega)]; first | assumption | exact e_up_s | (rw [e_up_n (by first | assumption | omega)]; first | assumption | exact e_up_s | (rw [e_up_n (by first | assumption | omega)]; first | assumption | exact e_up_s))) | exact hD.1 | exact hD1.1 | exact hD2.1 | exact gD.1 | exact gD1.1 | exact gD2.1 | exact gQ.1 | exact hQ.1 | exact gS.1 | exact hS.1 | exact zD.1) rfl (by decide) w_fl_RX2_9 (by rfl) dX2_addTerm_27 ?_
          refine e_iload_n F dX2_addTerm_30 rfl ?_
          refine e_iald F gr (by omega) (by omega) (by first | decide | omega) dX2_addTerm_31 ?_
          rw [gp i h1 (by omega), if_neg (by omega)]
          have hi1 := hr i h1 (by omega)
          have hi2 := htr i h1 (by omega)
          have hm := mul_rg3 (a := fc) (by omega) (by omega) (b := t i) (by omega) (by omega) (c := P i) (by omega) (by omega)
          refine e_i2l F dX2_addTerm_32 (⟨by omega, by omega⟩) ?_
          refine e_iload_n F dX2_addTerm_33 rfl ?_
          refine e_i2l F dX2_addTerm_34 (⟨by omega, by omega⟩) ?_
          refine e_aload_n F dX2_addTerm_35 rfl ?_
          refine e_get (ci := 2) (fi := 1) (q := (RX2, TX2, 2)) F (by first | assumption | exact e_up_s | (rw [e_up_n (by first | assumption | omega)]; first | assumption | exact e_up_s | (rw [e_up_n (by first | assumption | omega)]; first | assumption | exact e_up_s | (rw [e_up_n (by first | assumption | omega)]; first | assumption | exact e_up_s))) | exact hD.1 | exact hD1.1 | exact hD2.1 | exact gD.1 | exact gD1.1 | exact gD2.1 | exact gQ.1 | exact hQ.1 | exact gS.1 | exact hS.1 | exact zD.1) rfl (by decide) w_fl_RX2_15 (by rfl) dX2_addTerm_36 ?_
          refine e_iload_n F dX2_addTerm_39 rfl ?_
          refine e_iald F gt9 (by omega) (by omega) (by first | decide | omega) dX2_addTerm_40 ?_
          refine e_i2l F dX2_addTerm_41 (⟨by omega, by omega⟩) ?_
          refine e_lmul F dX2_addTerm_42 ?_
          refine e_ladd F dX2_addTerm_43 ?_
          refine e_callVN F u_X1_modPrime (by rfl) (c_X1_modPrime hF9 hwh hm.1) (by first | assumption | exact e_up_s | (rw [e_up_n (by first | assumption | omega)]; first | assumption | exact e_up_s | (rw [e_up_n (by first | assumption | omega)]; first | assumption | exact e_up_s | (rw [e_up_n (by first | assumption | omega)]; first | assumption | exact e_up_s))) | exact hD.1 | exact hD1.1 | exact hD2.1 | exact gD.1 | exact gD1.1 | exact gD2.1 | exact gQ.1 | exact hQ.1 | exact gS.1 | exact hS.1 | exact zD.1) rfl rfl w_mn_RX2_18 dX2_addTerm_44 (by rfl) (Nat.le_of_ble_eq_true rfl) (by decide) (by omega) (fun _ _ _ h _ => False.elim h) (fun r_44 w_44 n_44 h_44 hn_44 => ?_)
          obtain ⟨rfl, ew_44, en_44⟩ := h_44
          rw [ew_44, en_44]
          refine e_iast F gr (by omega) (by omega) (by first | decide | omega) dX2_addTerm_47 ?_
          refine e_iinc F dX2_addTerm_48 rfl (by decide) ?_
          refine e_goto F 2 dX2_addTerm_51 (by decide) ?_
          refine e_go (ih (i + 1) (e_up wl (a + 1) (e_ia 7 (e_fu u i ((P i + fc * t i) % pr wh)))) (e_fu u i ((P i + fc * t i) % pr wh)) (by omega) ⟨by omega, by omega, by rw [e_up_n (by omega)]; exact g0, e_up_s, by rw [e_up_n (by omega)]; exact gt9, fun q q1 => by rw [e_up_n q1]; exact gF q q1, fun j j0 j1 => ?_⟩) (And.intro rfl (And.intro rfl (And.intro rfl (And.intro rfl (trivial)))))
          unfold e_fu
          split
          · rename_i q; rw [if_pos (by omega), q]
          · rw [gp j j0 j1]
            by_cases q : j < i
            · rw [if_pos q, if_pos (by omega)]
            · rw [if_neg q, if_neg (by omega)]
  refine e_iconst F dX2_addTerm_0 ?_
  refine e_istore_n F dX2_addTerm_1 (by decide) ?_
  exact e_go (lp 8 0 w P9f (by omega) ⟨by omega, by omega, h0, hf, ht, fun q _ => rfl, fun j j0 j1 => by rw [if_neg (by omega)]; exact hfP j j0 j1⟩) (And.intro rfl (And.intro rfl (And.intro rfl (And.intro rfl (trivial)))))
set_option maxHeartbeats 4000000 in
set_option maxRecDepth 100000 in
theorem c_X0_shareAtW {K : e_K} {l : Launch} {w : e_W} {n : Nat} {d : Nat} {fl dg sc : Int} {A B : Int → Int} (h0 : w d = some (DO d fl dg sc)) (hA9 : PA w (d + 1) 8 1 8 A) (hW : DW fl dg sc A B) {h : Int} (h1 : 1 ≤ h) (h2 : h ≤ 7) : e_Met K l yX0_shareAt (Cond.code yX0_shareAt cX0_shareAt 2 (Option.some .int) :: e_TB) (0) (0) [.ref d, .int (eI h)] w n (fun r w' n' => r = some (.int (eI (A h))) ∧ w' = w ∧ n' = n) (e_px0) := by
  refine e_ofV rfl (Nat.le_of_ble_eq_true rfl) ?_
  intro P9 E9 S9 M9 A9 B9 T9 C9 F hnm
  obtain ⟨f, hf, hfA⟩ := hA9
  refine e_iload_n F dX0_shareAt_0 rfl ?_
  refine e_iconst F dX0_shareAt_1 ?_
  refine e_icmp_lt F 23 dX0_shareAt_2 (by decide) (⟨by omega, by omega⟩) (⟨by omega, by omega⟩) (fun c_2 => ?_) (fun c_2 => ?_)
  · exact absurd c_2 (by omega)
  · refine e_iload_n F dX0_shareAt_5 rfl ?_
    refine e_aload_n F dX0_shareAt_6 rfl ?_
    refine e_get (ci := 0) (fi := 3) (q := (RX0, TX0, 5)) F (by first | assumption | exact e_up_s | (rw [e_up_n (by first | assumption | omega)]; first | assumption | exact e_up_s | (rw [e_up_n (by first | assumption | omega)]; first | assumption | exact e_up_s | (rw [e_up_n (by first | assumption | omega)]; first | assumption | exact e_up_s))) | exact hD.1 | exact hD1.1 | exact hD2.1 | exact gD.1 | exact gD1.1 | exact gD2.1 | exact gQ.1 | exact hQ.1 | exact gS.1 | exact hS.1 | exact zD.1) rfl (by decide) w_fl_RX0_9 (by rfl) dX0_shareAt_7 ?_
    refine e_alenI F (by first | assumption | exact e_up_s | (rw [e_up_n (by first | assumption | omega)]; first | assumption | exact e_up_s | (rw [e_up_n (by first | assumption | omega)]; first | assumption | exact e_up_s | (rw [e_up_n (by first | assumption | omega)]; first | assumption | exact e_up_s))) | exact hD.1 | exact hD1.1 | exact hD2.1 | exact gD.1 | exact gD1.1 | exact gD2.1 | exact gQ.1 | exact hQ.1 | exact gS.1 | exact hS.1 | exact zD.1) dX0_shareAt_10 ?_
    refine e_icmp_ge F 23 dX0_shareAt_11 (by decide) (⟨by omega, by omega⟩) (⟨by omega, by omega⟩) (fun c_11 => ?_) (fun c_11 => ?_)
    · exact absurd c_11 (by omega)
    · refine e_aload_n F dX0_shareAt_14 rfl ?_
      refine e_get (ci := 0) (fi := 3) (q := (RX0, TX0, 5)) F (by first | assumption | exact e_up_s | (rw [e_up_n (by first | assumption | omega)]; first | assumption | exact e_up_s | (rw [e_up_n (by first | assumption | omega)]; first | assumption | exact e_up_s | (rw [e_up_n (by first | assumption | omega)]; first | assumption | exact e_up_s))) | exact hD.1 | exact hD1.1 | exact hD2.1 | exact gD.1 | exact gD1.1 | exact gD2.1 | exact gQ.1 | exact hQ.1 | exact gS.1 | exact hS.1 | exact zD.1) rfl (by decide) w_fl_RX0_9 (by rfl) dX0_shareAt_15 ?_
      refine e_iload_n F dX0_shareAt_18 rfl ?_
      refine e_iald F (by first | assumption | exact e_up_s | (rw [e_up_n (by first | assumption | omega)]; first | assumption | exact e_up_s | (rw [e_up_n (by first | assumption | omega)]; first | assumption | exact e_up_s | (rw [e_up_n (by first | assumption | omega)]; first | assumption | exact e_up_s))) | exact hD.1 | exact hD1.1 | exact hD2.1 | exact gD.1 | exact gD1.1 | exact gD2.1 | exact gQ.1 | exact hQ.1 | exact gS.1 | exact hS.1 | exact zD.1) (by omega) (by omega) (by first | decide | omega) dX0_shareAt_19 ?_
      refine e_goto F 24 dX0_shareAt_20 (by decide) ?_
      refine e_iret F rfl (by omega) ?_ dX0_shareAt_24
      exact ⟨by rw [hfA h h1 (by omega)], rfl, rfl⟩
set_option maxHeartbeats 4000000 in
set_option maxRecDepth 100000 in
theorem c_X2_goThrough {K : e_K} {l : Launch} {w : e_W} {n : Nat} {a : Nat} {P : Int → Int} (hQ : PL w a P) {f wh : Nat} (hF : w f = some (FO wh)) (hwh : wh < 7) {d : Nat} {fl dg sc : Int} {A B : Int → Int} (hD : DL w d fl dg sc A B) {set : Int} (h1 : 0 ≤ set) (h2 : set < 2147483648) : e_Met K l yX2_goThrough (Cond.code yX2_goThrough cX2_goThrough 7 none :: e_TB) (3) (0) [.ref a, .ref f, .ref d, .int (eI set)] w n (fun r w' n' => r = none ∧ n' = n ∧ PL w' a (gt wh set A (ho wh).toNat) ∧ PF w w' a) (e_px0) := by
  refine e_ofV rfl (Nat.le_of_ble_eq_true rfl) ?_
  intro P9 E9 S9 M9 A9 B9 T9 C9 F hnm
  have hp := pr_rg wh hwh
  have ho9 := ho_rg wh hwh
  have hQ0 := hQ
  obtain ⟨h0, ⟨P9f, hf, hfP⟩, ⟨t, ht⟩, hr⟩ := hQ
  have hne1 : f ≠ a + 1 := FO_ne hF hf
  have hne2 : f ≠ a + 2 := FO_ne hF ht
  have hD0 := hD
  obtain ⟨d0, ⟨df, dfa, dfA⟩, ⟨dg9, dga, dgB⟩, hdw⟩ := hD
  have n1 : d ≠ a + 1 := DO_ne d0 hf
  have n2 : d ≠ a + 2 := DO_ne d0 ht
  have n3 : d + 1 ≠ a + 1 := ia_ne dfa hf (by decide)
  have n4 : d + 1 ≠ a + 2 := ia_ne dfa ht (by decide)
  have lp : ∀ (N : Nat) (k : Nat) (wl : e_W), (7 - k) < N → (k ≤ (ho wh).toNat ∧ PL wl a (gt wh set A k) ∧ PF w wl a) → e_V K P9 l E9 (3) (0) S9 M9 A9 B9 T9 C9 7 (fun r w' n' => r = none ∧ n' = n ∧ PL w' a (gt wh set A (ho wh).toNat) ∧ PF w w' a) (e_px0) 7 [(0, .ref a), (1, .ref f), (2, .ref d), (3, .int (eI set)), (4, .int (eI ((k : Int) + 1)))] [] wl n (0) := by
    intro N
    induction N with
    | zero => intro k wl hN; exact absurd hN (Nat.not_lt_zero _)
    | succ N ih =>
      intro k wl hN ⟨hk, gP, gF⟩
      have hF9 : wl f = some (FO wh) := by rw [gF f hne1 hne2]; exact hF
      have gP0 := gP
      obtain ⟨g0, ⟨gf, gfa, gfP⟩, ⟨gu, gua⟩, gr⟩ := gP
      refine e_iload F dX2_goThrough_7 rfl ?_
      refine e_aload_n F dX2_goThrough_9 rfl ?_
      refine e_getN (ci := 1) (fi := 4) (q := (RX1, TX1, 5)) F (by first | assumption | exact e_up_s | (rw [e_up_n (by first | assumption | omega)]; first | assumption | exact e_up_s | (rw [e_up_n (by first | assumption | omega)]; first | assumption | exact e_up_s | (rw [e_up_n (by first | assumption | omega)]; first | assumption | exact e_up_s))) | exact hD.1 | exact hD1.1 | exact hD2.1 | exact gD.1 | exact gD1.1 | exact gD2.1 | exact gQ.1 | exact hQ.1 | exact gS.1 | exact hS.1 | exact zD.1) rfl (by decide) w_fn_RX2_31 (by rfl) dX2_goThrough_10 ?_
      refine e_icmp_gt F 69 dX2_goThrough_13 (by decide) (⟨by omega, by omega⟩) (⟨by omega, by omega⟩) (fun c_13 => ?_) (fun c_13 => ?_)
      ·
        obtain rfl : k = (ho wh).toNat := by omega
        refine e_vret F rfl (by omega) ?_ dX2_goThrough_69
        exact ⟨rfl, rfl, gP0, gF⟩
      · refine e_iload_n F dX2_goThrough_16 rfl ?_
        refine e_iload F dX2_goThrough_17 rfl ?_
        refine e_callSN F u_X3_isIn (by rfl) (c_X3_isIn h1 h2 (h := (k : Int) + 1) (by omega) (by omega)) w_mn_RX2_35 dX2_goThrough_19 (by rfl) (Nat.le_of_ble_eq_true rfl) (by decide) (by omega) (fun _ _ _ h _ => False.elim h) (fun r_19 w_19 n_19 h_19 hn_19 => ?_)
        obtain ⟨rfl, ew_19, en_19⟩ := h_19
        rw [ew_19, en_19]
        refine e_if_eq F 63 dX2_goThrough_22 (by decide) (b01_r _) (fun c_22 => ?_) (fun c_22 => ?_)
        ·
          rw [b01_0] at c_22
          have q2 : gt wh set A (k + 1) = gt wh set A k := if_neg c_22
          refine e_iinc F dX2_goThrough_63 rfl (by decide) ?_
          refine e_goto F 7 dX2_goThrough_66 (by decide) ?_
          first
          | exact e_go (ih (k + 1) w_60 (by omega) ⟨by omega, z3, z4⟩) (And.intro rfl (And.intro rfl (And.intro rfl (And.intro rfl (And.intro rfl (trivial))))))
          | exact e_go (ih (k + 1) wl (by omega) ⟨by omega, by rw [q2]; exact gP0, gF⟩) (And.intro rfl (And.intro rfl (And.intro rfl (And.intro rfl (And.intro rfl (trivial))))))
        ·
          rw [b01_0, Classical.not_not] at c_22
          have q2 : gt wh set A (k + 1) = fun c => (gt wh set A k c + fac wh set A ((k : Int) + 1) * tm (pr wh) ((k : Int) + 1) set (ho wh).toNat c) % pr wh := if_pos c_22
          refine e_aload_n F dX2_goThrough_25 rfl ?_
          refine e_aload_n F dX2_goThrough_26 rfl ?_
          refine e_iload_n F dX2_goThrough_27 rfl ?_
          refine e_iload F dX2_goThrough_28 rfl ?_
          refine e_callVV F u_X2_makeTerm (by rfl) (c_X2_makeTerm gP0 hF9 hwh h1 h2 (h := (k : Int) + 1) (by omega) (by omega)) g0 rfl rfl w_ml_RX2_39 dX2_goThrough_30 (by rfl) (Nat.le_of_ble_eq_true rfl) (by decide) (by omega) (fun _ _ _ h _ => False.elim h) (fun r_30 w_30 n_30 h_30 hn_30 => ?_)
          obtain ⟨rfl, en30, z0, ⟨u2, zu, zp⟩, zF⟩ := h_30
          rw [en30]
          have hF8 : w_30 f = some (FO wh) := by rw [zF f hne2]; exact hF9
          have gP8 : PL w_30 a (gt wh set A k) := ⟨z0, ⟨gf, by rw [zF _ (by omega)]; exact gfa, gfP⟩, ⟨u2, zu⟩, gr⟩
          have d8 : w_30 d = w d := by rw [zF d n2, gF d n1 n2]
          have d9 : w_30 (d + 1) = w (d + 1) := by rw [zF _ n4, gF _ n3 n4]
          have hwp := wpr_rg (x := (k : Int) + 1) (h := (k : Int) + 1) (set := set) (show 2 ≤ pr wh by omega) (ho wh).toNat
          have hiv := iv_rg (v := wpr (pr wh) ((k : Int) + 1) ((k : Int) + 1) set (ho wh).toNat) hwh
          have hAk := hdw.2.2.2.1 ((k : Int) + 1) (by omega) (by omega)
          refine e_istore F dX2_goThrough_33 (by decide) ?_
          refine e_aload_n F dX2_goThrough_35 rfl ?_
          refine e_aload_n F dX2_goThrough_36 rfl ?_
          refine e_iload F dX2_goThrough_37 rfl ?_
          refine e_callVN F u_X0_shareAt (by rfl) (c_X0_shareAtW (by rw [d8]; exact d0) (PA.fr ⟨df, dfa, dfA⟩ d9) hdw (h := (k : Int) + 1) (by omega) (by omega)) (by rw [d8]; exact d0) rfl rfl w_mn_RX2_43 dX2_goThrough_39 (by rfl) (Nat.le_of_ble_eq_true rfl) (by decide) (by omega) (fun _ _ _ h _ => False.elim h) (fun r_39 w_39 n_39 h_39 hn_39 => ?_)
          obtain ⟨rfl, ew_39, en_39⟩ := h_39
          rw [ew_39, en_39]
          refine e_i2l F dX2_goThrough_42 (⟨by omega, by omega⟩) ?_
          refine e_aload_n F dX2_goThrough_43 rfl ?_
          refine e_iload F dX2_goThrough_44 rfl ?_
          refine e_callVN F u_X1_inverse (by rfl) (c_X1_inverse hF8 hwh hwp.1 hwp.2) (by first | assumption | exact e_up_s | (rw [e_up_n (by first | assumption | omega)]; first | assumption | exact e_up_s | (rw [e_up_n (by first | assumption | omega)]; first | assumption | exact e_up_s | (rw [e_up_n (by first | assumption | omega)]; first | assumption | exact e_up_s))) | exact hD.1 | exact hD1.1 | exact hD2.1 | exact gD.1 | exact gD1.1 | exact gD2.1 | exact gQ.1 | exact hQ.1 | exact gS.1 | exact hS.1 | exact zD.1) rfl rfl w_mn_RX2_49 dX2_goThrough_46 (by rfl) (Nat.le_of_ble_eq_true rfl) (by decide) (by omega) (fun _ _ _ h _ => False.elim h) (fun r_46 w_46 n_46 h_46 hn_46 => ?_)
          obtain ⟨rfl, ew_46, en_46⟩ := h_46
          rw [ew_46, en_46]
          refine e_i2l F dX2_goThrough_49 (⟨by omega, by omega⟩) ?_
          refine e_lmul F dX2_goThrough_50 ?_
          have hm : e_r8 (A ((k : Int) + 1) * iv wh (wpr (pr wh) ((k : Int) + 1) ((k : Int) + 1) set (ho wh).toNat)) := by rw [Int.mul_comm]; exact mul_rg2 (by omega) (by omega) (by omega) (by omega)
          refine e_callVN F u_X1_modPrime (by rfl) (c_X1_modPrime hF8 hwh hm) (by first | assumption | exact e_up_s | (rw [e_up_n (by first | assumption | omega)]; first | assumption | exact e_up_s | (rw [e_up_n (by first | assumption | omega)]; first | assumption | exact e_up_s | (rw [e_up_n (by first | assumption | omega)]; first | assumption | exact e_up_s))) | exact hD.1 | exact hD1.1 | exact hD2.1 | exact gD.1 | exact gD1.1 | exact gD2.1 | exact gQ.1 | exact hQ.1 | exact gS.1 | exact hS.1 | exact zD.1) rfl rfl w_mn_RX2_18 dX2_goThrough_51 (by rfl) (Nat.le_of_ble_eq_true rfl) (by decide) (by omega) (fun _ _ _ h _ => False.elim h) (fun r_51 w_51 n_51 h_51 hn_51 => ?_)
          obtain ⟨rfl, ew_51, en_51⟩ := h_51
          rw [ew_51, en_51]
          refine e_istore F dX2_goThrough_54 (by decide) ?_
          refine e_aload_n F dX2_goThrough_56 rfl ?_
          refine e_aload_n F dX2_goThrough_57 rfl ?_
          refine e_iload F dX2_goThrough_58 rfl ?_
          have hfc := emod_rg (A ((k : Int) + 1) * iv wh (wpr (pr wh) ((k : Int) + 1) ((k : Int) + 1) set (ho wh).toNat)) hwh
          refine e_callVV F u_X2_addTerm (by rfl) (c_X2_addTerm gP8 hF8 hwh hfc zu (fun j j0 j1 => by rw [zp j j0 j1]; exact tm_rg (by omega) _ j)) z0 rfl rfl w_ml_RX2_52 dX2_goThrough_60 (by rfl) (Nat.le_of_ble_eq_true rfl) (by decide) (by omega) (fun _ _ _ h _ => False.elim h) (fun r_60 w_60 n_60 h_60 hn_60 => ?_)
          obtain ⟨rfl, en60, z2, z2F⟩ := h_60
          rw [en60]
          have z3 : PL w_60 a (gt wh set A (k + 1)) := z2.to (fun j j0 j1 => by rw [q2]; dsimp only; rw [zp j j0 j1]; rfl)
          have z4 : PF w w_60 a := fun q x1 x2 => by rw [z2F q x1, zF q x2, gF q x1 x2]
          refine e_iinc F dX2_goThrough_63 rfl (by decide) ?_
          refine e_goto F 7 dX2_goThrough_66 (by decide) ?_
          first
          | exact e_go (ih (k + 1) w_60 (by omega) ⟨by omega, z3, z4⟩) (And.intro rfl (And.intro rfl (And.intro rfl (And.intro rfl (And.intro rfl (trivial))))))
          | exact e_go (ih (k + 1) wl (by omega) ⟨by omega, by rw [q2]; exact gP0, gF⟩) (And.intro rfl (And.intro rfl (And.intro rfl (And.intro rfl (And.intro rfl (trivial))))))
  refine e_aload_n F dX2_goThrough_0 rfl ?_
  refine e_callVV F u_X2_clear (by rfl) (c_X2_clear h0 hf) (by first | assumption | exact e_up_s | (rw [e_up_n (by first | assumption | omega)]; first | assumption | exact e_up_s | (rw [e_up_n (by first | assumption | omega)]; first | assumption | exact e_up_s | (rw [e_up_n (by first | assumption | omega)]; first | assumption | exact e_up_s))) | exact hD.1 | exact hD1.1 | exact hD2.1 | exact gD.1 | exact gD1.1 | exact gD2.1 | exact gQ.1 | exact hQ.1 | exact gS.1 | exact hS.1 | exact zD.1) rfl rfl w_ml_RX2_24 dX2_goThrough_1 (by rfl) (Nat.le_of_ble_eq_true rfl) (by decide) (by omega) (fun _ _ _ h _ => False.elim h) (fun r_1 w_1 n_1 h_1 hn_1 => ?_)
  obtain ⟨rfl, en1, g0, ⟨f1, g1, g2⟩, g3⟩ := h_1
  rw [en1]
  refine e_iconst F dX2_goThrough_4 ?_
  refine e_istore F dX2_goThrough_5 (by decide) ?_
  exact e_go (lp 8 0 w_1 (by omega) ⟨by omega, ⟨g0, ⟨f1, g1, g2⟩, ⟨t, by rw [g3 _ (by omega)]; exact ht⟩, fun j _ _ => by show 0 ≤ (0 : Int) ∧ (0 : Int) < 1000003; omega⟩, fun q q1 _ => g3 q q1⟩) (And.intro rfl (And.intro rfl (And.intro rfl (And.intro rfl (And.intro rfl (trivial))))))
end
