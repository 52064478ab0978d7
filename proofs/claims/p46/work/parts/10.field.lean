/-! Field: numbers MOD the prime, seals MOD the great prime -/
def pr (wh : Nat) : Int := (e_row 0).getD wh 0
def gr (wh : Nat) : Int := (e_row 1).getD wh 0
def bs (wh : Nat) : Int := (e_row 2).getD wh 0
def ho (wh : Nat) : Int := if pr wh - 1 < 7 then pr wh - 1 else 7
theorem wh_cases {P : Nat → Prop} (h0 : P 0) (h1 : P 1) (h2 : P 2) (h3 : P 3) (h4 : P 4) (h5 : P 5) (h6 : P 6) : ∀ wh, wh < 7 → P wh := by
  intro wh h
  match wh, h with
  | 0, _ => exact h0
  | 1, _ => exact h1
  | 2, _ => exact h2
  | 3, _ => exact h3
  | 4, _ => exact h4
  | 5, _ => exact h5
  | 6, _ => exact h6
theorem pr_rg : ∀ wh, wh < 7 → 5 ≤ pr wh ∧ pr wh ≤ 1000003 := wh_cases (by decide) (by decide) (by decide) (by decide) (by decide) (by decide) (by decide)
theorem gr_rg : ∀ wh, wh < 7 → 11 ≤ gr wh ∧ gr wh ≤ 36000109 := wh_cases (by decide) (by decide) (by decide) (by decide) (by decide) (by decide) (by decide)
theorem bs_rg : ∀ wh, wh < 7 → 2 ≤ bs wh ∧ bs wh ≤ 76 := wh_cases (by decide) (by decide) (by decide) (by decide) (by decide) (by decide) (by decide)
theorem bs_gr : ∀ wh, wh < 7 → bs wh < gr wh := wh_cases (by decide) (by decide) (by decide) (by decide) (by decide) (by decide) (by decide)
theorem ho_rg : ∀ wh, wh < 7 → 4 ≤ ho wh ∧ ho wh ≤ 7 ∧ ho wh < pr wh := wh_cases (by decide) (by decide) (by decide) (by decide) (by decide) (by decide) (by decide)
/-- the object: which, p, q, g, M -/
abbrev FO (wh : Nat) : e_C := .inl (1, [.int (eI (wh : Int)), .int (eI (pr wh)), .int (eI (gr wh)), .int (eI (bs wh)), .int (eI (ho wh))])
theorem emod_of_tmod {a b : Int} (hb : 0 < b) : a % b = if a.tmod b < 0 then a.tmod b + b else a.tmod b := by
  have h1 := tmod_bounds (a := a) hb
  have h2 : a.tmod b = a - b * a.tdiv b := Int.tmod_def a b
  split
  · have h3 : a.tmod b + b = a + b * (1 - a.tdiv b) := by rw [h2, Int.mul_sub]; omega
    have h4 : (a.tmod b + b) % b = a % b := by rw [h3, Int.add_mul_emod_self_left]
    rw [← h4]; exact (Int.emod_eq_of_lt (by omega) (by omega))
  · have h3 : a.tmod b = a + b * (- a.tdiv b) := by rw [h2, Int.mul_neg]; omega
    have h4 : (a.tmod b) % b = a % b := by conv => lhs; rw [h3, Int.add_mul_emod_self_left]
    rw [← h4]; exact (Int.emod_eq_of_lt (by omega) (by omega))
theorem e_cmp_ge (a b : Int) : (0 ≤ e_cmp a b) ↔ b ≤ a := by unfold e_cmp; split <;> (try split) <;> omega
theorem e_cmp_le (a b : Int) : (e_cmp a b ≤ 0) ↔ a ≤ b := by unfold e_cmp; split <;> (try split) <;> omega
theorem e_cmp_ne (a b : Int) : (e_cmp a b ≠ 0) ↔ a ≠ b := by unfold e_cmp; split <;> (try split) <;> omega
theorem e_cmp_r (a b : Int) : e_r (e_cmp a b) := by unfold e_cmp; split <;> (try split) <;> decide
set_option maxHeartbeats 4000000 in
set_option maxRecDepth 100000 in
/-- v MOD p -/
theorem c_X1_modPrime {K : e_K} {l : Launch} {w : e_W} {n : Nat} {f wh : Nat} {v : Int} (hF : w f = some (FO wh)) (hwh : wh < 7) (hv : e_r8 v) : e_Met K l yX1_modPrime (Cond.code yX1_modPrime cX1_modPrime 5 (Option.some .int) :: e_TB) (0) (0) [.ref f, .long (eJ v)] w n (fun r w' n' => r = some (.int (eI (v % pr wh))) ∧ w' = w ∧ n' = n) (e_px0) := by
  refine e_ofV rfl (Nat.le_of_ble_eq_true rfl) ?_
  intro P9 E9 S9 M9 A9 B9 T9 C9 F hnm
  have hp := pr_rg wh hwh
  have hb := tmod_bounds (a := v) (show 0 < pr wh by omega)
  have hm := emod_of_tmod (a := v) (show 0 < pr wh by omega)
  refine e_aload_n F dX1_modPrime_0 rfl ?_
  refine e_get (ci := 1) (fi := 1) (q := (RX1, TX1, 5)) F (by first | assumption | exact e_up_s | (rw [e_up_n (by first | assumption | omega)]; first | assumption | exact e_up_s | (rw [e_up_n (by first | assumption | omega)]; first | assumption | exact e_up_s | (rw [e_up_n (by first | assumption | omega)]; first | assumption | exact e_up_s))) | exact hD.1 | exact hD1.1 | exact hD2.1 | exact gD.1 | exact gD1.1 | exact gD2.1 | exact gQ.1 | exact hQ.1 | exact gS.1 | exact hS.1 | exact zD.1) rfl (by decide) w_fl_RX1_29 (by rfl) dX1_modPrime_1 ?_
  refine e_if_gt F 9 dX1_modPrime_4 (by decide) (⟨by omega, by omega⟩) (fun c_4 => ?_) (fun c_4 => ?_)
  · refine e_lload_n F dX1_modPrime_9 rfl ?_
    refine e_aload_n F dX1_modPrime_10 rfl ?_
    refine e_get (ci := 1) (fi := 1) (q := (RX1, TX1, 5)) F (by first | assumption | exact e_up_s | (rw [e_up_n (by first | assumption | omega)]; first | assumption | exact e_up_s | (rw [e_up_n (by first | assumption | omega)]; first | assumption | exact e_up_s | (rw [e_up_n (by first | assumption | omega)]; first | assumption | exact e_up_s))) | exact hD.1 | exact hD1.1 | exact hD2.1 | exact gD.1 | exact gD1.1 | exact gD2.1 | exact gQ.1 | exact hQ.1 | exact gS.1 | exact hS.1 | exact zD.1) rfl (by decide) w_fl_RX1_29 (by rfl) dX1_modPrime_11 ?_
    refine e_i2l F dX1_modPrime_14 (⟨by omega, by omega⟩) ?_
    refine e_lrem F dX1_modPrime_15 (hv) (⟨by omega, by omega⟩) (by omega) ?_
    refine e_lstore_n F dX1_modPrime_16 (by decide) ?_
    refine e_lload_n F dX1_modPrime_17 rfl ?_
    refine e_lconst F dX1_modPrime_18 (y := 0) (by decide) ?_
    refine e_lcmp F dX1_modPrime_19 (⟨by omega, by omega⟩) (⟨by omega, by omega⟩) ?_
    refine e_if_ge F 33 dX1_modPrime_20 (by decide) (e_cmp_r _ _) (fun c_20 => ?_) (fun c_20 => ?_)
    ·
      rw [e_cmp_ge] at c_20
      refine e_lload_n F dX1_modPrime_33 rfl ?_
      refine e_l2i F dX1_modPrime_34 ?_
      refine e_iret F rfl (by omega) ?_ dX1_modPrime_35
      refine ⟨?_, rfl, rfl⟩
      rw [hm]
      first | rw [if_neg (by omega)] | rw [if_pos (by omega)]
    ·
      rw [e_cmp_ge] at c_20
      refine e_lload_n F dX1_modPrime_23 rfl ?_
      refine e_aload_n F dX1_modPrime_24 rfl ?_
      refine e_get (ci := 1) (fi := 1) (q := (RX1, TX1, 5)) F (by first | assumption | exact e_up_s | (rw [e_up_n (by first | assumption | omega)]; first | assumption | exact e_up_s | (rw [e_up_n (by first | assumption | omega)]; first | assumption | exact e_up_s | (rw [e_up_n (by first | assumption | omega)]; first | assumption | exact e_up_s))) | exact hD.1 | exact hD1.1 | exact hD2.1 | exact gD.1 | exact gD1.1 | exact gD2.1 | exact gQ.1 | exact hQ.1 | exact gS.1 | exact hS.1 | exact zD.1) rfl (by decide) w_fl_RX1_29 (by rfl) dX1_modPrime_25 ?_
      refine e_i2l F dX1_modPrime_28 (⟨by omega, by omega⟩) ?_
      refine e_ladd F dX1_modPrime_29 ?_
      refine e_goto F 34 dX1_modPrime_30 (by decide) ?_
      refine e_l2i F dX1_modPrime_34 ?_
      refine e_iret F rfl (by omega) ?_ dX1_modPrime_35
      refine ⟨?_, rfl, rfl⟩
      rw [hm]
      first | rw [if_neg (by omega)] | rw [if_pos (by omega)]
  · exact absurd c_4 (by omega)
def e_pw (b : Int) (k : Nat) (m : Int) : Int := b ^ k % m
theorem e_pw_rg {b m : Int} {k : Nat} (hm : 0 < m) : 0 ≤ e_pw b k m ∧ e_pw b k m < m := ⟨Int.emod_nonneg _ (by omega), Int.emod_lt_of_pos _ hm⟩
theorem emod_mul_l (a b m : Int) : (a % m * b) % m = a * b % m := by rw [Int.mul_emod, Int.emod_emod_of_dvd _ (Int.dvd_refl m), ← Int.mul_emod]
theorem emod_mul_r (a b m : Int) : (a * (b % m)) % m = a * b % m := by rw [Int.mul_emod, Int.emod_emod_of_dvd _ (Int.dvd_refl m), ← Int.mul_emod]
theorem emod_pow (a m : Int) (k : Nat) : (a % m) ^ k % m = a ^ k % m := by
  induction k with
  | zero => rw [Int.pow_zero, Int.pow_zero]
  | succ k ih => rw [Int.pow_succ, Int.pow_succ, emod_mul_r, ← emod_mul_l, ih, emod_mul_l]
theorem pow_bit (x : Int) (k : Nat) : x ^ k = x ^ (k % 2) * (x * x) ^ (k / 2) := by
  have h : x * x = x ^ 2 := by rw [Int.pow_succ, Int.pow_succ, Int.pow_zero, Int.one_mul]
  rw [h, ← Int.pow_mul, ← Int.pow_add]
  congr 1
  omega
/-- one step of the power by bits -/
theorem raise_step {r x m : Int} {k : Nat} : (if k % 2 = 1 then r * x % m else r) * (x * x % m) ^ (k / 2) % m = r * x ^ k % m := by
  have h1 : ∀ y : Int, y * (x * x % m) ^ (k / 2) % m = y * (x * x) ^ (k / 2) % m := fun y => by
    rw [← emod_mul_r, emod_pow, emod_mul_r]
  rw [h1]
  conv => rhs; rw [pow_bit x k]
  split
  · rename_i hk
    rw [hk, emod_mul_l, Int.pow_succ, Int.pow_zero, Int.one_mul, Int.mul_assoc]
  · have hk : k % 2 = 0 := by omega
    rw [hk, Int.pow_zero, Int.one_mul]
theorem eJ_and1 {a : Int} (h0 : 0 ≤ a) (h1 : a < 9223372036854775808) : eJ a &&& eJ 1 = eJ (a % 2) := by
  obtain ⟨k, rfl⟩ : ∃ k : Nat, (k : Int) = a := ⟨a.toNat, by omega⟩
  apply Int64.toBitVec_inj.mp
  rw [Int64.toBitVec_and]
  show BitVec.ofInt 64 _ &&& BitVec.ofInt 64 1 = BitVec.ofInt 64 _
  rw [show ((k : Int) % 2) = ((k % 2 : Nat) : Int) from rfl, show (1 : Int) = ((1 : Nat) : Int) from rfl, BitVec.ofInt_natCast, BitVec.ofInt_natCast, BitVec.ofInt_natCast]
  apply BitVec.eq_of_toNat_eq
  rw [BitVec.toNat_and, BitVec.toNat_ofNat, BitVec.toNat_ofNat, BitVec.toNat_ofNat]
  rw [show 1 % 2 ^ 64 = 1 from rfl, Nat.and_one_is_mod]
  omega
theorem eJ_shr1 {a : Int} (h0 : 0 ≤ a) (h1 : a < 9223372036854775808) : eJ a >>> ((eI 1).toInt64 &&& 63) = eJ (a / 2) := by
  rw [← Int64.toInt_inj, eJ_toInt (by omega) (by omega)]
  have e1 : (eI 1).toInt64 &&& 63 = 1 := by decide
  rw [e1]
  show (BitVec.sshiftRight (eJ a).toBitVec ((1 : Int64).toBitVec.smod 64).toNat).toInt = _
  have e2 : ((1 : Int64).toBitVec.smod 64).toNat = 1 := by decide
  rw [e2, BitVec.toInt_sshiftRight]
  show (eJ a).toInt >>> 1 = _
  rw [eJ_toInt (by omega) h1, Int.shiftRight_eq_div_pow]
  rfl
theorem mul_rg {a b m : Int} (ha : 0 ≤ a) (ha2 : a < m) (hb : 0 ≤ b) (hb2 : b < m) (hm : m ≤ 36000109) : 0 ≤ a * b ∧ e_r8 (a * b) := by
  have h0 : 0 ≤ a * b := Int.mul_nonneg ha hb
  have h1 : a * b ≤ 36000109 * 36000109 := Int.mul_le_mul (by omega) (by omega) hb (by omega)
  exact ⟨h0, by omega, by omega⟩
theorem pow2_le {bit : Int} (h : 0 ≤ bit) : (2 : Int) ^ (63 - bit).toNat ≤ 9223372036854775808 := by
  have h1 : (2 : Nat) ^ (63 - bit).toNat ≤ 2 ^ 63 := Nat.pow_le_pow_right (by omega) (by omega)
  have h2 : (((2 : Nat) ^ (63 - bit).toNat : Nat) : Int) ≤ ((2 ^ 63 : Nat) : Int) := by exact_mod_cast h1
  rw [Int.natCast_pow] at h2
  exact h2
theorem pow2_half {bit op : Int} (h : 0 ≤ bit) (h2 : bit < 63) (h3 : op < 2 ^ (63 - bit).toNat) : op / 2 < 2 ^ (63 - (bit + 1)).toNat := by
  have e : (63 - bit).toNat = (63 - (bit + 1)).toNat + 1 := by omega
  rw [e, Int.pow_succ] at h3
  omega
set_option maxHeartbeats 4000000 in
set_option maxRecDepth 100000 in
/-- the power by bits -/
theorem c_X1_raise {K : e_K} {l : Launch} {w : e_W} {n : Nat} {b k m : Int} (hb1 : 0 ≤ b) (hb2 : b < m) (hm1 : 2 ≤ m) (hm2 : m ≤ 36000109) (hk1 : 0 ≤ k) (hk2 : k < 9223372036854775808) : e_Met K l yX1_raise (Cond.code yX1_raise cX1_raise 11 (Option.some .int) :: e_TB) (0) (0) [.int (eI b), .long (eJ k), .int (eI m)] w n (fun r w' n' => r = some (.int (eI (e_pw b k.toNat m))) ∧ w' = w ∧ n' = n) (e_px0) := by
  refine e_ofV rfl (Nat.le_of_ble_eq_true rfl) ?_
  intro P9 E9 S9 M9 A9 B9 T9 C9 F hnm
  have lp : ∀ (N : Nat) (bit res fac op : Int), (63 - bit).toNat < N → (0 ≤ bit ∧ bit ≤ 63 ∧ 0 ≤ res ∧ res < m ∧ 0 ≤ fac ∧ fac < m ∧ 0 ≤ op ∧ op < 2 ^ (63 - bit).toNat ∧ res * fac ^ op.toNat % m = e_pw b k.toNat m) → e_V K P9 l E9 (0) (0) S9 M9 A9 B9 T9 C9 11 (fun r w' n' => r = some (.int (eI (e_pw b k.toNat m))) ∧ w' = w ∧ n' = n) (e_px0) 19 [(0, .int (eI b)), (3, .int (eI m)), (4, .long (eJ res)), (6, .long (eJ fac)), (8, .long (eJ op)), (10, .int (eI bit))] [] w n (0) := by
    intro N
    induction N with
    | zero => intro bit res fac op hN; exact absurd hN (Nat.not_lt_zero _)
    | succ N ih =>
      intro bit res fac op hN ⟨h1, h2, h3, h4, h5, h6, h7, h8, h9⟩
      have hop : op < 9223372036854775808 := Int.lt_of_lt_of_le h8 (pow2_le h1)
      refine e_iload F dX1_raise_19 rfl ?_
      refine e_bipush F dX1_raise_21 (by decide) ?_
      refine e_icmp_ge F 74 dX1_raise_23 (by decide) (⟨by omega, by omega⟩) (⟨by omega, by omega⟩) (fun c_23 => ?_) (fun c_23 => ?_)
      · refine e_lload F dX1_raise_74 rfl ?_
        refine e_l2i F dX1_raise_76 ?_
        refine e_iret F rfl (by omega) ?_ dX1_raise_77
        refine ⟨?_, rfl, rfl⟩
        have ho : op.toNat = 0 := by
          rcases (show bit = 63 ∨ op ≤ 0 by omega) with q | q
          · subst q
            have h88 : op < 1 := h8
            omega
          · omega
        rw [ho, Int.pow_zero, Int.mul_one, Int.emod_eq_of_lt h3 h4] at h9
        rw [h9]
      · refine e_lload F dX1_raise_26 rfl ?_
        refine e_lconst F dX1_raise_28 (y := 0) (by decide) ?_
        refine e_lcmp F dX1_raise_29 (⟨by omega, by omega⟩) (⟨by omega, by omega⟩) ?_
        refine e_if_le F 74 dX1_raise_30 (by decide) (e_cmp_r _ _) (fun c_30 => ?_) (fun c_30 => ?_)
        ·
          rw [e_cmp_le] at c_30
          refine e_lload F dX1_raise_74 rfl ?_
          refine e_l2i F dX1_raise_76 ?_
          refine e_iret F rfl (by omega) ?_ dX1_raise_77
          refine ⟨?_, rfl, rfl⟩
          have ho : op.toNat = 0 := by
            rcases (show bit = 63 ∨ op ≤ 0 by omega) with q | q
            · subst q
              have h88 : op < 1 := h8
              omega
            · omega
          rw [ho, Int.pow_zero, Int.mul_one, Int.emod_eq_of_lt h3 h4] at h9
          rw [h9]
        ·
          rw [e_cmp_le] at c_30
          refine e_lload F dX1_raise_33 rfl ?_
          refine e_lconst F dX1_raise_35 (y := 1) (by decide) ?_
          refine e_land F dX1_raise_36 (eJ_and1 h7 hop) ?_
          refine e_lconst F dX1_raise_37 (y := 1) (by decide) ?_
          refine e_lcmp F dX1_raise_38 (⟨by omega, by omega⟩) (⟨by omega, by omega⟩) ?_
          refine e_if_ne F 52 dX1_raise_39 (by decide) (e_cmp_r _ _) (fun c_39 => ?_) (fun c_39 => ?_)
          ·
            rw [e_cmp_ne] at c_39
            have g1 := h3
            have g2 := h4
            refine e_lload F dX1_raise_52 rfl ?_
            refine e_lload F dX1_raise_54 rfl ?_
            refine e_lmul F dX1_raise_56 ?_
            refine e_iload_n F dX1_raise_57 rfl ?_
            refine e_i2l F dX1_raise_58 (⟨by omega, by omega⟩) ?_
            refine e_lrem F dX1_raise_59 ((mul_rg h5 h6 h5 h6 hm2).2) (⟨by omega, by omega⟩) (by omega) ?_
            rw [Int.tmod_eq_emod_of_nonneg (mul_rg h5 h6 h5 h6 hm2).1]
            have g3 : 0 ≤ fac * fac % m := Int.emod_nonneg _ (by omega)
            have g4 : fac * fac % m < m := Int.emod_lt_of_pos _ (by omega)
            refine e_lstore F dX1_raise_60 (by decide) ?_
            refine e_lload F dX1_raise_62 rfl ?_
            refine e_iconst F dX1_raise_64 ?_
            refine e_lshr F dX1_raise_65 (eJ_shr1 h7 hop) ?_
            have g5 := raise_step (r := res) (x := fac) (m := m) (k := op.toNat)
            first | rw [if_pos (by omega), h9] at g5 | rw [if_neg (by omega), h9] at g5
            rw [show op.toNat / 2 = (op / 2).toNat by omega] at g5
            have g6 : op / 2 < 2 ^ (63 - (bit + 1)).toNat := pow2_half h1 (by omega) h8
            refine e_lstore F dX1_raise_66 (by decide) ?_
            refine e_iinc F dX1_raise_68 rfl (by decide) ?_
            refine e_goto F 19 dX1_raise_71 (by decide) ?_
            exact e_go (ih _ _ _ _ (by omega) ⟨by omega, by omega, g1, g2, g3, g4, by omega, g6, g5⟩) (And.intro rfl (And.intro rfl (And.intro rfl (And.intro rfl (And.intro rfl (And.intro rfl (trivial)))))))
          ·
            rw [← Classical.not_not (a := e_cmp (op % 2) 1 = 0)] at c_39
            rw [show ¬ e_cmp (op % 2) 1 = 0 ↔ e_cmp (op % 2) 1 ≠ 0 from Iff.rfl, e_cmp_ne] at c_39
            have g1 : 0 ≤ res * fac % m := Int.emod_nonneg _ (by omega)
            have g2 : res * fac % m < m := Int.emod_lt_of_pos _ (by omega)
            refine e_lload F dX1_raise_42 rfl ?_
            refine e_lload F dX1_raise_44 rfl ?_
            refine e_lmul F dX1_raise_46 ?_
            refine e_iload_n F dX1_raise_47 rfl ?_
            refine e_i2l F dX1_raise_48 (⟨by omega, by omega⟩) ?_
            refine e_lrem F dX1_raise_49 ((mul_rg h3 h4 h5 h6 hm2).2) (⟨by omega, by omega⟩) (by omega) ?_
            rw [Int.tmod_eq_emod_of_nonneg (mul_rg h3 h4 h5 h6 hm2).1]
            refine e_lstore F dX1_raise_50 (by decide) ?_
            refine e_lload F dX1_raise_52 rfl ?_
            refine e_lload F dX1_raise_54 rfl ?_
            refine e_lmul F dX1_raise_56 ?_
            refine e_iload_n F dX1_raise_57 rfl ?_
            refine e_i2l F dX1_raise_58 (⟨by omega, by omega⟩) ?_
            refine e_lrem F dX1_raise_59 ((mul_rg h5 h6 h5 h6 hm2).2) (⟨by omega, by omega⟩) (by omega) ?_
            rw [Int.tmod_eq_emod_of_nonneg (mul_rg h5 h6 h5 h6 hm2).1]
            have g3 : 0 ≤ fac * fac % m := Int.emod_nonneg _ (by omega)
            have g4 : fac * fac % m < m := Int.emod_lt_of_pos _ (by omega)
            refine e_lstore F dX1_raise_60 (by decide) ?_
            refine e_lload F dX1_raise_62 rfl ?_
            refine e_iconst F dX1_raise_64 ?_
            refine e_lshr F dX1_raise_65 (eJ_shr1 h7 hop) ?_
            have g5 := raise_step (r := res) (x := fac) (m := m) (k := op.toNat)
            first | rw [if_pos (by omega), h9] at g5 | rw [if_neg (by omega), h9] at g5
            rw [show op.toNat / 2 = (op / 2).toNat by omega] at g5
            have g6 : op / 2 < 2 ^ (63 - (bit + 1)).toNat := pow2_half h1 (by omega) h8
            refine e_lstore F dX1_raise_66 (by decide) ?_
            refine e_iinc F dX1_raise_68 rfl (by decide) ?_
            refine e_goto F 19 dX1_raise_71 (by decide) ?_
            exact e_go (ih _ _ _ _ (by omega) ⟨by omega, by omega, g1, g2, g3, g4, by omega, g6, g5⟩) (And.intro rfl (And.intro rfl (And.intro rfl (And.intro rfl (And.intro rfl (And.intro rfl (trivial)))))))
  refine e_iload_n F dX1_raise_0 rfl ?_
  refine e_if_gt F 6 dX1_raise_1 (by decide) (⟨by omega, by omega⟩) (fun c_1 => ?_) (fun c_1 => ?_)
  · refine e_lconst F dX1_raise_6 (y := 1) (by decide) ?_
    refine e_lstore F dX1_raise_7 (by decide) ?_
    refine e_iload_n F dX1_raise_9 rfl ?_
    refine e_i2l F dX1_raise_10 (⟨by omega, by omega⟩) ?_
    refine e_lstore F dX1_raise_11 (by decide) ?_
    refine e_lload_n F dX1_raise_13 rfl ?_
    refine e_lstore F dX1_raise_14 (by decide) ?_
    refine e_iconst F dX1_raise_16 ?_
    refine e_istore F dX1_raise_17 (by decide) ?_
    exact e_go (lp 64 0 1 b k (by omega) ⟨by omega, by omega, by omega, by omega, hb1, hb2, hk1, hk2, by rw [Int.one_mul]; rfl⟩) (And.intro rfl (And.intro rfl (And.intro rfl (And.intro rfl (And.intro rfl (And.intro rfl (trivial)))))))
  · exact absurd c_1 (by omega)
