/-! Secretshares: lines, suspects, seals -/
abbrev il (wh : Nat) (set : Int) (A : Int → Int) (fl9 dg : Int) : Prop := fl9 = 1 ∧ hiK (gt wh set A (ho wh).toNat) 7 ≤ dg
/-- only the poly's rows changed -/
def PX (w w' : e_W) (x : Nat) : Prop := (∃ P, PL w' (x + 2) P) ∧ PF w w' (x + 2)
theorem hiK_rg (P : Int → Int) (k : Nat) : -1 ≤ hiK P k ∧ hiK P k < k + 1 := by
  induction k with
  | zero => unfold hiK; omega
  | succ k ih =>
    unfold hiK
    split <;> omega
theorem SO_ne {w : e_W} {x a N : Nat} {g : Int → Int} {kn : Int} (h1 : w x = some (SO x kn)) (h2 : w a = some (e_ia N g)) : x ≠ a := by
  intro e
  rw [e, h2] at h1
  cases h1
theorem PX.keepD {w w' : e_W} {x d : Nat} {P : Int → Int} {fl9 dg sc : Int} {A B : Int → Int} (h : PF w w' (x + 2)) (hQ : PL w (x + 2) P) (hD : DL w d fl9 dg sc A B) (hd : x + 5 ≤ d) : DL w' d fl9 dg sc A B :=
  hD.fr (h _ (by omega) (by omega)) (h _ (by omega) (by omega)) (h _ (by omega) (by omega))
theorem eI_andn_k : ∀ s : Nat, s < 128 → ∀ k : Nat, k < 7 → hs (s : Int) ((k : Int) + 1) → eI (s : Int) &&& (eI (2 ^ k) ^^^ eI (-1)) = eI ((s : Int) - 2 ^ k) := by decide +kernel
theorem eI_andn {s : Int} {k : Nat} (h0 : 0 ≤ s) (h1 : s < 128) (hk : k < 7) (h : hs s ((k : Int) + 1)) : eI s &&& (eI (2 ^ k) ^^^ eI (-1)) = eI (s - 2 ^ k) := by
  obtain ⟨t, rfl⟩ : ∃ t : Nat, (t : Int) = s := ⟨s.toNat, by omega⟩
  exact eI_andn_k t (by omega) k hk h
theorem hs_le_k : ∀ s : Nat, s < 128 → ∀ k : Nat, k < 7 → hs (s : Int) ((k : Int) + 1) → (2 : Int) ^ k ≤ (s : Int) := by decide +kernel
theorem hs_le {s : Int} {k : Nat} (h0 : 0 ≤ s) (h1 : s < 128) (hk : k < 7) (h : hs s ((k : Int) + 1)) : (2 : Int) ^ k ≤ s := by
  obtain ⟨t, rfl⟩ : ∃ t : Nat, (t : Int) = s := ⟨s.toNat, by omega⟩
  exact hs_le_k t (by omega) k hk h
def ssK (wh : Nat) (A : Int → Int) (fl9 dg : Int) : Nat → Int
  | 0 => 0
  | k + 1 => if hs (st7 A) ((k : Int) + 1) ∧ il wh (st7 A - 2 ^ k) A fl9 dg then ssK wh A fl9 dg k + 2 ^ k else ssK wh A fl9 dg k
theorem ssK_rg (wh : Nat) (A : Int → Int) (fl9 dg : Int) (k : Nat) : 0 ≤ ssK wh A fl9 dg k ∧ ssK wh A fl9 dg k < 2 ^ k := by
  induction k with
  | zero => unfold ssK; decide
  | succ k ih =>
    unfold ssK
    have hp : (0 : Int) < 2 ^ k := Int.pow_pos (by omega)
    rw [Int.pow_succ]
    split <;> omega
def ffd (set M : Int) : Nat → Int
  | 0 => -9
  | r + 1 => if hs set (M - (r : Int)) then M - (r : Int) else ffd set M r
def wrf (wh : Nat) (A : Int → Int) (fl9 dg : Int) : Int := if fl9 = 0 then -9 else if il wh (st7 A) A fl9 dg then 0 else if bc (st7 A) < dg + 3 then -9 else ffd (ssK wh A fl9 dg (ho wh).toNat) (ho wh) (ho wh).toNat
def pbK (p : Int) : Nat → Int
  | 0 => 1
  | k + 1 => if pbK p k ≤ 125 then pbK p k * p else pbK p k
theorem pbK_rg {p : Int} (h1 : 1 ≤ p) (h2 : p ≤ 1000003) (k : Nat) : 1 ≤ pbK p k ∧ pbK p k ≤ 125000375 := by
  induction k with
  | zero => unfold pbK; omega
  | succ k ih =>
    unfold pbK
    split
    · rename_i q
      have h3 : pbK p k * p ≤ 125 * 1000003 := Int.mul_le_mul q h2 (by omega) (by omega)
      have h4 : 1 * 1 ≤ pbK p k * p := Int.mul_le_mul ih.1 h1 (by omega) (by omega)
      omega
    · exact ih
theorem pbK_stop {p : Int} {k : Nat} (h : 125 < pbK p k) : ∀ j, k ≤ j → pbK p j = pbK p k := by
  intro j hj
  induction j with
  | zero => have : k = 0 := by omega
            rw [this]
  | succ j ih =>
    by_cases hk : k = j + 1
    · rw [hk]
    · have h9 := ih (by omega)
      have e9 : pbK p (j + 1) = if pbK p j ≤ 125 then pbK p j * p else pbK p j := rfl
      rw [e9, h9, if_neg (by omega)]
def dfK (q : Int) (B : Int → Int) (h : Int) : Nat → Int
  | 0 => 1
  | k + 1 => dfK q B h k * e_pw (B (k : Int)) (h ^ k).toNat q % q
theorem dfK_rg {q : Int} (hq : 2 ≤ q) (B : Int → Int) (h : Int) (k : Nat) : 0 ≤ dfK q B h k ∧ dfK q B h k < q := by
  cases k with
  | zero => unfold dfK; omega
  | succ k => unfold dfK; exact ⟨Int.emod_nonneg _ (by omega), Int.emod_lt_of_pos _ (by omega)⟩
theorem hpow_rg {h : Int} {k : Nat} (h1 : 1 ≤ h) (h2 : h ≤ 7) (hk : k ≤ 7) : 1 ≤ h ^ k ∧ h ^ k ≤ 823543 := by
  have a1 : (0 : Int) < h ^ k := Int.pow_pos (by omega)
  obtain ⟨t, rfl⟩ : ∃ t : Nat, (t : Int) = h := ⟨h.toNat, by omega⟩
  have a2 : t ^ k ≤ 7 ^ 7 := Nat.le_trans (Nat.pow_le_pow_left (by omega) k) (Nat.pow_le_pow_right (by omega) hk)
  have a3 : ((t ^ k : Nat) : Int) ≤ ((7 ^ 7 : Nat) : Int) := by exact_mod_cast a2
  rw [Int.natCast_pow] at a3
  omega
/-- does the share of h fit -/
abbrev fit (wh : Nat) (sc : Int) (A B : Int → Int) (h : Int) : Prop := sl wh (A h) = dfK (gr wh) B h sc.toNat
def daB (wh : Nat) (sc : Int) (A B : Int → Int) (set M : Int) : Nat → Bool
  | 0 => true
  | r + 1 => (!decide (hs set (M - (r : Int))) || decide (fit wh sc A B (M - (r : Int)))) && daB wh sc A B set M r
set_option maxHeartbeats 4000000 in
set_option maxRecDepth 100000 in
theorem c_X3_isInLine {K : e_K} {l : Launch} {w : e_W} {n : Nat} {x wh : Nat} {kn : Int} (hX : w x = some (SO x kn)) (hF : w (x + 1) = some (FO wh)) (hwh : wh < 7) {P : Int → Int} (hQ : PL w (x + 2) P) {d : Nat} {fl9 dg sc : Int} {A B : Int → Int} (hD : DL w d fl9 dg sc A B) (hd : x + 5 ≤ d) {set : Int} (h1 : 0 ≤ set) (h2 : set < 2147483648) : e_Met K l yX3_isInLine (Cond.code yX3_isInLine cX3_isInLine 3 (Option.some .boolean) :: e_TB) (4) (0) [.ref x, .ref d, .int (eI set)] w n (fun r w' n' => r = some (.int (eI (b01 (il wh set A fl9 dg)))) ∧ n' = n ∧ PX w w' x) (e_px0) := by
  refine e_ofV rfl (Nat.le_of_ble_eq_true rfl) ?_
  intro P9 E9 S9 M9 A9 B9 T9 C9 F hnm
  have hp := pr_rg wh hwh
  have ho9 := ho_rg wh hwh
  have hQ0 := hQ
  obtain ⟨h0, ⟨P9f, hf, hfP⟩, ⟨t, ht⟩, hr⟩ := hQ
  have hW := hD.2.2.2
  have hfl := hW.1
  have hdg := hW.2.1
  refine e_aload_n F dX3_isInLine_0 rfl ?_
  refine e_callVN F u_X0_isEmpty (by rfl) (c_X0_isEmpty hD) hD.1 rfl rfl w_mn_RX3_109 dX3_isInLine_1 (by rfl) (Nat.le_of_ble_eq_true rfl) (by decide) (by omega) (fun _ _ _ h _ => False.elim h) (fun r_1 w_1 n_1 h_1 hn_1 => ?_)
  obtain ⟨rfl, ew_1, en_1⟩ := h_1
  rw [ew_1, en_1]
  refine e_if_eq F 9 dX3_isInLine_4 (by decide) (b01_r _) (fun c_4 => ?_) (fun c_4 => ?_)
  ·
    rw [b01_0] at c_4
    refine e_aload_n F dX3_isInLine_9 rfl ?_
    refine e_get (ci := 3) (fi := 1) (q := (RX3, TX3, 5)) F (by first | assumption | exact e_up_s | (rw [e_up_n (by first | assumption | omega)]; first | assumption | exact e_up_s | (rw [e_up_n (by first | assumption | omega)]; first | assumption | exact e_up_s | (rw [e_up_n (by first | assumption | omega)]; first | assumption | exact e_up_s))) | exact hD.1 | exact hD1.1 | exact hD2.1 | exact gD.1 | exact gD1.1 | exact gD2.1 | exact gQ.1 | exact hQ.1 | exact gS.1 | exact hS.1 | exact zD.1) rfl (by decide) w_fl_RX3_19 (by rfl) dX3_isInLine_10 ?_
    refine e_aload_n F dX3_isInLine_13 rfl ?_
    refine e_get (ci := 3) (fi := 0) (q := (RX3, TX3, 5)) F (by first | assumption | exact e_up_s | (rw [e_up_n (by first | assumption | omega)]; first | assumption | exact e_up_s | (rw [e_up_n (by first | assumption | omega)]; first | assumption | exact e_up_s | (rw [e_up_n (by first | assumption | omega)]; first | assumption | exact e_up_s))) | exact hD.1 | exact hD1.1 | exact hD2.1 | exact gD.1 | exact gD1.1 | exact gD2.1 | exact gQ.1 | exact hQ.1 | exact gS.1 | exact hS.1 | exact zD.1) rfl (by decide) w_fl_RX3_10 (by rfl) dX3_isInLine_14 ?_
    refine e_aload_n F dX3_isInLine_17 rfl ?_
    refine e_iload_n F dX3_isInLine_18 rfl ?_
    refine e_callVN F u_X2_goThrough (by rfl) (c_X2_goThrough hQ0 hF hwh hD h1 h2) h0 rfl rfl w_mn_RX3_213 dX3_isInLine_19 (by rfl) (Nat.le_of_ble_eq_true rfl) (by decide) (by omega) (fun _ _ _ h _ => False.elim h) (fun r_19 w_19 n_19 h_19 hn_19 => ?_)
    obtain ⟨rfl, en19, gP, gF⟩ := h_19
    rw [en19]
    have gX : w_19 x = some (SO x kn) := by rw [gF x (by omega) (by omega)]; exact hX
    have gD := PX.keepD gF hQ0 hD hd
    have hk9 := hiK_rg (gt wh set A (ho wh).toNat) 7
    refine e_aload_n F dX3_isInLine_22 rfl ?_
    refine e_get (ci := 3) (fi := 1) (q := (RX3, TX3, 5)) F (by first | assumption | exact e_up_s | (rw [e_up_n (by first | assumption | omega)]; first | assumption | exact e_up_s | (rw [e_up_n (by first | assumption | omega)]; first | assumption | exact e_up_s | (rw [e_up_n (by first | assumption | omega)]; first | assumption | exact e_up_s))) | exact hD.1 | exact hD1.1 | exact hD2.1 | exact gD.1 | exact gD1.1 | exact gD2.1 | exact gQ.1 | exact hQ.1 | exact gS.1 | exact hS.1 | exact zD.1) rfl (by decide) w_fl_RX3_19 (by rfl) dX3_isInLine_23 ?_
    refine e_callVN F u_X2_highest (by rfl) (c_X2_highest gP) gP.1 rfl rfl w_mn_RX3_217 dX3_isInLine_26 (by rfl) (Nat.le_of_ble_eq_true rfl) (by decide) (by omega) (fun _ _ _ h _ => False.elim h) (fun r_26 w_26 n_26 h_26 hn_26 => ?_)
    obtain ⟨rfl, ew_26, en_26⟩ := h_26
    rw [ew_26, en_26]
    refine e_aload_n F dX3_isInLine_29 rfl ?_
    refine e_getN (ci := 0) (fi := 1) (q := (RX0, TX0, 5)) F gD.1 rfl (by decide) w_fn_RX3_113 (by rfl) dX3_isInLine_30 ?_
    refine e_icmp_gt F 40 dX3_isInLine_33 (by decide) (⟨by omega, by omega⟩) (⟨by omega, by omega⟩) (fun c_33 => ?_) (fun c_33 => ?_)
    · refine e_iconst F dX3_isInLine_40 ?_
      refine e_zret F rfl (by omega) (by omega) ?_ dX3_isInLine_41
      refine ⟨?_, rfl, ⟨_, gP⟩, gF⟩
      first | (rw [b01_t]; exact ⟨by omega, by omega⟩) | (rw [b01_f]; exact fun q => by omega)
    · refine e_iconst F dX3_isInLine_36 ?_
      refine e_goto F 41 dX3_isInLine_37 (by decide) ?_
      refine e_zret F rfl (by omega) (by omega) ?_ dX3_isInLine_41
      refine ⟨?_, rfl, ⟨_, gP⟩, gF⟩
      first | (rw [b01_t]; exact ⟨by omega, by omega⟩) | (rw [b01_f]; exact fun q => by omega)
  ·
    rw [b01_0, Classical.not_not] at c_4
    refine e_iconst F dX3_isInLine_7 ?_
    refine e_zret F rfl (by omega) (by omega) ?_ dX3_isInLine_8
    refine ⟨?_, rfl, ⟨_, hQ0⟩, fun q _ _ => rfl⟩
    rw [b01_f (fun q => by omega)]
set_option maxHeartbeats 4000000 in
set_option maxRecDepth 100000 in
theorem c_X3_suspectSet {K : e_K} {l : Launch} {w : e_W} {n : Nat} {x wh : Nat} {kn : Int} (hX : w x = some (SO x kn)) (hF : w (x + 1) = some (FO wh)) (hwh : wh < 7) {P : Int → Int} (hQ : PL w (x + 2) P) {d : Nat} {fl9 dg sc : Int} {A B : Int → Int} (hD : DL w d fl9 dg sc A B) (hd : x + 5 ≤ d) : e_Met K l yX3_suspectSet (Cond.code yX3_suspectSet cX3_suspectSet 5 (Option.some .int) :: e_TB) (5) (0) [.ref x, .ref d] w n (fun r w' n' => r = some (.int (eI (ssK wh A fl9 dg (ho wh).toNat))) ∧ n' = n ∧ PX w w' x) (e_px0) := by
  refine e_ofV rfl (Nat.le_of_ble_eq_true rfl) ?_
  intro P9 E9 S9 M9 A9 B9 T9 C9 F hnm
  have hp := pr_rg wh hwh
  have ho9 := ho_rg wh hwh
  have hst := st7_rg A
  have lp : ∀ (N : Nat) (k : Nat) (wl : e_W), (7 - k) < N → (k ≤ (ho wh).toNat ∧ PX w wl x) → e_V K P9 l E9 (5) (0) S9 M9 A9 B9 T9 C9 5 (fun r w' n' => r = some (.int (eI (ssK wh A fl9 dg (ho wh).toNat))) ∧ n' = n ∧ PX w w' x) (e_px0) 10 [(0, .ref x), (1, .ref d), (2, .int (eI (st7 A))), (3, .int (eI (ssK wh A fl9 dg k))), (4, .int (eI ((k : Int) + 1)))] [] wl n (0) := by
    intro N
    induction N with
    | zero => intro k wl hN; exact absurd hN (Nat.not_lt_zero _)
    | succ N ih =>
      intro k wl hN ⟨hk, ⟨⟨P2, gQ⟩, gF⟩⟩
      have gX : wl x = some (SO x kn) := by rw [gF x (by omega) (by omega)]; exact hX
      have gFO : wl (x + 1) = some (FO wh) := by rw [gF _ (by omega) (by omega)]; exact hF
      have gD := PX.keepD gF hQ hD hd
      have hsk := ssK_rg wh A fl9 dg k
      refine e_iload F dX3_suspectSet_10 rfl ?_
      refine e_aload_n F dX3_suspectSet_12 rfl ?_
      refine e_get (ci := 3) (fi := 0) (q := (RX3, TX3, 5)) F (by first | assumption | exact e_up_s | (rw [e_up_n (by first | assumption | omega)]; first | assumption | exact e_up_s | (rw [e_up_n (by first | assumption | omega)]; first | assumption | exact e_up_s | (rw [e_up_n (by first | assumption | omega)]; first | assumption | exact e_up_s))) | exact hD.1 | exact hD1.1 | exact hD2.1 | exact gD.1 | exact gD1.1 | exact gD2.1 | exact gQ.1 | exact hQ.1 | exact gS.1 | exact hS.1 | exact zD.1) rfl (by decide) w_fl_RX3_10 (by rfl) dX3_suspectSet_13 ?_
      refine e_getN (ci := 1) (fi := 4) (q := (RX1, TX1, 5)) F (by first | assumption | exact e_up_s | (rw [e_up_n (by first | assumption | omega)]; first | assumption | exact e_up_s | (rw [e_up_n (by first | assumption | omega)]; first | assumption | exact e_up_s | (rw [e_up_n (by first | assumption | omega)]; first | assumption | exact e_up_s))) | exact hD.1 | exact hD1.1 | exact hD2.1 | exact gD.1 | exact gD1.1 | exact gD2.1 | exact gQ.1 | exact hQ.1 | exact gS.1 | exact hS.1 | exact zD.1) rfl (by decide) w_fn_RX3_116 (by rfl) dX3_suspectSet_16 ?_
      refine e_icmp_gt F 62 dX3_suspectSet_19 (by decide) (⟨by omega, by omega⟩) (⟨by omega, by omega⟩) (fun c_19 => ?_) (fun c_19 => ?_)
      ·
        obtain rfl : k = (ho wh).toNat := by omega
        refine e_iload_n F dX3_suspectSet_62 rfl ?_
        refine e_iret F rfl (by omega) ?_ dX3_suspectSet_63
        exact ⟨rfl, rfl, ⟨_, gQ⟩, gF⟩
      · refine e_iload_n F dX3_suspectSet_22 rfl ?_
        refine e_iload F dX3_suspectSet_23 rfl ?_
        refine e_callSS F u_X3_isIn (by rfl) (c_X3_isIn hst.1 (by omega) (h := (k : Int) + 1) (by omega) (by omega)) w_ml_RX3_83 dX3_suspectSet_25 (by rfl) (Nat.le_of_ble_eq_true rfl) (by decide) (by omega) (fun _ _ _ h _ => False.elim h) (fun r_25 w_25 n_25 h_25 hn_25 => ?_)
        obtain ⟨rfl, ew_25, en_25⟩ := h_25
        rw [ew_25, en_25]
        refine e_if_eq F 56 dX3_suspectSet_28 (by decide) (b01_r _) (fun c_28 => ?_) (fun c_28 => ?_)
        ·
          rw [b01_0] at c_28
          have q1 : ssK wh A fl9 dg (k + 1) = ssK wh A fl9 dg k := if_neg (fun q => c_28 q.1)
          refine e_iinc F dX3_suspectSet_56 rfl (by decide) ?_
          refine e_goto F 10 dX3_suspectSet_59 (by decide) ?_
          first
          | (refine e_go (ih (k + 1) w_42 (by omega) ⟨by omega, zQ, zF⟩) ?_
             rw [q1]
             exact (And.intro rfl (And.intro rfl (And.intro rfl (And.intro rfl (And.intro rfl (trivial)))))))
          | (refine e_go (ih (k + 1) wl (by omega) ⟨by omega, ⟨_, gQ⟩, gF⟩) ?_
             rw [q1]
             exact (And.intro rfl (And.intro rfl (And.intro rfl (And.intro rfl (And.intro rfl (trivial)))))))
        ·
          rw [b01_0, Classical.not_not] at c_28
          have e9 : ((k : Int) + 1 - 1).toNat = k := by omega
          have hle := hs_le hst.1 hst.2 (by omega) c_28
          have hpp : (0 : Int) < 2 ^ k := Int.pow_pos (by omega)
          refine e_aload_n F dX3_suspectSet_31 rfl ?_
          refine e_aload_n F dX3_suspectSet_32 rfl ?_
          refine e_iload_n F dX3_suspectSet_33 rfl ?_
          refine e_iload F dX3_suspectSet_34 rfl ?_
          refine e_callSS F u_X3_bitOf (by rfl) (c_X3_bitOf (h := (k : Int) + 1) (by omega) (by omega)) w_ml_RX3_188 dX3_suspectSet_36 (by rfl) (Nat.le_of_ble_eq_true rfl) (by decide) (by omega) (fun _ _ _ h _ => False.elim h) (fun r_36 w_36 n_36 h_36 hn_36 => ?_)
          obtain ⟨rfl, ew_36, en_36⟩ := h_36
          rw [ew_36, en_36]
          refine e_iconst F dX3_suspectSet_39 ?_
          refine e_ixor F dX3_suspectSet_40 ((eI_self _).symm) ?_
          refine e_iand F dX3_suspectSet_41 (show _ = eI (st7 A - 2 ^ k) from by rw [eI_self, e9]; exact eI_andn hst.1 hst.2 (by omega) c_28) ?_
          refine e_callVV F u_X3_isInLine (by rfl) (c_X3_isInLine gX gFO hwh gQ gD hd (set := st7 A - 2 ^ k) (by omega) (by omega)) gX rfl rfl w_ml_RX3_198 dX3_suspectSet_42 (by rfl) (Nat.le_of_ble_eq_true rfl) (by decide) (by omega) (fun _ _ _ h _ => False.elim h) (fun r_42 w_42 n_42 h_42 hn_42 => ?_)
          obtain ⟨rfl, en42, zQ, zF0⟩ := h_42
          rw [en42]
          have zF : PF w w_42 (x + 2) := fun q a1 a2 => by rw [zF0 q a1 a2, gF q a1 a2]
          refine e_if_eq F 56 dX3_suspectSet_45 (by decide) (b01_r _) (fun c_45 => ?_) (fun c_45 => ?_)
          ·
            rw [b01_0] at c_45
            have q1 : ssK wh A fl9 dg (k + 1) = ssK wh A fl9 dg k := if_neg (fun q => c_45 q.2)
            refine e_iinc F dX3_suspectSet_56 rfl (by decide) ?_
            refine e_goto F 10 dX3_suspectSet_59 (by decide) ?_
            first
            | (refine e_go (ih (k + 1) w_42 (by omega) ⟨by omega, zQ, zF⟩) ?_
               rw [q1]
               exact (And.intro rfl (And.intro rfl (And.intro rfl (And.intro rfl (And.intro rfl (trivial)))))))
            | (refine e_go (ih (k + 1) wl (by omega) ⟨by omega, ⟨_, gQ⟩, gF⟩) ?_
               rw [q1]
               exact (And.intro rfl (And.intro rfl (And.intro rfl (And.intro rfl (And.intro rfl (trivial)))))))
          ·
            rw [b01_0, Classical.not_not] at c_45
            have q1 : ssK wh A fl9 dg (k + 1) = ssK wh A fl9 dg k + 2 ^ k := if_pos ⟨c_28, c_45⟩
            refine e_iload_n F dX3_suspectSet_48 rfl ?_
            refine e_iload F dX3_suspectSet_49 rfl ?_
            refine e_callSS F u_X3_bitOf (by rfl) (c_X3_bitOf (h := (k : Int) + 1) (by omega) (by omega)) w_ml_RX3_188 dX3_suspectSet_51 (by rfl) (Nat.le_of_ble_eq_true rfl) (by decide) (by omega) (fun _ _ _ h _ => False.elim h) (fun r_51 w_51 n_51 h_51 hn_51 => ?_)
            obtain ⟨rfl, ew_51, en_51⟩ := h_51
            rw [ew_51, en_51]
            refine e_ior F dX3_suspectSet_54 (by rw [e9]; exact eI_or (by omega) hsk.1 hsk.2) ?_
            refine e_istore_n F dX3_suspectSet_55 (by decide) ?_
            refine e_iinc F dX3_suspectSet_56 rfl (by decide) ?_
            refine e_goto F 10 dX3_suspectSet_59 (by decide) ?_
            first
            | (refine e_go (ih (k + 1) w_42 (by omega) ⟨by omega, zQ, zF⟩) ?_
               rw [q1]
               exact (And.intro rfl (And.intro rfl (And.intro rfl (And.intro rfl (And.intro rfl (trivial)))))))
            | (refine e_go (ih (k + 1) wl (by omega) ⟨by omega, ⟨_, gQ⟩, gF⟩) ?_
               rw [q1]
               exact (And.intro rfl (And.intro rfl (And.intro rfl (And.intro rfl (And.intro rfl (trivial)))))))
  refine e_aload_n F dX3_suspectSet_0 rfl ?_
  refine e_callVN F u_X0_holderSet (by rfl) (c_X0_holderSet hD) hD.1 rfl rfl w_mn_RX3_185 dX3_suspectSet_1 (by rfl) (Nat.le_of_ble_eq_true rfl) (by decide) (by omega) (fun _ _ _ h _ => False.elim h) (fun r_1 w_1 n_1 h_1 hn_1 => ?_)
  obtain ⟨rfl, ew_1, en_1⟩ := h_1
  rw [ew_1, en_1]
  refine e_istore_n F dX3_suspectSet_4 (by decide) ?_
  refine e_iconst F dX3_suspectSet_5 ?_
  refine e_istore_n F dX3_suspectSet_6 (by decide) ?_
  refine e_iconst F dX3_suspectSet_7 ?_
  refine e_istore F dX3_suspectSet_8 (by decide) ?_
  exact e_go (lp 8 0 w (by omega) ⟨by omega, ⟨_, hQ⟩, fun q _ _ => rfl⟩) (And.intro rfl (And.intro rfl (And.intro rfl (And.intro rfl (And.intro rfl (trivial))))))
set_option maxHeartbeats 4000000 in
set_option maxRecDepth 100000 in
theorem c_X3_wrongHolder {K : e_K} {l : Launch} {w : e_W} {n : Nat} {x wh : Nat} {kn : Int} (hX : w x = some (SO x kn)) (hF : w (x + 1) = some (FO wh)) (hwh : wh < 7) {P : Int → Int} (hQ : PL w (x + 2) P) {d : Nat} {fl9 dg sc : Int} {A B : Int → Int} (hD : DL w d fl9 dg sc A B) (hd : x + 5 ≤ d) : e_Met K l yX3_wrongHolder (Cond.code yX3_wrongHolder cX3_wrongHolder 4 (Option.some .int) :: e_TB) (6) (0) [.ref x, .ref d] w n (fun r w' n' => r = some (.int (eI (wrf wh A fl9 dg))) ∧ n' = n ∧ PX w w' x) (e_px0) := by
  refine e_ofV rfl (Nat.le_of_ble_eq_true rfl) ?_
  intro P9 E9 S9 M9 A9 B9 T9 C9 F hnm
  have hp := pr_rg wh hwh
  have ho9 := ho_rg wh hwh
  have hst := st7_rg A
  have hW := hD.2.2.2
  have hfl := hW.1
  have hdg := hW.2.1
  have hbc : 0 ≤ bc (st7 A) ∧ bc (st7 A) ≤ 7 := by unfold bc; omega
  have hsk := ssK_rg wh A fl9 dg (ho wh).toNat
  have hsk2 : (2 : Int) ^ (ho wh).toNat ≤ 128 := by
    have e9 : ((2 : Nat) ^ (ho wh).toNat) ≤ 2 ^ 7 := Nat.pow_le_pow_right (by omega) (by omega)
    have e8 : (((2 : Nat) ^ (ho wh).toNat : Nat) : Int) ≤ ((2 ^ 7 : Nat) : Int) := by exact_mod_cast e9
    rw [Int.natCast_pow] at e8
    exact e8
  have lp : ∀ (N : Nat) (r9 : Nat) (wl : e_W), r9 < N → ((r9 : Int) ≤ ho wh ∧ ffd (ssK wh A fl9 dg (ho wh).toNat) (ho wh) r9 = ffd (ssK wh A fl9 dg (ho wh).toNat) (ho wh) (ho wh).toNat ∧ ffd (ssK wh A fl9 dg (ho wh).toNat) (ho wh) (ho wh).toNat = wrf wh A fl9 dg ∧ PX w wl x) → e_V K P9 l E9 (6) (0) S9 M9 A9 B9 T9 C9 4 (fun r w' n' => r = some (.int (eI (wrf wh A fl9 dg))) ∧ n' = n ∧ PX w w' x) (e_px0) 48 [(0, .ref x), (1, .ref d), (2, .int (eI (ssK wh A fl9 dg (ho wh).toNat))), (3, .int (eI (ho wh - (r9 : Int) + 1)))] [] wl n (0) := by
    intro N
    induction N with
    | zero => intro r9 wl hN; exact absurd hN (Nat.not_lt_zero _)
    | succ N ih =>
      intro r9 wl hN ⟨hk, heq, hres, ⟨⟨P2, gQ⟩, gF⟩⟩
      have gX : wl x = some (SO x kn) := by rw [gF x (by omega) (by omega)]; exact hX
      have gFO : wl (x + 1) = some (FO wh) := by rw [gF _ (by omega) (by omega)]; exact hF
      refine e_iload_n F dX3_wrongHolder_48 rfl ?_
      refine e_aload_n F dX3_wrongHolder_49 rfl ?_
      refine e_get (ci := 3) (fi := 0) (q := (RX3, TX3, 5)) F (by first | assumption | exact e_up_s | (rw [e_up_n (by first | assumption | omega)]; first | assumption | exact e_up_s | (rw [e_up_n (by first | assumption | omega)]; first | assumption | exact e_up_s | (rw [e_up_n (by first | assumption | omega)]; first | assumption | exact e_up_s))) | exact hD.1 | exact hD1.1 | exact hD2.1 | exact gD.1 | exact gD1.1 | exact gD2.1 | exact gQ.1 | exact hQ.1 | exact gS.1 | exact hS.1 | exact zD.1) rfl (by decide) w_fl_RX3_10 (by rfl) dX3_wrongHolder_50 ?_
      refine e_getN (ci := 1) (fi := 4) (q := (RX1, TX1, 5)) F (by first | assumption | exact e_up_s | (rw [e_up_n (by first | assumption | omega)]; first | assumption | exact e_up_s | (rw [e_up_n (by first | assumption | omega)]; first | assumption | exact e_up_s | (rw [e_up_n (by first | assumption | omega)]; first | assumption | exact e_up_s))) | exact hD.1 | exact hD1.1 | exact hD2.1 | exact gD.1 | exact gD1.1 | exact gD2.1 | exact gQ.1 | exact hQ.1 | exact gS.1 | exact hS.1 | exact zD.1) rfl (by decide) w_fn_RX3_116 (by rfl) dX3_wrongHolder_53 ?_
      refine e_icmp_gt F 75 dX3_wrongHolder_56 (by decide) (⟨by omega, by omega⟩) (⟨by omega, by omega⟩) (fun c_56 => ?_) (fun c_56 => ?_)
      ·
        obtain rfl : r9 = 0 := by omega
        refine e_bipush F dX3_wrongHolder_75 (by decide) ?_
        refine e_iret F rfl (by omega) ?_ dX3_wrongHolder_77
        refine ⟨?_, rfl, ⟨_, gQ⟩, gF⟩
        rw [← hres, ← heq]
        rfl
      · refine e_iload_n F dX3_wrongHolder_59 rfl ?_
        refine e_iload_n F dX3_wrongHolder_60 rfl ?_
        refine e_callSS F u_X3_isIn (by rfl) (c_X3_isIn hsk.1 (by omega) (h := ho wh - (r9 : Int) + 1) (by omega) (by omega)) w_ml_RX3_83 dX3_wrongHolder_61 (by rfl) (Nat.le_of_ble_eq_true rfl) (by decide) (by omega) (fun _ _ _ h _ => False.elim h) (fun r_61 w_61 n_61 h_61 hn_61 => ?_)
        obtain ⟨rfl, ew_61, en_61⟩ := h_61
        rw [ew_61, en_61]
        refine e_if_eq F 69 dX3_wrongHolder_64 (by decide) (b01_r _) (fun c_64 => ?_) (fun c_64 => ?_)
        ·
          rw [b01_0] at c_64
          refine e_iinc F dX3_wrongHolder_69 rfl (by decide) ?_
          refine e_goto F 48 dX3_wrongHolder_72 (by decide) ?_
          obtain ⟨r9, rfl⟩ : ∃ z, r9 = z + 1 := ⟨r9 - 1, by omega⟩
          have e8 : ho wh - ((r9 + 1 : Nat) : Int) + 1 = ho wh - (r9 : Int) := by omega
          rw [e8] at c_64 ⊢
          refine e_go (ih r9 wl (by omega) ⟨by omega, ?_, hres, ⟨_, gQ⟩, gF⟩) (And.intro rfl (And.intro rfl (And.intro rfl (And.intro rfl (trivial)))))
          rw [← heq]
          show _ = if hs _ (ho wh - (r9 : Int)) then ho wh - (r9 : Int) else ffd _ _ r9
          rw [if_neg c_64]
        ·
          rw [b01_0, Classical.not_not] at c_64
          refine e_iload_n F dX3_wrongHolder_67 rfl ?_
          refine e_iret F rfl (by omega) ?_ dX3_wrongHolder_68
          refine ⟨?_, rfl, ⟨_, gQ⟩, gF⟩
          obtain ⟨r9, rfl⟩ : ∃ z, r9 = z + 1 := ⟨r9 - 1, by omega⟩
          have e8 : ho wh - ((r9 + 1 : Nat) : Int) + 1 = ho wh - (r9 : Int) := by omega
          rw [e8] at c_64 ⊢
          rw [← hres, ← heq]
          show _ = some (Value.int (eI (if hs _ (ho wh - (r9 : Int)) then ho wh - (r9 : Int) else ffd _ _ r9)))
          rw [if_pos c_64]
  refine e_aload_n F dX3_wrongHolder_0 rfl ?_
  refine e_callVN F u_X0_isEmpty (by rfl) (c_X0_isEmpty hD) hD.1 rfl rfl w_mn_RX3_109 dX3_wrongHolder_1 (by rfl) (Nat.le_of_ble_eq_true rfl) (by decide) (by omega) (fun _ _ _ h _ => False.elim h) (fun r_1 w_1 n_1 h_1 hn_1 => ?_)
  obtain ⟨rfl, ew_1, en_1⟩ := h_1
  rw [ew_1, en_1]
  refine e_if_eq F 10 dX3_wrongHolder_4 (by decide) (b01_r _) (fun c_4 => ?_) (fun c_4 => ?_)
  ·
    rw [b01_0] at c_4
    refine e_aload_n F dX3_wrongHolder_10 rfl ?_
    refine e_aload_n F dX3_wrongHolder_11 rfl ?_
    refine e_aload_n F dX3_wrongHolder_12 rfl ?_
    refine e_callVN F u_X0_holderSet (by rfl) (c_X0_holderSet hD) hD.1 rfl rfl w_mn_RX3_185 dX3_wrongHolder_13 (by rfl) (Nat.le_of_ble_eq_true rfl) (by decide) (by omega) (fun _ _ _ h _ => False.elim h) (fun r_13 w_13 n_13 h_13 hn_13 => ?_)
    obtain ⟨rfl, ew_13, en_13⟩ := h_13
    rw [ew_13, en_13]
    refine e_callVV F u_X3_isInLine (by rfl) (c_X3_isInLine hX hF hwh hQ hD hd hst.1 (by omega)) hX rfl rfl w_ml_RX3_198 dX3_wrongHolder_16 (by rfl) (Nat.le_of_ble_eq_true rfl) (by decide) (by omega) (fun _ _ _ h _ => False.elim h) (fun r_16 w_16 n_16 h_16 hn_16 => ?_)
    obtain ⟨rfl, en16, ⟨P2, zQ⟩, zF⟩ := h_16
    rw [en16]
    have zX : w_16 x = some (SO x kn) := by rw [zF x (by omega) (by omega)]; exact hX
    have zFO : w_16 (x + 1) = some (FO wh) := by rw [zF _ (by omega) (by omega)]; exact hF
    have zD := PX.keepD zF hQ hD hd
    refine e_if_eq F 24 dX3_wrongHolder_19 (by decide) (b01_r _) (fun c_19 => ?_) (fun c_19 => ?_)
    ·
      rw [b01_0] at c_19
      refine e_aload_n F dX3_wrongHolder_24 rfl ?_
      refine e_callVN F u_X0_shareCount (by rfl) (c_X0_shareCount zD) zD.1 rfl rfl w_mn_RX3_149 dX3_wrongHolder_25 (by rfl) (Nat.le_of_ble_eq_true rfl) (by decide) (by omega) (fun _ _ _ h _ => False.elim h) (fun r_25 w_25 n_25 h_25 hn_25 => ?_)
      obtain ⟨rfl, ew_25, en_25⟩ := h_25
      rw [ew_25, en_25]
      refine e_aload_n F dX3_wrongHolder_28 rfl ?_
      refine e_getN (ci := 0) (fi := 1) (q := (RX0, TX0, 5)) F zD.1 rfl (by decide) w_fn_RX3_113 (by rfl) dX3_wrongHolder_29 ?_
      refine e_iconst F dX3_wrongHolder_32 ?_
      refine e_iadd F dX3_wrongHolder_33 ?_
      refine e_icmp_ge F 40 dX3_wrongHolder_34 (by decide) (⟨by omega, by omega⟩) (⟨by omega, by omega⟩) (fun c_34 => ?_) (fun c_34 => ?_)
      · refine e_aload_n F dX3_wrongHolder_40 rfl ?_
        refine e_aload_n F dX3_wrongHolder_41 rfl ?_
        refine e_callVV F u_X3_suspectSet (by rfl) (c_X3_suspectSet zX zFO hwh zQ zD hd) zX rfl rfl w_ml_RX3_220 dX3_wrongHolder_42 (by rfl) (Nat.le_of_ble_eq_true rfl) (by decide) (by omega) (fun _ _ _ h _ => False.elim h) (fun r_42 w_42 n_42 h_42 hn_42 => ?_)
        obtain ⟨rfl, en42, ⟨P3, yQ⟩, yF⟩ := h_42
        rw [en42]
        refine e_istore_n F dX3_wrongHolder_45 (by decide) ?_
        refine e_iconst F dX3_wrongHolder_46 ?_
        refine e_istore_n F dX3_wrongHolder_47 (by decide) ?_
        have e1 : ho wh - (((ho wh).toNat : Nat) : Int) + 1 = 1 := by omega
        have e2 : wrf wh A fl9 dg = ffd (ssK wh A fl9 dg (ho wh).toNat) (ho wh) (ho wh).toNat := by unfold wrf; rw [if_neg (by omega), if_neg c_19, if_neg (by omega)]
        refine e_go (lp 8 (ho wh).toNat w_42 (by omega) ⟨by omega, rfl, e2.symm, ⟨_, yQ⟩, fun q a1 a2 => by rw [yF q a1 a2, zF q a1 a2]⟩) ?_
        rw [e1]
        exact (And.intro rfl (And.intro rfl (And.intro rfl (And.intro rfl (trivial)))))
      · refine e_bipush F dX3_wrongHolder_37 (by decide) ?_
        refine e_iret F rfl (by omega) ?_ dX3_wrongHolder_39
        refine ⟨?_, rfl, ⟨_, zQ⟩, zF⟩
        unfold wrf
        rw [if_neg (by omega), if_neg c_19, if_pos (by omega)]
    ·
      rw [b01_0, Classical.not_not] at c_19
      refine e_iconst F dX3_wrongHolder_22 ?_
      refine e_iret F rfl (by omega) ?_ dX3_wrongHolder_23
      refine ⟨?_, rfl, ⟨_, zQ⟩, zF⟩
      unfold wrf
      rw [if_neg (by omega), if_pos c_19]
  ·
    rw [b01_0, Classical.not_not] at c_4
    refine e_bipush F dX3_wrongHolder_7 (by decide) ?_
    refine e_iret F rfl (by omega) ?_ dX3_wrongHolder_9
    refine ⟨?_, rfl, ⟨_, hQ⟩, fun q _ _ => rfl⟩
    unfold wrf
    rw [if_pos c_4]
set_option maxHeartbeats 4000000 in
set_option maxRecDepth 100000 in
theorem c_X3_polysBeyond {K : e_K} {l : Launch} {w : e_W} {n : Nat} {x wh : Nat} {kn : Int} (hX : w x = some (SO x kn)) (hF : w (x + 1) = some (FO wh)) (hwh : wh < 7) {e9 : Int} (h1 : 0 ≤ e9) (h2 : e9 ≤ 6) : e_Met K l yX3_polysBeyond (Cond.code yX3_polysBeyond cX3_polysBeyond 4 (Option.some .int) :: e_TB) (0) (0) [.ref x, .int (eI e9)] w n (fun r w' n' => r = some (.int (eI (pbK (pr wh) e9.toNat))) ∧ w' = w ∧ n' = n) (e_px0) := by
  refine e_ofV rfl (Nat.le_of_ble_eq_true rfl) ?_
  intro P9 E9 S9 M9 A9 B9 T9 C9 F hnm
  have hp := pr_rg wh hwh
  have ho9 := ho_rg wh hwh
  have lp : ∀ (N : Nat) (k : Nat), (e9.toNat - k) < N → k ≤ e9.toNat → e_V K P9 l E9 (0) (0) S9 M9 A9 B9 T9 C9 4 (fun r w' n' => r = some (.int (eI (pbK (pr wh) e9.toNat))) ∧ w' = w ∧ n' = n) (e_px0) 4 [(0, .ref x), (1, .int (eI e9)), (2, .int (eI (pbK (pr wh) k))), (3, .int (eI (k : Int)))] [] w n (0) := by
    intro N
    induction N with
    | zero => intro k hN; exact absurd hN (Nat.not_lt_zero _)
    | succ N ih =>
      intro k hN hk
      have hpb := pbK_rg (p := pr wh) (by omega) (by omega) k
      refine e_iload_n F dX3_polysBeyond_4 rfl ?_
      refine e_iload_n F dX3_polysBeyond_5 rfl ?_
      refine e_icmp_ge F 31 dX3_polysBeyond_6 (by decide) (⟨by omega, by omega⟩) (⟨by omega, by omega⟩) (fun c_6 => ?_) (fun c_6 => ?_)
      ·
        obtain rfl : k = e9.toNat := by omega
        have q2 : pbK (pr wh) e9.toNat = pbK (pr wh) e9.toNat := rfl
        refine e_iload_n F dX3_polysBeyond_31 rfl ?_
        refine e_iret F rfl (by omega) ?_ dX3_polysBeyond_32
        exact ⟨by rw [q2], rfl, rfl⟩
      · refine e_iload_n F dX3_polysBeyond_9 rfl ?_
        refine e_bipush F dX3_polysBeyond_10 (by decide) ?_
        refine e_icmp_gt F 31 dX3_polysBeyond_12 (by decide) (⟨by omega, by omega⟩) (⟨by omega, by omega⟩) (fun c_12 => ?_) (fun c_12 => ?_)
        ·
          have q2 := pbK_stop (p := pr wh) (k := k) (by omega) e9.toNat (by omega)
          refine e_iload_n F dX3_polysBeyond_31 rfl ?_
          refine e_iret F rfl (by omega) ?_ dX3_polysBeyond_32
          exact ⟨by rw [q2], rfl, rfl⟩
        · refine e_iload_n F dX3_polysBeyond_15 rfl ?_
          refine e_aload_n F dX3_polysBeyond_16 rfl ?_
          refine e_get (ci := 3) (fi := 0) (q := (RX3, TX3, 5)) F (by first | assumption | exact e_up_s | (rw [e_up_n (by first | assumption | omega)]; first | assumption | exact e_up_s | (rw [e_up_n (by first | assumption | omega)]; first | assumption | exact e_up_s | (rw [e_up_n (by first | assumption | omega)]; first | assumption | exact e_up_s))) | exact hD.1 | exact hD1.1 | exact hD2.1 | exact gD.1 | exact gD1.1 | exact gD2.1 | exact gQ.1 | exact hQ.1 | exact gS.1 | exact hS.1 | exact zD.1) rfl (by decide) w_fl_RX3_10 (by rfl) dX3_polysBeyond_17 ?_
          refine e_getN (ci := 1) (fi := 1) (q := (RX1, TX1, 5)) F (by first | assumption | exact e_up_s | (rw [e_up_n (by first | assumption | omega)]; first | assumption | exact e_up_s | (rw [e_up_n (by first | assumption | omega)]; first | assumption | exact e_up_s | (rw [e_up_n (by first | assumption | omega)]; first | assumption | exact e_up_s))) | exact hD.1 | exact hD1.1 | exact hD2.1 | exact gD.1 | exact gD1.1 | exact gD2.1 | exact gQ.1 | exact hQ.1 | exact gS.1 | exact hS.1 | exact zD.1) rfl (by decide) w_fn_RX3_49 (by rfl) dX3_polysBeyond_20 ?_
          refine e_imul F dX3_polysBeyond_23 ?_
          refine e_istore_n F dX3_polysBeyond_24 (by decide) ?_
          refine e_iinc F dX3_polysBeyond_25 rfl (by decide) ?_
          refine e_goto F 4 dX3_polysBeyond_28 (by decide) ?_
          have q1 : pbK (pr wh) (k + 1) = pbK (pr wh) k * pr wh := if_pos (by omega)
          refine e_go (ih (k + 1) (by omega) (by omega)) ?_
          rw [q1]
          exact (And.intro rfl (And.intro rfl (And.intro rfl (And.intro rfl (trivial)))))
  refine e_iconst F dX3_polysBeyond_0 ?_
  refine e_istore_n F dX3_polysBeyond_1 (by decide) ?_
  refine e_iconst F dX3_polysBeyond_2 ?_
  refine e_istore_n F dX3_polysBeyond_3 (by decide) ?_
  exact e_go (lp (e9.toNat + 1) 0 (by omega) (by omega)) (And.intro rfl (And.intro rfl (And.intro rfl (And.intro rfl (trivial)))))
set_option maxHeartbeats 4000000 in
set_option maxRecDepth 100000 in
theorem c_X3_doesFit {K : e_K} {l : Launch} {w : e_W} {n : Nat} {x wh : Nat} {kn : Int} (hX : w x = some (SO x kn)) (hF : w (x + 1) = some (FO wh)) (hwh : wh < 7) {d : Nat} {fl9 dg sc : Int} {A B : Int → Int} (hD : DL w d fl9 dg sc A B) {h : Int} (h1 : 1 ≤ h) (h2 : h ≤ 7) (hB : ∀ j, 0 ≤ j → j < sc → 0 ≤ B j ∧ B j < gr wh) : e_Met K l yX3_doesFit (Cond.code yX3_doesFit cX3_doesFit 7 (Option.some .boolean) :: e_TB) (2) (0) [.ref x, .ref d, .int (eI h)] w n (fun r w' n' => r = some (.int (eI (b01 (fit wh sc A B h)))) ∧ w' = w ∧ n' = n) (e_px0) := by
  refine e_ofV rfl (Nat.le_of_ble_eq_true rfl) ?_
  intro P9 E9 S9 M9 A9 B9 T9 C9 F hnm
  have hp := pr_rg wh hwh
  have ho9 := ho_rg wh hwh
  have hg := gr_rg wh hwh
  have hW := hD.2.2.2
  have hsc := hW.2.2.1
  have hAh := hW.2.2.2.1 h h1 (by omega)
  have lp : ∀ (N : Nat) (k : Nat), (7 - k) < N → (k : Int) ≤ sc → e_V K P9 l E9 (2) (0) S9 M9 A9 B9 T9 C9 7 (fun r w' n' => r = some (.int (eI (b01 (fit wh sc A B h)))) ∧ w' = w ∧ n' = n) (e_px0) 8 [(0, .ref x), (1, .ref d), (2, .int (eI h)), (3, .int (eI (dfK (gr wh) B h k))), (4, .long (eJ (h ^ k))), (6, .int (eI (k : Int)))] [] w n (0) := by
    intro N
    induction N with
    | zero => intro k hN; exact absurd hN (Nat.not_lt_zero _)
    | succ N ih =>
      intro k hN hk
      have hdf := dfK_rg (q := gr wh) (by omega) B h k
      have hpw := hpow_rg (k := k) h1 h2 (by omega)
      refine e_iload F dX3_doesFit_8 rfl ?_
      refine e_aload_n F dX3_doesFit_10 rfl ?_
      refine e_getN (ci := 0) (fi := 2) (q := (RX0, TX0, 5)) F hD.1 rfl (by decide) w_fn_RX3_134 (by rfl) dX3_doesFit_11 ?_
      refine e_icmp_ge F 57 dX3_doesFit_14 (by decide) (⟨by omega, by omega⟩) (⟨by omega, by omega⟩) (fun c_14 => ?_) (fun c_14 => ?_)
      ·
        obtain rfl : k = sc.toNat := by omega
        refine e_aload_n F dX3_doesFit_57 rfl ?_
        refine e_get (ci := 3) (fi := 0) (q := (RX3, TX3, 5)) F (by first | assumption | exact e_up_s | (rw [e_up_n (by first | assumption | omega)]; first | assumption | exact e_up_s | (rw [e_up_n (by first | assumption | omega)]; first | assumption | exact e_up_s | (rw [e_up_n (by first | assumption | omega)]; first | assumption | exact e_up_s))) | exact hD.1 | exact hD1.1 | exact hD2.1 | exact gD.1 | exact gD1.1 | exact gD2.1 | exact gQ.1 | exact hQ.1 | exact gS.1 | exact hS.1 | exact zD.1) rfl (by decide) w_fl_RX3_10 (by rfl) dX3_doesFit_58 ?_
        refine e_aload_n F dX3_doesFit_61 rfl ?_
        refine e_iload_n F dX3_doesFit_62 rfl ?_
        refine e_callVN F u_X0_shareAt (by rfl) (c_X0_shareAt hD h1 h2) hD.1 rfl rfl w_mn_RX3_123 dX3_doesFit_63 (by rfl) (Nat.le_of_ble_eq_true rfl) (by decide) (by omega) (fun _ _ _ h _ => False.elim h) (fun r_63 w_63 n_63 h_63 hn_63 => ?_)
        obtain ⟨rfl, ew_63, en_63⟩ := h_63
        rw [ew_63, en_63]
        refine e_callVN F u_X1_sealFor (by rfl) (c_X1_sealFor hF hwh ⟨by omega, by omega⟩) (by first | assumption | exact e_up_s | (rw [e_up_n (by first | assumption | omega)]; first | assumption | exact e_up_s | (rw [e_up_n (by first | assumption | omega)]; first | assumption | exact e_up_s | (rw [e_up_n (by first | assumption | omega)]; first | assumption | exact e_up_s))) | exact hD.1 | exact hD1.1 | exact hD2.1 | exact gD.1 | exact gD1.1 | exact gD2.1 | exact gQ.1 | exact hQ.1 | exact gS.1 | exact hS.1 | exact zD.1) rfl rfl w_mn_RX3_73 dX3_doesFit_66 (by rfl) (Nat.le_of_ble_eq_true rfl) (by decide) (by omega) (fun _ _ _ h _ => False.elim h) (fun r_66 w_66 n_66 h_66 hn_66 => ?_)
        obtain ⟨rfl, ew_66, en_66⟩ := h_66
        rw [ew_66, en_66]
        refine e_iload_n F dX3_doesFit_69 rfl ?_
        have hsl := sl_rg (v := A h) hwh
        refine e_icmp_ne F 77 dX3_doesFit_70 (by decide) (⟨by omega, by omega⟩) (⟨by omega, by omega⟩) (fun c_70 => ?_) (fun c_70 => ?_)
        · refine e_iconst F dX3_doesFit_77 ?_
          refine e_zret F rfl (by omega) (by omega) ?_ dX3_doesFit_78
          refine ⟨?_, rfl, rfl⟩
          first | (rw [b01_t]; exact by omega) | (rw [b01_f]; exact by omega)
        · refine e_iconst F dX3_doesFit_73 ?_
          refine e_goto F 78 dX3_doesFit_74 (by decide) ?_
          refine e_zret F rfl (by omega) (by omega) ?_ dX3_doesFit_78
          refine ⟨?_, rfl, rfl⟩
          first | (rw [b01_t]; exact by omega) | (rw [b01_f]; exact by omega)
      · refine e_aload_n F dX3_doesFit_17 rfl ?_
        refine e_get (ci := 3) (fi := 0) (q := (RX3, TX3, 5)) F (by first | assumption | exact e_up_s | (rw [e_up_n (by first | assumption | omega)]; first | assumption | exact e_up_s | (rw [e_up_n (by first | assumption | omega)]; first | assumption | exact e_up_s | (rw [e_up_n (by first | assumption | omega)]; first | assumption | exact e_up_s))) | exact hD.1 | exact hD1.1 | exact hD2.1 | exact gD.1 | exact gD1.1 | exact gD2.1 | exact gQ.1 | exact hQ.1 | exact gS.1 | exact hS.1 | exact zD.1) rfl (by decide) w_fl_RX3_10 (by rfl) dX3_doesFit_18 ?_
        refine e_iload_n F dX3_doesFit_21 rfl ?_
        refine e_aload_n F dX3_doesFit_22 rfl ?_
        refine e_iload F dX3_doesFit_23 rfl ?_
        refine e_callVN F u_X0_sealAt (by rfl) (c_X0_sealAt hD (h := (k : Int)) ⟨by omega, by omega⟩) hD.1 rfl rfl w_mn_RX3_137 dX3_doesFit_25 (by rfl) (Nat.le_of_ble_eq_true rfl) (by decide) (by omega) (fun _ _ _ h _ => False.elim h) (fun r_25 w_25 n_25 h_25 hn_25 => ?_)
        obtain ⟨rfl, ew25, en25⟩ := h_25
        rw [ew25, en25, if_pos ⟨by omega, by omega⟩]
        have hBk := hB (k : Int) (by omega) (by omega)
        refine e_lload F dX3_doesFit_28 rfl ?_
        refine e_aload_n F dX3_doesFit_30 rfl ?_
        refine e_get (ci := 3) (fi := 0) (q := (RX3, TX3, 5)) F (by first | assumption | exact e_up_s | (rw [e_up_n (by first | assumption | omega)]; first | assumption | exact e_up_s | (rw [e_up_n (by first | assumption | omega)]; first | assumption | exact e_up_s | (rw [e_up_n (by first | assumption | omega)]; first | assumption | exact e_up_s))) | exact hD.1 | exact hD1.1 | exact hD2.1 | exact gD.1 | exact gD1.1 | exact gD2.1 | exact gQ.1 | exact hQ.1 | exact gS.1 | exact hS.1 | exact zD.1) rfl (by decide) w_fl_RX3_10 (by rfl) dX3_doesFit_31 ?_
        refine e_getN (ci := 1) (fi := 2) (q := (RX1, TX1, 5)) F (by first | assumption | exact e_up_s | (rw [e_up_n (by first | assumption | omega)]; first | assumption | exact e_up_s | (rw [e_up_n (by first | assumption | omega)]; first | assumption | exact e_up_s | (rw [e_up_n (by first | assumption | omega)]; first | assumption | exact e_up_s))) | exact hD.1 | exact hD1.1 | exact hD2.1 | exact gD.1 | exact gD1.1 | exact gD2.1 | exact gQ.1 | exact hQ.1 | exact gS.1 | exact hS.1 | exact zD.1) rfl (by decide) w_fn_RX3_164 (by rfl) dX3_doesFit_34 ?_
        refine e_callSN F u_X1_raise (by rfl) (c_X1_raise (b := B (k : Int)) (k := h ^ k) (m := gr wh) hBk.1 hBk.2 (by omega) (by omega) (by omega) (by omega)) w_mn_RX3_69 dX3_doesFit_37 (by rfl) (Nat.le_of_ble_eq_true rfl) (by decide) (by omega) (fun _ _ _ h _ => False.elim h) (fun r_37 w_37 n_37 h_37 hn_37 => ?_)
        obtain ⟨rfl, ew_37, en_37⟩ := h_37
        rw [ew_37, en_37]
        have hpr := e_pw_rg (b := B (k : Int)) (k := (h ^ k).toNat) (show 0 < gr wh by omega)
        refine e_callVN F u_X1_sealProduct (by rfl) (c_X1_sealProduct hF hwh hdf.1 hdf.2 hpr.1 hpr.2) (by first | assumption | exact e_up_s | (rw [e_up_n (by first | assumption | omega)]; first | assumption | exact e_up_s | (rw [e_up_n (by first | assumption | omega)]; first | assumption | exact e_up_s | (rw [e_up_n (by first | assumption | omega)]; first | assumption | exact e_up_s))) | exact hD.1 | exact hD1.1 | exact hD2.1 | exact gD.1 | exact gD1.1 | exact gD2.1 | exact gQ.1 | exact hQ.1 | exact gS.1 | exact hS.1 | exact zD.1) rfl rfl w_mn_RX3_143 dX3_doesFit_40 (by rfl) (Nat.le_of_ble_eq_true rfl) (by decide) (by omega) (fun _ _ _ h _ => False.elim h) (fun r_40 w_40 n_40 h_40 hn_40 => ?_)
        obtain ⟨rfl, ew_40, en_40⟩ := h_40
        rw [ew_40, en_40]
        refine e_istore_n F dX3_doesFit_43 (by decide) ?_
        refine e_lload F dX3_doesFit_44 rfl ?_
        refine e_iload_n F dX3_doesFit_46 rfl ?_
        refine e_i2l F dX3_doesFit_47 (⟨by omega, by omega⟩) ?_
        refine e_lmul F dX3_doesFit_48 ?_
        refine e_lstore F dX3_doesFit_49 (by decide) ?_
        refine e_iinc F dX3_doesFit_51 rfl (by decide) ?_
        refine e_goto F 8 dX3_doesFit_54 (by decide) ?_
        have q1 : dfK (gr wh) B h (k + 1) = dfK (gr wh) B h k * e_pw (B (k : Int)) (h ^ k).toNat (gr wh) % gr wh := rfl
        refine e_go (ih (k + 1) (by omega) (by omega)) ?_
        rw [q1, Int.pow_succ]
        exact (And.intro rfl (And.intro rfl (And.intro rfl (And.intro rfl (And.intro rfl (And.intro rfl (trivial)))))))
  refine e_iconst F dX3_doesFit_0 ?_
  refine e_istore_n F dX3_doesFit_1 (by decide) ?_
  refine e_lconst F dX3_doesFit_2 (y := 1) (by decide) ?_
  refine e_lstore F dX3_doesFit_3 (by decide) ?_
  refine e_iconst F dX3_doesFit_5 ?_
  refine e_istore F dX3_doesFit_6 (by decide) ?_
  refine e_go (lp 8 0 (by omega) (by omega)) ?_
  rw [Int.pow_zero]
  exact (And.intro rfl (And.intro rfl (And.intro rfl (And.intro rfl (And.intro rfl (And.intro rfl (trivial)))))))
set_option maxHeartbeats 4000000 in
set_option maxRecDepth 100000 in
theorem c_X3_doAllFit {K : e_K} {l : Launch} {w : e_W} {n : Nat} {x wh : Nat} {kn : Int} (hX : w x = some (SO x kn)) (hF : w (x + 1) = some (FO wh)) (hwh : wh < 7) {d : Nat} {fl9 dg sc : Int} {A B : Int → Int} (hD : DL w d fl9 dg sc A B) {set : Int} (h1 : 0 ≤ set) (h2 : set < 2147483648) (hB : ∀ j, 0 ≤ j → j < sc → 0 ≤ B j ∧ B j < gr wh) : e_Met K l yX3_doAllFit (Cond.code yX3_doAllFit cX3_doAllFit 4 (Option.some .boolean) :: e_TB) (3) (0) [.ref x, .ref d, .int (eI set)] w n (fun r w' n' => r = some (.int (eI (b01 (daB wh sc A B set (ho wh) (ho wh).toNat = true)))) ∧ w' = w ∧ n' = n) (e_px0) := by
  refine e_ofV rfl (Nat.le_of_ble_eq_true rfl) ?_
  intro P9 E9 S9 M9 A9 B9 T9 C9 F hnm
  have hp := pr_rg wh hwh
  have ho9 := ho_rg wh hwh
  have lp : ∀ (N : Nat) (r9 : Nat), r9 < N → ((r9 : Int) ≤ ho wh ∧ daB wh sc A B set (ho wh) r9 = daB wh sc A B set (ho wh) (ho wh).toNat) → e_V K P9 l E9 (3) (0) S9 M9 A9 B9 T9 C9 4 (fun r w' n' => r = some (.int (eI (b01 (daB wh sc A B set (ho wh) (ho wh).toNat = true)))) ∧ w' = w ∧ n' = n) (e_px0) 2 [(0, .ref x), (1, .ref d), (2, .int (eI set)), (3, .int (eI (ho wh - (r9 : Int) + 1)))] [] w n (0) := by
    intro N
    induction N with
    | zero => intro r9 hN; exact absurd hN (Nat.not_lt_zero _)
    | succ N ih =>
      intro r9 hN ⟨hk, heq⟩
      refine e_iload_n F dX3_doAllFit_2 rfl ?_
      refine e_aload_n F dX3_doAllFit_3 rfl ?_
      refine e_get (ci := 3) (fi := 0) (q := (RX3, TX3, 5)) F (by first | assumption | exact e_up_s | (rw [e_up_n (by first | assumption | omega)]; first | assumption | exact e_up_s | (rw [e_up_n (by first | assumption | omega)]; first | assumption | exact e_up_s | (rw [e_up_n (by first | assumption | omega)]; first | assumption | exact e_up_s))) | exact hD.1 | exact hD1.1 | exact hD2.1 | exact gD.1 | exact gD1.1 | exact gD2.1 | exact gQ.1 | exact hQ.1 | exact gS.1 | exact hS.1 | exact zD.1) rfl (by decide) w_fl_RX3_10 (by rfl) dX3_doAllFit_4 ?_
      refine e_getN (ci := 1) (fi := 4) (q := (RX1, TX1, 5)) F (by first | assumption | exact e_up_s | (rw [e_up_n (by first | assumption | omega)]; first | assumption | exact e_up_s | (rw [e_up_n (by first | assumption | omega)]; first | assumption | exact e_up_s | (rw [e_up_n (by first | assumption | omega)]; first | assumption | exact e_up_s))) | exact hD.1 | exact hD1.1 | exact hD2.1 | exact gD.1 | exact gD1.1 | exact gD2.1 | exact gQ.1 | exact hQ.1 | exact gS.1 | exact hS.1 | exact zD.1) rfl (by decide) w_fn_RX3_116 (by rfl) dX3_doAllFit_7 ?_
      refine e_icmp_gt F 38 dX3_doAllFit_10 (by decide) (⟨by omega, by omega⟩) (⟨by omega, by omega⟩) (fun c_10 => ?_) (fun c_10 => ?_)
      ·
        obtain rfl : r9 = 0 := by omega
        refine e_iconst F dX3_doAllFit_38 ?_
        refine e_zret F rfl (by omega) (by omega) ?_ dX3_doAllFit_39
        refine ⟨?_, rfl, rfl⟩
        rw [b01_t]
        rw [← heq]
        rfl
      · refine e_iload_n F dX3_doAllFit_13 rfl ?_
        refine e_iload_n F dX3_doAllFit_14 rfl ?_
        refine e_callSS F u_X3_isIn (by rfl) (c_X3_isIn h1 h2 (h := ho wh - (r9 : Int) + 1) (by omega) (by omega)) w_ml_RX3_83 dX3_doAllFit_15 (by rfl) (Nat.le_of_ble_eq_true rfl) (by decide) (by omega) (fun _ _ _ h _ => False.elim h) (fun r_15 w_15 n_15 h_15 hn_15 => ?_)
        obtain ⟨rfl, ew_15, en_15⟩ := h_15
        rw [ew_15, en_15]
        refine e_if_eq F 32 dX3_doAllFit_18 (by decide) (b01_r _) (fun c_18 => ?_) (fun c_18 => ?_)
        ·
          rw [b01_0] at c_18
          have q1 : (¬ hs set (ho wh - (r9 : Int) + 1)) ∨ fit wh sc A B (ho wh - (r9 : Int) + 1) := Or.inl c_18
          refine e_iinc F dX3_doAllFit_32 rfl (by decide) ?_
          refine e_goto F 2 dX3_doAllFit_35 (by decide) ?_
          obtain ⟨r9, rfl⟩ : ∃ z, r9 = z + 1 := ⟨r9 - 1, by omega⟩
          have e8 : ho wh - ((r9 + 1 : Nat) : Int) + 1 = ho wh - (r9 : Int) := by omega
          rw [e8] at q1 ⊢
          refine e_go (ih r9 (by omega) ⟨by omega, ?_⟩) (And.intro rfl (And.intro rfl (And.intro rfl (And.intro rfl (trivial)))))
          rw [← heq]
          show _ = ((!decide (hs set (ho wh - (r9 : Int))) || decide (fit wh sc A B (ho wh - (r9 : Int)))) && daB wh sc A B set (ho wh) r9)
          rcases q1 with q1 | q1
          · rw [decide_eq_false q1]; rfl
          · rw [decide_eq_true q1, Bool.or_true]; rfl
        ·
          rw [b01_0, Classical.not_not] at c_18
          refine e_aload_n F dX3_doAllFit_21 rfl ?_
          refine e_aload_n F dX3_doAllFit_22 rfl ?_
          refine e_iload_n F dX3_doAllFit_23 rfl ?_
          refine e_callVV F u_X3_doesFit (by rfl) (c_X3_doesFit hX hF hwh hD (h := ho wh - (r9 : Int) + 1) (by omega) (by omega) hB) hX rfl rfl w_ml_RX3_231 dX3_doAllFit_24 (by rfl) (Nat.le_of_ble_eq_true rfl) (by decide) (by omega) (fun _ _ _ h _ => False.elim h) (fun r_24 w_24 n_24 h_24 hn_24 => ?_)
          obtain ⟨rfl, ew_24, en_24⟩ := h_24
          rw [ew_24, en_24]
          refine e_if_ne F 32 dX3_doAllFit_27 (by decide) (b01_r _) (fun c_27 => ?_) (fun c_27 => ?_)
          ·
            have c27 : fit wh sc A B (ho wh - (r9 : Int) + 1) := Classical.byContradiction (fun q => c_27 (b01_f q))
            have q1 : (¬ hs set (ho wh - (r9 : Int) + 1)) ∨ fit wh sc A B (ho wh - (r9 : Int) + 1) := Or.inr c27
            refine e_iinc F dX3_doAllFit_32 rfl (by decide) ?_
            refine e_goto F 2 dX3_doAllFit_35 (by decide) ?_
            obtain ⟨r9, rfl⟩ : ∃ z, r9 = z + 1 := ⟨r9 - 1, by omega⟩
            have e8 : ho wh - ((r9 + 1 : Nat) : Int) + 1 = ho wh - (r9 : Int) := by omega
            rw [e8] at q1 ⊢
            refine e_go (ih r9 (by omega) ⟨by omega, ?_⟩) (And.intro rfl (And.intro rfl (And.intro rfl (And.intro rfl (trivial)))))
            rw [← heq]
            show _ = ((!decide (hs set (ho wh - (r9 : Int))) || decide (fit wh sc A B (ho wh - (r9 : Int)))) && daB wh sc A B set (ho wh) r9)
            rcases q1 with q1 | q1
            · rw [decide_eq_false q1]; rfl
            · rw [decide_eq_true q1, Bool.or_true]; rfl
          ·
            have c27 : ¬ fit wh sc A B (ho wh - (r9 : Int) + 1) := b01_0.mp c_27
            refine e_iconst F dX3_doAllFit_30 ?_
            refine e_zret F rfl (by omega) (by omega) ?_ dX3_doAllFit_31
            refine ⟨?_, rfl, rfl⟩
            obtain ⟨r9, rfl⟩ : ∃ z, r9 = z + 1 := ⟨r9 - 1, by omega⟩
            have e8 : ho wh - ((r9 + 1 : Nat) : Int) + 1 = ho wh - (r9 : Int) := by omega
            rw [e8] at c_18 c27
            rw [b01_f]
            rw [← heq]
            show ¬ ((!decide (hs set (ho wh - (r9 : Int))) || decide (fit wh sc A B (ho wh - (r9 : Int)))) && daB wh sc A B set (ho wh) r9) = true
            rw [decide_eq_true c_18, decide_eq_false c27]
            simp
  refine e_iconst F dX3_doAllFit_0 ?_
  refine e_istore_n F dX3_doAllFit_1 (by decide) ?_
  have e1 : ho wh - (((ho wh).toNat : Nat) : Int) + 1 = 1 := by omega
  refine e_go (lp 8 (ho wh).toNat (by omega) ⟨by omega, rfl⟩) ?_
  rw [e1]
  exact (And.intro rfl (And.intro rfl (And.intro rfl (And.intro rfl (trivial)))))
