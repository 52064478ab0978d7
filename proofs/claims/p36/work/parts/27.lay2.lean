/-! Secretshares: methods that lay, the longer ones -/
/-- sums of bits -/
def bsK (f : Nat → Bool) : Nat → Int
  | 0 => 0
  | k + 1 => bsK f k + (if f k then 2 ^ k else 0)
theorem bsK_rg (f : Nat → Bool) (k : Nat) : 0 ≤ bsK f k ∧ bsK f k < 2 ^ k := by
  induction k with
  | zero => unfold bsK; decide
  | succ k ih =>
    unfold bsK
    have hp : (0 : Int) < 2 ^ k := Int.pow_pos (by omega)
    rw [Int.pow_succ]
    split <;> omega
theorem bsK_hs (f : Nat → Bool) {j : Nat} (k : Nat) : hs (bsK f k) ((j : Int) + 1) ↔ (j < k ∧ f j = true) := by
  have e1 : ((j : Int) + 1 - 1).toNat = j := by omega
  show bsK f k / 2 ^ ((j : Int) + 1 - 1).toNat % 2 = 1 ↔ _
  rw [e1]
  have hp : (0 : Int) < 2 ^ j := Int.pow_pos (by omega)
  induction k with
  | zero =>
    unfold bsK
    rw [Int.zero_ediv]
    constructor
    · intro h; exact absurd h (by decide)
    · intro h; exact absurd h.1 (Nat.not_lt_zero _)
  | succ k ih =>
    unfold bsK
    rcases Nat.lt_trichotomy j k with h | h | h
    · have e2 : (2 : Int) ^ k = 2 ^ j * (2 * 2 ^ (k - j - 1)) := by
        rw [← Int.mul_assoc, ← Int.pow_succ, ← Int.pow_add]; congr 1; omega
      have e3 : (bsK f k + (if f k = true then 2 ^ k else 0)) / 2 ^ j % 2 = bsK f k / 2 ^ j % 2 := by
        split
        · rw [e2, Int.add_mul_ediv_left _ _ (by omega), Int.add_mul_emod_self_left]
        · rw [Int.add_zero]
      rw [e3]
      constructor
      · intro q; exact ⟨by omega, (ih.mp q).2⟩
      · intro q; exact ih.mpr ⟨h, q.2⟩
    · subst h
      have hr := bsK_rg f j
      by_cases hf : f j = true
      · rw [if_pos hf]
        have e4 : (bsK f j + 2 ^ j) / 2 ^ j = 1 := by
          have : bsK f j + 2 ^ j = bsK f j + 2 ^ j * 1 := by omega
          rw [this, Int.add_mul_ediv_left _ _ (by omega), Int.ediv_eq_zero_of_lt hr.1 hr.2]; rfl
        rw [e4]
        exact ⟨fun _ => ⟨by omega, hf⟩, fun _ => by decide⟩
      · rw [if_neg hf, Int.add_zero, Int.ediv_eq_zero_of_lt hr.1 hr.2]
        exact ⟨fun q => absurd q (by decide), fun q => absurd q.2 hf⟩
    · have hr := bsK_rg f (k + 1)
      unfold bsK at hr
      have e5 : (2 : Int) ^ (k + 1) ≤ 2 ^ j := by
        obtain ⟨t, ht⟩ : ∃ t, j = k + 1 + t := ⟨j - (k + 1), by omega⟩
        rw [ht, Int.pow_add 2 (k + 1) t]
        have a1 : (0 : Int) < 2 ^ (k + 1) := Int.pow_pos (by omega)
        have a2 : (0 : Int) < 2 ^ t := Int.pow_pos (by omega)
        have a3 : (2 : Int) ^ (k + 1) * 1 ≤ 2 ^ (k + 1) * 2 ^ t := Int.mul_le_mul_of_nonneg_left a2 (by omega)
        omega
      rw [Int.ediv_eq_zero_of_lt hr.1 (by omega)]
      exact ⟨fun q => absurd q (by decide), fun q => by omega⟩
theorem stK_bs (A : Int → Int) (k : Nat) : stK A k = bsK (fun j => decide (A ((j : Int) + 1) ≠ -1)) k := by
  induction k with
  | zero => rfl
  | succ k ih =>
    unfold stK bsK
    rw [ih]
    congr 1
    by_cases h : A ((k : Int) + 1) ≠ -1
    · rw [if_pos h, if_pos (by simpa using h)]
    · rw [if_neg h, if_neg (by simpa using h)]
theorem st7_hs (A : Int → Int) {j : Nat} (hj : j < 7) : hs (st7 A) ((j : Int) + 1) ↔ A ((j : Int) + 1) ≠ -1 := by
  unfold st7
  rw [stK_bs, bsK_hs]
  simp [hj]
theorem ssK_bs (wh : Nat) (A : Int → Int) (fl9 dg : Int) (k : Nat) : ssK wh A fl9 dg k = bsK (fun j => decide (hs (st7 A) ((j : Int) + 1) ∧ il wh (st7 A - 2 ^ j) A fl9 dg)) k := by
  induction k with
  | zero => rfl
  | succ k ih =>
    unfold ssK bsK
    rw [ih]
    by_cases h : hs (st7 A) ((k : Int) + 1) ∧ il wh (st7 A - 2 ^ k) A fl9 dg
    · rw [if_pos h, if_pos (by simpa using h)]
    · rw [if_neg h, if_neg (by simpa using h), Int.add_zero]
theorem ssK_hs (wh : Nat) (A : Int → Int) (fl9 dg : Int) {j k : Nat} : hs (ssK wh A fl9 dg k) ((j : Int) + 1) ↔ (j < k ∧ hs (st7 A) ((j : Int) + 1) ∧ il wh (st7 A - 2 ^ j) A fl9 dg) := by
  rw [ssK_bs, bsK_hs]
  simp
theorem ffd_rg {set M : Int} : ∀ r : Nat, (r : Int) ≤ M → 0 < ffd set M r → hs set (ffd set M r) ∧ 1 ≤ ffd set M r ∧ ffd set M r ≤ M := by
  intro r
  induction r with
  | zero => intro _ h; unfold ffd at h; omega
  | succ r ih =>
    intro hr h
    unfold ffd at h ⊢
    by_cases q : hs set (M - (r : Int))
    · rw [if_pos q]; exact ⟨q, by omega, by omega⟩
    · rw [if_neg q] at h ⊢; exact ih (by omega) h
theorem wrf_pos {wh : Nat} (hwh : wh < 7) {A : Int → Int} {fl9 dg : Int} (h : 0 < wrf wh A fl9 dg) : 1 ≤ wrf wh A fl9 dg ∧ wrf wh A fl9 dg ≤ ho wh ∧ hs (st7 A) (wrf wh A fl9 dg) := by
  have ho9 := ho_rg wh hwh
  unfold wrf at h ⊢
  split at h <;> rename_i q1
  · omega
  · split at h <;> rename_i q2
    · omega
    · split at h <;> rename_i q3
      · omega
      · rw [if_neg q1, if_neg q2, if_neg q3]
        have h9 := ffd_rg (ho wh).toNat (by omega) h
        refine ⟨h9.2.1, h9.2.2, ?_⟩
        have e1 : ffd (ssK wh A fl9 dg (ho wh).toNat) (ho wh) (ho wh).toNat = (((ffd (ssK wh A fl9 dg (ho wh).toNat) (ho wh) (ho wh).toNat - 1).toNat : Nat) : Int) + 1 := by omega
        rw [e1] at h9 ⊢
        exact (ssK_hs wh A fl9 dg (k := (ho wh).toNat)).mp h9.1 |>.2.1
theorem wrf_rg {wh : Nat} (hwh : wh < 7) (A : Int → Int) (fl9 dg : Int) : -9 ≤ wrf wh A fl9 dg ∧ wrf wh A fl9 dg ≤ 7 := by
  have ho9 := ho_rg wh hwh
  have hff : ∀ (set M : Int) (r : Nat), (r : Int) ≤ M → M ≤ 7 → -9 ≤ ffd set M r ∧ ffd set M r ≤ 7 := by
    intro set M r hr hM
    induction r with
    | zero => unfold ffd; omega
    | succ r ih =>
      unfold ffd
      split
      · omega
      · exact ih (by omega)
  unfold wrf
  split
  · omega
  · split
    · omega
    · split
      · omega
      · exact hff _ _ _ (by omega) (by omega)
def meQ (wh : Nat) (D : Nat → SD) (i : Nat) : Int × (Nat → SD) := (wrf wh (D i).A (D i).fl (D i).dg, if 0 < wrf wh (D i).A (D i).fl (D i).dg then upD D i (puS (D i) (wrf wh (D i).A (D i).fl (D i).dg) (tl wh (st7 (D i).A - 2 ^ (wrf wh (D i).A (D i).fl (D i).dg - 1).toNat) (D i).A (wrf wh (D i).A (D i).fl (D i).dg))) else D)
set_option maxHeartbeats 4000000 in
set_option maxRecDepth 100000 in
theorem c_X3_mend {K : e_K} {l : Launch} {w : e_W} {n : Nat} {x wh : Nat} {kn : Int} {D : Nat → SD} (hC : CW w x wh kn D) {i : Int} (hi : e_r i) : e_Met K l yX3_mend (Cond.code yX3_mend cX3_mend 5 (Option.some .int) :: e_TB) (7) (1) [.ref x, .int (eI i)] w n (fun r w' n' => ((0 ≤ i ∧ i < 6)) ∧ r = some (.int (eI ((meQ wh D i.toNat).1))) ∧ n' = n ∧ CW w' x wh (kn) ((meQ wh D i.toNat).2) ∧ FR w w' x) (pxd w (¬ (0 ≤ i ∧ i < 6)) False) := by
  refine e_ofV rfl (Nat.le_of_ble_eq_true rfl) ?_
  intro P9 E9 S9 M9 A9 B9 T9 C9 F hnm
  have hC0 := hC
  have hDA := hC.2.2.2.2.1
  obtain ⟨hX, hF, hwh, ⟨P0, hQ⟩, ⟨ga, hga, hgj⟩, hDs, s0, hS⟩ := hC
  have hp := pr_rg wh hwh
  have ho9 := ho_rg wh hwh
  have hg9 := gr_rg wh hwh
  have hf9 := fl_rg wh hwh
  refine e_aload_n F dX3_mend_0 rfl ?_
  refine e_iload_n F dX3_mend_1 rfl ?_
  refine e_callVV F u_X3_dealAt (by rfl) (c_X3_dealAt hX hDA (i := i) hi) hX rfl rfl w_ml_RX3_94 dX3_mend_2 (by rfl) (Nat.le_of_ble_eq_true rfl) (by decide) (by omega) (fun E w2 n2 h _ => ⟨Or.inl ⟨h.1, by have q := h.2.1; omega⟩, h.2.2⟩) (fun r_2 w_2 n_2 h_2 hn_2 => ?_)
  obtain ⟨hi1, rfl, ew_2, en_2⟩ := h_2
  rw [ew_2, en_2]
  obtain ⟨hD1, hW1⟩ := hDs i.toNat (by omega)
  refine e_astore_n F dX3_mend_5 (by decide) ?_
  refine e_aload_n F dX3_mend_6 rfl ?_
  refine e_aload_n F dX3_mend_7 rfl ?_
  refine e_callVV F u_X3_wrongHolder (by rfl) (c_X3_wrongHolder hX hF hwh hQ hD1 (by omega)) hX rfl rfl w_ml_RX3_182 dX3_mend_8 (by rfl) (Nat.le_of_ble_eq_true rfl) (by decide) (by omega) (fun _ _ _ h _ => False.elim h) (fun r_8 w_8 n_8 h_8 hn_8 => ?_)
  obtain ⟨rfl, en_8, gP⟩ := h_8
  rw [en_8]
  have hres := hC0.px gP
  have gX := hres.1.1
  have gFO := hres.1.2.1
  have gD1 := (hres.1.2.2.2.2.2.1 i.toNat (by omega)).1
  have hst := st7_rg (D i.toNat).A
  have hwr := wrf_rg hwh (D i.toNat).A (D i.toNat).fl (D i.toNat).dg
  refine e_istore_n F dX3_mend_11 (by decide) ?_
  refine e_iload_n F dX3_mend_12 rfl ?_
  refine e_if_le F 42 dX3_mend_13 (by decide) (⟨by omega, by omega⟩) (fun c_13 => ?_) (fun c_13 => ?_)
  · refine e_iload_n F dX3_mend_42 rfl ?_
    refine e_iret F rfl (by omega) ?_ dX3_mend_43
    refine ⟨hi1, ?_⟩
    unfold meQ
    first
    | (rw [if_neg (by omega)]
       exact ⟨rfl, rfl, hres⟩)
    | (rw [if_pos (by omega)]
       exact ⟨rfl, rfl, hr2.1, hres.2.tr hr2.2⟩)
  ·
    obtain ⟨p1, p2, p3⟩ := wrf_pos hwh (A := (D i.toNat).A) (fl9 := (D i.toNat).fl) (dg := (D i.toNat).dg) (by omega)
    have p4 : ((((wrf wh (D i.toNat).A (D i.toNat).fl (D i.toNat).dg) - 1).toNat : Nat) : Int) + 1 = (wrf wh (D i.toNat).A (D i.toNat).fl (D i.toNat).dg) := by omega
    have p3b : hs (st7 (D i.toNat).A) (((((wrf wh (D i.toNat).A (D i.toNat).fl (D i.toNat).dg) - 1).toNat : Nat) : Int) + 1) := by rw [p4]; exact p3
    have hle := hs_le hst.1 hst.2 (by omega) p3b
    have hpp : (0 : Int) < 2 ^ ((wrf wh (D i.toNat).A (D i.toNat).fl (D i.toNat).dg) - 1).toNat := Int.pow_pos (by omega)
    have htl : 0 ≤ tl wh (st7 (D i.toNat).A - 2 ^ ((wrf wh (D i.toNat).A (D i.toNat).fl (D i.toNat).dg) - 1).toNat) (D i.toNat).A (wrf wh (D i.toNat).A (D i.toNat).fl (D i.toNat).dg) ∧ tl wh (st7 (D i.toNat).A - 2 ^ ((wrf wh (D i.toNat).A (D i.toNat).fl (D i.toNat).dg) - 1).toNat) (D i.toNat).A (wrf wh (D i.toNat).A (D i.toNat).fl (D i.toNat).dg) < pr wh := emod_rg _ hwh
    refine e_aload_n F dX3_mend_16 rfl ?_
    refine e_callVN F u_X0_holderSet (by rfl) (c_X0_holderSet gD1) (by first | assumption | exact e_up_s | (rw [e_up_n (by first | assumption | omega)]; first | assumption | exact e_up_s | (rw [e_up_n (by first | assumption | omega)]; first | assumption | exact e_up_s | (rw [e_up_n (by first | assumption | omega)]; first | assumption | exact e_up_s))) | exact hD.1 | exact hD1.1 | exact hD2.1 | exact gD.1 | exact gD1.1 | exact gD2.1 | exact gQ.1 | exact hQ.1 | exact gS.1 | exact hS.1 | exact zD.1) rfl rfl w_mn_RX3_185 dX3_mend_17 (by rfl) (Nat.le_of_ble_eq_true rfl) (by decide) (by omega) (fun _ _ _ h _ => False.elim h) (fun r_17 w_17 n_17 h_17 hn_17 => ?_)
    obtain ⟨rfl, ew_17, en_17⟩ := h_17
    rw [ew_17, en_17]
    refine e_iload_n F dX3_mend_20 rfl ?_
    refine e_callSS F u_X3_bitOf (by rfl) (c_X3_bitOf (h := (wrf wh (D i.toNat).A (D i.toNat).fl (D i.toNat).dg)) (by omega) (by omega)) w_ml_RX3_188 dX3_mend_21 (by rfl) (Nat.le_of_ble_eq_true rfl) (by decide) (by omega) (fun _ _ _ h _ => False.elim h) (fun r_21 w_21 n_21 h_21 hn_21 => ?_)
    obtain ⟨rfl, ew_21, en_21⟩ := h_21
    rw [ew_21, en_21]
    refine e_iconst F dX3_mend_24 ?_
    refine e_ixor F dX3_mend_25 ((eI_self _).symm) ?_
    refine e_iand F dX3_mend_26 (show _ = eI (st7 (D i.toNat).A - 2 ^ ((wrf wh (D i.toNat).A (D i.toNat).fl (D i.toNat).dg) - 1).toNat) from by rw [eI_self]; exact eI_andn hst.1 hst.2 (by omega) p3b) ?_
    refine e_istore F dX3_mend_27 (by decide) ?_
    refine e_aload_n F dX3_mend_29 rfl ?_
    refine e_iload_n F dX3_mend_30 rfl ?_
    refine e_aload_n F dX3_mend_31 rfl ?_
    refine e_aload_n F dX3_mend_32 rfl ?_
    refine e_iload F dX3_mend_33 rfl ?_
    refine e_iload_n F dX3_mend_35 rfl ?_
    refine e_callVV F u_X3_tell (by rfl) (c_X3_tell gX gFO hwh gD1 (set := (st7 (D i.toNat).A - 2 ^ ((wrf wh (D i.toNat).A (D i.toNat).fl (D i.toNat).dg) - 1).toNat)) (pl := (wrf wh (D i.toNat).A (D i.toNat).fl (D i.toNat).dg)) (by omega) (by omega) ⟨by omega, by omega⟩) gX rfl rfl w_ml_RX3_178 dX3_mend_36 (by rfl) (Nat.le_of_ble_eq_true rfl) (by decide) (by omega) (fun _ _ _ h _ => False.elim h) (fun r_36 w_36 n_36 h_36 hn_36 => ?_)
    obtain ⟨rfl, ew_36, en_36⟩ := h_36
    rw [ew_36, en_36]
    refine e_callVN F u_X0_setShare (by rfl) (c_X0_setShare gD1 (h := (wrf wh (D i.toNat).A (D i.toNat).fl (D i.toNat).dg)) (v := tl wh (st7 (D i.toNat).A - 2 ^ ((wrf wh (D i.toNat).A (D i.toNat).fl (D i.toNat).dg) - 1).toNat) (D i.toNat).A (wrf wh (D i.toNat).A (D i.toNat).fl (D i.toNat).dg)) (by omega) (by omega) (by omega) (by omega)) (by first | assumption | exact e_up_s | (rw [e_up_n (by first | assumption | omega)]; first | assumption | exact e_up_s | (rw [e_up_n (by first | assumption | omega)]; first | assumption | exact e_up_s | (rw [e_up_n (by first | assumption | omega)]; first | assumption | exact e_up_s))) | exact hD.1 | exact hD1.1 | exact hD2.1 | exact gD.1 | exact gD1.1 | exact gD2.1 | exact gQ.1 | exact hQ.1 | exact gS.1 | exact hS.1 | exact zD.1) rfl rfl w_mn_RX3_130 dX3_mend_39 (by rfl) (Nat.le_of_ble_eq_true rfl) (by decide) (by omega) (fun _ _ _ h _ => False.elim h) (fun r_39 w_39 n_39 h_39 hn_39 => ?_)
    obtain ⟨rfl, en_39, zD, zF⟩ := h_39
    rw [en_39]
    have hfl0 : (D i.toNat).fl ≠ 0 := fun q => by
      have q9 : (wrf wh (D i.toNat).A (D i.toNat).fl (D i.toNat).dg) = -9 := if_pos q
      omega
    have hr2 := hres.1.deal (by omega) (s := puS (D i.toNat) (wrf wh (D i.toNat).A (D i.toNat).fl (D i.toNat).dg) (tl wh (st7 (D i.toNat).A - 2 ^ ((wrf wh (D i.toNat).A (D i.toNat).fl (D i.toNat).dg) - 1).toNat) (D i.toNat).A (wrf wh (D i.toNat).A (D i.toNat).fl (D i.toNat).dg))) zD (puS_SW hW1 (Or.inr ⟨htl.1, htl.2, p2⟩) (Or.inl hfl0)) zF
    refine e_iload_n F dX3_mend_42 rfl ?_
    refine e_iret F rfl (by omega) ?_ dX3_mend_43
    refine ⟨hi1, ?_⟩
    unfold meQ
    first
    | (rw [if_neg (by omega)]
       exact ⟨rfl, rfl, hres⟩)
    | (rw [if_pos (by omega)]
       exact ⟨rfl, rfl, hr2.1, hres.2.tr hr2.2⟩)
set_option maxHeartbeats 4000000 in
set_option maxRecDepth 100000 in
theorem c_X3_times {K : e_K} {l : Launch} {w : e_W} {n : Nat} {x wh : Nat} {kn : Int} {D : Nat → SD} (hC : CW w x wh kn D) {i : Int} (hi : e_r i) {j : Int} (hj : e_r j) {t : Int} (ht : e_r t) : e_Met K l yX3_times (Cond.code yX3_times cX3_times 10 (Option.some .int) :: e_TB) (7) (3) [.ref x, .int (eI i), .int (eI j), .int (eI t)] w n (fun r w' n' => ((0 ≤ i ∧ i < 6) ∧ (0 ≤ j ∧ j < 6) ∧ (0 ≤ t ∧ t < 6)) ∧ r = some (.int (eI ((tiQ wh D i.toNat j.toNat t.toNat).1))) ∧ n' = n ∧ CW w' x wh (kn) ((tiQ wh D i.toNat j.toNat t.toNat).2) ∧ FR w w' x) (pxd w (¬ ((0 ≤ i ∧ i < 6) ∧ (0 ≤ j ∧ j < 6) ∧ (0 ≤ t ∧ t < 6))) False) := by
  refine e_ofV rfl (Nat.le_of_ble_eq_true rfl) ?_
  intro P9 E9 S9 M9 A9 B9 T9 C9 F hnm
  have hC0 := hC
  have hDA := hC.2.2.2.2.1
  obtain ⟨hX, hF, hwh, ⟨P0, hQ⟩, ⟨ga, hga, hgj⟩, hDs, s0, hS⟩ := hC
  have hp := pr_rg wh hwh
  have ho9 := ho_rg wh hwh
  have hg9 := gr_rg wh hwh
  have hf9 := fl_rg wh hwh
  refine e_aload_n F dX3_times_0 rfl ?_
  refine e_iload_n F dX3_times_1 rfl ?_
  refine e_callVV F u_X3_dealAt (by rfl) (c_X3_dealAt hX hDA (i := i) hi) hX rfl rfl w_ml_RX3_94 dX3_times_2 (by rfl) (Nat.le_of_ble_eq_true rfl) (by decide) (by omega) (fun E w2 n2 h _ => ⟨Or.inl ⟨h.1, by have q := h.2.1; omega⟩, h.2.2⟩) (fun r_2 w_2 n_2 h_2 hn_2 => ?_)
  obtain ⟨hi1, rfl, ew_2, en_2⟩ := h_2
  rw [ew_2, en_2]
  obtain ⟨hD1, hW1⟩ := hDs i.toNat (by omega)
  refine e_astore F dX3_times_5 (by decide) ?_
  refine e_aload_n F dX3_times_7 rfl ?_
  refine e_iload_n F dX3_times_8 rfl ?_
  refine e_callVV F u_X3_dealAt (by rfl) (c_X3_dealAt hX hDA (i := j) hj) hX rfl rfl w_ml_RX3_94 dX3_times_9 (by rfl) (Nat.le_of_ble_eq_true rfl) (by decide) (by omega) (fun E w2 n2 h _ => ⟨Or.inl ⟨h.1, by have q := h.2.1; omega⟩, h.2.2⟩) (fun r_9 w_9 n_9 h_9 hn_9 => ?_)
  obtain ⟨hi2, rfl, ew_9, en_9⟩ := h_9
  rw [ew_9, en_9]
  obtain ⟨hD2, hW2⟩ := hDs j.toNat (by omega)
  refine e_astore F dX3_times_12 (by decide) ?_
  refine e_aload_n F dX3_times_14 rfl ?_
  refine e_iload_n F dX3_times_15 rfl ?_
  refine e_callVV F u_X3_dealAt (by rfl) (c_X3_dealAt hX hDA (i := t) ht) hX rfl rfl w_ml_RX3_94 dX3_times_16 (by rfl) (Nat.le_of_ble_eq_true rfl) (by decide) (by omega) (fun E w2 n2 h _ => ⟨Or.inl ⟨h.1, by have q := h.2.1; omega⟩, h.2.2⟩) (fun r_16 w_16 n_16 h_16 hn_16 => ?_)
  obtain ⟨hi3, rfl, ew_16, en_16⟩ := h_16
  rw [ew_16, en_16]
  obtain ⟨hD3, hW3⟩ := hDs t.toNat (by omega)
  refine e_astore F dX3_times_19 (by decide) ?_
  refine e_aload F dX3_times_21 rfl ?_
  refine e_callVN F u_X0_isEmpty (by rfl) (c_X0_isEmpty hD1) (by first | assumption | exact e_up_s | (rw [e_up_n (by first | assumption | omega)]; first | assumption | exact e_up_s | (rw [e_up_n (by first | assumption | omega)]; first | assumption | exact e_up_s | (rw [e_up_n (by first | assumption | omega)]; first | assumption | exact e_up_s))) | exact hD.1 | exact hD1.1 | exact hD2.1 | exact gD.1 | exact gD1.1 | exact gD2.1 | exact gQ.1 | exact hQ.1 | exact gS.1 | exact hS.1 | exact zD.1) rfl rfl w_mn_RX3_109 dX3_times_23 (by rfl) (Nat.le_of_ble_eq_true rfl) (by decide) (by omega) (fun _ _ _ h _ => False.elim h) (fun r_23 w_23 n_23 h_23 hn_23 => ?_)
  obtain ⟨rfl, ew_23, en_23⟩ := h_23
  rw [ew_23, en_23]
  refine e_if_ne F 53 dX3_times_26 (by decide) (b01_r _) (fun c_26 => ?_) (fun c_26 => ?_)
  ·
    rw [ne_eq, b01_0, Classical.not_not] at c_26
    refine e_bipush F dX3_times_53 (by decide) ?_
    refine e_iret F rfl (by omega) ?_ dX3_times_55
    refine ⟨⟨hi1, hi2, hi3⟩, ?_⟩
    unfold tiQ
    rw [if_pos (by omega)]
    exact ⟨rfl, rfl, hC0, FR.rf⟩
  ·
    rw [b01_0] at c_26
    refine e_aload F dX3_times_29 rfl ?_
    refine e_callVN F u_X0_isEmpty (by rfl) (c_X0_isEmpty hD2) (by first | assumption | exact e_up_s | (rw [e_up_n (by first | assumption | omega)]; first | assumption | exact e_up_s | (rw [e_up_n (by first | assumption | omega)]; first | assumption | exact e_up_s | (rw [e_up_n (by first | assumption | omega)]; first | assumption | exact e_up_s))) | exact hD.1 | exact hD1.1 | exact hD2.1 | exact gD.1 | exact gD1.1 | exact gD2.1 | exact gQ.1 | exact hQ.1 | exact gS.1 | exact hS.1 | exact zD.1) rfl rfl w_mn_RX3_109 dX3_times_31 (by rfl) (Nat.le_of_ble_eq_true rfl) (by decide) (by omega) (fun _ _ _ h _ => False.elim h) (fun r_31 w_31 n_31 h_31 hn_31 => ?_)
    obtain ⟨rfl, ew_31, en_31⟩ := h_31
    rw [ew_31, en_31]
    have hdg1 := hD1.2.2.2.2.1
    have hdg2 := hD2.2.2.2.2.1
    refine e_if_ne F 53 dX3_times_34 (by decide) (b01_r _) (fun c_34 => ?_) (fun c_34 => ?_)
    ·
      rw [ne_eq, b01_0, Classical.not_not] at c_34
      refine e_bipush F dX3_times_53 (by decide) ?_
      refine e_iret F rfl (by omega) ?_ dX3_times_55
      refine ⟨⟨hi1, hi2, hi3⟩, ?_⟩
      unfold tiQ
      rw [if_pos (by omega)]
      exact ⟨rfl, rfl, hC0, FR.rf⟩
    ·
      rw [b01_0] at c_34
      refine e_aload F dX3_times_37 rfl ?_
      refine e_getN (ci := 0) (fi := 1) (q := (RX0, TX0, 5)) F (by first | assumption | exact e_up_s | (rw [e_up_n (by first | assumption | omega)]; first | assumption | exact e_up_s | (rw [e_up_n (by first | assumption | omega)]; first | assumption | exact e_up_s | (rw [e_up_n (by first | assumption | omega)]; first | assumption | exact e_up_s))) | exact hD.1 | exact hD1.1 | exact hD2.1 | exact gD.1 | exact gD1.1 | exact gD2.1 | exact gQ.1 | exact hQ.1 | exact gS.1 | exact hS.1 | exact zD.1) rfl (by decide) w_fn_RX3_113 (by rfl) dX3_times_39 ?_
      refine e_aload F dX3_times_42 rfl ?_
      refine e_getN (ci := 0) (fi := 1) (q := (RX0, TX0, 5)) F (by first | assumption | exact e_up_s | (rw [e_up_n (by first | assumption | omega)]; first | assumption | exact e_up_s | (rw [e_up_n (by first | assumption | omega)]; first | assumption | exact e_up_s | (rw [e_up_n (by first | assumption | omega)]; first | assumption | exact e_up_s))) | exact hD.1 | exact hD1.1 | exact hD2.1 | exact gD.1 | exact gD1.1 | exact gD2.1 | exact gQ.1 | exact hQ.1 | exact gS.1 | exact hS.1 | exact zD.1) rfl (by decide) w_fn_RX3_113 (by rfl) dX3_times_44 ?_
      refine e_iadd F dX3_times_47 ?_
      refine e_bipush F dX3_times_48 (by decide) ?_
      refine e_icmp_le F 56 dX3_times_50 (by decide) (⟨by omega, by omega⟩) (⟨by omega, by omega⟩) (fun c_50 => ?_) (fun c_50 => ?_)
      · refine e_aload_n F dX3_times_56 rfl ?_
        refine e_get (ci := 3) (fi := 3) (q := (RX3, TX3, 5)) F (by first | assumption | exact e_up_s | (rw [e_up_n (by first | assumption | omega)]; first | assumption | exact e_up_s | (rw [e_up_n (by first | assumption | omega)]; first | assumption | exact e_up_s | (rw [e_up_n (by first | assumption | omega)]; first | assumption | exact e_up_s))) | exact hD.1 | exact hD1.1 | exact hD2.1 | exact gD.1 | exact gD1.1 | exact gD2.1 | exact gQ.1 | exact hQ.1 | exact gS.1 | exact hS.1 | exact zD.1) rfl (by decide) w_fl_RX3_30 (by rfl) dX3_times_57 ?_
        refine e_aload F dX3_times_60 rfl ?_
        refine e_getN (ci := 0) (fi := 1) (q := (RX0, TX0, 5)) F (by first | assumption | exact e_up_s | (rw [e_up_n (by first | assumption | omega)]; first | assumption | exact e_up_s | (rw [e_up_n (by first | assumption | omega)]; first | assumption | exact e_up_s | (rw [e_up_n (by first | assumption | omega)]; first | assumption | exact e_up_s))) | exact hD.1 | exact hD1.1 | exact hD2.1 | exact gD.1 | exact gD1.1 | exact gD2.1 | exact gQ.1 | exact hQ.1 | exact gS.1 | exact hS.1 | exact zD.1) rfl (by decide) w_fn_RX3_113 (by rfl) dX3_times_62 ?_
        refine e_aload F dX3_times_65 rfl ?_
        refine e_getN (ci := 0) (fi := 1) (q := (RX0, TX0, 5)) F (by first | assumption | exact e_up_s | (rw [e_up_n (by first | assumption | omega)]; first | assumption | exact e_up_s | (rw [e_up_n (by first | assumption | omega)]; first | assumption | exact e_up_s | (rw [e_up_n (by first | assumption | omega)]; first | assumption | exact e_up_s))) | exact hD.1 | exact hD1.1 | exact hD2.1 | exact gD.1 | exact gD1.1 | exact gD2.1 | exact gQ.1 | exact hQ.1 | exact gS.1 | exact hS.1 | exact zD.1) rfl (by decide) w_fn_RX3_113 (by rfl) dX3_times_67 ?_
        refine e_iadd F dX3_times_70 ?_
        refine e_callVN F u_X0_start (by rfl) (c_X0_start hS (t := ((D i.toNat).dg + (D j.toNat).dg)) ⟨by omega, by omega⟩) hS.1 rfl rfl w_mn_RX3_157 dX3_times_71 (by rfl) (Nat.le_of_ble_eq_true rfl) (by decide) (by omega) (fun _ _ _ h _ => False.elim h) (fun r_71 w_71 n_71 h_71 hn_71 => ?_)
        obtain ⟨rfl, en_71, gS, gF1⟩ := h_71
        rw [en_71]
        have hno : ¬ ((D i.toNat).fl = 0 ∨ (D j.toNat).fl = 0 ∨ 6 < (D i.toNat).dg + (D j.toNat).dg) := by omega
        have lp : ∀ (N : Nat) (h : Int) (wl : e_W), (9 - h).toNat < N → (1 ≤ h ∧ h ≤ ho wh + 1 ∧ DL wl (x + 24) 1 ((D i.toNat).dg + (D j.toNat).dg) 0 (fun k => if k < h then tiA wh (D i.toNat).A (D j.toNat).A k else -1) s0.B ∧ DF w wl (x + 24)) → e_V K P9 l E9 (7) (3) S9 M9 A9 B9 T9 C9 10 (fun r w' n' => ((0 ≤ i ∧ i < 6) ∧ (0 ≤ j ∧ j < 6) ∧ (0 ≤ t ∧ t < 6)) ∧ r = some (.int (eI ((tiQ wh D i.toNat j.toNat t.toNat).1))) ∧ n' = n ∧ CW w' x wh (kn) ((tiQ wh D i.toNat j.toNat t.toNat).2) ∧ FR w w' x) (pxd w (¬ ((0 ≤ i ∧ i < 6) ∧ (0 ≤ j ∧ j < 6) ∧ (0 ≤ t ∧ t < 6))) False) 77 [(0, .ref x), (4, .ref (x + 6 + 3 * i.toNat)), (5, .ref (x + 6 + 3 * j.toNat)), (6, .ref (x + 6 + 3 * t.toNat)), (7, .int (eI h))] [] wl n ((0 + 1 + 1 + 1 + 0 + 0 + 0)) := by
          intro N
          induction N with
          | zero => intro h wl hN; exact absurd hN (Nat.not_lt_zero _)
          | succ N ih =>
            intro h wl hN ⟨k1, k2, gD, gF⟩
            obtain ⟨gX, gFO, ⟨P2, gQ⟩, gDA, gDs⟩ := hC0.spare gF
            have gD1 := gDs i.toNat (by omega)
            have gD2 := gDs j.toNat (by omega)
            refine e_iload F dX3_times_77 rfl ?_
            refine e_aload_n F dX3_times_79 rfl ?_
            refine e_get (ci := 3) (fi := 0) (q := (RX3, TX3, 5)) F (by first | assumption | exact e_up_s | (rw [e_up_n (by first | assumption | omega)]; first | assumption | exact e_up_s | (rw [e_up_n (by first | assumption | omega)]; first | assumption | exact e_up_s | (rw [e_up_n (by first | assumption | omega)]; first | assumption | exact e_up_s))) | exact hD.1 | exact hD1.1 | exact hD2.1 | exact gD.1 | exact gD1.1 | exact gD2.1 | exact gQ.1 | exact hQ.1 | exact gS.1 | exact hS.1 | exact zD.1) rfl (by decide) w_fl_RX3_10 (by rfl) dX3_times_80 ?_
            refine e_getN (ci := 1) (fi := 4) (q := (RX1, TX1, 5)) F (by first | assumption | exact e_up_s | (rw [e_up_n (by first | assumption | omega)]; first | assumption | exact e_up_s | (rw [e_up_n (by first | assumption | omega)]; first | assumption | exact e_up_s | (rw [e_up_n (by first | assumption | omega)]; first | assumption | exact e_up_s))) | exact hD.1 | exact hD1.1 | exact hD2.1 | exact gD.1 | exact gD1.1 | exact gD2.1 | exact gQ.1 | exact hQ.1 | exact gS.1 | exact hS.1 | exact zD.1) rfl (by decide) w_fn_RX3_116 (by rfl) dX3_times_83 ?_
            refine e_icmp_gt F 152 dX3_times_86 (by decide) (⟨by omega, by omega⟩) (⟨by omega, by omega⟩) (fun c_86 => ?_) (fun c_86 => ?_)
            ·
              obtain rfl : h = ho wh + 1 := by omega
              have zD : DS wl (x + 24) (tiS wh (D i.toNat) (D j.toNat)) := gD.to (fun k k0 k1 => by
                  try dsimp only
                  by_cases e8 : k < ho wh + 1
                  · rw [if_pos e8]; rfl
                  · rw [if_neg e8]
                    show _ = tiA wh (D i.toNat).A (D j.toNat).A k
                    unfold tiA
                    rw [if_neg (fun q => by omega)]) (fun k k0 k1 => absurd k1 (by omega))
              have hsp := hC0.sp2 (s2 := tiS wh (D i.toNat) (D j.toNat)) zD gF
              refine e_aload_n F dX3_times_152 rfl ?_
              refine e_aload F dX3_times_153 rfl ?_
              refine e_callVV F u_X3_laySpare (by rfl) (c_X3_laySpare hsp.1.1 (hsp.1.2.2.2.2.2.1 t.toNat (by omega)).1 zD (by omega)) hsp.1.1 rfl rfl w_ml_RX3_160 dX3_times_155 (by rfl) (Nat.le_of_ble_eq_true rfl) (by decide) (by omega) (fun _ _ _ h _ => False.elim h) (fun r_155 w_155 n_155 h_155 hn_155 => ?_)
              obtain ⟨rfl, en_155, yD, yF⟩ := h_155
              rw [en_155]
              have hr2 := hsp.1.deal (by omega) (s := tiS wh (D i.toNat) (D j.toNat)) yD (tiS_SW hwh _ _) yF
              refine e_iret F rfl (by omega) ?_ dX3_times_158
              refine ⟨⟨hi1, hi2, hi3⟩, ?_⟩
              unfold tiQ
              rw [if_neg hno]
              exact ⟨rfl, rfl, hr2.1, hsp.2.tr hr2.2⟩
            · refine e_aload F dX3_times_89 rfl ?_
              refine e_iload F dX3_times_91 rfl ?_
              refine e_callVN F u_X0_hasShare (by rfl) (c_X0_hasShare gD1 (h := h) (by omega) (by omega)) gD1.1 rfl rfl w_mn_RX3_119 dX3_times_93 (by rfl) (Nat.le_of_ble_eq_true rfl) (by decide) (by omega) (fun _ _ _ h _ => False.elim h) (fun r_93 w_93 n_93 h_93 hn_93 => ?_)
              obtain ⟨rfl, ew_93, en_93⟩ := h_93
              rw [ew_93, en_93]
              refine e_if_eq F 146 dX3_times_96 (by decide) (b01_r _) (fun c_96 => ?_) (fun c_96 => ?_)
              ·
                rw [b01_0] at c_96
                refine e_iinc F dX3_times_146 rfl (by decide) ?_
                refine e_goto F 77 dX3_times_149 (by decide) ?_
                first
                | (obtain ⟨rfl, en_143, zD, zF⟩ := h_143
                   rw [en_143]
                   refine e_go (ih (h + 1) w_143 (by omega) ⟨by omega, by omega, zD.to (fun k k0 k1 => ?_) (fun _ _ _ => rfl), fun q a1 a2 a3 => by rw [zF q a1 a2 a3, gF q a1 a2 a3]⟩) (And.intro rfl (And.intro rfl (And.intro rfl (And.intro rfl (And.intro rfl (trivial))))))
                   unfold e_fu
                   try dsimp only
                   by_cases e9 : k = h
                   · rw [if_pos e9, if_pos (show k < h + 1 by omega), e9]
                     unfold tiA
                     rw [if_pos (show (1 ≤ h ∧ h ≤ ho wh) ∧ (D i.toNat).A h ≠ -1 ∧ (D j.toNat).A h ≠ -1 from ⟨⟨by omega, by omega⟩, c_96, c_106⟩)]
                   · rw [if_neg e9]
                     by_cases e8 : k < h
                     · rw [if_pos e8, if_pos (show k < h + 1 by omega)]
                     · rw [if_neg e8, if_neg (show ¬ k < h + 1 by omega)])
                | (refine e_go (ih (h + 1) wl (by omega) ⟨by omega, by omega, gD.to (fun k k0 k1 => ?_) (fun _ _ _ => rfl), gF⟩) (And.intro rfl (And.intro rfl (And.intro rfl (And.intro rfl (And.intro rfl (trivial))))))
                   try dsimp only
                   by_cases e9 : k = h
                   · rw [if_neg (show ¬ k < h by omega), if_pos (show k < h + 1 by omega), e9]
                     unfold tiA
                     rw [if_neg (show ¬ ((1 ≤ h ∧ h ≤ ho wh) ∧ (D i.toNat).A h ≠ -1 ∧ (D j.toNat).A h ≠ -1) by omega)]
                   · by_cases e8 : k < h
                     · rw [if_pos e8, if_pos (show k < h + 1 by omega)]
                     · rw [if_neg e8, if_neg (show ¬ k < h + 1 by omega)])
              ·
                rw [b01_0, Classical.not_not] at c_96
                refine e_aload F dX3_times_99 rfl ?_
                refine e_iload F dX3_times_101 rfl ?_
                refine e_callVN F u_X0_hasShare (by rfl) (c_X0_hasShare gD2 (h := h) (by omega) (by omega)) gD2.1 rfl rfl w_mn_RX3_119 dX3_times_103 (by rfl) (Nat.le_of_ble_eq_true rfl) (by decide) (by omega) (fun _ _ _ h _ => False.elim h) (fun r_103 w_103 n_103 h_103 hn_103 => ?_)
                obtain ⟨rfl, ew_103, en_103⟩ := h_103
                rw [ew_103, en_103]
                refine e_if_eq F 146 dX3_times_106 (by decide) (b01_r _) (fun c_106 => ?_) (fun c_106 => ?_)
                ·
                  rw [b01_0] at c_106
                  refine e_iinc F dX3_times_146 rfl (by decide) ?_
                  refine e_goto F 77 dX3_times_149 (by decide) ?_
                  first
                  | (obtain ⟨rfl, en_143, zD, zF⟩ := h_143
                     rw [en_143]
                     refine e_go (ih (h + 1) w_143 (by omega) ⟨by omega, by omega, zD.to (fun k k0 k1 => ?_) (fun _ _ _ => rfl), fun q a1 a2 a3 => by rw [zF q a1 a2 a3, gF q a1 a2 a3]⟩) (And.intro rfl (And.intro rfl (And.intro rfl (And.intro rfl (And.intro rfl (trivial))))))
                     unfold e_fu
                     try dsimp only
                     by_cases e9 : k = h
                     · rw [if_pos e9, if_pos (show k < h + 1 by omega), e9]
                       unfold tiA
                       rw [if_pos (show (1 ≤ h ∧ h ≤ ho wh) ∧ (D i.toNat).A h ≠ -1 ∧ (D j.toNat).A h ≠ -1 from ⟨⟨by omega, by omega⟩, c_96, c_106⟩)]
                     · rw [if_neg e9]
                       by_cases e8 : k < h
                       · rw [if_pos e8, if_pos (show k < h + 1 by omega)]
                       · rw [if_neg e8, if_neg (show ¬ k < h + 1 by omega)])
                  | (refine e_go (ih (h + 1) wl (by omega) ⟨by omega, by omega, gD.to (fun k k0 k1 => ?_) (fun _ _ _ => rfl), gF⟩) (And.intro rfl (And.intro rfl (And.intro rfl (And.intro rfl (And.intro rfl (trivial))))))
                     try dsimp only
                     by_cases e9 : k = h
                     · rw [if_neg (show ¬ k < h by omega), if_pos (show k < h + 1 by omega), e9]
                       unfold tiA
                       rw [if_neg (show ¬ ((1 ≤ h ∧ h ≤ ho wh) ∧ (D i.toNat).A h ≠ -1 ∧ (D j.toNat).A h ≠ -1) by omega)]
                     · by_cases e8 : k < h
                       · rw [if_pos e8, if_pos (show k < h + 1 by omega)]
                       · rw [if_neg e8, if_neg (show ¬ k < h + 1 by omega)])
                ·
                  rw [b01_0, Classical.not_not] at c_106
                  refine e_aload F dX3_times_109 rfl ?_
                  refine e_iload F dX3_times_111 rfl ?_
                  refine e_callVN F u_X0_shareAt (by rfl) (c_X0_shareAt gD1 (h := h) (by omega) (by omega)) gD1.1 rfl rfl w_mn_RX3_123 dX3_times_113 (by rfl) (Nat.le_of_ble_eq_true rfl) (by decide) (by omega) (fun _ _ _ h _ => False.elim h) (fun r_113 w_113 n_113 h_113 hn_113 => ?_)
                  obtain ⟨rfl, ew_113, en_113⟩ := h_113
                  rw [ew_113, en_113]
                  have ra := gD1.2.2.2.2.2.2.1 h (by omega) (by omega)
                  have rb := gD2.2.2.2.2.2.2.1 h (by omega) (by omega)
                  have rm := mulI_rg (a := (D i.toNat).A h) (b := (D j.toNat).A h) (by constructor <;> omega) (by constructor <;> omega)
                  have hm9 := emod_rg ((D i.toNat).A h * (D j.toNat).A h) hwh
                  refine e_i2l F dX3_times_116 (⟨by omega, by omega⟩) ?_
                  refine e_aload F dX3_times_117 rfl ?_
                  refine e_iload F dX3_times_119 rfl ?_
                  refine e_callVN F u_X0_shareAt (by rfl) (c_X0_shareAt gD2 (h := h) (by omega) (by omega)) gD2.1 rfl rfl w_mn_RX3_123 dX3_times_121 (by rfl) (Nat.le_of_ble_eq_true rfl) (by decide) (by omega) (fun _ _ _ h _ => False.elim h) (fun r_121 w_121 n_121 h_121 hn_121 => ?_)
                  obtain ⟨rfl, ew_121, en_121⟩ := h_121
                  rw [ew_121, en_121]
                  refine e_i2l F dX3_times_124 (⟨by omega, by omega⟩) ?_
                  refine e_lmul F dX3_times_125 ?_
                  refine e_lstore F dX3_times_126 (by decide) ?_
                  refine e_aload_n F dX3_times_128 rfl ?_
                  refine e_get (ci := 3) (fi := 3) (q := (RX3, TX3, 5)) F (by first | assumption | exact e_up_s | (rw [e_up_n (by first | assumption | omega)]; first | assumption | exact e_up_s | (rw [e_up_n (by first | assumption | omega)]; first | assumption | exact e_up_s | (rw [e_up_n (by first | assumption | omega)]; first | assumption | exact e_up_s))) | exact hD.1 | exact hD1.1 | exact hD2.1 | exact gD.1 | exact gD1.1 | exact gD2.1 | exact gQ.1 | exact hQ.1 | exact gS.1 | exact hS.1 | exact zD.1) rfl (by decide) w_fl_RX3_30 (by rfl) dX3_times_129 ?_
                  refine e_iload F dX3_times_132 rfl ?_
                  refine e_aload_n F dX3_times_134 rfl ?_
                  refine e_get (ci := 3) (fi := 0) (q := (RX3, TX3, 5)) F (by first | assumption | exact e_up_s | (rw [e_up_n (by first | assumption | omega)]; first | assumption | exact e_up_s | (rw [e_up_n (by first | assumption | omega)]; first | assumption | exact e_up_s | (rw [e_up_n (by first | assumption | omega)]; first | assumption | exact e_up_s))) | exact hD.1 | exact hD1.1 | exact hD2.1 | exact gD.1 | exact gD1.1 | exact gD2.1 | exact gQ.1 | exact hQ.1 | exact gS.1 | exact hS.1 | exact zD.1) rfl (by decide) w_fl_RX3_10 (by rfl) dX3_times_135 ?_
                  refine e_lload F dX3_times_138 rfl ?_
                  refine e_callVN F u_X1_modPrime (by rfl) (c_X1_modPrime gFO hwh rm) (by first | assumption | exact e_up_s | (rw [e_up_n (by first | assumption | omega)]; first | assumption | exact e_up_s | (rw [e_up_n (by first | assumption | omega)]; first | assumption | exact e_up_s | (rw [e_up_n (by first | assumption | omega)]; first | assumption | exact e_up_s))) | exact hD.1 | exact hD1.1 | exact hD2.1 | exact gD.1 | exact gD1.1 | exact gD2.1 | exact gQ.1 | exact hQ.1 | exact gS.1 | exact hS.1 | exact zD.1) rfl rfl w_mn_RX3_59 dX3_times_140 (by rfl) (Nat.le_of_ble_eq_true rfl) (by decide) (by omega) (fun _ _ _ h _ => False.elim h) (fun r_140 w_140 n_140 h_140 hn_140 => ?_)
                  obtain ⟨rfl, ew_140, en_140⟩ := h_140
                  rw [ew_140, en_140]
                  refine e_callVN F u_X0_setShare (by rfl) (c_X0_setShare gD (h := h) (v := (D i.toNat).A h * (D j.toNat).A h % pr wh) (by omega) (by omega) (by omega) (by omega)) gD.1 rfl rfl w_mn_RX3_130 dX3_times_143 (by rfl) (Nat.le_of_ble_eq_true rfl) (by decide) (by omega) (fun _ _ _ h _ => False.elim h) (fun r_143 w_143 n_143 h_143 hn_143 => ?_)
                  
                  refine e_iinc F dX3_times_146 rfl (by decide) ?_
                  refine e_goto F 77 dX3_times_149 (by decide) ?_
                  first
                  | (obtain ⟨rfl, en_143, zD, zF⟩ := h_143
                     rw [en_143]
                     refine e_go (ih (h + 1) w_143 (by omega) ⟨by omega, by omega, zD.to (fun k k0 k1 => ?_) (fun _ _ _ => rfl), fun q a1 a2 a3 => by rw [zF q a1 a2 a3, gF q a1 a2 a3]⟩) (And.intro rfl (And.intro rfl (And.intro rfl (And.intro rfl (And.intro rfl (trivial))))))
                     unfold e_fu
                     try dsimp only
                     by_cases e9 : k = h
                     · rw [if_pos e9, if_pos (show k < h + 1 by omega), e9]
                       unfold tiA
                       rw [if_pos (show (1 ≤ h ∧ h ≤ ho wh) ∧ (D i.toNat).A h ≠ -1 ∧ (D j.toNat).A h ≠ -1 from ⟨⟨by omega, by omega⟩, c_96, c_106⟩)]
                     · rw [if_neg e9]
                       by_cases e8 : k < h
                       · rw [if_pos e8, if_pos (show k < h + 1 by omega)]
                       · rw [if_neg e8, if_neg (show ¬ k < h + 1 by omega)])
                  | (refine e_go (ih (h + 1) wl (by omega) ⟨by omega, by omega, gD.to (fun k k0 k1 => ?_) (fun _ _ _ => rfl), gF⟩) (And.intro rfl (And.intro rfl (And.intro rfl (And.intro rfl (And.intro rfl (trivial))))))
                     try dsimp only
                     by_cases e9 : k = h
                     · rw [if_neg (show ¬ k < h by omega), if_pos (show k < h + 1 by omega), e9]
                       unfold tiA
                       rw [if_neg (show ¬ ((1 ≤ h ∧ h ≤ ho wh) ∧ (D i.toNat).A h ≠ -1 ∧ (D j.toNat).A h ≠ -1) by omega)]
                     · by_cases e8 : k < h
                       · rw [if_pos e8, if_pos (show k < h + 1 by omega)]
                       · rw [if_neg e8, if_neg (show ¬ k < h + 1 by omega)])
        refine e_iconst F dX3_times_74 ?_
        refine e_istore F dX3_times_75 (by decide) ?_
        refine e_go (lp 10 1 w_71 (by omega) ⟨by omega, by omega, gS.to (fun k k0 k1 => by rw [if_neg (show ¬ k < 1 by omega)]) (fun k _ _ => by omega), gF1⟩) (And.intro rfl (And.intro rfl (And.intro rfl (And.intro rfl (And.intro rfl (trivial))))))
      · refine e_bipush F dX3_times_53 (by decide) ?_
        refine e_iret F rfl (by omega) ?_ dX3_times_55
        refine ⟨⟨hi1, hi2, hi3⟩, ?_⟩
        unfold tiQ
        rw [if_pos (by omega)]
        exact ⟨rfl, rfl, hC0, FR.rf⟩
set_option maxHeartbeats 4000000 in
set_option maxRecDepth 100000 in
theorem c_X3_scale {K : e_K} {l : Launch} {w : e_W} {n : Nat} {x wh : Nat} {kn : Int} {D : Nat → SD} (hC : CW w x wh kn D) {i : Int} (hi : e_r i) {b : Int} (hb : e_r b) {t : Int} (ht : e_r t) : e_Met K l yX3_scale (Cond.code yX3_scale cX3_scale 8 (Option.some .int) :: e_TB) (7) (2) [.ref x, .int (eI i), .int (eI b), .int (eI t)] w n (fun r w' n' => ((0 ≤ i ∧ i < 6) ∧ (0 ≤ t ∧ t < 6)) ∧ r = some (.int (eI ((scQ wh D i.toNat b t.toNat).1))) ∧ n' = n ∧ CW w' x wh (kn) ((scQ wh D i.toNat b t.toNat).2) ∧ FR w w' x) (pxd w (¬ ((0 ≤ i ∧ i < 6) ∧ (0 ≤ t ∧ t < 6))) False) := by
  refine e_ofV rfl (Nat.le_of_ble_eq_true rfl) ?_
  intro P9 E9 S9 M9 A9 B9 T9 C9 F hnm
  have hC0 := hC
  have hDA := hC.2.2.2.2.1
  obtain ⟨hX, hF, hwh, ⟨P0, hQ⟩, ⟨ga, hga, hgj⟩, hDs, s0, hS⟩ := hC
  have hp := pr_rg wh hwh
  have ho9 := ho_rg wh hwh
  have hg9 := gr_rg wh hwh
  have hf9 := fl_rg wh hwh
  refine e_aload_n F dX3_scale_0 rfl ?_
  refine e_iload_n F dX3_scale_1 rfl ?_
  refine e_callVV F u_X3_dealAt (by rfl) (c_X3_dealAt hX hDA (i := i) hi) hX rfl rfl w_ml_RX3_94 dX3_scale_2 (by rfl) (Nat.le_of_ble_eq_true rfl) (by decide) (by omega) (fun E w2 n2 h _ => ⟨Or.inl ⟨h.1, by have q := h.2.1; omega⟩, h.2.2⟩) (fun r_2 w_2 n_2 h_2 hn_2 => ?_)
  obtain ⟨hi1, rfl, ew_2, en_2⟩ := h_2
  rw [ew_2, en_2]
  obtain ⟨hD1, hW1⟩ := hDs i.toNat (by omega)
  refine e_astore F dX3_scale_5 (by decide) ?_
  refine e_aload_n F dX3_scale_7 rfl ?_
  refine e_iload_n F dX3_scale_8 rfl ?_
  refine e_callVV F u_X3_dealAt (by rfl) (c_X3_dealAt hX hDA (i := t) ht) hX rfl rfl w_ml_RX3_94 dX3_scale_9 (by rfl) (Nat.le_of_ble_eq_true rfl) (by decide) (by omega) (fun E w2 n2 h _ => ⟨Or.inl ⟨h.1, by have q := h.2.1; omega⟩, h.2.2⟩) (fun r_9 w_9 n_9 h_9 hn_9 => ?_)
  obtain ⟨hi2, rfl, ew_9, en_9⟩ := h_9
  rw [ew_9, en_9]
  obtain ⟨hD2, hW2⟩ := hDs t.toNat (by omega)
  refine e_astore F dX3_scale_12 (by decide) ?_
  refine e_aload F dX3_scale_14 rfl ?_
  refine e_callVN F u_X0_isEmpty (by rfl) (c_X0_isEmpty hD1) (by first | assumption | exact e_up_s | (rw [e_up_n (by first | assumption | omega)]; first | assumption | exact e_up_s | (rw [e_up_n (by first | assumption | omega)]; first | assumption | exact e_up_s | (rw [e_up_n (by first | assumption | omega)]; first | assumption | exact e_up_s))) | exact hD.1 | exact hD1.1 | exact hD2.1 | exact gD.1 | exact gD1.1 | exact gD2.1 | exact gQ.1 | exact hQ.1 | exact gS.1 | exact hS.1 | exact zD.1) rfl rfl w_mn_RX3_109 dX3_scale_16 (by rfl) (Nat.le_of_ble_eq_true rfl) (by decide) (by omega) (fun _ _ _ h _ => False.elim h) (fun r_16 w_16 n_16 h_16 hn_16 => ?_)
  obtain ⟨rfl, ew_16, en_16⟩ := h_16
  rw [ew_16, en_16]
  refine e_if_eq F 25 dX3_scale_19 (by decide) (b01_r _) (fun c_19 => ?_) (fun c_19 => ?_)
  ·
    rw [b01_0] at c_19
    refine e_aload_n F dX3_scale_25 rfl ?_
    refine e_get (ci := 3) (fi := 0) (q := (RX3, TX3, 5)) F (by first | assumption | exact e_up_s | (rw [e_up_n (by first | assumption | omega)]; first | assumption | exact e_up_s | (rw [e_up_n (by first | assumption | omega)]; first | assumption | exact e_up_s | (rw [e_up_n (by first | assumption | omega)]; first | assumption | exact e_up_s))) | exact hD.1 | exact hD1.1 | exact hD2.1 | exact gD.1 | exact gD1.1 | exact gD2.1 | exact gQ.1 | exact hQ.1 | exact gS.1 | exact hS.1 | exact zD.1) rfl (by decide) w_fl_RX3_10 (by rfl) dX3_scale_26 ?_
    refine e_iload_n F dX3_scale_29 rfl ?_
    refine e_i2l F dX3_scale_30 (⟨by omega, by omega⟩) ?_
    refine e_callVN F u_X1_modPrime (by rfl) (c_X1_modPrime hF hwh (v := b) (by constructor <;> omega)) (by first | assumption | exact e_up_s | (rw [e_up_n (by first | assumption | omega)]; first | assumption | exact e_up_s | (rw [e_up_n (by first | assumption | omega)]; first | assumption | exact e_up_s | (rw [e_up_n (by first | assumption | omega)]; first | assumption | exact e_up_s))) | exact hD.1 | exact hD1.1 | exact hD2.1 | exact gD.1 | exact gD1.1 | exact gD2.1 | exact gQ.1 | exact hQ.1 | exact gS.1 | exact hS.1 | exact zD.1) rfl rfl w_mn_RX3_59 dX3_scale_31 (by rfl) (Nat.le_of_ble_eq_true rfl) (by decide) (by omega) (fun _ _ _ h _ => False.elim h) (fun r_31 w_31 n_31 h_31 hn_31 => ?_)
    obtain ⟨rfl, ew_31, en_31⟩ := h_31
    rw [ew_31, en_31]
    have hfb := emod_rg b hwh
    have hdg1 := hD1.2.2.2.2.1
    refine e_istore F dX3_scale_34 (by decide) ?_
    refine e_aload_n F dX3_scale_36 rfl ?_
    refine e_get (ci := 3) (fi := 3) (q := (RX3, TX3, 5)) F (by first | assumption | exact e_up_s | (rw [e_up_n (by first | assumption | omega)]; first | assumption | exact e_up_s | (rw [e_up_n (by first | assumption | omega)]; first | assumption | exact e_up_s | (rw [e_up_n (by first | assumption | omega)]; first | assumption | exact e_up_s))) | exact hD.1 | exact hD1.1 | exact hD2.1 | exact gD.1 | exact gD1.1 | exact gD2.1 | exact gQ.1 | exact hQ.1 | exact gS.1 | exact hS.1 | exact zD.1) rfl (by decide) w_fl_RX3_30 (by rfl) dX3_scale_37 ?_
    refine e_aload F dX3_scale_40 rfl ?_
    refine e_getN (ci := 0) (fi := 1) (q := (RX0, TX0, 5)) F (by first | assumption | exact e_up_s | (rw [e_up_n (by first | assumption | omega)]; first | assumption | exact e_up_s | (rw [e_up_n (by first | assumption | omega)]; first | assumption | exact e_up_s | (rw [e_up_n (by first | assumption | omega)]; first | assumption | exact e_up_s))) | exact hD.1 | exact hD1.1 | exact hD2.1 | exact gD.1 | exact gD1.1 | exact gD2.1 | exact gQ.1 | exact hQ.1 | exact gS.1 | exact hS.1 | exact zD.1) rfl (by decide) w_fn_RX3_113 (by rfl) dX3_scale_42 ?_
    refine e_callVN F u_X0_start (by rfl) (c_X0_start hS (t := (D i.toNat).dg) ⟨by omega, by omega⟩) hS.1 rfl rfl w_mn_RX3_157 dX3_scale_45 (by rfl) (Nat.le_of_ble_eq_true rfl) (by decide) (by omega) (fun _ _ _ h _ => False.elim h) (fun r_45 w_45 n_45 h_45 hn_45 => ?_)
    obtain ⟨rfl, en_45, gS, gF1⟩ := h_45
    rw [en_45]
    have lq : ∀ (N : Nat) (h : Int) (wl : e_W), (9 - h).toNat < N → (0 ≤ h ∧ h ≤ (D i.toNat).sc ∧ DL wl (x + 24) 1 (D i.toNat).dg h (scS wh (D i.toNat) (b % pr wh)).A (scS wh (D i.toNat) (b % pr wh)).B ∧ DF w wl (x + 24)) → e_V K P9 l E9 (7) (2) S9 M9 A9 B9 T9 C9 8 (fun r w' n' => ((0 ≤ i ∧ i < 6) ∧ (0 ≤ t ∧ t < 6)) ∧ r = some (.int (eI ((scQ wh D i.toNat b t.toNat).1))) ∧ n' = n ∧ CW w' x wh (kn) ((scQ wh D i.toNat b t.toNat).2) ∧ FR w w' x) (pxd w (¬ ((0 ≤ i ∧ i < 6) ∧ (0 ≤ t ∧ t < 6))) False) 110 [(0, .ref x), (4, .ref (x + 6 + 3 * i.toNat)), (5, .ref (x + 6 + 3 * t.toNat)), (6, .int (eI (b % pr wh))), (7, .int (eI h))] [] wl n ((0 + 1 + 1 + 0 + 0 + 0)) := by
      intro N
      induction N with
      | zero => intro h wl hN; exact absurd hN (Nat.not_lt_zero _)
      | succ N ih =>
        intro h wl hN ⟨k1, k2, gD, gF⟩
        obtain ⟨gX, gFO, ⟨P2, gQ⟩, gDA, gDs⟩ := hC0.spare gF
        have gD1 := gDs i.toNat (by omega)
        have hsc1 := gD1.2.2.2.2.2.1
        refine e_iload F dX3_scale_110 rfl ?_
        refine e_aload F dX3_scale_112 rfl ?_
        refine e_getN (ci := 0) (fi := 2) (q := (RX0, TX0, 5)) F gD1.1 rfl (by decide) w_fn_RX3_134 (by rfl) dX3_scale_114 ?_
        refine e_icmp_ge F 153 dX3_scale_117 (by decide) (⟨by omega, by omega⟩) (⟨by omega, by omega⟩) (fun c_117 => ?_) (fun c_117 => ?_)
        ·
          obtain rfl : h = (D i.toNat).sc := by omega
          have hsp := hC0.sp2 (s2 := scS wh (D i.toNat) (b % pr wh)) gD gF
          refine e_aload_n F dX3_scale_153 rfl ?_
          refine e_aload F dX3_scale_154 rfl ?_
          refine e_callVV F u_X3_laySpare (by rfl) (c_X3_laySpare hsp.1.1 (hsp.1.2.2.2.2.2.1 t.toNat (by omega)).1 gD (by omega)) hsp.1.1 rfl rfl w_ml_RX3_160 dX3_scale_156 (by rfl) (Nat.le_of_ble_eq_true rfl) (by decide) (by omega) (fun _ _ _ h _ => False.elim h) (fun r_156 w_156 n_156 h_156 hn_156 => ?_)
          obtain ⟨rfl, en_156, yD, yF⟩ := h_156
          rw [en_156]
          have hr2 := hsp.1.deal (by omega) (s := scS wh (D i.toNat) (b % pr wh)) yD (scS_SW hwh hW1 _) yF
          refine e_iret F rfl (by omega) ?_ dX3_scale_159
          refine ⟨⟨hi1, hi2⟩, ?_⟩
          unfold scQ
          rw [if_neg c_19]
          exact ⟨rfl, rfl, hr2.1, hsp.2.tr hr2.2⟩
        · refine e_aload_n F dX3_scale_120 rfl ?_
          refine e_get (ci := 3) (fi := 3) (q := (RX3, TX3, 5)) F (by first | assumption | exact e_up_s | (rw [e_up_n (by first | assumption | omega)]; first | assumption | exact e_up_s | (rw [e_up_n (by first | assumption | omega)]; first | assumption | exact e_up_s | (rw [e_up_n (by first | assumption | omega)]; first | assumption | exact e_up_s))) | exact hD.1 | exact hD1.1 | exact hD2.1 | exact gD.1 | exact gD1.1 | exact gD2.1 | exact gQ.1 | exact hQ.1 | exact gS.1 | exact hS.1 | exact zD.1) rfl (by decide) w_fl_RX3_30 (by rfl) dX3_scale_121 ?_
          refine e_aload F dX3_scale_124 rfl ?_
          refine e_iload F dX3_scale_126 rfl ?_
          refine e_callVN F u_X0_sealAt (by rfl) (c_X0_sealAt gD1 (h := h) ⟨by omega, by omega⟩) gD1.1 rfl rfl w_mn_RX3_137 dX3_scale_128 (by rfl) (Nat.le_of_ble_eq_true rfl) (by decide) (by omega) (fun _ _ _ h _ => False.elim h) (fun r_128 w_128 n_128 h_128 hn_128 => ?_)
          obtain ⟨rfl, ew_128, en_128⟩ := h_128
          rw [ew_128, en_128, if_pos (show 0 ≤ h ∧ h < (D i.toNat).sc from ⟨by omega, by omega⟩)]
          have hBj := (hW1.2.1 h (by omega) (by omega)).1
          have hpw := e_pw_rg (b := (D i.toNat).B h) (k := (b % pr wh).toNat) (show 0 < gr wh by omega)
          refine e_iload F dX3_scale_131 rfl ?_
          refine e_i2l F dX3_scale_133 (⟨by omega, by omega⟩) ?_
          refine e_aload_n F dX3_scale_134 rfl ?_
          refine e_get (ci := 3) (fi := 0) (q := (RX3, TX3, 5)) F (by first | assumption | exact e_up_s | (rw [e_up_n (by first | assumption | omega)]; first | assumption | exact e_up_s | (rw [e_up_n (by first | assumption | omega)]; first | assumption | exact e_up_s | (rw [e_up_n (by first | assumption | omega)]; first | assumption | exact e_up_s))) | exact hD.1 | exact hD1.1 | exact hD2.1 | exact gD.1 | exact gD1.1 | exact gD2.1 | exact gQ.1 | exact hQ.1 | exact gS.1 | exact hS.1 | exact zD.1) rfl (by decide) w_fl_RX3_10 (by rfl) dX3_scale_135 ?_
          refine e_getN (ci := 1) (fi := 2) (q := (RX1, TX1, 5)) F (by first | assumption | exact e_up_s | (rw [e_up_n (by first | assumption | omega)]; first | assumption | exact e_up_s | (rw [e_up_n (by first | assumption | omega)]; first | assumption | exact e_up_s | (rw [e_up_n (by first | assumption | omega)]; first | assumption | exact e_up_s))) | exact hD.1 | exact hD1.1 | exact hD2.1 | exact gD.1 | exact gD1.1 | exact gD2.1 | exact gQ.1 | exact hQ.1 | exact gS.1 | exact hS.1 | exact zD.1) rfl (by decide) w_fn_RX3_164 (by rfl) dX3_scale_138 ?_
          refine e_callSN F u_X1_raise (by rfl) (c_X1_raise (b := (D i.toNat).B h) (k := (b % pr wh)) (m := gr wh) hBj.1 hBj.2 (by omega) (by omega) (by omega) (by omega)) w_mn_RX3_69 dX3_scale_141 (by rfl) (Nat.le_of_ble_eq_true rfl) (by decide) (by omega) (fun _ _ _ h _ => False.elim h) (fun r_141 w_141 n_141 h_141 hn_141 => ?_)
          obtain ⟨rfl, ew_141, en_141⟩ := h_141
          rw [ew_141, en_141]
          refine e_callVN F u_X0_addSeal (by rfl) (c_X0_addSeal gD (v := e_pw ((D i.toNat).B h) (b % pr wh).toNat (gr wh)) (by omega) (by omega) (by omega)) gD.1 rfl rfl w_mn_RX3_167 dX3_scale_144 (by rfl) (Nat.le_of_ble_eq_true rfl) (by decide) (by omega) (fun _ _ _ h _ => False.elim h) (fun r_144 w_144 n_144 h_144 hn_144 => ?_)
          
          refine e_iinc F dX3_scale_147 rfl (by decide) ?_
          refine e_goto F 110 dX3_scale_150 (by decide) ?_
          obtain ⟨rfl, en_144, zD, zF⟩ := h_144
          rw [en_144]
          refine e_go (ih (h + 1) w_144 (by omega) ⟨by omega, by omega, zD.to (fun _ _ _ => rfl) (fu_ite rfl (fun _ _ _ => rfl)), fun q a1 a2 a3 => by rw [zF q a1 a2 a3, gF q a1 a2 a3]⟩) (And.intro rfl (And.intro rfl (And.intro rfl (And.intro rfl (And.intro rfl (trivial))))))
    have lp : ∀ (N : Nat) (h : Int) (wl : e_W), (9 - h).toNat < N → (1 ≤ h ∧ h ≤ ho wh + 1 ∧ DL wl (x + 24) 1 (D i.toNat).dg 0 (fun k => if k < h then (scS wh (D i.toNat) (b % pr wh)).A k else -1) s0.B ∧ DF w wl (x + 24)) → e_V K P9 l E9 (7) (2) S9 M9 A9 B9 T9 C9 8 (fun r w' n' => ((0 ≤ i ∧ i < 6) ∧ (0 ≤ t ∧ t < 6)) ∧ r = some (.int (eI ((scQ wh D i.toNat b t.toNat).1))) ∧ n' = n ∧ CW w' x wh (kn) ((scQ wh D i.toNat b t.toNat).2) ∧ FR w w' x) (pxd w (¬ ((0 ≤ i ∧ i < 6) ∧ (0 ≤ t ∧ t < 6))) False) 51 [(0, .ref x), (4, .ref (x + 6 + 3 * i.toNat)), (5, .ref (x + 6 + 3 * t.toNat)), (6, .int (eI (b % pr wh))), (7, .int (eI h))] [] wl n ((0 + 1 + 1 + 0 + 0 + 0)) := by
      intro N
      induction N with
      | zero => intro h wl hN; exact absurd hN (Nat.not_lt_zero _)
      | succ N ih =>
        intro h wl hN ⟨k1, k2, gD, gF⟩
        obtain ⟨gX, gFO, ⟨P2, gQ⟩, gDA, gDs⟩ := hC0.spare gF
        have gD1 := gDs i.toNat (by omega)
        have hsc1 := gD1.2.2.2.2.2.1
        refine e_iload F dX3_scale_51 rfl ?_
        refine e_aload_n F dX3_scale_53 rfl ?_
        refine e_get (ci := 3) (fi := 0) (q := (RX3, TX3, 5)) F (by first | assumption | exact e_up_s | (rw [e_up_n (by first | assumption | omega)]; first | assumption | exact e_up_s | (rw [e_up_n (by first | assumption | omega)]; first | assumption | exact e_up_s | (rw [e_up_n (by first | assumption | omega)]; first | assumption | exact e_up_s))) | exact hD.1 | exact hD1.1 | exact hD2.1 | exact gD.1 | exact gD1.1 | exact gD2.1 | exact gQ.1 | exact hQ.1 | exact gS.1 | exact hS.1 | exact zD.1) rfl (by decide) w_fl_RX3_10 (by rfl) dX3_scale_54 ?_
        refine e_getN (ci := 1) (fi := 4) (q := (RX1, TX1, 5)) F (by first | assumption | exact e_up_s | (rw [e_up_n (by first | assumption | omega)]; first | assumption | exact e_up_s | (rw [e_up_n (by first | assumption | omega)]; first | assumption | exact e_up_s | (rw [e_up_n (by first | assumption | omega)]; first | assumption | exact e_up_s))) | exact hD.1 | exact hD1.1 | exact hD2.1 | exact gD.1 | exact gD1.1 | exact gD2.1 | exact gQ.1 | exact hQ.1 | exact gS.1 | exact hS.1 | exact zD.1) rfl (by decide) w_fn_RX3_116 (by rfl) dX3_scale_57 ?_
        refine e_icmp_gt F 107 dX3_scale_60 (by decide) (⟨by omega, by omega⟩) (⟨by omega, by omega⟩) (fun c_60 => ?_) (fun c_60 => ?_)
        · refine e_iconst F dX3_scale_107 ?_
          refine e_istore F dX3_scale_108 (by decide) ?_
          obtain rfl : h = ho wh + 1 := by omega
          refine e_go (lq 10 0 wl (by omega) ⟨by omega, by omega, gD.to (fun k k0 k1 => ?_) (fun k k0 k1 => by omega), gF⟩) (And.intro rfl (And.intro rfl (And.intro rfl (And.intro rfl (And.intro rfl (trivial))))))
          try dsimp only
          by_cases e8 : k < ho wh + 1
          · rw [if_pos e8]
          · rw [if_neg e8]
            show _ = (if (D i.toNat).A k = -1 then -1 else _)
            have hk9 := hW1.1 k k0 k1
            rw [if_pos (by omega)]
        · refine e_aload F dX3_scale_63 rfl ?_
          refine e_iload F dX3_scale_65 rfl ?_
          refine e_callVN F u_X0_hasShare (by rfl) (c_X0_hasShare gD1 (h := h) (by omega) (by omega)) gD1.1 rfl rfl w_mn_RX3_119 dX3_scale_67 (by rfl) (Nat.le_of_ble_eq_true rfl) (by decide) (by omega) (fun _ _ _ h _ => False.elim h) (fun r_67 w_67 n_67 h_67 hn_67 => ?_)
          obtain ⟨rfl, ew_67, en_67⟩ := h_67
          rw [ew_67, en_67]
          refine e_if_eq F 101 dX3_scale_70 (by decide) (b01_r _) (fun c_70 => ?_) (fun c_70 => ?_)
          ·
            rw [b01_0] at c_70
            refine e_iinc F dX3_scale_101 rfl (by decide) ?_
            refine e_goto F 51 dX3_scale_104 (by decide) ?_
            first
            | (obtain ⟨rfl, en_98, zD, zF⟩ := h_98
               rw [en_98]
               refine e_go (ih (h + 1) w_98 (by omega) ⟨by omega, by omega, zD.to (fun k k0 k1 => ?_) (fun _ _ _ => rfl), fun q a1 a2 a3 => by rw [zF q a1 a2 a3, gF q a1 a2 a3]⟩) (And.intro rfl (And.intro rfl (And.intro rfl (And.intro rfl (And.intro rfl (trivial))))))
               unfold e_fu
               try dsimp only
               by_cases e9 : k = h
               · rw [if_pos e9, if_pos (show k < h + 1 by omega), e9]
                 show _ = (if (D i.toNat).A h = -1 then -1 else _)
                 rw [if_neg c_70]
               · rw [if_neg e9]
                 by_cases e8 : k < h
                 · rw [if_pos e8, if_pos (show k < h + 1 by omega)]
                 · rw [if_neg e8, if_neg (show ¬ k < h + 1 by omega)])
            | (refine e_go (ih (h + 1) wl (by omega) ⟨by omega, by omega, gD.to (fun k k0 k1 => ?_) (fun _ _ _ => rfl), gF⟩) (And.intro rfl (And.intro rfl (And.intro rfl (And.intro rfl (And.intro rfl (trivial))))))
               try dsimp only
               by_cases e9 : k = h
               · rw [if_neg (show ¬ k < h by omega), if_pos (show k < h + 1 by omega), e9]
                 show _ = (if (D i.toNat).A h = -1 then -1 else _)
                 rw [if_pos (by omega)]
               · by_cases e8 : k < h
                 · rw [if_pos e8, if_pos (show k < h + 1 by omega)]
                 · rw [if_neg e8, if_neg (show ¬ k < h + 1 by omega)])
          ·
            rw [b01_0, Classical.not_not] at c_70
            refine e_aload_n F dX3_scale_73 rfl ?_
            refine e_get (ci := 3) (fi := 3) (q := (RX3, TX3, 5)) F (by first | assumption | exact e_up_s | (rw [e_up_n (by first | assumption | omega)]; first | assumption | exact e_up_s | (rw [e_up_n (by first | assumption | omega)]; first | assumption | exact e_up_s | (rw [e_up_n (by first | assumption | omega)]; first | assumption | exact e_up_s))) | exact hD.1 | exact hD1.1 | exact hD2.1 | exact gD.1 | exact gD1.1 | exact gD2.1 | exact gQ.1 | exact hQ.1 | exact gS.1 | exact hS.1 | exact zD.1) rfl (by decide) w_fl_RX3_30 (by rfl) dX3_scale_74 ?_
            refine e_iload F dX3_scale_77 rfl ?_
            refine e_aload_n F dX3_scale_79 rfl ?_
            refine e_get (ci := 3) (fi := 0) (q := (RX3, TX3, 5)) F (by first | assumption | exact e_up_s | (rw [e_up_n (by first | assumption | omega)]; first | assumption | exact e_up_s | (rw [e_up_n (by first | assumption | omega)]; first | assumption | exact e_up_s | (rw [e_up_n (by first | assumption | omega)]; first | assumption | exact e_up_s))) | exact hD.1 | exact hD1.1 | exact hD2.1 | exact gD.1 | exact gD1.1 | exact gD2.1 | exact gQ.1 | exact hQ.1 | exact gS.1 | exact hS.1 | exact zD.1) rfl (by decide) w_fl_RX3_10 (by rfl) dX3_scale_80 ?_
            refine e_aload F dX3_scale_83 rfl ?_
            refine e_iload F dX3_scale_85 rfl ?_
            refine e_callVN F u_X0_shareAt (by rfl) (c_X0_shareAt gD1 (h := h) (by omega) (by omega)) gD1.1 rfl rfl w_mn_RX3_123 dX3_scale_87 (by rfl) (Nat.le_of_ble_eq_true rfl) (by decide) (by omega) (fun _ _ _ h _ => False.elim h) (fun r_87 w_87 n_87 h_87 hn_87 => ?_)
            obtain ⟨rfl, ew_87, en_87⟩ := h_87
            rw [ew_87, en_87]
            have ra := gD1.2.2.2.2.2.2.1 h (by omega) (by omega)
            have rm := mulI_rg (a := (D i.toNat).A h) (b := (b % pr wh)) (by constructor <;> omega) (by constructor <;> omega)
            have hm9 := emod_rg ((D i.toNat).A h * (b % pr wh)) hwh
            refine e_i2l F dX3_scale_90 (⟨by omega, by omega⟩) ?_
            refine e_iload F dX3_scale_91 rfl ?_
            refine e_i2l F dX3_scale_93 (⟨by omega, by omega⟩) ?_
            refine e_lmul F dX3_scale_94 ?_
            refine e_callVN F u_X1_modPrime (by rfl) (c_X1_modPrime gFO hwh rm) (by first | assumption | exact e_up_s | (rw [e_up_n (by first | assumption | omega)]; first | assumption | exact e_up_s | (rw [e_up_n (by first | assumption | omega)]; first | assumption | exact e_up_s | (rw [e_up_n (by first | assumption | omega)]; first | assumption | exact e_up_s))) | exact hD.1 | exact hD1.1 | exact hD2.1 | exact gD.1 | exact gD1.1 | exact gD2.1 | exact gQ.1 | exact hQ.1 | exact gS.1 | exact hS.1 | exact zD.1) rfl rfl w_mn_RX3_59 dX3_scale_95 (by rfl) (Nat.le_of_ble_eq_true rfl) (by decide) (by omega) (fun _ _ _ h _ => False.elim h) (fun r_95 w_95 n_95 h_95 hn_95 => ?_)
            obtain ⟨rfl, ew_95, en_95⟩ := h_95
            rw [ew_95, en_95]
            refine e_callVN F u_X0_setShare (by rfl) (c_X0_setShare gD (h := h) (v := (D i.toNat).A h * (b % pr wh) % pr wh) (by omega) (by omega) (by omega) (by omega)) gD.1 rfl rfl w_mn_RX3_130 dX3_scale_98 (by rfl) (Nat.le_of_ble_eq_true rfl) (by decide) (by omega) (fun _ _ _ h _ => False.elim h) (fun r_98 w_98 n_98 h_98 hn_98 => ?_)
            
            refine e_iinc F dX3_scale_101 rfl (by decide) ?_
            refine e_goto F 51 dX3_scale_104 (by decide) ?_
            first
            | (obtain ⟨rfl, en_98, zD, zF⟩ := h_98
               rw [en_98]
               refine e_go (ih (h + 1) w_98 (by omega) ⟨by omega, by omega, zD.to (fun k k0 k1 => ?_) (fun _ _ _ => rfl), fun q a1 a2 a3 => by rw [zF q a1 a2 a3, gF q a1 a2 a3]⟩) (And.intro rfl (And.intro rfl (And.intro rfl (And.intro rfl (And.intro rfl (trivial))))))
               unfold e_fu
               try dsimp only
               by_cases e9 : k = h
               · rw [if_pos e9, if_pos (show k < h + 1 by omega), e9]
                 show _ = (if (D i.toNat).A h = -1 then -1 else _)
                 rw [if_neg c_70]
               · rw [if_neg e9]
                 by_cases e8 : k < h
                 · rw [if_pos e8, if_pos (show k < h + 1 by omega)]
                 · rw [if_neg e8, if_neg (show ¬ k < h + 1 by omega)])
            | (refine e_go (ih (h + 1) wl (by omega) ⟨by omega, by omega, gD.to (fun k k0 k1 => ?_) (fun _ _ _ => rfl), gF⟩) (And.intro rfl (And.intro rfl (And.intro rfl (And.intro rfl (And.intro rfl (trivial))))))
               try dsimp only
               by_cases e9 : k = h
               · rw [if_neg (show ¬ k < h by omega), if_pos (show k < h + 1 by omega), e9]
                 show _ = (if (D i.toNat).A h = -1 then -1 else _)
                 rw [if_pos (by omega)]
               · by_cases e8 : k < h
                 · rw [if_pos e8, if_pos (show k < h + 1 by omega)]
                 · rw [if_neg e8, if_neg (show ¬ k < h + 1 by omega)])
    refine e_iconst F dX3_scale_48 ?_
    refine e_istore F dX3_scale_49 (by decide) ?_
    refine e_go (lp 10 1 w_45 (by omega) ⟨by omega, by omega, gS.to (fun k k0 k1 => by rw [if_neg (show ¬ k < 1 by omega)]) (fun k _ _ => by omega), gF1⟩) (And.intro rfl (And.intro rfl (And.intro rfl (And.intro rfl (And.intro rfl (trivial))))))
  ·
    rw [b01_0, Classical.not_not] at c_19
    refine e_bipush F dX3_scale_22 (by decide) ?_
    refine e_iret F rfl (by omega) ?_ dX3_scale_24
    refine ⟨⟨hi1, hi2⟩, ?_⟩
    unfold scQ
    rw [if_pos c_19]
    exact ⟨rfl, rfl, hC0, FR.rf⟩
