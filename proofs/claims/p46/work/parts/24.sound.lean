/-! Secretshares: what is sound -/
def fdK (D : Nat → SD) : Nat → Int
  | 0 => 0
  | k + 1 => if (D k).fl = 0 then fdK D k else fdK D k + 1
theorem fdK_rg (D : Nat → SD) (k : Nat) : 0 ≤ fdK D k ∧ fdK D k ≤ k := by
  induction k with
  | zero => unfold fdK; omega
  | succ k ih => unfold fdK; split <;> omega
abbrev dok (wh : Nat) (s : SD) : Prop := fs7 s.A s.dg = 0 ∨ ¬ (daB wh s.sc s.A s.B (fs7 s.A s.dg) (ho wh) (ho wh).toNat = true) ∨ sl wh (tl wh (fs7 s.A s.dg) s.A 0) = s.B 0
def fss (wh : Nat) (D : Nat → SD) : Nat → Bool
  | 0 => true
  | r + 1 => if 0 < (D (5 - r)).sc then decide (dok wh (D (5 - r))) else fss wh D r
theorem fs7_rg {A : Int → Int} {dg : Int} (h : 0 ≤ dg) : 0 ≤ fs7 A dg ∧ fs7 A dg < 128 := by
  have := fsK_rg A dg h 7
  unfold fs7
  split <;> omega
def SD0 : SD := (0, 0, 0, fun _ => -1, fun _ => 0)
theorem SD0_SW (wh : Nat) : SW wh SD0 := ⟨fun _ _ _ => Or.inl rfl, fun j j0 j1 => absurd j1 (show ¬ j < 0 by omega), Or.inl rfl, fun _ => ⟨rfl, rfl, fun _ _ _ => rfl⟩⟩
set_option maxHeartbeats 4000000 in
set_option maxRecDepth 100000 in
theorem c_X3_filledDeals {K : e_K} {l : Launch} {w : e_W} {n : Nat} {x wh : Nat} {kn : Int} {D : Nat → SD} (hC : CW w x wh kn D) : e_Met K l yX3_filledDeals (Cond.code yX3_filledDeals cX3_filledDeals 3 (Option.some .int) :: e_TB) (1) (0) [.ref x] w n (fun r w' n' => r = some (.int (eI (fdK D 6))) ∧ w' = w ∧ n' = n) (e_px0) := by
  refine e_ofV rfl (Nat.le_of_ble_eq_true rfl) ?_
  intro P9 E9 S9 M9 A9 B9 T9 C9 F hnm
  have hC0 := hC
  obtain ⟨hX, hF, hwh, ⟨P0, hQ⟩, ⟨ga, hga, hgj⟩, hDs, s0, hS⟩ := hC
  have hp := pr_rg wh hwh
  have ho9 := ho_rg wh hwh
  have hg9 := gr_rg wh hwh
  have lp : ∀ (N : Nat) (k : Nat), (6 - k) < N → k ≤ 6 → e_V K P9 l E9 (1) (0) S9 M9 A9 B9 T9 C9 3 (fun r w' n' => r = some (.int (eI (fdK D 6))) ∧ w' = w ∧ n' = n) (e_px0) 4 [(0, .ref x), (1, .int (eI (fdK D k))), (2, .int (eI (k : Int)))] [] w n (0) := by
    intro N
    induction N with
    | zero => intro k hN; exact absurd hN (Nat.not_lt_zero _)
    | succ N ih =>
      intro k hN hk
      have hfd := fdK_rg D k
      refine e_iload_n F dX3_filledDeals_4 rfl ?_
      refine e_aload_n F dX3_filledDeals_5 rfl ?_
      refine e_get (ci := 3) (fi := 2) (q := (RX3, TX3, 5)) F (by first | assumption | exact e_up_s | (rw [e_up_n (by first | assumption | omega)]; first | assumption | exact e_up_s | (rw [e_up_n (by first | assumption | omega)]; first | assumption | exact e_up_s | (rw [e_up_n (by first | assumption | omega)]; first | assumption | exact e_up_s))) | exact hD.1 | exact hD1.1 | exact hD2.1 | exact gD.1 | exact gD1.1 | exact gD2.1 | exact gQ.1 | exact hQ.1 | exact gS.1 | exact hS.1 | exact zD.1) rfl (by decide) w_fl_RX3_25 (by rfl) dX3_filledDeals_6 ?_
      refine e_alen9 F (by first | assumption | exact e_up_s | (rw [e_up_n (by first | assumption | omega)]; first | assumption | exact e_up_s | (rw [e_up_n (by first | assumption | omega)]; first | assumption | exact e_up_s | (rw [e_up_n (by first | assumption | omega)]; first | assumption | exact e_up_s))) | exact hD.1 | exact hD1.1 | exact hD2.1 | exact gD.1 | exact gD1.1 | exact gD2.1 | exact gQ.1 | exact hQ.1 | exact gS.1 | exact hS.1 | exact zD.1) dX3_filledDeals_9 ?_
      refine e_icmp_ge F 34 dX3_filledDeals_10 (by decide) (⟨by omega, by omega⟩) (⟨by omega, by omega⟩) (fun c_10 => ?_) (fun c_10 => ?_)
      ·
        obtain rfl : k = 6 := by omega
        refine e_iload_n F dX3_filledDeals_34 rfl ?_
        refine e_iret F rfl (by omega) ?_ dX3_filledDeals_35
        exact ⟨rfl, rfl, rfl⟩
      · refine e_aload_n F dX3_filledDeals_13 rfl ?_
        refine e_get (ci := 3) (fi := 2) (q := (RX3, TX3, 5)) F (by first | assumption | exact e_up_s | (rw [e_up_n (by first | assumption | omega)]; first | assumption | exact e_up_s | (rw [e_up_n (by first | assumption | omega)]; first | assumption | exact e_up_s | (rw [e_up_n (by first | assumption | omega)]; first | assumption | exact e_up_s))) | exact hD.1 | exact hD1.1 | exact hD2.1 | exact gD.1 | exact gD1.1 | exact gD2.1 | exact gQ.1 | exact hQ.1 | exact gS.1 | exact hS.1 | exact zD.1) rfl (by decide) w_fl_RX3_25 (by rfl) dX3_filledDeals_14 ?_
        refine e_iload_n F dX3_filledDeals_17 rfl ?_
        refine e_aald9 F hga (by omega) (by omega) (by decide) (hgj k (by omega)) dX3_filledDeals_18 ?_
        have hD := (hDs k (by omega)).1
        refine e_callVN F u_X0_isEmpty (by rfl) (c_X0_isEmpty hD) hD.1 rfl rfl w_mn_RX3_109 dX3_filledDeals_19 (by rfl) (Nat.le_of_ble_eq_true rfl) (by decide) (by omega) (fun _ _ _ h _ => False.elim h) (fun r_19 w_19 n_19 h_19 hn_19 => ?_)
        obtain ⟨rfl, ew_19, en_19⟩ := h_19
        rw [ew_19, en_19]
        refine e_if_ne F 28 dX3_filledDeals_22 (by decide) (b01_r _) (fun c_22 => ?_) (fun c_22 => ?_)
        ·
          rw [ne_eq, b01_0, Classical.not_not] at c_22
          have q1 : fdK D (k + 1) = fdK D k := if_pos c_22
          refine e_iinc F dX3_filledDeals_28 rfl (by decide) ?_
          refine e_goto F 4 dX3_filledDeals_31 (by decide) ?_
          refine e_go (ih (k + 1) (by omega) (by omega)) ?_
          rw [q1]
          exact (And.intro rfl (And.intro rfl (And.intro rfl (trivial))))
        ·
          rw [b01_0] at c_22
          have q1 : fdK D (k + 1) = fdK D k + 1 := if_neg c_22
          refine e_iinc F dX3_filledDeals_25 rfl (by decide) ?_
          refine e_iinc F dX3_filledDeals_28 rfl (by decide) ?_
          refine e_goto F 4 dX3_filledDeals_31 (by decide) ?_
          refine e_go (ih (k + 1) (by omega) (by omega)) ?_
          rw [q1]
          exact (And.intro rfl (And.intro rfl (And.intro rfl (trivial))))
  refine e_iconst F dX3_filledDeals_0 ?_
  refine e_istore_n F dX3_filledDeals_1 (by decide) ?_
  refine e_iconst F dX3_filledDeals_2 ?_
  refine e_istore_n F dX3_filledDeals_3 (by decide) ?_
  exact e_go (lp 7 0 (by omega) (by omega)) (And.intro rfl (And.intro rfl (And.intro rfl (trivial))))
set_option maxHeartbeats 4000000 in
set_option maxRecDepth 100000 in
theorem c_X3_areSharesSound {K : e_K} {l : Launch} {w : e_W} {n : Nat} {x wh : Nat} {kn : Int} {D : Nat → SD} (hC : CW w x wh kn D) {i1 : Nat} (h1 : i1 < 6) : e_Met K l yX3_areSharesSound (Cond.code yX3_areSharesSound cX3_areSharesSound 4 (Option.some .boolean) :: e_TB) (1) (0) [.ref x, .ref (x + 6 + 3 * i1)] w n (fun r w' n' => r = some (.int (eI (1))) ∧ w' = w ∧ n' = n) (e_px0) := by
  refine e_ofV rfl (Nat.le_of_ble_eq_true rfl) ?_
  intro P9 E9 S9 M9 A9 B9 T9 C9 F hnm
  have hC0 := hC
  obtain ⟨hX, hF, hwh, ⟨P0, hQ⟩, ⟨ga, hga, hgj⟩, hDs, s0, hS⟩ := hC
  have hp := pr_rg wh hwh
  have ho9 := ho_rg wh hwh
  have hg9 := gr_rg wh hwh
  obtain ⟨hD, hW⟩ := hDs i1 h1
  have lp : ∀ (N : Nat) (i : Int), (9 - i).toNat < N → (1 ≤ i ∧ i ≤ ho wh + 1) → e_V K P9 l E9 (1) (0) S9 M9 A9 B9 T9 C9 4 (fun r w' n' => r = some (.int (eI (1))) ∧ w' = w ∧ n' = n) (e_px0) 2 [(0, .ref x), (1, .ref (x + 6 + 3 * i1)), (2, .int (eI i))] [] w n (0) := by
    intro N
    induction N with
    | zero => intro i hN; exact absurd hN (Nat.not_lt_zero _)
    | succ N ih =>
      intro i hN ⟨k1, k2⟩
      refine e_iload_n F dX3_areSharesSound_2 rfl ?_
      refine e_aload_n F dX3_areSharesSound_3 rfl ?_
      refine e_get (ci := 3) (fi := 0) (q := (RX3, TX3, 5)) F (by first | assumption | exact e_up_s | (rw [e_up_n (by first | assumption | omega)]; first | assumption | exact e_up_s | (rw [e_up_n (by first | assumption | omega)]; first | assumption | exact e_up_s | (rw [e_up_n (by first | assumption | omega)]; first | assumption | exact e_up_s))) | exact hD.1 | exact hD1.1 | exact hD2.1 | exact gD.1 | exact gD1.1 | exact gD2.1 | exact gQ.1 | exact hQ.1 | exact gS.1 | exact hS.1 | exact zD.1) rfl (by decide) w_fl_RX3_10 (by rfl) dX3_areSharesSound_4 ?_
      refine e_getN (ci := 1) (fi := 4) (q := (RX1, TX1, 5)) F (by first | assumption | exact e_up_s | (rw [e_up_n (by first | assumption | omega)]; first | assumption | exact e_up_s | (rw [e_up_n (by first | assumption | omega)]; first | assumption | exact e_up_s | (rw [e_up_n (by first | assumption | omega)]; first | assumption | exact e_up_s))) | exact hD.1 | exact hD1.1 | exact hD2.1 | exact gD.1 | exact gD1.1 | exact gD2.1 | exact gQ.1 | exact hQ.1 | exact gS.1 | exact hS.1 | exact zD.1) rfl (by decide) w_fn_RX3_116 (by rfl) dX3_areSharesSound_7 ?_
      refine e_icmp_gt F 47 dX3_areSharesSound_10 (by decide) (⟨by omega, by omega⟩) (⟨by omega, by omega⟩) (fun c_10 => ?_) (fun c_10 => ?_)
      · refine e_iconst F dX3_areSharesSound_47 ?_
        refine e_zret F rfl (by omega) (by omega) ?_ dX3_areSharesSound_48
        exact ⟨rfl, rfl, rfl⟩
      · have hWi := hW.1 i (by omega) (by omega)
        refine e_aload_n F dX3_areSharesSound_13 rfl ?_
        refine e_iload_n F dX3_areSharesSound_14 rfl ?_
        refine e_callVN F u_X0_shareAt (by rfl) (c_X0_shareAt hD (h := i) (by omega) (by omega)) (by first | assumption | exact e_up_s | (rw [e_up_n (by first | assumption | omega)]; first | assumption | exact e_up_s | (rw [e_up_n (by first | assumption | omega)]; first | assumption | exact e_up_s | (rw [e_up_n (by first | assumption | omega)]; first | assumption | exact e_up_s))) | exact hD.1 | exact hD1.1 | exact hD2.1 | exact gD.1 | exact gD1.1 | exact gD2.1 | exact gQ.1 | exact hQ.1 | exact gS.1 | exact hS.1 | exact zD.1) rfl rfl w_mn_RX3_123 dX3_areSharesSound_15 (by rfl) (Nat.le_of_ble_eq_true rfl) (by decide) (by omega) (fun _ _ _ h _ => False.elim h) (fun r_15 w_15 n_15 h_15 hn_15 => ?_)
        obtain ⟨rfl, ew_15, en_15⟩ := h_15
        rw [ew_15, en_15]
        refine e_istore_n F dX3_areSharesSound_18 (by decide) ?_
        refine e_iload_n F dX3_areSharesSound_19 rfl ?_
        refine e_iconst F dX3_areSharesSound_20 ?_
        refine e_icmp_eq F 41 dX3_areSharesSound_21 (by decide) (⟨by omega, by omega⟩) (⟨by omega, by omega⟩) (fun c_21 => ?_) (fun c_21 => ?_)
        · refine e_iinc F dX3_areSharesSound_41 rfl (by decide) ?_
          refine e_goto F 2 dX3_areSharesSound_44 (by decide) ?_
          exact e_go (ih (i + 1) (by omega) (by omega)) (And.intro rfl (And.intro rfl (And.intro rfl (trivial))))
        · refine e_iload_n F dX3_areSharesSound_24 rfl ?_
          refine e_if_lt F 39 dX3_areSharesSound_25 (by decide) (⟨by omega, by omega⟩) (fun c_25 => ?_) (fun c_25 => ?_)
          · exact absurd c_25 (by omega)
          · refine e_iload_n F dX3_areSharesSound_28 rfl ?_
            refine e_aload_n F dX3_areSharesSound_29 rfl ?_
            refine e_get (ci := 3) (fi := 0) (q := (RX3, TX3, 5)) F (by first | assumption | exact e_up_s | (rw [e_up_n (by first | assumption | omega)]; first | assumption | exact e_up_s | (rw [e_up_n (by first | assumption | omega)]; first | assumption | exact e_up_s | (rw [e_up_n (by first | assumption | omega)]; first | assumption | exact e_up_s))) | exact hD.1 | exact hD1.1 | exact hD2.1 | exact gD.1 | exact gD1.1 | exact gD2.1 | exact gQ.1 | exact hQ.1 | exact gS.1 | exact hS.1 | exact zD.1) rfl (by decide) w_fl_RX3_10 (by rfl) dX3_areSharesSound_30 ?_
            refine e_getN (ci := 1) (fi := 1) (q := (RX1, TX1, 5)) F (by first | assumption | exact e_up_s | (rw [e_up_n (by first | assumption | omega)]; first | assumption | exact e_up_s | (rw [e_up_n (by first | assumption | omega)]; first | assumption | exact e_up_s | (rw [e_up_n (by first | assumption | omega)]; first | assumption | exact e_up_s))) | exact hD.1 | exact hD1.1 | exact hD2.1 | exact gD.1 | exact gD1.1 | exact gD2.1 | exact gQ.1 | exact hQ.1 | exact gS.1 | exact hS.1 | exact zD.1) rfl (by decide) w_fn_RX3_49 (by rfl) dX3_areSharesSound_33 ?_
            refine e_icmp_lt F 41 dX3_areSharesSound_36 (by decide) (⟨by omega, by omega⟩) (⟨by omega, by omega⟩) (fun c_36 => ?_) (fun c_36 => ?_)
            · refine e_iinc F dX3_areSharesSound_41 rfl (by decide) ?_
              refine e_goto F 2 dX3_areSharesSound_44 (by decide) ?_
              exact e_go (ih (i + 1) (by omega) (by omega)) (And.intro rfl (And.intro rfl (And.intro rfl (trivial))))
            · exact absurd c_36 (by omega)
  refine e_iconst F dX3_areSharesSound_0 ?_
  refine e_istore_n F dX3_areSharesSound_1 (by decide) ?_
  exact e_go (lp 9 1 (by omega) (by omega)) (And.intro rfl (And.intro rfl (And.intro rfl (trivial))))
set_option maxHeartbeats 4000000 in
set_option maxRecDepth 100000 in
theorem c_X3_areSealsSound {K : e_K} {l : Launch} {w : e_W} {n : Nat} {x wh : Nat} {kn : Int} {D : Nat → SD} (hC : CW w x wh kn D) {i1 : Nat} (h1 : i1 < 6) : e_Met K l yX3_areSealsSound (Cond.code yX3_areSealsSound cX3_areSealsSound 3 (Option.some .boolean) :: e_TB) (1) (0) [.ref x, .ref (x + 6 + 3 * i1)] w n (fun r w' n' => r = some (.int (eI (1))) ∧ w' = w ∧ n' = n) (e_px0) := by
  refine e_ofV rfl (Nat.le_of_ble_eq_true rfl) ?_
  intro P9 E9 S9 M9 A9 B9 T9 C9 F hnm
  have hC0 := hC
  obtain ⟨hX, hF, hwh, ⟨P0, hQ⟩, ⟨ga, hga, hgj⟩, hDs, s0, hS⟩ := hC
  have hp := pr_rg wh hwh
  have ho9 := ho_rg wh hwh
  have hg9 := gr_rg wh hwh
  obtain ⟨hD, hW⟩ := hDs i1 h1
  have hsc := hD.2.2.2.2.2.1
  have hdg := hD.2.2.2.2.1
  have hW3 := hW.2.2.1
  have lp : ∀ (N : Nat) (i : Int), (9 - i).toNat < N → (0 ≤ i ∧ i ≤ (D i1).sc) → e_V K P9 l E9 (1) (0) S9 M9 A9 B9 T9 C9 3 (fun r w' n' => r = some (.int (eI (1))) ∧ w' = w ∧ n' = n) (e_px0) 2 [(0, .ref x), (1, .ref (x + 6 + 3 * i1)), (2, .int (eI i))] [] w n (0) := by
    intro N
    induction N with
    | zero => intro i hN; exact absurd hN (Nat.not_lt_zero _)
    | succ N ih =>
      intro i hN ⟨k1, k2⟩
      refine e_iload_n F dX3_areSealsSound_2 rfl ?_
      refine e_aload_n F dX3_areSealsSound_3 rfl ?_
      refine e_getN (ci := 0) (fi := 2) (q := (RX0, TX0, 5)) F (by first | assumption | exact e_up_s | (rw [e_up_n (by first | assumption | omega)]; first | assumption | exact e_up_s | (rw [e_up_n (by first | assumption | omega)]; first | assumption | exact e_up_s | (rw [e_up_n (by first | assumption | omega)]; first | assumption | exact e_up_s))) | exact hD.1 | exact hD1.1 | exact hD2.1 | exact gD.1 | exact gD1.1 | exact gD2.1 | exact gQ.1 | exact hQ.1 | exact gS.1 | exact hS.1 | exact zD.1) rfl (by decide) w_fn_RX3_134 (by rfl) dX3_areSealsSound_4 ?_
      refine e_icmp_ge F 42 dX3_areSealsSound_7 (by decide) (⟨by omega, by omega⟩) (⟨by omega, by omega⟩) (fun c_7 => ?_) (fun c_7 => ?_)
      · refine e_aload_n F dX3_areSealsSound_42 rfl ?_
        refine e_callVN F u_X0_hasSeals (by rfl) (c_X0_hasSeals hD) (by first | assumption | exact e_up_s | (rw [e_up_n (by first | assumption | omega)]; first | assumption | exact e_up_s | (rw [e_up_n (by first | assumption | omega)]; first | assumption | exact e_up_s | (rw [e_up_n (by first | assumption | omega)]; first | assumption | exact e_up_s))) | exact hD.1 | exact hD1.1 | exact hD2.1 | exact gD.1 | exact gD1.1 | exact gD2.1 | exact gQ.1 | exact hQ.1 | exact gS.1 | exact hS.1 | exact zD.1) rfl rfl w_mn_RX3_195 dX3_areSealsSound_43 (by rfl) (Nat.le_of_ble_eq_true rfl) (by decide) (by omega) (fun _ _ _ h _ => False.elim h) (fun r_43 w_43 n_43 h_43 hn_43 => ?_)
        obtain ⟨rfl, ew_43, en_43⟩ := h_43
        rw [ew_43, en_43]
        refine e_if_eq F 62 dX3_areSealsSound_46 (by decide) (b01_r _) (fun c_46 => ?_) (fun c_46 => ?_)
        ·
          rw [b01_0] at c_46
          refine e_iconst F dX3_areSealsSound_62 ?_
          refine e_goto F 67 dX3_areSealsSound_63 (by decide) ?_
          refine e_zret F rfl (by omega) (by omega) ?_ dX3_areSealsSound_67
          exact ⟨rfl, rfl, rfl⟩
        ·
          rw [b01_0, Classical.not_not] at c_46
          refine e_aload_n F dX3_areSealsSound_49 rfl ?_
          refine e_getN (ci := 0) (fi := 2) (q := (RX0, TX0, 5)) F (by first | assumption | exact e_up_s | (rw [e_up_n (by first | assumption | omega)]; first | assumption | exact e_up_s | (rw [e_up_n (by first | assumption | omega)]; first | assumption | exact e_up_s | (rw [e_up_n (by first | assumption | omega)]; first | assumption | exact e_up_s))) | exact hD.1 | exact hD1.1 | exact hD2.1 | exact gD.1 | exact gD1.1 | exact gD2.1 | exact gQ.1 | exact hQ.1 | exact gS.1 | exact hS.1 | exact zD.1) rfl (by decide) w_fn_RX3_134 (by rfl) dX3_areSealsSound_50 ?_
          refine e_aload_n F dX3_areSealsSound_53 rfl ?_
          refine e_getN (ci := 0) (fi := 1) (q := (RX0, TX0, 5)) F (by first | assumption | exact e_up_s | (rw [e_up_n (by first | assumption | omega)]; first | assumption | exact e_up_s | (rw [e_up_n (by first | assumption | omega)]; first | assumption | exact e_up_s | (rw [e_up_n (by first | assumption | omega)]; first | assumption | exact e_up_s))) | exact hD.1 | exact hD1.1 | exact hD2.1 | exact gD.1 | exact gD1.1 | exact gD2.1 | exact gQ.1 | exact hQ.1 | exact gS.1 | exact hS.1 | exact zD.1) rfl (by decide) w_fn_RX3_113 (by rfl) dX3_areSealsSound_54 ?_
          refine e_iconst F dX3_areSealsSound_57 ?_
          refine e_iadd F dX3_areSealsSound_58 ?_
          refine e_icmp_ne F 66 dX3_areSealsSound_59 (by decide) (⟨by omega, by omega⟩) (⟨by omega, by omega⟩) (fun c_59 => ?_) (fun c_59 => ?_)
          · exact absurd c_59 (by omega)
          · refine e_iconst F dX3_areSealsSound_62 ?_
            refine e_goto F 67 dX3_areSealsSound_63 (by decide) ?_
            refine e_zret F rfl (by omega) (by omega) ?_ dX3_areSealsSound_67
            exact ⟨rfl, rfl, rfl⟩
      · have hWi := hW.2.1 i (by omega) (by omega)
        have hui := un_ne hwh hWi.2 hWi.1.1
        refine e_aload_n F dX3_areSealsSound_10 rfl ?_
        refine e_iload_n F dX3_areSealsSound_11 rfl ?_
        refine e_callVN F u_X0_sealAt (by rfl) (c_X0_sealAt hD (h := i) ⟨by omega, by omega⟩) (by first | assumption | exact e_up_s | (rw [e_up_n (by first | assumption | omega)]; first | assumption | exact e_up_s | (rw [e_up_n (by first | assumption | omega)]; first | assumption | exact e_up_s | (rw [e_up_n (by first | assumption | omega)]; first | assumption | exact e_up_s))) | exact hD.1 | exact hD1.1 | exact hD2.1 | exact gD.1 | exact gD1.1 | exact gD2.1 | exact gQ.1 | exact hQ.1 | exact gS.1 | exact hS.1 | exact zD.1) rfl rfl w_mn_RX3_137 dX3_areSealsSound_12 (by rfl) (Nat.le_of_ble_eq_true rfl) (by decide) (by omega) (fun _ _ _ h _ => False.elim h) (fun r_12 w_12 n_12 h_12 hn_12 => ?_)
        obtain ⟨rfl, ew_12, en_12⟩ := h_12
        rw [ew_12, en_12, if_pos (show 0 ≤ i ∧ i < (D i1).sc from ⟨by omega, by omega⟩)]
        refine e_iconst F dX3_areSealsSound_15 ?_
        refine e_icmp_lt F 34 dX3_areSealsSound_16 (by decide) (⟨by omega, by omega⟩) (⟨by omega, by omega⟩) (fun c_16 => ?_) (fun c_16 => ?_)
        · exact absurd c_16 (by omega)
        · refine e_aload_n F dX3_areSealsSound_19 rfl ?_
          refine e_iload_n F dX3_areSealsSound_20 rfl ?_
          refine e_callVN F u_X0_sealAt (by rfl) (c_X0_sealAt hD (h := i) ⟨by omega, by omega⟩) (by first | assumption | exact e_up_s | (rw [e_up_n (by first | assumption | omega)]; first | assumption | exact e_up_s | (rw [e_up_n (by first | assumption | omega)]; first | assumption | exact e_up_s | (rw [e_up_n (by first | assumption | omega)]; first | assumption | exact e_up_s))) | exact hD.1 | exact hD1.1 | exact hD2.1 | exact gD.1 | exact gD1.1 | exact gD2.1 | exact gQ.1 | exact hQ.1 | exact gS.1 | exact hS.1 | exact zD.1) rfl rfl w_mn_RX3_137 dX3_areSealsSound_21 (by rfl) (Nat.le_of_ble_eq_true rfl) (by decide) (by omega) (fun _ _ _ h _ => False.elim h) (fun r_21 w_21 n_21 h_21 hn_21 => ?_)
          obtain ⟨rfl, ew_21, en_21⟩ := h_21
          rw [ew_21, en_21, if_pos (show 0 ≤ i ∧ i < (D i1).sc from ⟨by omega, by omega⟩)]
          refine e_aload_n F dX3_areSealsSound_24 rfl ?_
          refine e_get (ci := 3) (fi := 0) (q := (RX3, TX3, 5)) F (by first | assumption | exact e_up_s | (rw [e_up_n (by first | assumption | omega)]; first | assumption | exact e_up_s | (rw [e_up_n (by first | assumption | omega)]; first | assumption | exact e_up_s | (rw [e_up_n (by first | assumption | omega)]; first | assumption | exact e_up_s))) | exact hD.1 | exact hD1.1 | exact hD2.1 | exact gD.1 | exact gD1.1 | exact gD2.1 | exact gQ.1 | exact hQ.1 | exact gS.1 | exact hS.1 | exact zD.1) rfl (by decide) w_fl_RX3_10 (by rfl) dX3_areSealsSound_25 ?_
          refine e_getN (ci := 1) (fi := 2) (q := (RX1, TX1, 5)) F (by first | assumption | exact e_up_s | (rw [e_up_n (by first | assumption | omega)]; first | assumption | exact e_up_s | (rw [e_up_n (by first | assumption | omega)]; first | assumption | exact e_up_s | (rw [e_up_n (by first | assumption | omega)]; first | assumption | exact e_up_s))) | exact hD.1 | exact hD1.1 | exact hD2.1 | exact gD.1 | exact gD1.1 | exact gD2.1 | exact gQ.1 | exact hQ.1 | exact gS.1 | exact hS.1 | exact zD.1) rfl (by decide) w_fn_RX3_164 (by rfl) dX3_areSealsSound_28 ?_
          refine e_icmp_lt F 36 dX3_areSealsSound_31 (by decide) (⟨by omega, by omega⟩) (⟨by omega, by omega⟩) (fun c_31 => ?_) (fun c_31 => ?_)
          · refine e_iinc F dX3_areSealsSound_36 rfl (by decide) ?_
            refine e_goto F 2 dX3_areSealsSound_39 (by decide) ?_
            exact e_go (ih (i + 1) (by omega) (by omega)) (And.intro rfl (And.intro rfl (And.intro rfl (trivial))))
          · exact absurd c_31 (by omega)
  refine e_iconst F dX3_areSealsSound_0 ?_
  refine e_istore_n F dX3_areSealsSound_1 (by decide) ?_
  exact e_go (lp 10 0 (by omega) (by omega)) (And.intro rfl (And.intro rfl (And.intro rfl (trivial))))
set_option maxHeartbeats 4000000 in
set_option maxRecDepth 100000 in
theorem c_X3_isFirstSealSound {K : e_K} {l : Launch} {w : e_W} {n : Nat} {x wh : Nat} {kn : Int} {D : Nat → SD} (hC : CW w x wh kn D) : e_Met K l yX3_isFirstSealSound (Cond.code yX3_isFirstSealSound cX3_isFirstSealSound 3 (Option.some .boolean) :: e_TB) (4) (0) [.ref x] w n (fun r w' n' => r = some (.int (eI (b01 (fss wh D 6 = true)))) ∧ w' = w ∧ n' = n) (e_px0) := by
  refine e_ofV rfl (Nat.le_of_ble_eq_true rfl) ?_
  intro P9 E9 S9 M9 A9 B9 T9 C9 F hnm
  have hC0 := hC
  obtain ⟨hX, hF, hwh, ⟨P0, hQ⟩, ⟨ga, hga, hgj⟩, hDs, s0, hS⟩ := hC
  have hp := pr_rg wh hwh
  have ho9 := ho_rg wh hwh
  have hg9 := gr_rg wh hwh
  have lp : ∀ (N : Nat) (k : Nat), (6 - k) < N → (k ≤ 6 ∧ fss wh D (6 - k) = fss wh D 6) → e_V K P9 l E9 (4) (0) S9 M9 A9 B9 T9 C9 3 (fun r w' n' => r = some (.int (eI (b01 (fss wh D 6 = true)))) ∧ w' = w ∧ n' = n) (e_px0) 2 [(0, .ref x), (1, .int (eI (k : Int)))] [] w n (0) := by
    intro N
    induction N with
    | zero => intro k hN; exact absurd hN (Nat.not_lt_zero _)
    | succ N ih =>
      intro k hN ⟨hk, heq⟩
      refine e_iload_n F dX3_isFirstSealSound_2 rfl ?_
      refine e_aload_n F dX3_isFirstSealSound_3 rfl ?_
      refine e_get (ci := 3) (fi := 2) (q := (RX3, TX3, 5)) F (by first | assumption | exact e_up_s | (rw [e_up_n (by first | assumption | omega)]; first | assumption | exact e_up_s | (rw [e_up_n (by first | assumption | omega)]; first | assumption | exact e_up_s | (rw [e_up_n (by first | assumption | omega)]; first | assumption | exact e_up_s))) | exact hD.1 | exact hD1.1 | exact hD2.1 | exact gD.1 | exact gD1.1 | exact gD2.1 | exact gQ.1 | exact hQ.1 | exact gS.1 | exact hS.1 | exact zD.1) rfl (by decide) w_fl_RX3_25 (by rfl) dX3_isFirstSealSound_4 ?_
      refine e_alen9 F (by first | assumption | exact e_up_s | (rw [e_up_n (by first | assumption | omega)]; first | assumption | exact e_up_s | (rw [e_up_n (by first | assumption | omega)]; first | assumption | exact e_up_s | (rw [e_up_n (by first | assumption | omega)]; first | assumption | exact e_up_s))) | exact hD.1 | exact hD1.1 | exact hD2.1 | exact gD.1 | exact gD1.1 | exact gD2.1 | exact gQ.1 | exact hQ.1 | exact gS.1 | exact hS.1 | exact zD.1) dX3_isFirstSealSound_7 ?_
      refine e_icmp_ge F 95 dX3_isFirstSealSound_8 (by decide) (⟨by omega, by omega⟩) (⟨by omega, by omega⟩) (fun c_8 => ?_) (fun c_8 => ?_)
      ·
        obtain rfl : k = 6 := by omega
        refine e_iconst F dX3_isFirstSealSound_95 ?_
        refine e_zret F rfl (by omega) (by omega) ?_ dX3_isFirstSealSound_96
        refine ⟨?_, rfl, rfl⟩
        rw [b01_t]
        rw [← heq]
        rfl
      · have e9 : 6 - k = (5 - k) + 1 := by omega
        have e8 : 5 - (5 - k) = k := by omega
        have e7 : fss wh D (6 - k) = if 0 < (D k).sc then decide (dok wh (D k)) else fss wh D (5 - k) := by rw [e9]; show (if 0 < (D (5 - (5 - k))).sc then decide (dok wh (D (5 - (5 - k)))) else fss wh D (5 - k)) = _; rw [e8]
        obtain ⟨hD, hW⟩ := hDs k (by omega)
        have hdg := hD.2.2.2.2.1
        have hf7 := fs7_rg (A := (D k).A) hdg.1
        refine e_aload_n F dX3_isFirstSealSound_11 rfl ?_
        refine e_get (ci := 3) (fi := 2) (q := (RX3, TX3, 5)) F (by first | assumption | exact e_up_s | (rw [e_up_n (by first | assumption | omega)]; first | assumption | exact e_up_s | (rw [e_up_n (by first | assumption | omega)]; first | assumption | exact e_up_s | (rw [e_up_n (by first | assumption | omega)]; first | assumption | exact e_up_s))) | exact hD.1 | exact hD1.1 | exact hD2.1 | exact gD.1 | exact gD1.1 | exact gD2.1 | exact gQ.1 | exact hQ.1 | exact gS.1 | exact hS.1 | exact zD.1) rfl (by decide) w_fl_RX3_25 (by rfl) dX3_isFirstSealSound_12 ?_
        refine e_iload_n F dX3_isFirstSealSound_15 rfl ?_
        refine e_aald9 F hga (by omega) (by omega) (by decide) (hgj k (by omega)) dX3_isFirstSealSound_16 ?_
        refine e_callVN F u_X0_hasSeals (by rfl) (c_X0_hasSeals hD) (by first | assumption | exact e_up_s | (rw [e_up_n (by first | assumption | omega)]; first | assumption | exact e_up_s | (rw [e_up_n (by first | assumption | omega)]; first | assumption | exact e_up_s | (rw [e_up_n (by first | assumption | omega)]; first | assumption | exact e_up_s))) | exact hD.1 | exact hD1.1 | exact hD2.1 | exact gD.1 | exact gD1.1 | exact gD2.1 | exact gQ.1 | exact hQ.1 | exact gS.1 | exact hS.1 | exact zD.1) rfl rfl w_mn_RX3_195 dX3_isFirstSealSound_17 (by rfl) (Nat.le_of_ble_eq_true rfl) (by decide) (by omega) (fun _ _ _ h _ => False.elim h) (fun r_17 w_17 n_17 h_17 hn_17 => ?_)
        obtain ⟨rfl, ew_17, en_17⟩ := h_17
        rw [ew_17, en_17]
        refine e_if_eq F 89 dX3_isFirstSealSound_20 (by decide) (b01_r _) (fun c_20 => ?_) (fun c_20 => ?_)
        ·
          rw [b01_0] at c_20
          refine e_iinc F dX3_isFirstSealSound_89 rfl (by decide) ?_
          refine e_goto F 2 dX3_isFirstSealSound_92 (by decide) ?_
          have e6 : 6 - (k + 1) = 5 - k := by omega
          exact e_go (ih (k + 1) (by omega) ⟨by omega, by rw [e6, ← heq, e7, if_neg c_20]⟩) (And.intro rfl (And.intro rfl (trivial)))
        ·
          rw [b01_0, Classical.not_not] at c_20
          have hW3 := hW.2.2.1
          refine e_aload_n F dX3_isFirstSealSound_23 rfl ?_
          refine e_get (ci := 3) (fi := 2) (q := (RX3, TX3, 5)) F (by first | assumption | exact e_up_s | (rw [e_up_n (by first | assumption | omega)]; first | assumption | exact e_up_s | (rw [e_up_n (by first | assumption | omega)]; first | assumption | exact e_up_s | (rw [e_up_n (by first | assumption | omega)]; first | assumption | exact e_up_s))) | exact hD.1 | exact hD1.1 | exact hD2.1 | exact gD.1 | exact gD1.1 | exact gD2.1 | exact gQ.1 | exact hQ.1 | exact gS.1 | exact hS.1 | exact zD.1) rfl (by decide) w_fl_RX3_25 (by rfl) dX3_isFirstSealSound_24 ?_
          refine e_iload_n F dX3_isFirstSealSound_27 rfl ?_
          refine e_aald9 F hga (by omega) (by omega) (by decide) (hgj k (by omega)) dX3_isFirstSealSound_28 ?_
          refine e_callVN F u_X0_firstSet (by rfl) (c_X0_firstSet hD) (by first | assumption | exact e_up_s | (rw [e_up_n (by first | assumption | omega)]; first | assumption | exact e_up_s | (rw [e_up_n (by first | assumption | omega)]; first | assumption | exact e_up_s | (rw [e_up_n (by first | assumption | omega)]; first | assumption | exact e_up_s))) | exact hD.1 | exact hD1.1 | exact hD2.1 | exact gD.1 | exact gD1.1 | exact gD2.1 | exact gQ.1 | exact hQ.1 | exact gS.1 | exact hS.1 | exact zD.1) rfl rfl w_mn_RX3_202 dX3_isFirstSealSound_29 (by rfl) (Nat.le_of_ble_eq_true rfl) (by decide) (by omega) (fun _ _ _ h _ => False.elim h) (fun r_29 w_29 n_29 h_29 hn_29 => ?_)
          obtain ⟨rfl, ew_29, en_29⟩ := h_29
          rw [ew_29, en_29]
          refine e_istore_n F dX3_isFirstSealSound_32 (by decide) ?_
          refine e_iload_n F dX3_isFirstSealSound_33 rfl ?_
          refine e_if_eq F 83 dX3_isFirstSealSound_34 (by decide) (⟨by omega, by omega⟩) (fun c_34 => ?_) (fun c_34 => ?_)
          · refine e_iconst F dX3_isFirstSealSound_83 ?_
            refine e_goto F 88 dX3_isFirstSealSound_84 (by decide) ?_
            refine e_zret F rfl (by omega) (by omega) ?_ dX3_isFirstSealSound_88
            refine ⟨?_, rfl, rfl⟩
            have e6 : fss wh D 6 = decide (dok wh (D k)) := by rw [← heq, e7, if_pos c_20]
            rw [e6]
            first | (rw [b01_f]; rw [decide_eq_true_iff]; exact fun q => q.elim c_34 (fun q => q.elim (fun q => q c_48) c_80)) | (rw [b01_t]; rw [decide_eq_true_iff]; first | exact Or.inl c_34 | exact Or.inr (Or.inl c_48) | exact Or.inr (Or.inr c_80))
          · refine e_aload_n F dX3_isFirstSealSound_37 rfl ?_
            refine e_aload_n F dX3_isFirstSealSound_38 rfl ?_
            refine e_get (ci := 3) (fi := 2) (q := (RX3, TX3, 5)) F (by first | assumption | exact e_up_s | (rw [e_up_n (by first | assumption | omega)]; first | assumption | exact e_up_s | (rw [e_up_n (by first | assumption | omega)]; first | assumption | exact e_up_s | (rw [e_up_n (by first | assumption | omega)]; first | assumption | exact e_up_s))) | exact hD.1 | exact hD1.1 | exact hD2.1 | exact gD.1 | exact gD1.1 | exact gD2.1 | exact gQ.1 | exact hQ.1 | exact gS.1 | exact hS.1 | exact zD.1) rfl (by decide) w_fl_RX3_25 (by rfl) dX3_isFirstSealSound_39 ?_
            refine e_iload_n F dX3_isFirstSealSound_42 rfl ?_
            refine e_aald9 F hga (by omega) (by omega) (by decide) (hgj k (by omega)) dX3_isFirstSealSound_43 ?_
            refine e_iload_n F dX3_isFirstSealSound_44 rfl ?_
            refine e_callVV F u_X3_doAllFit (by rfl) (c_X3_doAllFit hX hF hwh hD hf7.1 (by omega) (fun j a1 a2 => (hW.2.1 j a1 a2).1)) hX rfl rfl w_ml_RX3_319 dX3_isFirstSealSound_45 (by rfl) (Nat.le_of_ble_eq_true rfl) (by decide) (by omega) (fun _ _ _ h _ => False.elim h) (fun r_45 w_45 n_45 h_45 hn_45 => ?_)
            obtain ⟨rfl, ew_45, en_45⟩ := h_45
            rw [ew_45, en_45]
            refine e_if_eq F 83 dX3_isFirstSealSound_48 (by decide) (b01_r _) (fun c_48 => ?_) (fun c_48 => ?_)
            ·
              rw [b01_0] at c_48
              refine e_iconst F dX3_isFirstSealSound_83 ?_
              refine e_goto F 88 dX3_isFirstSealSound_84 (by decide) ?_
              refine e_zret F rfl (by omega) (by omega) ?_ dX3_isFirstSealSound_88
              refine ⟨?_, rfl, rfl⟩
              have e6 : fss wh D 6 = decide (dok wh (D k)) := by rw [← heq, e7, if_pos c_20]
              rw [e6]
              first | (rw [b01_f]; rw [decide_eq_true_iff]; exact fun q => q.elim c_34 (fun q => q.elim (fun q => q c_48) c_80)) | (rw [b01_t]; rw [decide_eq_true_iff]; first | exact Or.inl c_34 | exact Or.inr (Or.inl c_48) | exact Or.inr (Or.inr c_80))
            ·
              rw [b01_0, Classical.not_not] at c_48
              refine e_aload_n F dX3_isFirstSealSound_51 rfl ?_
              refine e_get (ci := 3) (fi := 0) (q := (RX3, TX3, 5)) F (by first | assumption | exact e_up_s | (rw [e_up_n (by first | assumption | omega)]; first | assumption | exact e_up_s | (rw [e_up_n (by first | assumption | omega)]; first | assumption | exact e_up_s | (rw [e_up_n (by first | assumption | omega)]; first | assumption | exact e_up_s))) | exact hD.1 | exact hD1.1 | exact hD2.1 | exact gD.1 | exact gD1.1 | exact gD2.1 | exact gQ.1 | exact hQ.1 | exact gS.1 | exact hS.1 | exact zD.1) rfl (by decide) w_fl_RX3_10 (by rfl) dX3_isFirstSealSound_52 ?_
              refine e_aload_n F dX3_isFirstSealSound_55 rfl ?_
              refine e_aload_n F dX3_isFirstSealSound_56 rfl ?_
              refine e_get (ci := 3) (fi := 2) (q := (RX3, TX3, 5)) F (by first | assumption | exact e_up_s | (rw [e_up_n (by first | assumption | omega)]; first | assumption | exact e_up_s | (rw [e_up_n (by first | assumption | omega)]; first | assumption | exact e_up_s | (rw [e_up_n (by first | assumption | omega)]; first | assumption | exact e_up_s))) | exact hD.1 | exact hD1.1 | exact hD2.1 | exact gD.1 | exact gD1.1 | exact gD2.1 | exact gQ.1 | exact hQ.1 | exact gS.1 | exact hS.1 | exact zD.1) rfl (by decide) w_fl_RX3_25 (by rfl) dX3_isFirstSealSound_57 ?_
              refine e_iload_n F dX3_isFirstSealSound_60 rfl ?_
              refine e_aald9 F hga (by omega) (by omega) (by decide) (hgj k (by omega)) dX3_isFirstSealSound_61 ?_
              refine e_iload_n F dX3_isFirstSealSound_62 rfl ?_
              refine e_iconst F dX3_isFirstSealSound_63 ?_
              refine e_callVV F u_X3_tell (by rfl) (c_X3_tell hX hF hwh hD hf7.1 (by omega) (pl := 0) (by decide)) hX rfl rfl w_ml_RX3_178 dX3_isFirstSealSound_64 (by rfl) (Nat.le_of_ble_eq_true rfl) (by decide) (by omega) (fun _ _ _ h _ => False.elim h) (fun r_64 w_64 n_64 h_64 hn_64 => ?_)
              obtain ⟨rfl, ew_64, en_64⟩ := h_64
              rw [ew_64, en_64]
              have htl : 0 ≤ tl wh (fs7 (D k).A (D k).dg) (D k).A 0 ∧ tl wh (fs7 (D k).A (D k).dg) (D k).A 0 < pr wh := emod_rg _ hwh
              refine e_callVN F u_X1_sealFor (by rfl) (c_X1_sealFor hF hwh ⟨by omega, by omega⟩) (by first | assumption | exact e_up_s | (rw [e_up_n (by first | assumption | omega)]; first | assumption | exact e_up_s | (rw [e_up_n (by first | assumption | omega)]; first | assumption | exact e_up_s | (rw [e_up_n (by first | assumption | omega)]; first | assumption | exact e_up_s))) | exact hD.1 | exact hD1.1 | exact hD2.1 | exact gD.1 | exact gD1.1 | exact gD2.1 | exact gQ.1 | exact hQ.1 | exact gS.1 | exact hS.1 | exact zD.1) rfl rfl w_mn_RX3_73 dX3_isFirstSealSound_67 (by rfl) (Nat.le_of_ble_eq_true rfl) (by decide) (by omega) (fun _ _ _ h _ => False.elim h) (fun r_67 w_67 n_67 h_67 hn_67 => ?_)
              obtain ⟨rfl, ew_67, en_67⟩ := h_67
              rw [ew_67, en_67]
              refine e_aload_n F dX3_isFirstSealSound_70 rfl ?_
              refine e_get (ci := 3) (fi := 2) (q := (RX3, TX3, 5)) F (by first | assumption | exact e_up_s | (rw [e_up_n (by first | assumption | omega)]; first | assumption | exact e_up_s | (rw [e_up_n (by first | assumption | omega)]; first | assumption | exact e_up_s | (rw [e_up_n (by first | assumption | omega)]; first | assumption | exact e_up_s))) | exact hD.1 | exact hD1.1 | exact hD2.1 | exact gD.1 | exact gD1.1 | exact gD2.1 | exact gQ.1 | exact hQ.1 | exact gS.1 | exact hS.1 | exact zD.1) rfl (by decide) w_fl_RX3_25 (by rfl) dX3_isFirstSealSound_71 ?_
              refine e_iload_n F dX3_isFirstSealSound_74 rfl ?_
              refine e_aald9 F hga (by omega) (by omega) (by decide) (hgj k (by omega)) dX3_isFirstSealSound_75 ?_
              refine e_iconst F dX3_isFirstSealSound_76 ?_
              refine e_callVN F u_X0_sealAt (by rfl) (c_X0_sealAt hD (h := 0) (by decide)) (by first | assumption | exact e_up_s | (rw [e_up_n (by first | assumption | omega)]; first | assumption | exact e_up_s | (rw [e_up_n (by first | assumption | omega)]; first | assumption | exact e_up_s | (rw [e_up_n (by first | assumption | omega)]; first | assumption | exact e_up_s))) | exact hD.1 | exact hD1.1 | exact hD2.1 | exact gD.1 | exact gD1.1 | exact gD2.1 | exact gQ.1 | exact hQ.1 | exact gS.1 | exact hS.1 | exact zD.1) rfl rfl w_mn_RX3_137 dX3_isFirstSealSound_77 (by rfl) (Nat.le_of_ble_eq_true rfl) (by decide) (by omega) (fun _ _ _ h _ => False.elim h) (fun r_77 w_77 n_77 h_77 hn_77 => ?_)
              obtain ⟨rfl, ew_77, en_77⟩ := h_77
              rw [ew_77, en_77, if_pos (show 0 ≤ (0 : Int) ∧ 0 < (D k).sc from ⟨by omega, by omega⟩)]
              have hB0 := hW.2.1 0 (by omega) (by omega)
              have hsl := sl_rg (v := tl wh (fs7 (D k).A (D k).dg) (D k).A 0) hwh
              refine e_icmp_ne F 87 dX3_isFirstSealSound_80 (by decide) (⟨by omega, by omega⟩) (⟨by omega, by omega⟩) (fun c_80 => ?_) (fun c_80 => ?_)
              · refine e_iconst F dX3_isFirstSealSound_87 ?_
                refine e_zret F rfl (by omega) (by omega) ?_ dX3_isFirstSealSound_88
                refine ⟨?_, rfl, rfl⟩
                have e6 : fss wh D 6 = decide (dok wh (D k)) := by rw [← heq, e7, if_pos c_20]
                rw [e6]
                first | (rw [b01_f]; rw [decide_eq_true_iff]; exact fun q => q.elim c_34 (fun q => q.elim (fun q => q c_48) c_80)) | (rw [b01_t]; rw [decide_eq_true_iff]; first | exact Or.inl c_34 | exact Or.inr (Or.inl c_48) | exact Or.inr (Or.inr c_80))
              · refine e_iconst F dX3_isFirstSealSound_83 ?_
                refine e_goto F 88 dX3_isFirstSealSound_84 (by decide) ?_
                refine e_zret F rfl (by omega) (by omega) ?_ dX3_isFirstSealSound_88
                refine ⟨?_, rfl, rfl⟩
                have e6 : fss wh D 6 = decide (dok wh (D k)) := by rw [← heq, e7, if_pos c_20]
                rw [e6]
                first | (rw [b01_f]; rw [decide_eq_true_iff]; exact fun q => q.elim c_34 (fun q => q.elim (fun q => q c_48) c_80)) | (rw [b01_t]; rw [decide_eq_true_iff]; first | exact Or.inl c_34 | exact Or.inr (Or.inl c_48) | exact Or.inr (Or.inr c_80))
  refine e_iconst F dX3_isFirstSealSound_0 ?_
  refine e_istore_n F dX3_isFirstSealSound_1 (by decide) ?_
  exact e_go (lp 7 0 (by omega) ⟨by omega, rfl⟩) (And.intro rfl (And.intro rfl (trivial)))
set_option maxHeartbeats 4000000 in
set_option maxRecDepth 100000 in
theorem c_X3_init {K : e_K} {l : Launch} {w : e_W} {n : Nat} {x : Nat} (h0 : w x = some (.inl (3, [.null, .null, .null, .null, .int (eI 0)]))) (hn : n = x + 1) : e_Met K l yX3_init (Cond.code yX3_init cX3_init 2 none :: e_TB) (3) (26) [.ref x] w n (fun r w' n' => r = none ∧ n' = x + 27 ∧ CW w' x 3 0 (fun _ => SD0) ∧ ∀ q, q < x → w' q = w q) (e_px0) := by
  refine e_ofV rfl (Nat.le_of_ble_eq_true rfl) ?_
  intro P9 E9 S9 M9 A9 B9 T9 C9 F hnm
  subst hn
  have lp : ∀ (N k : Nat) (wl : e_W) (g : Nat → Value), 6 - k < N → (k ≤ 6 ∧ wl x = some (.inl (3, [.ref (x + 1), .ref (x + 2), .ref (x + 5), .null, .int (eI 0)])) ∧ wl (x + 1) = some (FO 3) ∧ PL wl (x + 2) (fun _ => 0) ∧ wl (x + 5) = some (.inr (9, 6, g)) ∧ (∀ j : Nat, j < k → g j = .ref (x + 6 + 3 * j) ∧ DS wl (x + 6 + 3 * j) SD0) ∧ ∀ q, q < x → wl q = w q) → e_V K P9 l E9 (3) (26) S9 M9 A9 B9 T9 C9 2 (fun r w' n' => r = none ∧ n' = x + 27 ∧ CW w' x 3 0 (fun _ => SD0) ∧ ∀ q, q < x → w' q = w q) (e_px0) 37 [(0, .ref x), (1, .int (eI (k : Int)))] [] wl (x + 6 + 3 * k) ((5 + 3 * k)) := by
    intro N
    induction N with
    | zero => intro k wl g hN; exact absurd hN (Nat.not_lt_zero _)
    | succ N ih =>
      intro k wl g hN ⟨hk, g0, g1, g2, g5, gj, gf⟩
      refine e_iload_n F dX3_init_37 rfl ?_
      refine e_aload_n F dX3_init_38 rfl ?_
      refine e_get (ci := 3) (fi := 2) (q := (RX3, TX3, 5)) F (by first | assumption | exact e_up_s | (rw [e_up_n (by first | assumption | omega)]; first | assumption | exact e_up_s | (rw [e_up_n (by first | assumption | omega)]; first | assumption | exact e_up_s | (rw [e_up_n (by first | assumption | omega)]; first | assumption | exact e_up_s))) | exact hD.1 | exact hD1.1 | exact hD2.1 | exact gD.1 | exact gD1.1 | exact gD2.1 | exact gQ.1 | exact hQ.1 | exact gS.1 | exact hS.1 | exact zD.1) rfl (by decide) w_fl_RX3_25 (by rfl) dX3_init_39 ?_
      refine e_alen9 F (by first | assumption | exact e_up_s | (rw [e_up_n (by first | assumption | omega)]; first | assumption | exact e_up_s | (rw [e_up_n (by first | assumption | omega)]; first | assumption | exact e_up_s | (rw [e_up_n (by first | assumption | omega)]; first | assumption | exact e_up_s))) | exact hD.1 | exact hD1.1 | exact hD2.1 | exact gD.1 | exact gD1.1 | exact gD2.1 | exact gQ.1 | exact hQ.1 | exact gS.1 | exact hS.1 | exact zD.1) dX3_init_42 ?_
      refine e_icmp_ge F 65 dX3_init_43 (by decide) (⟨by omega, by omega⟩) (⟨by omega, by omega⟩) (fun c_43 => ?_) (fun c_43 => ?_)
      ·
        obtain rfl : k = 6 := by omega
        refine e_aload_n F dX3_init_65 rfl ?_
        refine e_newO F (ci := 0) (q := (RX0, TX0, 5)) (fs := [.int (eI 0), .int (eI 0), .int (eI 0), .null, .null]) rfl (by omega) w_cl_RX3_23 w_is_RX0 w_in_RX0 (by decide) (by intro j hj; have hj9 : j < 5 := hj; rcases j with _ | _ | _ | _ | _ | j <;> first | rfl | omega) dX3_init_66 ?_
        refine e_dup F dX3_init_69 rfl ?_
        refine e_callIN F u_X0_init (by rfl) (c_X0_init (d := x + 24) (v3 := .null) (v4 := .null) e_up_s rfl) w_mn_RX3_29 dX3_init_70 (by rfl) (Nat.le_of_ble_eq_true rfl) (by decide) (by omega) (fun _ _ _ h _ => False.elim h) (fun r_70 w_70 n_70 h_70 hn_70 => ?_)
        obtain ⟨rfl, en70, yD, yF⟩ := h_70
        rw [en70]
        refine e_setF (host := "") (ci := 3) (fi := 3) (q := (RX3, TX3, 5)) F (show w_70 x = _ by rw [yF _ (by omega), e_up_n (by omega)]; exact g0) rfl (by decide) w_fl_RX3_30 hnm rfl rfl rfl (by rfl) (Nat.le_of_ble_eq_true rfl) dX3_init_73 ?_
        refine e_aload_n F dX3_init_76 rfl ?_
        refine e_iconst F dX3_init_77 ?_
        refine e_set (host := "") (ci := 3) (fi := 4) (q := (RX3, TX3, 5)) F e_up_s rfl (by decide) w_fl_RX3_34 rfl (by rfl) (by rfl) (Nat.le_of_ble_eq_true rfl) dX3_init_78 ?_
        refine e_vret F rfl (by omega) ?_ dX3_init_81
        refine ⟨rfl, by omega, ⟨e_up_s, ?_, by decide, ⟨_, g2.fr ?_ ?_ ?_⟩, ⟨g, ?_, fun j hj => (gj j hj).1⟩, fun j hj => ⟨(gj j hj).2.fr ?_ ?_ ?_, SD0_SW 3⟩, SD0, yD.fr ?_ ?_ ?_⟩, fun q hq => ?_⟩
        · rw [e_up_n (by omega), e_up_n (by omega), yF _ (by omega), e_up_n (by omega)]; exact g1
        · rw [e_up_n (by omega), e_up_n (by omega), yF _ (by omega), e_up_n (by omega)]
        · rw [e_up_n (by omega), e_up_n (by omega), yF _ (by omega), e_up_n (by omega)]
        · rw [e_up_n (by omega), e_up_n (by omega), yF _ (by omega), e_up_n (by omega)]
        · rw [e_up_n (by omega), e_up_n (by omega), yF _ (by omega), e_up_n (by omega)]; exact g5
        · rw [e_up_n (by omega), e_up_n (by omega), yF _ (by omega), e_up_n (by omega)]
        · rw [e_up_n (by omega), e_up_n (by omega), yF _ (by omega), e_up_n (by omega)]
        · rw [e_up_n (by omega), e_up_n (by omega), yF _ (by omega), e_up_n (by omega)]
        · rw [e_up_n (by omega), e_up_n (by omega)]
        · rw [e_up_n (by omega), e_up_n (by omega)]
        · rw [e_up_n (by omega), e_up_n (by omega)]
        · rw [e_up_n (by omega), e_up_n (by omega), yF _ (by omega), e_up_n (by omega)]; exact gf q hq
      · refine e_aload_n F dX3_init_46 rfl ?_
        refine e_get (ci := 3) (fi := 2) (q := (RX3, TX3, 5)) F (by first | assumption | exact e_up_s | (rw [e_up_n (by first | assumption | omega)]; first | assumption | exact e_up_s | (rw [e_up_n (by first | assumption | omega)]; first | assumption | exact e_up_s | (rw [e_up_n (by first | assumption | omega)]; first | assumption | exact e_up_s))) | exact hD.1 | exact hD1.1 | exact hD2.1 | exact gD.1 | exact gD1.1 | exact gD2.1 | exact gQ.1 | exact hQ.1 | exact gS.1 | exact hS.1 | exact zD.1) rfl (by decide) w_fl_RX3_25 (by rfl) dX3_init_47 ?_
        refine e_iload_n F dX3_init_50 rfl ?_
        refine e_newO F (ci := 0) (q := (RX0, TX0, 5)) (fs := [.int (eI 0), .int (eI 0), .int (eI 0), .null, .null]) rfl (by omega) w_cl_RX3_23 w_is_RX0 w_in_RX0 (by decide) (by intro j hj; have hj9 : j < 5 := hj; rcases j with _ | _ | _ | _ | _ | j <;> first | rfl | omega) dX3_init_51 ?_
        refine e_dup F dX3_init_54 rfl ?_
        refine e_callIN F u_X0_init (by rfl) (c_X0_init (d := x + 6 + 3 * k) (v3 := .null) (v4 := .null) e_up_s rfl) w_mn_RX3_29 dX3_init_55 (by rfl) (Nat.le_of_ble_eq_true rfl) (by decide) (by omega) (fun _ _ _ h _ => False.elim h) (fun r_55 w_55 n_55 h_55 hn_55 => ?_)
        obtain ⟨rfl, en55, yD, yF⟩ := h_55
        rw [en55, show x + 6 + 3 * k + 3 = x + 6 + 3 * (k + 1) by omega, show 5 + 3 * k + 1 + 2 = 5 + 3 * (k + 1) by omega]
        refine e_aastD F (show w_55 (x + 5) = some (.inr (9, 6, g)) by rw [yF _ (by omega), e_up_n (by omega)]; exact g5) yD.1 (by omega) (by omega) (by decide) dX3_init_58 ?_
        refine e_iinc F dX3_init_59 rfl (by decide) ?_
        refine e_goto F 37 dX3_init_62 (by decide) ?_
        refine e_go (ih (k + 1) _ _ (by omega) ⟨by omega, by rw [e_up_n (by omega), yF x (by omega), e_up_n (by omega)]; exact g0, by rw [e_up_n (by omega), yF _ (by omega), e_up_n (by omega)]; exact g1, g2.fr (by rw [e_up_n (by omega), yF _ (by omega), e_up_n (by omega)]) (by rw [e_up_n (by omega), yF _ (by omega), e_up_n (by omega)]) (by rw [e_up_n (by omega), yF _ (by omega), e_up_n (by omega)]), e_up_s, fun j hj => ?_, fun q hq => by rw [e_up_n (by omega), yF _ (by omega), e_up_n (by omega)]; exact gf q hq⟩) (And.intro rfl (And.intro rfl (trivial)))
        by_cases e9 : j = k
        · subst e9
          exact ⟨if_pos rfl, yD.fr (e_up_n (by omega)) (e_up_n (by omega)) (e_up_n (by omega))⟩
        · have hj2 := gj j (by omega)
          refine ⟨(if_neg (by omega)).trans hj2.1, hj2.2.fr ?_ ?_ ?_⟩ <;> rw [e_up_n (by omega), yF _ (by omega), e_up_n (by omega)]
  refine e_aload_n F dX3_init_0 rfl ?_
  refine e_oinit F w_ml_RX3_1 w_im_java_lang_Object__init____V w_co_oinit (Nat.le_of_ble_eq_true rfl) (by decide) dX3_init_1 ?_
  refine e_aload_n F dX3_init_4 rfl ?_
  refine e_newO F (ci := 1) (q := (RX1, TX1, 5)) (fs := [.int (eI 0), .int (eI 0), .int (eI 0), .int (eI 0), .int (eI 0)]) rfl (by omega) w_cl_RX3_7 w_is_RX1 w_in_RX1 (by decide) (by intro j hj; have hj9 : j < 5 := hj; rcases j with _ | _ | _ | _ | _ | j <;> first | rfl | omega) dX3_init_5 ?_
  refine e_dup F dX3_init_8 rfl ?_
  refine e_callIN F u_X1_init (by rfl) (c_X1_init (f := x + 1) (x0 := 0) (x1 := 0) (x2 := 0) (x3 := 0) (x4 := 0) e_up_s) w_mn_RX3_9 dX3_init_9 (by rfl) (Nat.le_of_ble_eq_true rfl) (by decide) (by omega) (fun _ _ _ h _ => False.elim h) (fun r_9 w_9 n_9 h_9 hn_9 => ?_)
  obtain ⟨rfl, f1, fF, en9⟩ := h_9
  rw [en9]
  refine e_setF (host := "") (ci := 3) (fi := 0) (q := (RX3, TX3, 5)) F (show w_9 x = _ by rw [fF x (by omega), e_up_n (by omega)]; exact h0) rfl (by decide) w_fl_RX3_10 hnm rfl rfl rfl (by rfl) (Nat.le_of_ble_eq_true rfl) dX3_init_12 ?_
  refine e_aload_n F dX3_init_15 rfl ?_
  refine e_newO F (ci := 2) (q := (RX2, TX2, 2)) (fs := [.null, .null]) rfl (by omega) w_cl_RX3_16 w_is_RX2 w_in_RX2 (by decide) (by intro j hj; have hj9 : j < 2 := hj; rcases j with _ | _ | j <;> first | rfl | omega) dX3_init_16 ?_
  refine e_dup F dX3_init_19 rfl ?_
  refine e_callIN F u_X2_init (by rfl) (c_X2_init (a := x + 2) (v0 := .null) (v1 := .null) e_up_s rfl) w_mn_RX3_18 dX3_init_20 (by rfl) (Nat.le_of_ble_eq_true rfl) (by decide) (by omega) (fun _ _ _ h _ => False.elim h) (fun r_20 w_20 n_20 h_20 hn_20 => ?_)
  obtain ⟨rfl, en20, zQ, zF⟩ := h_20
  rw [en20]
  refine e_setF (host := "") (ci := 3) (fi := 1) (q := (RX3, TX3, 5)) F (show w_20 x = _ by rw [zF x (by omega), e_up_n (by omega)]; exact e_up_s) rfl (by decide) w_fl_RX3_19 hnm rfl rfl rfl (by rfl) (Nat.le_of_ble_eq_true rfl) dX3_init_23 ?_
  refine e_aload_n F dX3_init_26 rfl ?_
  refine e_bipush F dX3_init_27 (by decide) ?_
  refine e_newA9 F (N := 6) (by rfl) (by decide) (by omega) w_cl_RX3_23 (by decide +kernel) dX3_init_29 ?_
  refine e_setF (host := "") (ci := 3) (fi := 2) (q := (RX3, TX3, 5)) F (by first | assumption | exact e_up_s | (rw [e_up_n (by first | assumption | omega)]; first | assumption | exact e_up_s | (rw [e_up_n (by first | assumption | omega)]; first | assumption | exact e_up_s | (rw [e_up_n (by first | assumption | omega)]; first | assumption | exact e_up_s))) | exact hD.1 | exact hD1.1 | exact hD2.1 | exact gD.1 | exact gD1.1 | exact gD2.1 | exact gQ.1 | exact hQ.1 | exact gS.1 | exact hS.1 | exact zD.1) rfl (by decide) w_fl_RX3_25 hnm rfl rfl rfl (by rfl) (Nat.le_of_ble_eq_true rfl) dX3_init_32 ?_
  refine e_iconst F dX3_init_35 ?_
  refine e_istore_n F dX3_init_36 (by decide) ?_
  refine e_go (lp 7 0 _ (fun _ => .null) (by omega) ⟨by omega, e_up_s, ?_, ?_, ?_, fun j hj => absurd hj (Nat.not_lt_zero _), fun q hq => ?_⟩) (And.intro rfl (And.intro rfl (trivial)))
  · rw [e_up_n (by omega), e_up_n (by omega), e_up_n (by omega), zF _ (by omega), e_up_n (by omega), e_up_n (by omega)]; exact f1
  · exact zQ.fr (by rw [e_up_n (by omega), e_up_n (by omega), e_up_n (by omega)]) (by rw [e_up_n (by omega), e_up_n (by omega), e_up_n (by omega)]) (by rw [e_up_n (by omega), e_up_n (by omega), e_up_n (by omega)])
  · rw [e_up_n (by omega)]; exact e_up_s
  · rw [e_up_n (by omega), e_up_n (by omega), e_up_n (by omega), zF _ (by omega), e_up_n (by omega), e_up_n (by omega), fF q (by omega), e_up_n (by omega)]
