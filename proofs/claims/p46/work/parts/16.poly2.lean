/-! Poly: addTerm, goThrough -/
theorem PA.fr {w w' : e_W} {a N : Nat} {lo hi : Int} {P : Int → Int} (h : PA w a N lo hi P) (hq : w' a = w a) : PA w' a N lo hi P := by
  obtain ⟨f, h1, h2⟩ := h
  exact ⟨f, by rw [hq]; exact h1, h2⟩
theorem DL.fr {w w' : e_W} {d : Nat} {fl dg sc : Int} {A B : Int → Int} (h : DL w d fl dg sc A B) (h0 : w' d = w d) (h1 : w' (d + 1) = w (d + 1)) (h2 : w' (d + 2) = w (d + 2)) : DL w' d fl dg sc A B :=
  ⟨by rw [h0]; exact h.1, h.2.1.fr h1, h.2.2.1.fr h2, h.2.2.2⟩
theorem DO_ne {w : e_W} {d a N : Nat} {g : Int → Int} {x y z : Int} (h1 : w d = some (DO d x y z)) (h2 : w a = some (e_ia N g)) : d ≠ a := by
  intro e
  rw [e, h2] at h1
  cases h1
theorem ia_ne {w : e_W} {d a N M : Nat} {f g : Int → Int} (h1 : w d = some (e_ia M f)) (h2 : w a = some (e_ia N g)) (hn : M ≠ N) : d ≠ a := by
  intro e
  rw [e, h2] at h1
  have h3 := Sum.inr.inj (Option.some.inj h1)
  exact hn (Prod.mk.inj (Prod.mk.inj h3).2).1.symm
set_option maxHeartbeats 4000000 in
set_option maxRecDepth 100000 in
theorem c_X2_addTerm {K : e_K} {l : Launch} {w : e_W} {n : Nat} {a : Nat} {P : Int → Int} (hQ : PL w a P) {f wh : Nat} (hF : w f = some (FO wh)) (hwh : wh < 7) {fc : Int} {t : Int → Int} (hfc : 0 ≤ fc ∧ fc < pr wh) (ht : w (a + 2) = some (e_ia 7 t)) (htr : ∀ j, 0 ≤ j → j < 7 → 0 ≤ t j ∧ t j < pr wh) : e_Met K l yX2_addTerm (Cond.code yX2_addTerm cX2_addTerm 4 none :: e_TB) (1) (0) [.ref a, .ref f, .int (eI fc)] w n (fun r w' n' => r = none ∧ n' = n ∧ PL w' a (fun j => (P j + fc * t j) % pr wh) ∧ ∀ q, q ≠ a + 1 → w' q = w q) (e_px0) := by
  refine e_ofV rfl (Nat.le_of_ble_eq_true rfl) ?_
  intro P9 E9 S9 M9 A9 B9 T9 C9 F hnm
  have hp := pr_rg wh hwh
  have ho9 := ho_rg wh hwh
  have hQ0 := hQ
  obtain ⟨h0, ⟨P9f, hf, hfP⟩, ⟨t9, ht9⟩, hr⟩ := hQ
  have hne1 : f ≠ a + 1 := FO_ne hF hf
  have lp : ∀ (N : Nat) (i : Int) (wl : e_W) (u : Int → Int), (7 - i).toNat < N → (0 ≤ i ∧ i ≤ 7 ∧ wl a = some (PO a) ∧ wl (a + 1) = some (e_ia 7 u) ∧ wl (a + 2) = some (e_ia 7 t) ∧ (∀ q, q ≠ a + 1 → wl q = w q) ∧ (∀ j, 0 ≤ j → j < 7 → u j = if j < i then (P j + fc * t j) % pr wh else P j)) → e_V K P9 l E9 (1) (0) S9 M9 A9 B9 T9 C9 4 (fun r w' n' => r = none ∧ n' = n ∧ PL w' a (fun j => (P j + fc * t j) % pr wh) ∧ ∀ q, q ≠ a + 1 → w' q = w q) (e_px0) 2 [(0, .ref a), (1, .ref f), (2, .int (eI fc)), (3, .int (eI i))] [] wl n (0) := by
    intro N
    induction N with
    | zero => intro i wl u hN; exact absurd hN (Nat.not_lt_zero _)
    | succ N ih =>
      intro i wl u hN ⟨h1, h2, g0, gr, gt9, gF, gp⟩
      have hF9 : wl f = some (FO wh) := by rw [gF f hne1]; exact hF
      refine e_iload_n F dX2_addTerm_2 rfl ?_
      refine e_aload_n F dX2_addTerm_3 rfl ?_
      refine e_get (ci := 2) (fi := 0) (q := (RX2, TX2, 2)) F (by first | assumption | exact e_up_s | (rw [e_up_n (by first | assumption | omega)]; first | assumption | exact e_up_s | (rw [e_up_n (by first | assumption | omega)]; first | assumption | exact e_up_s | (rw [e_up_n (by first | assumption | omega)]; first | assumption | exact e_up_s))) | exact hD.1 | exact hD1.1 | exact hD2.1 | exact gD.1 | exact gD1.1 | exact gD2.1 | exact gQ.1 | exact hQ.1 | exact gS.1 | exact hS.1 | exact zD.1) rfl (by decide) w_fl_RX2_9 (by rfl) dX2_addTerm_4 ?_
      refine e_alenI F (by first | assumption | exact e_up_s | (rw [e_up_n (by first | assumption | omega)]; first | assumption | exact e_up_s | (rw [e_up_n (by first | assumption | omega)]; first | assumption | exact e_up_s | (rw [e_up_n (by first | assumption | omega)]; first | assumption | exact e_up_s))) | exact hD.1 | exact hD1.1 | exact hD2.1 | exact gD.1 | exact gD1.1 | exact gD2.1 | exact gQ.1 | exact hQ.1 | exact gS.1 | exact hS.1 | exact zD.1) dX2_addTerm_7 ?_
      refine e_icmp_ge F 54 dX2_addTerm_8 (by decide) (⟨by omega, by omega⟩) (⟨by omega, by omega⟩) (fun c_8 => ?_) (fun c_8 => ?_)
      · refine e_vret F rfl (by omega) ?_ dX2_addTerm_54
        refine ⟨rfl, rfl, ⟨g0, ⟨u, gr, fun j j0 j1 => by rw [gp j j0 j1, if_pos (by omega)]⟩, ⟨t, gt9⟩, fun j j0 j1 => ?_⟩, gF⟩
        have h8 := emod_rg (P j + fc * t j) hwh
        dsimp only
        omega
      · refine e_iload_n F dX2_addTerm_11 rfl ?_
        refine e_aload_n F dX2_addTerm_12 rfl ?_
        refine e_get (ci := 2) (fi := 1) (q := (RX2, TX2, 2)) F (by first | assumption | exact e_up_s | (rw [e_up_n (by first | assumption | omega)]; first | assumption | exact e_up_s | (rw [e_up_n (by first | assumption | omega)]; first | assumption | exact e_up_s | (rw [e_up_n (by first | assumption | omega)]; first | assumption | exact e_up_s))) | exact hD.1 | exact hD1.1 | exact hD2.1 | exact gD.1 | exact gD1.1 | exact gD2.1 | exact gQ.1 | exact hQ.1 | exact gS.1 | exact hS.1 | exact zD.1) rfl (by decide) w_fl_RX2_15 (by rfl) dX2_addTerm_13 ?_
        refine e_alenI F gt9 dX2_addTerm_16 ?_
        refine e_icmp_ge F 54 dX2_addTerm_17 (by decide) (⟨by omega, by omega⟩) (⟨by omega, by omega⟩) (fun c_17 => ?_) (fun c_17 => ?_)
        · exact absurd c_17 (by omega)
        · refine e_aload_n F dX2_addTerm_20 rfl ?_
          refine e_get (ci := 2) (fi := 0) (q := (RX2, TX2, 2)) F (by first | assumption | exact e_up_s | (rw [e_up_n (by first | assumption | omega)]; first | assumption | exact e_up_s | (rw [e_up_n (by first | assumption | omega)]; first | assumption | exact e_up_s | (rw [e_up_n (by first | assumption | omega)]; first | assumption | exact e_up_s))) | exact hD.1 | exact hD1.1 | exact hD2.1 | exact gD.1 | exact gD1.1 | exact gD2.1 | exact gQ.1 | exact hQ.1 | exact gS.1 | exact hS.1 | exact zD.1) rfl (by decide) w_fl_RX2_9 (by rfl) dX2_addTerm_21 ?_
          refine e_iload_n F dX2_addTerm_24 rfl ?_
          refine e_aload_n F dX2_addTerm_25 rfl ?_
          refine e_aload_n F dX2_addTerm_26 rfl ?_
          refine e_get (ci := 2) (fi := 0) (q := (RX2, TX2, 2)) F (by first | assumption | exact e_up_s | (rw [e_up_n (by first | assumption | omega)]; first | assumption | exact e_up_s | (rw [e_up_n (by first | assumption | omega)]; first | assumption | exact e_up_s | (rw [e_up_n (by first | assumption | omega)]; first | assumption | exact e_up_s))) | exact hD.1 | exact hD1.1 | exact hD2.1 | exact gD.1 | exact gD1.1 | exact gD2.1 | exact gQ.1 | exact hQ.1 | exact gS.1 | exact hS.1 | exact zD.1) rfl (by decide) w_fl_RX2_9 (by rfl) dX2_addTerm_27 ?_
          refine e_iload_n F dX2_addTerm_30 rfl ?_
          refine e_iald F gr (by omega) (by omega) (by first | decide | omega) dX2_addTerm_31 ?_
          rw [gp i h1 (by omega), if_neg (by omega)]
          have hi1 := hr i h1 (by omega)
          have hi2 := htr i h1 (by omega)
          have hm := mul_rg3 (a := fc) (by omega) (by omega) (b := t i) (by omega) (by omega) (c := P i) (by omega) (by omega)
          refine e_i2l F dX2_addTerm_32 (⟨by omega, by omega⟩) ?_
          refine e_iload_n F dX2_addTerm_33 rfl ?_
          refine e_i2l F dX2_addTerm_34 (⟨by omega, by omega⟩) ?_
          refine e_aload_n F dX2_addTerm_35 rfl ?_
          refine e_get (ci := 2) (fi := 1) (q := (RX2, TX2, 2)) F (by first | assumption | exact e_up_s | (rw [e_up_n (by first | assumption | omega)]; first | assumption | exact e_up_s | (rw [e_up_n (by first | assumption | omega)]; first | assumption | exact e_up_s | (rw [e_up_n (by first | assumption | omega)]; first | assumption | exact e_up_s))) | exact hD.1 | exact hD1.1 | exact hD2.1 | exact gD.1 | exact gD1.1 | exact gD2.1 | exact gQ.1 | exact hQ.1 | exact gS.1 | exact hS.1 | exact zD.1) rfl (by decide) w_fl_RX2_15 (by rfl) dX2_addTerm_36 ?_
          refine e_iload_n F dX2_addTerm_39 rfl ?_
          refine e_iald F gt9 (by omega) (by omega) (by first | decide | omega) dX2_addTerm_40 ?_
          refine e_i2l F dX2_addTerm_41 (⟨by omega, by omega⟩) ?_
          refine e_lmul F dX2_addTerm_42 ?_
          refine e_ladd F dX2_addTerm_43 ?_
          refine e_callVN F u_X1_modPrime (by rfl) (c_X1_modPrime hF9 hwh hm.1) (by first | assumption | exact e_up_s | (rw [e_up_n (by first | assumption | omega)]; first | assumption | exact e_up_s | (rw [e_up_n (by first | assumption | omega)]; first | assumption | exact e_up_s | (rw [e_up_n (by first | assumption | omega)]; first | assumption | exact e_up_s))) | exact hD.1 | exact hD1.1 | exact hD2.1 | exact gD.1 | exact gD1.1 | exact gD2.1 | exact gQ.1 | exact hQ.1 | exact gS.1 | exact hS.1 | exact zD.1) rfl rfl w_mn_RX2_18 dX2_addTerm_44 (by rfl) (Nat.le_of_ble_eq_true rfl) (by decide) (by omega) (fun _ _ _ h _ => False.elim h) (fun r_44 w_44 n_44 h_44 hn_44 => ?_)
          obtain ⟨rfl, ew_44, en_44⟩ := h_44
          rw [ew_44, en_44]
          refine e_iast F gr (by omega) (by omega) (by first | decide | omega) dX2_addTerm_47 ?_
          refine e_iinc F dX2_addTerm_48 rfl (by decide) ?_
          refine e_goto F 2 dX2_addTerm_51 (by decide) ?_
          refine e_go (ih (i + 1) (e_up wl (a + 1) (e_ia 7 (e_fu u i ((P i + fc * t i) % pr wh)))) (e_fu u i ((P i + fc * t i) % pr wh)) (by omega) ⟨by omega, by omega, by rw [e_up_n (by omega)]; exact g0, e_up_s, by rw [e_up_n (by omega)]; exact gt9, fun q q1 => by rw [e_up_n q1]; exact gF q q1, fun j j0 j1 => ?_⟩) (And.intro rfl (And.intro rfl (And.intro rfl (And.intro rfl (trivial)))))
          unfold e_fu
          split
          · rename_i q; rw [if_pos (by omega), q]
          · rw [gp j j0 j1]
            by_cases q : j < i
            · rw [if_pos q, if_pos (by omega)]
            · rw [if_neg q, if_neg (by omega)]
  refine e_iconst F dX2_addTerm_0 ?_
  refine e_istore_n F dX2_addTerm_1 (by decide) ?_
  exact e_go (lp 8 0 w P9f (by omega) ⟨by omega, by omega, h0, hf, ht, fun q _ => rfl, fun j j0 j1 => by rw [if_neg (by omega)]; exact hfP j j0 j1⟩) (And.intro rfl (And.intro rfl (And.intro rfl (And.intro rfl (trivial)))))
set_option maxHeartbeats 4000000 in
set_option maxRecDepth 100000 in
theorem c_X0_shareAtW {K : e_K} {l : Launch} {w : e_W} {n : Nat} {d : Nat} {fl dg sc : Int} {A B : Int → Int} (h0 : w d = some (DO d fl dg sc)) (hA9 : PA w (d + 1) 8 1 8 A) (hW : DW fl dg sc A B) {h : Int} (h1 : 1 ≤ h) (h2 : h ≤ 7) : e_Met K l yX0_shareAt (Cond.code yX0_shareAt cX0_shareAt 2 (Option.some .int) :: e_TB) (0) (0) [.ref d, .int (eI h)] w n (fun r w' n' => r = some (.int (eI (A h))) ∧ w' = w ∧ n' = n) (e_px0) := by
  refine e_ofV rfl (Nat.le_of_ble_eq_true rfl) ?_
  intro P9 E9 S9 M9 A9 B9 T9 C9 F hnm
  obtain ⟨f, hf, hfA⟩ := hA9
  refine e_iload_n F dX0_shareAt_0 rfl ?_
  refine e_iconst F dX0_shareAt_1 ?_
  refine e_icmp_lt F 23 dX0_shareAt_2 (by decide) (⟨by omega, by omega⟩) (⟨by omega, by omega⟩) (fun c_2 => ?_) (fun c_2 => ?_)
  · exact absurd c_2 (by omega)
  · refine e_iload_n F dX0_shareAt_5 rfl ?_
    refine e_aload_n F dX0_shareAt_6 rfl ?_
    refine e_get (ci := 0) (fi := 3) (q := (RX0, TX0, 5)) F (by first | assumption | exact e_up_s | (rw [e_up_n (by first | assumption | omega)]; first | assumption | exact e_up_s | (rw [e_up_n (by first | assumption | omega)]; first | assumption | exact e_up_s | (rw [e_up_n (by first | assumption | omega)]; first | assumption | exact e_up_s))) | exact hD.1 | exact hD1.1 | exact hD2.1 | exact gD.1 | exact gD1.1 | exact gD2.1 | exact gQ.1 | exact hQ.1 | exact gS.1 | exact hS.1 | exact zD.1) rfl (by decide) w_fl_RX0_9 (by rfl) dX0_shareAt_7 ?_
    refine e_alenI F (by first | assumption | exact e_up_s | (rw [e_up_n (by first | assumption | omega)]; first | assumption | exact e_up_s | (rw [e_up_n (by first | assumption | omega)]; first | assumption | exact e_up_s | (rw [e_up_n (by first | assumption | omega)]; first | assumption | exact e_up_s))) | exact hD.1 | exact hD1.1 | exact hD2.1 | exact gD.1 | exact gD1.1 | exact gD2.1 | exact gQ.1 | exact hQ.1 | exact gS.1 | exact hS.1 | exact zD.1) dX0_shareAt_10 ?_
    refine e_icmp_ge F 23 dX0_shareAt_11 (by decide) (⟨by omega, by omega⟩) (⟨by omega, by omega⟩) (fun c_11 => ?_) (fun c_11 => ?_)
    · exact absurd c_11 (by omega)
    · refine e_aload_n F dX0_shareAt_14 rfl ?_
      refine e_get (ci := 0) (fi := 3) (q := (RX0, TX0, 5)) F (by first | assumption | exact e_up_s | (rw [e_up_n (by first | assumption | omega)]; first | assumption | exact e_up_s | (rw [e_up_n (by first | assumption | omega)]; first | assumption | exact e_up_s | (rw [e_up_n (by first | assumption | omega)]; first | assumption | exact e_up_s))) | exact hD.1 | exact hD1.1 | exact hD2.1 | exact gD.1 | exact gD1.1 | exact gD2.1 | exact gQ.1 | exact hQ.1 | exact gS.1 | exact hS.1 | exact zD.1) rfl (by decide) w_fl_RX0_9 (by rfl) dX0_shareAt_15 ?_
      refine e_iload_n F dX0_shareAt_18 rfl ?_
      refine e_iald F (by first | assumption | exact e_up_s | (rw [e_up_n (by first | assumption | omega)]; first | assumption | exact e_up_s | (rw [e_up_n (by first | assumption | omega)]; first | assumption | exact e_up_s | (rw [e_up_n (by first | assumption | omega)]; first | assumption | exact e_up_s))) | exact hD.1 | exact hD1.1 | exact hD2.1 | exact gD.1 | exact gD1.1 | exact gD2.1 | exact gQ.1 | exact hQ.1 | exact gS.1 | exact hS.1 | exact zD.1) (by omega) (by omega) (by first | decide | omega) dX0_shareAt_19 ?_
      refine e_goto F 24 dX0_shareAt_20 (by decide) ?_
      refine e_iret F rfl (by omega) ?_ dX0_shareAt_24
      exact ⟨by rw [hfA h h1 (by omega)], rfl, rfl⟩
set_option maxHeartbeats 4000000 in
set_option maxRecDepth 100000 in
theorem c_X2_goThrough {K : e_K} {l : Launch} {w : e_W} {n : Nat} {a : Nat} {P : Int → Int} (hQ : PL w a P) {f wh : Nat} (hF : w f = some (FO wh)) (hwh : wh < 7) {d : Nat} {fl dg sc : Int} {A B : Int → Int} (hD : DL w d fl dg sc A B) {set : Int} (h1 : 0 ≤ set) (h2 : set < 2147483648) : e_Met K l yX2_goThrough (Cond.code yX2_goThrough cX2_goThrough 7 none :: e_TB) (3) (0) [.ref a, .ref f, .ref d, .int (eI set)] w n (fun r w' n' => r = none ∧ n' = n ∧ PL w' a (gt wh set A (ho wh).toNat) ∧ PF w w' a) (e_px0) := by
  refine e_ofV rfl (Nat.le_of_ble_eq_true rfl) ?_
  intro P9 E9 S9 M9 A9 B9 T9 C9 F hnm
  have hp := pr_rg wh hwh
  have ho9 := ho_rg wh hwh
  have hQ0 := hQ
  obtain ⟨h0, ⟨P9f, hf, hfP⟩, ⟨t, ht⟩, hr⟩ := hQ
  have hne1 : f ≠ a + 1 := FO_ne hF hf
  have hne2 : f ≠ a + 2 := FO_ne hF ht
  have hD0 := hD
  obtain ⟨d0, ⟨df, dfa, dfA⟩, ⟨dg9, dga, dgB⟩, hdw⟩ := hD
  have n1 : d ≠ a + 1 := DO_ne d0 hf
  have n2 : d ≠ a + 2 := DO_ne d0 ht
  have n3 : d + 1 ≠ a + 1 := ia_ne dfa hf (by decide)
  have n4 : d + 1 ≠ a + 2 := ia_ne dfa ht (by decide)
  have lp : ∀ (N : Nat) (k : Nat) (wl : e_W), (7 - k) < N → (k ≤ (ho wh).toNat ∧ PL wl a (gt wh set A k) ∧ PF w wl a) → e_V K P9 l E9 (3) (0) S9 M9 A9 B9 T9 C9 7 (fun r w' n' => r = none ∧ n' = n ∧ PL w' a (gt wh set A (ho wh).toNat) ∧ PF w w' a) (e_px0) 7 [(0, .ref a), (1, .ref f), (2, .ref d), (3, .int (eI set)), (4, .int (eI ((k : Int) + 1)))] [] wl n (0) := by
    intro N
    induction N with
    | zero => intro k wl hN; exact absurd hN (Nat.not_lt_zero _)
    | succ N ih =>
      intro k wl hN ⟨hk, gP, gF⟩
      have hF9 : wl f = some (FO wh) := by rw [gF f hne1 hne2]; exact hF
      have gP0 := gP
      obtain ⟨g0, ⟨gf, gfa, gfP⟩, ⟨gu, gua⟩, gr⟩ := gP
      refine e_iload F dX2_goThrough_7 rfl ?_
      refine e_aload_n F dX2_goThrough_9 rfl ?_
      refine e_getN (ci := 1) (fi := 4) (q := (RX1, TX1, 5)) F (by first | assumption | exact e_up_s | (rw [e_up_n (by first | assumption | omega)]; first | assumption | exact e_up_s | (rw [e_up_n (by first | assumption | omega)]; first | assumption | exact e_up_s | (rw [e_up_n (by first | assumption | omega)]; first | assumption | exact e_up_s))) | exact hD.1 | exact hD1.1 | exact hD2.1 | exact gD.1 | exact gD1.1 | exact gD2.1 | exact gQ.1 | exact hQ.1 | exact gS.1 | exact hS.1 | exact zD.1) rfl (by decide) w_fn_RX2_31 (by rfl) dX2_goThrough_10 ?_
      refine e_icmp_gt F 69 dX2_goThrough_13 (by decide) (⟨by omega, by omega⟩) (⟨by omega, by omega⟩) (fun c_13 => ?_) (fun c_13 => ?_)
      ·
        obtain rfl : k = (ho wh).toNat := by omega
        refine e_vret F rfl (by omega) ?_ dX2_goThrough_69
        exact ⟨rfl, rfl, gP0, gF⟩
      · refine e_iload_n F dX2_goThrough_16 rfl ?_
        refine e_iload F dX2_goThrough_17 rfl ?_
        refine e_callSN F u_X3_isIn (by rfl) (c_X3_isIn h1 h2 (h := (k : Int) + 1) (by omega) (by omega)) w_mn_RX2_35 dX2_goThrough_19 (by rfl) (Nat.le_of_ble_eq_true rfl) (by decide) (by omega) (fun _ _ _ h _ => False.elim h) (fun r_19 w_19 n_19 h_19 hn_19 => ?_)
        obtain ⟨rfl, ew_19, en_19⟩ := h_19
        rw [ew_19, en_19]
        refine e_if_eq F 63 dX2_goThrough_22 (by decide) (b01_r _) (fun c_22 => ?_) (fun c_22 => ?_)
        ·
          rw [b01_0] at c_22
          have q2 : gt wh set A (k + 1) = gt wh set A k := if_neg c_22
          refine e_iinc F dX2_goThrough_63 rfl (by decide) ?_
          refine e_goto F 7 dX2_goThrough_66 (by decide) ?_
          first
          | exact e_go (ih (k + 1) w_60 (by omega) ⟨by omega, z3, z4⟩) (And.intro rfl (And.intro rfl (And.intro rfl (And.intro rfl (And.intro rfl (trivial))))))
          | exact e_go (ih (k + 1) wl (by omega) ⟨by omega, by rw [q2]; exact gP0, gF⟩) (And.intro rfl (And.intro rfl (And.intro rfl (And.intro rfl (And.intro rfl (trivial))))))
        ·
          rw [b01_0, Classical.not_not] at c_22
          have q2 : gt wh set A (k + 1) = fun c => (gt wh set A k c + fac wh set A ((k : Int) + 1) * tm (pr wh) ((k : Int) + 1) set (ho wh).toNat c) % pr wh := if_pos c_22
          refine e_aload_n F dX2_goThrough_25 rfl ?_
          refine e_aload_n F dX2_goThrough_26 rfl ?_
          refine e_iload_n F dX2_goThrough_27 rfl ?_
          refine e_iload F dX2_goThrough_28 rfl ?_
          refine e_callVV F u_X2_makeTerm (by rfl) (c_X2_makeTerm gP0 hF9 hwh h1 h2 (h := (k : Int) + 1) (by omega) (by omega)) g0 rfl rfl w_ml_RX2_39 dX2_goThrough_30 (by rfl) (Nat.le_of_ble_eq_true rfl) (by decide) (by omega) (fun _ _ _ h _ => False.elim h) (fun r_30 w_30 n_30 h_30 hn_30 => ?_)
          obtain ⟨rfl, en30, z0, ⟨u2, zu, zp⟩, zF⟩ := h_30
          rw [en30]
          have hF8 : w_30 f = some (FO wh) := by rw [zF f hne2]; exact hF9
          have gP8 : PL w_30 a (gt wh set A k) := ⟨z0, ⟨gf, by rw [zF _ (by omega)]; exact gfa, gfP⟩, ⟨u2, zu⟩, gr⟩
          have d8 : w_30 d = w d := by rw [zF d n2, gF d n1 n2]
          have d9 : w_30 (d + 1) = w (d + 1) := by rw [zF _ n4, gF _ n3 n4]
          have hwp := wpr_rg (x := (k : Int) + 1) (h := (k : Int) + 1) (set := set) (show 2 ≤ pr wh by omega) (ho wh).toNat
          have hiv := iv_rg (v := wpr (pr wh) ((k : Int) + 1) ((k : Int) + 1) set (ho wh).toNat) hwh
          have hAk := hdw.2.2.2.1 ((k : Int) + 1) (by omega) (by omega)
          refine e_istore F dX2_goThrough_33 (by decide) ?_
          refine e_aload_n F dX2_goThrough_35 rfl ?_
          refine e_aload_n F dX2_goThrough_36 rfl ?_
          refine e_iload F dX2_goThrough_37 rfl ?_
          refine e_callVN F u_X0_shareAt (by rfl) (c_X0_shareAtW (by rw [d8]; exact d0) (PA.fr ⟨df, dfa, dfA⟩ d9) hdw (h := (k : Int) + 1) (by omega) (by omega)) (by rw [d8]; exact d0) rfl rfl w_mn_RX2_43 dX2_goThrough_39 (by rfl) (Nat.le_of_ble_eq_true rfl) (by decide) (by omega) (fun _ _ _ h _ => False.elim h) (fun r_39 w_39 n_39 h_39 hn_39 => ?_)
          obtain ⟨rfl, ew_39, en_39⟩ := h_39
          rw [ew_39, en_39]
          refine e_i2l F dX2_goThrough_42 (⟨by omega, by omega⟩) ?_
          refine e_aload_n F dX2_goThrough_43 rfl ?_
          refine e_iload F dX2_goThrough_44 rfl ?_
          refine e_callVN F u_X1_inverse (by rfl) (c_X1_inverse hF8 hwh hwp.1 hwp.2) (by first | assumption | exact e_up_s | (rw [e_up_n (by first | assumption | omega)]; first | assumption | exact e_up_s | (rw [e_up_n (by first | assumption | omega)]; first | assumption | exact e_up_s | (rw [e_up_n (by first | assumption | omega)]; first | assumption | exact e_up_s))) | exact hD.1 | exact hD1.1 | exact hD2.1 | exact gD.1 | exact gD1.1 | exact gD2.1 | exact gQ.1 | exact hQ.1 | exact gS.1 | exact hS.1 | exact zD.1) rfl rfl w_mn_RX2_49 dX2_goThrough_46 (by rfl) (Nat.le_of_ble_eq_true rfl) (by decide) (by omega) (fun _ _ _ h _ => False.elim h) (fun r_46 w_46 n_46 h_46 hn_46 => ?_)
          obtain ⟨rfl, ew_46, en_46⟩ := h_46
          rw [ew_46, en_46]
          refine e_i2l F dX2_goThrough_49 (⟨by omega, by omega⟩) ?_
          refine e_lmul F dX2_goThrough_50 ?_
          have hm : e_r8 (A ((k : Int) + 1) * iv wh (wpr (pr wh) ((k : Int) + 1) ((k : Int) + 1) set (ho wh).toNat)) := by rw [Int.mul_comm]; exact mul_rg2 (by omega) (by omega) (by omega) (by omega)
          refine e_callVN F u_X1_modPrime (by rfl) (c_X1_modPrime hF8 hwh hm) (by first | assumption | exact e_up_s | (rw [e_up_n (by first | assumption | omega)]; first | assumption | exact e_up_s | (rw [e_up_n (by first | assumption | omega)]; first | assumption | exact e_up_s | (rw [e_up_n (by first | assumption | omega)]; first | assumption | exact e_up_s))) | exact hD.1 | exact hD1.1 | exact hD2.1 | exact gD.1 | exact gD1.1 | exact gD2.1 | exact gQ.1 | exact hQ.1 | exact gS.1 | exact hS.1 | exact zD.1) rfl rfl w_mn_RX2_18 dX2_goThrough_51 (by rfl) (Nat.le_of_ble_eq_true rfl) (by decide) (by omega) (fun _ _ _ h _ => False.elim h) (fun r_51 w_51 n_51 h_51 hn_51 => ?_)
          obtain ⟨rfl, ew_51, en_51⟩ := h_51
          rw [ew_51, en_51]
          refine e_istore F dX2_goThrough_54 (by decide) ?_
          refine e_aload_n F dX2_goThrough_56 rfl ?_
          refine e_aload_n F dX2_goThrough_57 rfl ?_
          refine e_iload F dX2_goThrough_58 rfl ?_
          have hfc := emod_rg (A ((k : Int) + 1) * iv wh (wpr (pr wh) ((k : Int) + 1) ((k : Int) + 1) set (ho wh).toNat)) hwh
          refine e_callVV F u_X2_addTerm (by rfl) (c_X2_addTerm gP8 hF8 hwh hfc zu (fun j j0 j1 => by rw [zp j j0 j1]; exact tm_rg (by omega) _ j)) z0 rfl rfl w_ml_RX2_52 dX2_goThrough_60 (by rfl) (Nat.le_of_ble_eq_true rfl) (by decide) (by omega) (fun _ _ _ h _ => False.elim h) (fun r_60 w_60 n_60 h_60 hn_60 => ?_)
          obtain ⟨rfl, en60, z2, z2F⟩ := h_60
          rw [en60]
          have z3 : PL w_60 a (gt wh set A (k + 1)) := z2.to (fun j j0 j1 => by rw [q2]; dsimp only; rw [zp j j0 j1]; rfl)
          have z4 : PF w w_60 a := fun q x1 x2 => by rw [z2F q x1, zF q x2, gF q x1 x2]
          refine e_iinc F dX2_goThrough_63 rfl (by decide) ?_
          refine e_goto F 7 dX2_goThrough_66 (by decide) ?_
          first
          | exact e_go (ih (k + 1) w_60 (by omega) ⟨by omega, z3, z4⟩) (And.intro rfl (And.intro rfl (And.intro rfl (And.intro rfl (And.intro rfl (trivial))))))
          | exact e_go (ih (k + 1) wl (by omega) ⟨by omega, by rw [q2]; exact gP0, gF⟩) (And.intro rfl (And.intro rfl (And.intro rfl (And.intro rfl (And.intro rfl (trivial))))))
  refine e_aload_n F dX2_goThrough_0 rfl ?_
  refine e_callVV F u_X2_clear (by rfl) (c_X2_clear h0 hf) (by first | assumption | exact e_up_s | (rw [e_up_n (by first | assumption | omega)]; first | assumption | exact e_up_s | (rw [e_up_n (by first | assumption | omega)]; first | assumption | exact e_up_s | (rw [e_up_n (by first | assumption | omega)]; first | assumption | exact e_up_s))) | exact hD.1 | exact hD1.1 | exact hD2.1 | exact gD.1 | exact gD1.1 | exact gD2.1 | exact gQ.1 | exact hQ.1 | exact gS.1 | exact hS.1 | exact zD.1) rfl rfl w_ml_RX2_24 dX2_goThrough_1 (by rfl) (Nat.le_of_ble_eq_true rfl) (by decide) (by omega) (fun _ _ _ h _ => False.elim h) (fun r_1 w_1 n_1 h_1 hn_1 => ?_)
  obtain ⟨rfl, en1, g0, ⟨f1, g1, g2⟩, g3⟩ := h_1
  rw [en1]
  refine e_iconst F dX2_goThrough_4 ?_
  refine e_istore F dX2_goThrough_5 (by decide) ?_
  exact e_go (lp 8 0 w_1 (by omega) ⟨by omega, ⟨g0, ⟨f1, g1, g2⟩, ⟨t, by rw [g3 _ (by omega)]; exact ht⟩, fun j _ _ => by show 0 ≤ (0 : Int) ∧ (0 : Int) < 1000003; omega⟩, fun q q1 _ => g3 q q1⟩) (And.intro rfl (And.intro rfl (And.intro rfl (And.intro rfl (And.intro rfl (trivial))))))
