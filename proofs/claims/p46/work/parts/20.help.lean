/-! Secretshares: what the methods have in common -/
def xIO : String := "java/lang/IndexOutOfBoundsException"
def xIA : String := "java/lang/IllegalArgumentException"
/-- the object at x: its field, poly, deals and spare lie behind it -/
abbrev SO (x : Nat) (kn : Int) : e_C := .inl (3, [.ref (x + 1), .ref (x + 2), .ref (x + 5), .ref (x + 24), .int (eI kn)])
def DA (w : e_W) (x : Nat) : Prop := ∃ g, w (x + 5) = some (.inr (9, 6, g)) ∧ ∀ j : Nat, j < 6 → g j = .ref (x + 6 + 3 * j)
def fl (wh : Nat) : Int := 2 ^ (ho wh).toNat - 1
theorem fl_rg : ∀ wh, wh < 7 → 15 ≤ fl wh ∧ fl wh ≤ 127 := wh_cases (by decide) (by decide) (by decide) (by decide) (by decide) (by decide) (by decide)
theorem fl_sh : ∀ wh, wh < 7 → eI 1 <<< (eI (ho wh) &&& 31) = eI (fl wh + 1) := wh_cases (by decide) (by decide) (by decide) (by decide) (by decide) (by decide) (by decide)
def pxc (E : String) (w : e_W) (c : Prop) : String → e_W → Nat → Prop := fun E2 w2 _ => E2 = E ∧ c ∧ w2 = w
theorem DL.to {w : e_W} {d : Nat} {fl dg sc : Int} {A B A2 B2 : Int → Int} (h : DL w d fl dg sc A B) (ha : ∀ j, 1 ≤ j → j < 8 → A j = A2 j) (hb : ∀ j, 0 ≤ j → j < sc → B j = B2 j) : DL w d fl dg sc A2 B2 := by
  obtain ⟨h0, ⟨f, h1, h2⟩, ⟨g, h3, h4⟩, w1, w2, w3, w4, w5⟩ := h
  exact ⟨h0, ⟨f, h1, fun j a b => by rw [h2 j a b, ha j a b]⟩, ⟨g, h3, fun j a b => by rw [h4 j a b, hb j a b]⟩, w1, w2, w3, fun j a b => by rw [← ha j a b]; exact w4 j a b, fun j a b => by rw [← hb j a b]; exact w5 j a b⟩
def tlK (wh : Nat) (set : Int) (A : Int → Int) (x : Int) : Nat → Int
  | 0 => 0
  | k + 1 => if hs set ((k : Int) + 1) then tlK wh set A x k + A ((k : Int) + 1) * wgt wh set ((k : Int) + 1) x else tlK wh set A x k
/-- what a set tells -/
def tl (wh : Nat) (set : Int) (A : Int → Int) (x : Int) : Int := tlK wh set A x (ho wh).toNat % pr wh
theorem wgt_rg {wh : Nat} {set h x : Int} (hwh : wh < 7) : 0 ≤ wgt wh set h x ∧ wgt wh set h x < pr wh := emod_rg _ hwh
theorem mulA_rg {a b : Int} (ha : -1 ≤ a) (ha2 : a < 1000003) (hb : 0 ≤ b) (hb2 : b < 1000003) : -1000003 ≤ a * b ∧ a * b ≤ 1000006000009 := by
  have h1 : a * b ≤ 1000003 * b := Int.mul_le_mul_of_nonneg_right (by omega) hb
  have h2 : (-1) * b ≤ a * b := Int.mul_le_mul_of_nonneg_right ha hb
  omega
theorem tlK_rg {wh : Nat} {set x : Int} {A : Int → Int} (hwh : wh < 7) (hA : ∀ j, 1 ≤ j → j < 8 → -1 ≤ A j ∧ A j < 1000003) (k : Nat) (hk : k ≤ 7) : -1000003 * (k : Int) ≤ tlK wh set A x k ∧ tlK wh set A x k ≤ 1000006000009 * (k : Int) := by
  have hp := pr_rg wh hwh
  induction k with
  | zero => unfold tlK; omega
  | succ k ih =>
    have ih := ih (by omega)
    unfold tlK
    split
    · have h1 := hA ((k : Int) + 1) (by omega) (by omega)
      have h2 := wgt_rg (set := set) (h := (k : Int) + 1) (x := x) hwh
      have h3 := mulA_rg h1.1 h1.2 h2.1 (by omega : wgt wh set ((k : Int) + 1) x < 1000003)
      omega
    · omega
set_option maxHeartbeats 4000000 in
set_option maxRecDepth 100000 in
theorem c_X3_dealAt {K : e_K} {l : Launch} {w : e_W} {n : Nat} {x : Nat} {kn : Int} (hX : w x = some (SO x kn)) (hDA : DA w x) {i : Int} (hi : e_r i) : e_Met K l yX3_dealAt (Cond.code yX3_dealAt cX3_dealAt 2 (Option.some (.object "Secretshares$Deal")) :: e_TB) (6) (1) [.ref x, .int (eI i)] w n (fun r w' n' => (0 ≤ i ∧ i < 6) ∧ r = some (.ref (x + 6 + 3 * i.toNat)) ∧ w' = w ∧ n' = n) (pxc xIO w (¬ (0 ≤ i ∧ i < 6))) := by
  refine e_ofV rfl (Nat.le_of_ble_eq_true rfl) ?_
  intro P9 E9 S9 M9 A9 B9 T9 C9 F hnm
  obtain ⟨g, hg, hgj⟩ := hDA
  refine e_iload_n F dX3_dealAt_0 rfl ?_
  refine e_if_lt F 13 dX3_dealAt_1 (by decide) (hi) (fun c_1 => ?_) (fun c_1 => ?_)
  · exact e_throwSW (text := "deal is not 0 to 5") F (by decide +kernel) w_cl_RX3_291 w_in_java_lang_IndexOutOfBoundsException (by decide +kernel) hat_io hgood_io dX3_dealAt_13 dX3_dealAt_16 dX3_dealAt_17 dX3_dealAt_20 dX3_dealAt_23 (Nat.le_of_ble_eq_true rfl) (by decide) (by omega) (fun n2 hn2 => ⟨rfl, by omega, rfl⟩)
  · refine e_iload_n F dX3_dealAt_4 rfl ?_
    refine e_aload_n F dX3_dealAt_5 rfl ?_
    refine e_get (ci := 3) (fi := 2) (q := (RX3, TX3, 5)) F (by first | assumption | exact e_up_s | (rw [e_up_n (by first | assumption | omega)]; first | assumption | exact e_up_s | (rw [e_up_n (by first | assumption | omega)]; first | assumption | exact e_up_s | (rw [e_up_n (by first | assumption | omega)]; first | assumption | exact e_up_s))) | exact hD.1 | exact hD1.1 | exact hD2.1 | exact gD.1 | exact gD1.1 | exact gD2.1 | exact gQ.1 | exact hQ.1 | exact gS.1 | exact hS.1 | exact zD.1) rfl (by decide) w_fl_RX3_25 (by rfl) dX3_dealAt_6 ?_
    refine e_alen9 F (by first | assumption | exact e_up_s | (rw [e_up_n (by first | assumption | omega)]; first | assumption | exact e_up_s | (rw [e_up_n (by first | assumption | omega)]; first | assumption | exact e_up_s | (rw [e_up_n (by first | assumption | omega)]; first | assumption | exact e_up_s))) | exact hD.1 | exact hD1.1 | exact hD2.1 | exact gD.1 | exact gD1.1 | exact gD2.1 | exact gQ.1 | exact hQ.1 | exact gS.1 | exact hS.1 | exact zD.1) dX3_dealAt_9 ?_
    refine e_icmp_lt F 24 dX3_dealAt_10 (by decide) (hi) (⟨by omega, by omega⟩) (fun c_10 => ?_) (fun c_10 => ?_)
    · refine e_aload_n F dX3_dealAt_24 rfl ?_
      refine e_get (ci := 3) (fi := 2) (q := (RX3, TX3, 5)) F (by first | assumption | exact e_up_s | (rw [e_up_n (by first | assumption | omega)]; first | assumption | exact e_up_s | (rw [e_up_n (by first | assumption | omega)]; first | assumption | exact e_up_s | (rw [e_up_n (by first | assumption | omega)]; first | assumption | exact e_up_s))) | exact hD.1 | exact hD1.1 | exact hD2.1 | exact gD.1 | exact gD1.1 | exact gD2.1 | exact gQ.1 | exact hQ.1 | exact gS.1 | exact hS.1 | exact zD.1) rfl (by decide) w_fl_RX3_25 (by rfl) dX3_dealAt_25 ?_
      refine e_iload_n F dX3_dealAt_28 rfl ?_
      refine e_aald9 F hg (by omega) (by omega) (by decide) (hgj i.toNat (by omega)) dX3_dealAt_29 ?_
      refine e_aret F rfl (Or.inl ⟨_, rfl⟩) (Or.inr ⟨_, rfl⟩) (by omega) ?_ dX3_dealAt_30
      exact ⟨⟨by omega, by omega⟩, rfl, rfl, rfl⟩
    · exact e_throwSW (text := "deal is not 0 to 5") F (by decide +kernel) w_cl_RX3_291 w_in_java_lang_IndexOutOfBoundsException (by decide +kernel) hat_io hgood_io dX3_dealAt_13 dX3_dealAt_16 dX3_dealAt_17 dX3_dealAt_20 dX3_dealAt_23 (Nat.le_of_ble_eq_true rfl) (by decide) (by omega) (fun n2 hn2 => ⟨rfl, by omega, rfl⟩)
set_option maxHeartbeats 4000000 in
set_option maxRecDepth 100000 in
theorem c_X3_requireHolder {K : e_K} {l : Launch} {w : e_W} {n : Nat} {x wh : Nat} {kn : Int} (hX : w x = some (SO x kn)) (hF : w (x + 1) = some (FO wh)) (hwh : wh < 7) {h : Int} (hh : e_r h) : e_Met K l yX3_requireHolder (Cond.code yX3_requireHolder cX3_requireHolder 2 none :: e_TB) (6) (1) [.ref x, .int (eI h)] w n (fun r w' n' => (1 ≤ h ∧ h ≤ ho wh) ∧ r = none ∧ w' = w ∧ n' = n) (pxc xIO w (¬ (1 ≤ h ∧ h ≤ ho wh))) := by
  refine e_ofV rfl (Nat.le_of_ble_eq_true rfl) ?_
  intro P9 E9 S9 M9 A9 B9 T9 C9 F hnm
  have hp := pr_rg wh hwh
  have ho9 := ho_rg wh hwh
  refine e_iload_n F dX3_requireHolder_0 rfl ?_
  refine e_iconst F dX3_requireHolder_1 ?_
  refine e_icmp_lt F 16 dX3_requireHolder_2 (by decide) (hh) (⟨by omega, by omega⟩) (fun c_2 => ?_) (fun c_2 => ?_)
  · exact e_throwSW (text := "holder is not 1 to M") F (by decide +kernel) w_cl_RX3_291 w_in_java_lang_IndexOutOfBoundsException (by decide +kernel) hat_io hgood_io dX3_requireHolder_16 dX3_requireHolder_19 dX3_requireHolder_20 dX3_requireHolder_23 dX3_requireHolder_26 (Nat.le_of_ble_eq_true rfl) (by decide) (by omega) (fun n2 hn2 => ⟨rfl, by omega, rfl⟩)
  · refine e_iload_n F dX3_requireHolder_5 rfl ?_
    refine e_aload_n F dX3_requireHolder_6 rfl ?_
    refine e_get (ci := 3) (fi := 0) (q := (RX3, TX3, 5)) F (by first | assumption | exact e_up_s | (rw [e_up_n (by first | assumption | omega)]; first | assumption | exact e_up_s | (rw [e_up_n (by first | assumption | omega)]; first | assumption | exact e_up_s | (rw [e_up_n (by first | assumption | omega)]; first | assumption | exact e_up_s))) | exact hD.1 | exact hD1.1 | exact hD2.1 | exact gD.1 | exact gD1.1 | exact gD2.1 | exact gQ.1 | exact hQ.1 | exact gS.1 | exact hS.1 | exact zD.1) rfl (by decide) w_fl_RX3_10 (by rfl) dX3_requireHolder_7 ?_
    refine e_getN (ci := 1) (fi := 4) (q := (RX1, TX1, 5)) F (by first | assumption | exact e_up_s | (rw [e_up_n (by first | assumption | omega)]; first | assumption | exact e_up_s | (rw [e_up_n (by first | assumption | omega)]; first | assumption | exact e_up_s | (rw [e_up_n (by first | assumption | omega)]; first | assumption | exact e_up_s))) | exact hD.1 | exact hD1.1 | exact hD2.1 | exact gD.1 | exact gD1.1 | exact gD2.1 | exact gQ.1 | exact hQ.1 | exact gS.1 | exact hS.1 | exact zD.1) rfl (by decide) w_fn_RX3_116 (by rfl) dX3_requireHolder_10 ?_
    refine e_icmp_le F 27 dX3_requireHolder_13 (by decide) (hh) (⟨by omega, by omega⟩) (fun c_13 => ?_) (fun c_13 => ?_)
    · refine e_vret F rfl (by omega) ?_ dX3_requireHolder_27
      exact ⟨⟨by omega, by omega⟩, rfl, rfl, rfl⟩
    · exact e_throwSW (text := "holder is not 1 to M") F (by decide +kernel) w_cl_RX3_291 w_in_java_lang_IndexOutOfBoundsException (by decide +kernel) hat_io hgood_io dX3_requireHolder_16 dX3_requireHolder_19 dX3_requireHolder_20 dX3_requireHolder_23 dX3_requireHolder_26 (Nat.le_of_ble_eq_true rfl) (by decide) (by omega) (fun n2 hn2 => ⟨rfl, by omega, rfl⟩)
set_option maxHeartbeats 4000000 in
set_option maxRecDepth 100000 in
theorem c_X3_allHolders {K : e_K} {l : Launch} {w : e_W} {n : Nat} {x wh : Nat} {kn : Int} (hX : w x = some (SO x kn)) (hF : w (x + 1) = some (FO wh)) (hwh : wh < 7) : e_Met K l yX3_allHolders (Cond.code yX3_allHolders cX3_allHolders 1 (Option.some .int) :: e_TB) (0) (0) [.ref x] w n (fun r w' n' => r = some (.int (eI (fl wh))) ∧ w' = w ∧ n' = n) (e_px0) := by
  refine e_ofV rfl (Nat.le_of_ble_eq_true rfl) ?_
  intro P9 E9 S9 M9 A9 B9 T9 C9 F hnm
  have hf9 := fl_sh wh hwh
  refine e_iconst F dX3_allHolders_0 ?_
  refine e_aload_n F dX3_allHolders_1 rfl ?_
  refine e_get (ci := 3) (fi := 0) (q := (RX3, TX3, 5)) F (by first | assumption | exact e_up_s | (rw [e_up_n (by first | assumption | omega)]; first | assumption | exact e_up_s | (rw [e_up_n (by first | assumption | omega)]; first | assumption | exact e_up_s | (rw [e_up_n (by first | assumption | omega)]; first | assumption | exact e_up_s))) | exact hD.1 | exact hD1.1 | exact hD2.1 | exact gD.1 | exact gD1.1 | exact gD2.1 | exact gQ.1 | exact hQ.1 | exact gS.1 | exact hS.1 | exact zD.1) rfl (by decide) w_fl_RX3_10 (by rfl) dX3_allHolders_2 ?_
  refine e_getN (ci := 1) (fi := 4) (q := (RX1, TX1, 5)) F (by first | assumption | exact e_up_s | (rw [e_up_n (by first | assumption | omega)]; first | assumption | exact e_up_s | (rw [e_up_n (by first | assumption | omega)]; first | assumption | exact e_up_s | (rw [e_up_n (by first | assumption | omega)]; first | assumption | exact e_up_s))) | exact hD.1 | exact hD1.1 | exact hD2.1 | exact gD.1 | exact gD1.1 | exact gD2.1 | exact gQ.1 | exact hQ.1 | exact gS.1 | exact hS.1 | exact zD.1) rfl (by decide) w_fn_RX3_116 (by rfl) dX3_allHolders_5 ?_
  refine e_ishl F dX3_allHolders_8 (hf9) ?_
  refine e_iconst F dX3_allHolders_9 ?_
  refine e_isub F dX3_allHolders_10 ?_
  refine e_iret F rfl (by omega) ?_ dX3_allHolders_11
  refine ⟨?_, rfl, rfl⟩
  rw [show fl wh + 1 - 1 = fl wh by omega]
set_option maxHeartbeats 4000000 in
set_option maxRecDepth 100000 in
theorem c_X3_requireSet {K : e_K} {l : Launch} {w : e_W} {n : Nat} {x wh : Nat} {kn : Int} (hX : w x = some (SO x kn)) (hF : w (x + 1) = some (FO wh)) (hwh : wh < 7) {s9 : Int} (hh : e_r s9) : e_Met K l yX3_requireSet (Cond.code yX3_requireSet cX3_requireSet 2 none :: e_TB) (6) (1) [.ref x, .int (eI s9)] w n (fun r w' n' => (1 ≤ s9 ∧ s9 ≤ fl wh) ∧ r = none ∧ w' = w ∧ n' = n) (pxc xIA w (¬ (1 ≤ s9 ∧ s9 ≤ fl wh))) := by
  refine e_ofV rfl (Nat.le_of_ble_eq_true rfl) ?_
  intro P9 E9 S9 M9 A9 B9 T9 C9 F hnm
  have hf9 := fl_rg wh hwh
  refine e_iload_n F dX3_requireSet_0 rfl ?_
  refine e_iconst F dX3_requireSet_1 ?_
  refine e_icmp_lt F 13 dX3_requireSet_2 (by decide) (hh) (⟨by omega, by omega⟩) (fun c_2 => ?_) (fun c_2 => ?_)
  · exact e_throwSW (text := "set is no set of holders") F (by decide +kernel) w_cl_RX3_42 w_in_java_lang_IllegalArgumentException (by decide +kernel) hat_ia hgood_ia dX3_requireSet_13 dX3_requireSet_16 dX3_requireSet_17 dX3_requireSet_20 dX3_requireSet_23 (Nat.le_of_ble_eq_true rfl) (by decide) (by omega) (fun n2 hn2 => ⟨rfl, by omega, rfl⟩)
  · refine e_iload_n F dX3_requireSet_5 rfl ?_
    refine e_aload_n F dX3_requireSet_6 rfl ?_
    refine e_callVV F u_X3_allHolders (by rfl) (c_X3_allHolders hX hF hwh) (by first | assumption | exact e_up_s | (rw [e_up_n (by first | assumption | omega)]; first | assumption | exact e_up_s | (rw [e_up_n (by first | assumption | omega)]; first | assumption | exact e_up_s | (rw [e_up_n (by first | assumption | omega)]; first | assumption | exact e_up_s))) | exact hD.1 | exact hD1.1 | exact hD2.1 | exact gD.1 | exact gD1.1 | exact gD2.1 | exact gQ.1 | exact hQ.1 | exact gS.1 | exact hS.1 | exact zD.1) rfl rfl w_ml_RX3_266 dX3_requireSet_7 (by rfl) (Nat.le_of_ble_eq_true rfl) (by decide) (by omega) (fun _ _ _ h _ => False.elim h) (fun r_7 w_7 n_7 h_7 hn_7 => ?_)
    obtain ⟨rfl, ew_7, en_7⟩ := h_7
    rw [ew_7, en_7]
    refine e_icmp_le F 24 dX3_requireSet_10 (by decide) (hh) (⟨by omega, by omega⟩) (fun c_10 => ?_) (fun c_10 => ?_)
    · refine e_vret F rfl (by omega) ?_ dX3_requireSet_24
      exact ⟨⟨by omega, by omega⟩, rfl, rfl, rfl⟩
    · exact e_throwSW (text := "set is no set of holders") F (by decide +kernel) w_cl_RX3_42 w_in_java_lang_IllegalArgumentException (by decide +kernel) hat_ia hgood_ia dX3_requireSet_13 dX3_requireSet_16 dX3_requireSet_17 dX3_requireSet_20 dX3_requireSet_23 (Nat.le_of_ble_eq_true rfl) (by decide) (by omega) (fun n2 hn2 => ⟨rfl, by omega, rfl⟩)
set_option maxHeartbeats 4000000 in
set_option maxRecDepth 100000 in
theorem c_X3_requireToldDegree {K : e_K} {l : Launch} {w : e_W} {n : Nat} {g : Int} (hh : e_r g) : e_Met K l yX3_requireToldDegree (Cond.code yX3_requireToldDegree cX3_requireToldDegree 1 none :: e_TB) (6) (1) [.int (eI g)] w n (fun r w' n' => (0 ≤ g ∧ g ≤ 3) ∧ r = none ∧ w' = w ∧ n' = n) (pxc xIA w (¬ (0 ≤ g ∧ g ≤ 3))) := by
  refine e_ofV rfl (Nat.le_of_ble_eq_true rfl) ?_
  intro P9 E9 S9 M9 A9 B9 T9 C9 F hnm
  refine e_iload_n F dX3_requireToldDegree_0 rfl ?_
  refine e_if_lt F 9 dX3_requireToldDegree_1 (by decide) (hh) (fun c_1 => ?_) (fun c_1 => ?_)
  · exact e_throwSW (text := "degree is not 0 to 3") F (by decide +kernel) w_cl_RX3_42 w_in_java_lang_IllegalArgumentException (by decide +kernel) hat_ia hgood_ia dX3_requireToldDegree_9 dX3_requireToldDegree_12 dX3_requireToldDegree_13 dX3_requireToldDegree_16 dX3_requireToldDegree_19 (Nat.le_of_ble_eq_true rfl) (by decide) (by omega) (fun n2 hn2 => ⟨rfl, by omega, rfl⟩)
  · refine e_iload_n F dX3_requireToldDegree_4 rfl ?_
    refine e_iconst F dX3_requireToldDegree_5 ?_
    refine e_icmp_le F 20 dX3_requireToldDegree_6 (by decide) (hh) (⟨by omega, by omega⟩) (fun c_6 => ?_) (fun c_6 => ?_)
    · refine e_vret F rfl (by omega) ?_ dX3_requireToldDegree_20
      exact ⟨⟨by omega, by omega⟩, rfl, rfl, rfl⟩
    · exact e_throwSW (text := "degree is not 0 to 3") F (by decide +kernel) w_cl_RX3_42 w_in_java_lang_IllegalArgumentException (by decide +kernel) hat_ia hgood_ia dX3_requireToldDegree_9 dX3_requireToldDegree_12 dX3_requireToldDegree_13 dX3_requireToldDegree_16 dX3_requireToldDegree_19 (Nat.le_of_ble_eq_true rfl) (by decide) (by omega) (fun n2 hn2 => ⟨rfl, by omega, rfl⟩)
set_option maxHeartbeats 4000000 in
set_option maxRecDepth 100000 in
theorem c_X3_requireCoefficient {K : e_K} {l : Launch} {w : e_W} {n : Nat} {g : Int} (hh : e_r g) : e_Met K l yX3_requireCoefficient (Cond.code yX3_requireCoefficient cX3_requireCoefficient 1 none :: e_TB) (6) (1) [.int (eI g)] w n (fun r w' n' => (0 ≤ g ∧ g ≤ 6) ∧ r = none ∧ w' = w ∧ n' = n) (pxc xIA w (¬ (0 ≤ g ∧ g ≤ 6))) := by
  refine e_ofV rfl (Nat.le_of_ble_eq_true rfl) ?_
  intro P9 E9 S9 M9 A9 B9 T9 C9 F hnm
  refine e_iload_n F dX3_requireCoefficient_0 rfl ?_
  refine e_if_lt F 10 dX3_requireCoefficient_1 (by decide) (hh) (fun c_1 => ?_) (fun c_1 => ?_)
  · exact e_throwSW (text := "k is not 0 to 6") F (by decide +kernel) w_cl_RX3_42 w_in_java_lang_IllegalArgumentException (by decide +kernel) hat_ia hgood_ia dX3_requireCoefficient_10 dX3_requireCoefficient_13 dX3_requireCoefficient_14 dX3_requireCoefficient_17 dX3_requireCoefficient_20 (Nat.le_of_ble_eq_true rfl) (by decide) (by omega) (fun n2 hn2 => ⟨rfl, by omega, rfl⟩)
  · refine e_iload_n F dX3_requireCoefficient_4 rfl ?_
    refine e_bipush F dX3_requireCoefficient_5 (by decide) ?_
    refine e_icmp_le F 21 dX3_requireCoefficient_7 (by decide) (hh) (⟨by omega, by omega⟩) (fun c_7 => ?_) (fun c_7 => ?_)
    · refine e_vret F rfl (by omega) ?_ dX3_requireCoefficient_21
      exact ⟨⟨by omega, by omega⟩, rfl, rfl, rfl⟩
    · exact e_throwSW (text := "k is not 0 to 6") F (by decide +kernel) w_cl_RX3_42 w_in_java_lang_IllegalArgumentException (by decide +kernel) hat_ia hgood_ia dX3_requireCoefficient_10 dX3_requireCoefficient_13 dX3_requireCoefficient_14 dX3_requireCoefficient_17 dX3_requireCoefficient_20 (Nat.le_of_ble_eq_true rfl) (by decide) (by omega) (fun n2 hn2 => ⟨rfl, by omega, rfl⟩)
set_option maxHeartbeats 4000000 in
set_option maxRecDepth 100000 in
theorem c_X3_quotient {K : e_K} {l : Launch} {w : e_W} {n : Nat} {x wh : Nat} {kn : Int} (hX : w x = some (SO x kn)) (hF : w (x + 1) = some (FO wh)) (hwh : wh < 7) {a b : Int} (ha : 0 ≤ a ∧ a < pr wh) (hb : 0 ≤ b ∧ b < pr wh) : e_Met K l yX3_quotient (Cond.code yX3_quotient cX3_quotient 3 (Option.some .int) :: e_TB) (2) (0) [.ref x, .int (eI a), .int (eI b)] w n (fun r w' n' => r = some (.int (eI (if b = 0 then -9 else a * iv wh b % pr wh))) ∧ w' = w ∧ n' = n) (e_px0) := by
  refine e_ofV rfl (Nat.le_of_ble_eq_true rfl) ?_
  intro P9 E9 S9 M9 A9 B9 T9 C9 F hnm
  have hp := pr_rg wh hwh
  have ho9 := ho_rg wh hwh
  have hiv := iv_rg (v := b) hwh
  refine e_iload_n F dX3_quotient_0 rfl ?_
  refine e_if_ne F 9 dX3_quotient_1 (by decide) (⟨by omega, by omega⟩) (fun c_1 => ?_) (fun c_1 => ?_)
  · refine e_aload_n F dX3_quotient_9 rfl ?_
    refine e_get (ci := 3) (fi := 0) (q := (RX3, TX3, 5)) F (by first | assumption | exact e_up_s | (rw [e_up_n (by first | assumption | omega)]; first | assumption | exact e_up_s | (rw [e_up_n (by first | assumption | omega)]; first | assumption | exact e_up_s | (rw [e_up_n (by first | assumption | omega)]; first | assumption | exact e_up_s))) | exact hD.1 | exact hD1.1 | exact hD2.1 | exact gD.1 | exact gD1.1 | exact gD2.1 | exact gQ.1 | exact hQ.1 | exact gS.1 | exact hS.1 | exact zD.1) rfl (by decide) w_fl_RX3_10 (by rfl) dX3_quotient_10 ?_
    refine e_iload_n F dX3_quotient_13 rfl ?_
    refine e_i2l F dX3_quotient_14 (⟨by omega, by omega⟩) ?_
    refine e_aload_n F dX3_quotient_15 rfl ?_
    refine e_get (ci := 3) (fi := 0) (q := (RX3, TX3, 5)) F (by first | assumption | exact e_up_s | (rw [e_up_n (by first | assumption | omega)]; first | assumption | exact e_up_s | (rw [e_up_n (by first | assumption | omega)]; first | assumption | exact e_up_s | (rw [e_up_n (by first | assumption | omega)]; first | assumption | exact e_up_s))) | exact hD.1 | exact hD1.1 | exact hD2.1 | exact gD.1 | exact gD1.1 | exact gD2.1 | exact gQ.1 | exact hQ.1 | exact gS.1 | exact hS.1 | exact zD.1) rfl (by decide) w_fl_RX3_10 (by rfl) dX3_quotient_16 ?_
    refine e_iload_n F dX3_quotient_19 rfl ?_
    refine e_callVN F u_X1_inverse (by rfl) (c_X1_inverse hF hwh hb.1 hb.2) (by first | assumption | exact e_up_s | (rw [e_up_n (by first | assumption | omega)]; first | assumption | exact e_up_s | (rw [e_up_n (by first | assumption | omega)]; first | assumption | exact e_up_s | (rw [e_up_n (by first | assumption | omega)]; first | assumption | exact e_up_s))) | exact hD.1 | exact hD1.1 | exact hD2.1 | exact gD.1 | exact gD1.1 | exact gD2.1 | exact gQ.1 | exact hQ.1 | exact gS.1 | exact hS.1 | exact zD.1) rfl rfl w_mn_RX3_304 dX3_quotient_20 (by rfl) (Nat.le_of_ble_eq_true rfl) (by decide) (by omega) (fun _ _ _ h _ => False.elim h) (fun r_20 w_20 n_20 h_20 hn_20 => ?_)
    obtain ⟨rfl, ew_20, en_20⟩ := h_20
    rw [ew_20, en_20]
    refine e_i2l F dX3_quotient_23 (⟨by omega, by omega⟩) ?_
    refine e_lmul F dX3_quotient_24 ?_
    refine e_callVN F u_X1_modPrime (by rfl) (c_X1_modPrime hF hwh (mul_rg2 (by omega) (by omega) (by omega) (by omega))) (by first | assumption | exact e_up_s | (rw [e_up_n (by first | assumption | omega)]; first | assumption | exact e_up_s | (rw [e_up_n (by first | assumption | omega)]; first | assumption | exact e_up_s | (rw [e_up_n (by first | assumption | omega)]; first | assumption | exact e_up_s))) | exact hD.1 | exact hD1.1 | exact hD2.1 | exact gD.1 | exact gD1.1 | exact gD2.1 | exact gQ.1 | exact hQ.1 | exact gS.1 | exact hS.1 | exact zD.1) rfl rfl w_mn_RX3_59 dX3_quotient_25 (by rfl) (Nat.le_of_ble_eq_true rfl) (by decide) (by omega) (fun _ _ _ h _ => False.elim h) (fun r_25 w_25 n_25 h_25 hn_25 => ?_)
    obtain ⟨rfl, ew_25, en_25⟩ := h_25
    rw [ew_25, en_25]
    refine e_iret F rfl (by omega) ?_ dX3_quotient_28
    refine ⟨?_, rfl, rfl⟩
    first | rw [if_neg (by omega)] | rw [if_pos (by omega)]
  · refine e_bipush F dX3_quotient_4 (by decide) ?_
    refine e_goto F 28 dX3_quotient_6 (by decide) ?_
    refine e_iret F rfl (by omega) ?_ dX3_quotient_28
    refine ⟨?_, rfl, rfl⟩
    first | rw [if_neg (by omega)] | rw [if_pos (by omega)]
set_option maxHeartbeats 4000000 in
set_option maxRecDepth 100000 in
theorem c_X3_weightSum {K : e_K} {l : Launch} {w : e_W} {n : Nat} {x wh : Nat} {kn : Int} (hX : w x = some (SO x kn)) (hF : w (x + 1) = some (FO wh)) (hwh : wh < 7) {set pl : Int} (h1 : 0 ≤ set) (h2 : set < 2147483648) (hpl : e_r pl) : e_Met K l yX3_weightSum (Cond.code yX3_weightSum cX3_weightSum 6 (Option.some .int) :: e_TB) (3) (0) [.ref x, .int (eI set), .int (eI pl)] w n (fun r w' n' => r = some (.int (eI (tl wh set (fun _ => 1) pl))) ∧ w' = w ∧ n' = n) (e_px0) := by
  refine e_ofV rfl (Nat.le_of_ble_eq_true rfl) ?_
  intro P9 E9 S9 M9 A9 B9 T9 C9 F hnm
  have hp := pr_rg wh hwh
  have ho9 := ho_rg wh hwh
  have lp : ∀ (N : Nat) (k : Nat), (7 - k) < N → k ≤ (ho wh).toNat → e_V K P9 l E9 (3) (0) S9 M9 A9 B9 T9 C9 6 (fun r w' n' => r = some (.int (eI (tl wh set (fun _ => 1) pl))) ∧ w' = w ∧ n' = n) (e_px0) 5 [(0, .ref x), (1, .int (eI set)), (2, .int (eI pl)), (3, .long (eJ (tlK wh set (fun _ => 1) pl k))), (5, .int (eI ((k : Int) + 1)))] [] w n (0) := by
    intro N
    induction N with
    | zero => intro k hN; exact absurd hN (Nat.not_lt_zero _)
    | succ N ih =>
      intro k hN hk
      have ht := tlK_rg (set := set) (x := pl) (A := fun _ => 1) hwh (fun j _ _ => by show -1 ≤ (1 : Int) ∧ (1 : Int) < 1000003; omega) k (by omega)
      refine e_iload F dX3_weightSum_5 rfl ?_
      refine e_aload_n F dX3_weightSum_7 rfl ?_
      refine e_get (ci := 3) (fi := 0) (q := (RX3, TX3, 5)) F (by first | assumption | exact e_up_s | (rw [e_up_n (by first | assumption | omega)]; first | assumption | exact e_up_s | (rw [e_up_n (by first | assumption | omega)]; first | assumption | exact e_up_s | (rw [e_up_n (by first | assumption | omega)]; first | assumption | exact e_up_s))) | exact hD.1 | exact hD1.1 | exact hD2.1 | exact gD.1 | exact gD1.1 | exact gD2.1 | exact gQ.1 | exact hQ.1 | exact gS.1 | exact hS.1 | exact zD.1) rfl (by decide) w_fl_RX3_10 (by rfl) dX3_weightSum_8 ?_
      refine e_getN (ci := 1) (fi := 4) (q := (RX1, TX1, 5)) F (by first | assumption | exact e_up_s | (rw [e_up_n (by first | assumption | omega)]; first | assumption | exact e_up_s | (rw [e_up_n (by first | assumption | omega)]; first | assumption | exact e_up_s | (rw [e_up_n (by first | assumption | omega)]; first | assumption | exact e_up_s))) | exact hD.1 | exact hD1.1 | exact hD2.1 | exact gD.1 | exact gD1.1 | exact gD2.1 | exact gQ.1 | exact hQ.1 | exact gS.1 | exact hS.1 | exact zD.1) rfl (by decide) w_fn_RX3_116 (by rfl) dX3_weightSum_11 ?_
      refine e_icmp_gt F 47 dX3_weightSum_14 (by decide) (⟨by omega, by omega⟩) (⟨by omega, by omega⟩) (fun c_14 => ?_) (fun c_14 => ?_)
      ·
        obtain rfl : k = (ho wh).toNat := by omega
        refine e_aload_n F dX3_weightSum_47 rfl ?_
        refine e_get (ci := 3) (fi := 0) (q := (RX3, TX3, 5)) F (by first | assumption | exact e_up_s | (rw [e_up_n (by first | assumption | omega)]; first | assumption | exact e_up_s | (rw [e_up_n (by first | assumption | omega)]; first | assumption | exact e_up_s | (rw [e_up_n (by first | assumption | omega)]; first | assumption | exact e_up_s))) | exact hD.1 | exact hD1.1 | exact hD2.1 | exact gD.1 | exact gD1.1 | exact gD2.1 | exact gQ.1 | exact hQ.1 | exact gS.1 | exact hS.1 | exact zD.1) rfl (by decide) w_fl_RX3_10 (by rfl) dX3_weightSum_48 ?_
        refine e_lload_n F dX3_weightSum_51 rfl ?_
        refine e_callVN F u_X1_modPrime (by rfl) (c_X1_modPrime hF hwh (by constructor <;> omega)) (by first | assumption | exact e_up_s | (rw [e_up_n (by first | assumption | omega)]; first | assumption | exact e_up_s | (rw [e_up_n (by first | assumption | omega)]; first | assumption | exact e_up_s | (rw [e_up_n (by first | assumption | omega)]; first | assumption | exact e_up_s))) | exact hD.1 | exact hD1.1 | exact hD2.1 | exact gD.1 | exact gD1.1 | exact gD2.1 | exact gQ.1 | exact hQ.1 | exact gS.1 | exact hS.1 | exact zD.1) rfl rfl w_mn_RX3_59 dX3_weightSum_52 (by rfl) (Nat.le_of_ble_eq_true rfl) (by decide) (by omega) (fun _ _ _ h _ => False.elim h) (fun r_52 w_52 n_52 h_52 hn_52 => ?_)
        obtain ⟨rfl, ew_52, en_52⟩ := h_52
        rw [ew_52, en_52]
        refine e_iret F rfl (by omega) ?_ dX3_weightSum_55
        exact ⟨rfl, rfl, rfl⟩
      · refine e_iload_n F dX3_weightSum_17 rfl ?_
        refine e_iload F dX3_weightSum_18 rfl ?_
        refine e_callSS F u_X3_isIn (by rfl) (c_X3_isIn h1 h2 (h := (k : Int) + 1) (by omega) (by omega)) w_ml_RX3_83 dX3_weightSum_20 (by rfl) (Nat.le_of_ble_eq_true rfl) (by decide) (by omega) (fun _ _ _ h _ => False.elim h) (fun r_20 w_20 n_20 h_20 hn_20 => ?_)
        obtain ⟨rfl, ew_20, en_20⟩ := h_20
        rw [ew_20, en_20]
        refine e_if_eq F 41 dX3_weightSum_23 (by decide) (b01_r _) (fun c_23 => ?_) (fun c_23 => ?_)
        ·
          rw [b01_0] at c_23
          have q1 : tlK wh set (fun _ => 1) pl (k + 1) = tlK wh set (fun _ => 1) pl k := if_neg c_23
          refine e_iinc F dX3_weightSum_41 rfl (by decide) ?_
          refine e_goto F 5 dX3_weightSum_44 (by decide) ?_
          refine e_go (ih (k + 1) (by omega) (by omega)) ?_
          rw [q1]
          exact (And.intro rfl (And.intro rfl (And.intro rfl (And.intro rfl (And.intro rfl (trivial))))))
        ·
          rw [b01_0, Classical.not_not] at c_23
          have q1 : tlK wh set (fun _ => 1) pl (k + 1) = tlK wh set (fun _ => 1) pl k + wgt wh set ((k : Int) + 1) pl := (if_pos c_23).trans (by show _ + 1 * _ = _; rw [Int.one_mul])
          refine e_lload_n F dX3_weightSum_26 rfl ?_
          refine e_aload_n F dX3_weightSum_27 rfl ?_
          refine e_get (ci := 3) (fi := 0) (q := (RX3, TX3, 5)) F (by first | assumption | exact e_up_s | (rw [e_up_n (by first | assumption | omega)]; first | assumption | exact e_up_s | (rw [e_up_n (by first | assumption | omega)]; first | assumption | exact e_up_s | (rw [e_up_n (by first | assumption | omega)]; first | assumption | exact e_up_s))) | exact hD.1 | exact hD1.1 | exact hD2.1 | exact gD.1 | exact gD1.1 | exact gD2.1 | exact gQ.1 | exact hQ.1 | exact gS.1 | exact hS.1 | exact zD.1) rfl (by decide) w_fl_RX3_10 (by rfl) dX3_weightSum_28 ?_
          refine e_iload_n F dX3_weightSum_31 rfl ?_
          refine e_iload F dX3_weightSum_32 rfl ?_
          refine e_iload_n F dX3_weightSum_34 rfl ?_
          refine e_callVN F u_X1_weightAt (by rfl) (c_X1_weightAt hF hwh h1 h2 (h := (k : Int) + 1) (by omega) (by omega) hpl) (by first | assumption | exact e_up_s | (rw [e_up_n (by first | assumption | omega)]; first | assumption | exact e_up_s | (rw [e_up_n (by first | assumption | omega)]; first | assumption | exact e_up_s | (rw [e_up_n (by first | assumption | omega)]; first | assumption | exact e_up_s))) | exact hD.1 | exact hD1.1 | exact hD2.1 | exact gD.1 | exact gD1.1 | exact gD2.1 | exact gQ.1 | exact hQ.1 | exact gS.1 | exact hS.1 | exact zD.1) rfl rfl w_mn_RX3_87 dX3_weightSum_35 (by rfl) (Nat.le_of_ble_eq_true rfl) (by decide) (by omega) (fun _ _ _ h _ => False.elim h) (fun r_35 w_35 n_35 h_35 hn_35 => ?_)
          obtain ⟨rfl, ew_35, en_35⟩ := h_35
          rw [ew_35, en_35]
          have hw9 := wgt_rg (set := set) (h := (k : Int) + 1) (x := pl) hwh
          refine e_i2l F dX3_weightSum_38 (⟨by omega, by omega⟩) ?_
          refine e_ladd F dX3_weightSum_39 ?_
          refine e_lstore_n F dX3_weightSum_40 (by decide) ?_
          refine e_iinc F dX3_weightSum_41 rfl (by decide) ?_
          refine e_goto F 5 dX3_weightSum_44 (by decide) ?_
          refine e_go (ih (k + 1) (by omega) (by omega)) ?_
          rw [q1]
          exact (And.intro rfl (And.intro rfl (And.intro rfl (And.intro rfl (And.intro rfl (trivial))))))
  refine e_lconst F dX3_weightSum_0 (y := 0) (by decide) ?_
  refine e_lstore_n F dX3_weightSum_1 (by decide) ?_
  refine e_iconst F dX3_weightSum_2 ?_
  refine e_istore F dX3_weightSum_3 (by decide) ?_
  exact e_go (lp 8 0 (by omega) (by omega)) (And.intro rfl (And.intro rfl (And.intro rfl (And.intro rfl (And.intro rfl (trivial))))))
set_option maxHeartbeats 4000000 in
set_option maxRecDepth 100000 in
theorem c_X3_tell {K : e_K} {l : Launch} {w : e_W} {n : Nat} {x wh : Nat} {kn : Int} (hX : w x = some (SO x kn)) (hF : w (x + 1) = some (FO wh)) (hwh : wh < 7) {d : Nat} {fl9 dg sc : Int} {A B : Int → Int} (hD : DL w d fl9 dg sc A B) {set pl : Int} (h1 : 0 ≤ set) (h2 : set < 2147483648) (hpl : e_r pl) : e_Met K l yX3_tell (Cond.code yX3_tell cX3_tell 7 (Option.some .int) :: e_TB) (3) (0) [.ref x, .ref d, .int (eI set), .int (eI pl)] w n (fun r w' n' => r = some (.int (eI (tl wh set A pl))) ∧ w' = w ∧ n' = n) (e_px0) := by
  refine e_ofV rfl (Nat.le_of_ble_eq_true rfl) ?_
  intro P9 E9 S9 M9 A9 B9 T9 C9 F hnm
  have hp := pr_rg wh hwh
  have ho9 := ho_rg wh hwh
  have hA := hD.2.2.2.2.2.2.1
  have lp : ∀ (N : Nat) (k : Nat), (7 - k) < N → k ≤ (ho wh).toNat → e_V K P9 l E9 (3) (0) S9 M9 A9 B9 T9 C9 7 (fun r w' n' => r = some (.int (eI (tl wh set A pl))) ∧ w' = w ∧ n' = n) (e_px0) 6 [(0, .ref x), (1, .ref d), (2, .int (eI set)), (3, .int (eI pl)), (4, .long (eJ (tlK wh set A pl k))), (6, .int (eI ((k : Int) + 1)))] [] w n (0) := by
    intro N
    induction N with
    | zero => intro k hN; exact absurd hN (Nat.not_lt_zero _)
    | succ N ih =>
      intro k hN hk
      have ht := tlK_rg (set := set) (x := pl) hwh hA k (by omega)
      refine e_iload F dX3_tell_6 rfl ?_
      refine e_aload_n F dX3_tell_8 rfl ?_
      refine e_get (ci := 3) (fi := 0) (q := (RX3, TX3, 5)) F (by first | assumption | exact e_up_s | (rw [e_up_n (by first | assumption | omega)]; first | assumption | exact e_up_s | (rw [e_up_n (by first | assumption | omega)]; first | assumption | exact e_up_s | (rw [e_up_n (by first | assumption | omega)]; first | assumption | exact e_up_s))) | exact hD.1 | exact hD1.1 | exact hD2.1 | exact gD.1 | exact gD1.1 | exact gD2.1 | exact gQ.1 | exact hQ.1 | exact gS.1 | exact hS.1 | exact zD.1) rfl (by decide) w_fl_RX3_10 (by rfl) dX3_tell_9 ?_
      refine e_getN (ci := 1) (fi := 4) (q := (RX1, TX1, 5)) F (by first | assumption | exact e_up_s | (rw [e_up_n (by first | assumption | omega)]; first | assumption | exact e_up_s | (rw [e_up_n (by first | assumption | omega)]; first | assumption | exact e_up_s | (rw [e_up_n (by first | assumption | omega)]; first | assumption | exact e_up_s))) | exact hD.1 | exact hD1.1 | exact hD2.1 | exact gD.1 | exact gD1.1 | exact gD2.1 | exact gQ.1 | exact hQ.1 | exact gS.1 | exact hS.1 | exact zD.1) rfl (by decide) w_fn_RX3_116 (by rfl) dX3_tell_12 ?_
      refine e_icmp_gt F 58 dX3_tell_15 (by decide) (⟨by omega, by omega⟩) (⟨by omega, by omega⟩) (fun c_15 => ?_) (fun c_15 => ?_)
      ·
        obtain rfl : k = (ho wh).toNat := by omega
        refine e_aload_n F dX3_tell_58 rfl ?_
        refine e_get (ci := 3) (fi := 0) (q := (RX3, TX3, 5)) F (by first | assumption | exact e_up_s | (rw [e_up_n (by first | assumption | omega)]; first | assumption | exact e_up_s | (rw [e_up_n (by first | assumption | omega)]; first | assumption | exact e_up_s | (rw [e_up_n (by first | assumption | omega)]; first | assumption | exact e_up_s))) | exact hD.1 | exact hD1.1 | exact hD2.1 | exact gD.1 | exact gD1.1 | exact gD2.1 | exact gQ.1 | exact hQ.1 | exact gS.1 | exact hS.1 | exact zD.1) rfl (by decide) w_fl_RX3_10 (by rfl) dX3_tell_59 ?_
        refine e_lload F dX3_tell_62 rfl ?_
        refine e_callVN F u_X1_modPrime (by rfl) (c_X1_modPrime hF hwh (by constructor <;> omega)) (by first | assumption | exact e_up_s | (rw [e_up_n (by first | assumption | omega)]; first | assumption | exact e_up_s | (rw [e_up_n (by first | assumption | omega)]; first | assumption | exact e_up_s | (rw [e_up_n (by first | assumption | omega)]; first | assumption | exact e_up_s))) | exact hD.1 | exact hD1.1 | exact hD2.1 | exact gD.1 | exact gD1.1 | exact gD2.1 | exact gQ.1 | exact hQ.1 | exact gS.1 | exact hS.1 | exact zD.1) rfl rfl w_mn_RX3_59 dX3_tell_64 (by rfl) (Nat.le_of_ble_eq_true rfl) (by decide) (by omega) (fun _ _ _ h _ => False.elim h) (fun r_64 w_64 n_64 h_64 hn_64 => ?_)
        obtain ⟨rfl, ew_64, en_64⟩ := h_64
        rw [ew_64, en_64]
        refine e_iret F rfl (by omega) ?_ dX3_tell_67
        exact ⟨rfl, rfl, rfl⟩
      · refine e_iload_n F dX3_tell_18 rfl ?_
        refine e_iload F dX3_tell_19 rfl ?_
        refine e_callSS F u_X3_isIn (by rfl) (c_X3_isIn h1 h2 (h := (k : Int) + 1) (by omega) (by omega)) w_ml_RX3_83 dX3_tell_21 (by rfl) (Nat.le_of_ble_eq_true rfl) (by decide) (by omega) (fun _ _ _ h _ => False.elim h) (fun r_21 w_21 n_21 h_21 hn_21 => ?_)
        obtain ⟨rfl, ew_21, en_21⟩ := h_21
        rw [ew_21, en_21]
        refine e_if_eq F 52 dX3_tell_24 (by decide) (b01_r _) (fun c_24 => ?_) (fun c_24 => ?_)
        ·
          rw [b01_0] at c_24
          have q1 : tlK wh set A pl (k + 1) = tlK wh set A pl k := if_neg c_24
          refine e_iinc F dX3_tell_52 rfl (by decide) ?_
          refine e_goto F 6 dX3_tell_55 (by decide) ?_
          refine e_go (ih (k + 1) (by omega) (by omega)) ?_
          rw [q1]
          exact (And.intro rfl (And.intro rfl (And.intro rfl (And.intro rfl (And.intro rfl (And.intro rfl (trivial)))))))
        ·
          rw [b01_0, Classical.not_not] at c_24
          have q1 : tlK wh set A pl (k + 1) = tlK wh set A pl k + A ((k : Int) + 1) * wgt wh set ((k : Int) + 1) pl := if_pos c_24
          have hAk := hA ((k : Int) + 1) (by omega) (by omega)
          refine e_lload F dX3_tell_27 rfl ?_
          refine e_aload_n F dX3_tell_29 rfl ?_
          refine e_iload F dX3_tell_30 rfl ?_
          refine e_callVN F u_X0_shareAt (by rfl) (c_X0_shareAt hD (h := (k : Int) + 1) (by omega) (by omega)) hD.1 rfl rfl w_mn_RX3_123 dX3_tell_32 (by rfl) (Nat.le_of_ble_eq_true rfl) (by decide) (by omega) (fun _ _ _ h _ => False.elim h) (fun r_32 w_32 n_32 h_32 hn_32 => ?_)
          obtain ⟨rfl, ew_32, en_32⟩ := h_32
          rw [ew_32, en_32]
          refine e_i2l F dX3_tell_35 (⟨by omega, by omega⟩) ?_
          refine e_aload_n F dX3_tell_36 rfl ?_
          refine e_get (ci := 3) (fi := 0) (q := (RX3, TX3, 5)) F (by first | assumption | exact e_up_s | (rw [e_up_n (by first | assumption | omega)]; first | assumption | exact e_up_s | (rw [e_up_n (by first | assumption | omega)]; first | assumption | exact e_up_s | (rw [e_up_n (by first | assumption | omega)]; first | assumption | exact e_up_s))) | exact hD.1 | exact hD1.1 | exact hD2.1 | exact gD.1 | exact gD1.1 | exact gD2.1 | exact gQ.1 | exact hQ.1 | exact gS.1 | exact hS.1 | exact zD.1) rfl (by decide) w_fl_RX3_10 (by rfl) dX3_tell_37 ?_
          refine e_iload_n F dX3_tell_40 rfl ?_
          refine e_iload F dX3_tell_41 rfl ?_
          refine e_iload_n F dX3_tell_43 rfl ?_
          refine e_callVN F u_X1_weightAt (by rfl) (c_X1_weightAt hF hwh h1 h2 (h := (k : Int) + 1) (by omega) (by omega) hpl) (by first | assumption | exact e_up_s | (rw [e_up_n (by first | assumption | omega)]; first | assumption | exact e_up_s | (rw [e_up_n (by first | assumption | omega)]; first | assumption | exact e_up_s | (rw [e_up_n (by first | assumption | omega)]; first | assumption | exact e_up_s))) | exact hD.1 | exact hD1.1 | exact hD2.1 | exact gD.1 | exact gD1.1 | exact gD2.1 | exact gQ.1 | exact hQ.1 | exact gS.1 | exact hS.1 | exact zD.1) rfl rfl w_mn_RX3_87 dX3_tell_44 (by rfl) (Nat.le_of_ble_eq_true rfl) (by decide) (by omega) (fun _ _ _ h _ => False.elim h) (fun r_44 w_44 n_44 h_44 hn_44 => ?_)
          obtain ⟨rfl, ew_44, en_44⟩ := h_44
          rw [ew_44, en_44]
          have hw9 := wgt_rg (set := set) (h := (k : Int) + 1) (x := pl) hwh
          refine e_i2l F dX3_tell_47 (⟨by omega, by omega⟩) ?_
          refine e_lmul F dX3_tell_48 ?_
          refine e_ladd F dX3_tell_49 ?_
          refine e_lstore F dX3_tell_50 (by decide) ?_
          refine e_iinc F dX3_tell_52 rfl (by decide) ?_
          refine e_goto F 6 dX3_tell_55 (by decide) ?_
          refine e_go (ih (k + 1) (by omega) (by omega)) ?_
          rw [q1]
          exact (And.intro rfl (And.intro rfl (And.intro rfl (And.intro rfl (And.intro rfl (And.intro rfl (trivial)))))))
  refine e_lconst F dX3_tell_0 (y := 0) (by decide) ?_
  refine e_lstore F dX3_tell_1 (by decide) ?_
  refine e_iconst F dX3_tell_3 ?_
  refine e_istore F dX3_tell_4 (by decide) ?_
  exact e_go (lp 8 0 (by omega) (by omega)) (And.intro rfl (And.intro rfl (And.intro rfl (And.intro rfl (And.intro rfl (And.intro rfl (trivial)))))))
