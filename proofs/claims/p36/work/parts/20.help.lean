-- 20.help.lean.txt
section
/-! Secretshares: what the methods have in common -/
def xIO : String := "java/lang/IndexOutOfBoundsException"
def xIA : String := "java/lang/IllegalArgumentException"
/-- the object at x: its field, poly, deals and spare lie behind it -/
abbrev SO (x : Nat) (kn : Int) : e_C := .inl (3, [.ref (x + 1), .ref (x + 2), .ref (x + 5), .ref (x + 24), .int (eI kn)])
def DA (w : e_W) (x : Nat) : Prop := ∃ g, w (x + 5) = some (.inr (9, 6, g)) ∧ ∀ j : Nat, j < 6 → g j = .ref (x + 6 + 3 * j)
def fl (wh : Nat) : Int := 2 ^ (ho wh).toNat - 1
theorem fl_rg : ∀ wh, wh < 7 → 15 ≤ fl wh ∧ fl wh ≤ 127 := wh_cases (by decide) (by decide) (by decide) (by decide) (by decide) (by decide) (by decide)
theorem fl_sh : ∀ wh, wh < 7 → eI 1 <<< (eI (ho wh) &&& 31) = eI (fl wh + 1) := wh_cases (by decide) (by decide) (by decide) (by decide) (by decide) (by decide) (by decide)
def pxc (E : String) (w : e_W) (c : Prop) : String → e_W → Nat → Prop := fun E2 w2 _ => E2 = E ∧ c ∧ w2 = w
theorem DL.to {w : e_W} {d : Nat} {fl dg sc : Int} {A B A2 B2 : Int → Int} (h : DL w d fl dg sc A B) (ha : ∀ j, 1 ≤ j → j < 8 → A j = A2 j) (hb : ∀ j, 0 ≤ j → j < sc → B j = B2 j) : DL w d fl dg sc A2 B2 := by
  obtain ⟨h0, ⟨f, h1, h2⟩, ⟨g, h3, h4⟩, w1, w2, w3, w4, w5⟩ := h
  exact ⟨h0, ⟨f, h1, fun j a b => by rw [h2 j a b, ha j a b]⟩, ⟨g, h3, fun j a b => by rw [h4 j a b, hb j a b]⟩, w1, w2, w3, fun j a b => by rw [← ha j a b]; exact w4 j a b, fun j a b => by rw [← hb j a b]; exact w5 j a b⟩
def tlK (wh : Nat) (set : Int) (A : Int → Int) (x : Int) : Nat → Int
  | 0 => 0
  | k + 1 => if hs set ((k : Int) + 1) then tlK wh set A x k + A ((k : Int) + 1) * wgt wh set ((k : Int) + 1) x else tlK wh set A x k
/-- what a set tells -/
def tl (wh : Nat) (set : Int) (A : Int → Int) (x : Int) : Int := tlK wh set A x (ho wh).toNat % pr wh
theorem wgt_rg {wh : Nat} {set h x : Int} (hwh : wh < 7) : 0 ≤ wgt wh set h x ∧ wgt wh set h x < pr wh := emod_rg _ hwh
theorem mulA_rg {a b : Int} (ha : -1 ≤ a) (ha2 : a < 1000003) (hb : 0 ≤ b) (hb2 : b < 1000003) : -1000003 ≤ a * b ∧ a * b ≤ 1000006000009 := by
  have h1 : a * b ≤ 1000003 * b := Int.mul_le_mul_of_nonneg_right (by omega) hb
  have h2 : (-1) * b ≤ a * b := Int.mul_le_mul_of_nonneg_right ha hb
  omega
theorem tlK_rg {wh : Nat} {set x : Int} {A : Int → Int} (hwh : wh < 7) (hA : ∀ j, 1 ≤ j → j < 8 → -1 ≤ A j ∧ A j < 1000003) (k : Nat) (hk : k ≤ 7) : -1000003 * (k : Int) ≤ tlK wh set A x k ∧ tlK wh set A x k ≤ 1000006000009 * (k : Int) := by
  have hp := pr_rg wh hwh
  induction k with
  | zero => unfold tlK; omega
  | succ k ih =>
    have ih := ih (by omega)
    unfold tlK
    split
    · have h1 := hA ((k : Int) + 1) (by omega) (by omega)
      have h2 := wgt_rg (set := set) (h := (k : Int) + 1) (x := x) hwh
      have h3 := mulA_rg h1.1 h1.2 h2.1 (by omega : wgt wh set ((k : Int) + 1) x < 1000003)
      omega
    · omega
set_option maxHeartbeats 4000000 in
set_option maxRecDepth 100000 in
theorem c_X3_dealAt {K : e_K} {l : Launch} {w : e_W} {n : Nat} {x : Nat} {kn : Int} (hX : w x = some (SO x kn)) (hDA : DA w x) {i : Int} (hi : e_r i) : e_Met K l yX3_dealAt (Cond.code yX3_dealAt cX3_dealAt 2 (Option.some (.object "Secretshares$Deal")) :: e_TB) (6) (1) [.ref x, .int (eI i)] w n (fun r w' n' => (0 ≤ i ∧ i < 6) ∧ r = some (.ref (x + 6 + 3 * i.toNat)) ∧ w' = w ∧ n' = n) (pxc xIO w (¬ (0 ≤ i ∧ i < 6))) := by
  refine e_ofV rfl (Nat.le_of_ble_eq_true rfl) ?_
  intro P9 E9 S9 M9 A9 B9 T9 C9 F hnm
  obtain ⟨g, hg, hgj⟩ := hDA
  refine e_iload_n F dX3_dealAt_0 rfl ?_
  refine e_if_lt F 13 dX3_dealAt_1 (by decide) (hi) (fun c_1 => ?_) (fun c_1 => ?_)
  · exact e_throwSW (text := "deal is not 0 to 5") F (by decide +kernel) w_cl_RX3_291 w_in_java_lang_IndexOutOfBoundsException (by decide +kernel) hat_io hgood_io dX3_dealAt_13 dX3_dealAt_16 dX3_dealAt_17 dX3_dealAt_20 dX3_dealAt_23 (Nat.le_of_ble_eq_true rfl) (by decide) (by omega) (fun n2 hn2 => ⟨rfl, by omega, rfl⟩)
  · refine e_iload_n F dX3_dealAt_4 rfl ?_
    refine e_aload_n F dX3_dealAt_5 rfl ?_
    refine e_get (ci := 3) (fi := 2) (q := (RX3, TX3, 5)) F (by first | assumption | exact e_up_s | (rw [e_up_n (by first | assumption | omega)]; first | assumption | exact e_up_s | (rw [e_up_n (by first | assumption | omega)]; first | assumption | exact e_up_s | (rw [e_up_n (by first | assumption | omega)]; first | assumption | exact e_up_s))) | exact hD.1 | exact hD1.1 | exact hD2.1 | exact gD.1 | exact gD1.1 | exact gD2.1 | exact gQ.1 | exact hQ.1 | exact gS.1 | exact hS.1 | exact zD.1) rfl (by decide) w_fl_RX3_25 (by rfl) dX3_dealAt_6 ?_
    refine e_alen9 F (by first | assumption | exact e_up_s | (rw [e_up_n (by first | assumption | omega)]; first | assumption | exact e_up_s | (rw [e_up_n (by first | assumption | omega)]; first | assumption | exact e_up_s | (rw [e_up_n (by first | assumption | omega)]; first | assumption | exact e_up_s))) | exact hD.1 | exact hD1.1 | exact hD2.1 | exact gD.1 | exact gD1.1 | exact gD2.1 | exact gQ.1 | exact hQ.1 | exact gS.1 | exact hS.1 | exact zD.1) dX3_dealAt_9 ?_
    refine e_icmp_lt F 24 dX3_dealAt_10 (by decide) (hi) (⟨by omega, by omega⟩) (fun c_10 => ?_) (fun c_10 => ?_)
    · refine e_aload_n F dX3_dealAt_24 rfl ?_
      refine e_get (ci := 3) (fi := 2) (q := (RX3, TX3, 5)) F (by first | assumption | exact e_up_s | (rw [e_up_n (by first | assumption | omega)]; first | assumption | exact e_up_s | (rw [e_up_n (by first | assumption | omega)]; first | assumption | exact e_up_s | (rw [e_up_n (by first | assumption | omega)]; first | assumption | exact e_up_s))) | exact hD.1 | exact hD1.1 | exact hD2.1 | exact gD.1 | exact gD1.1 | exact gD2.1 | exact gQ.1 | exact hQ.1 | exact gS.1 | exact hS.1 | exact zD.1) rfl (by decide) w_fl_RX3_25 (by rfl) dX3_dealAt_25 ?_
      refine e_iload_n F dX3_dealAt_28 rfl ?_
      refine e_aald9 F hg (by omega) (by omega) (by decide) (hgj i.toNat (by omega)) dX3_dealAt_29 ?_
      refine e_aret F rfl (Or.inl ⟨_, rfl⟩) (Or.inr ⟨_, rfl⟩) (by omega) ?_ dX3_dealAt_30
      exact ⟨⟨by omega, by omega⟩, rfl, rfl, rfl⟩
    · exact e_throwSW (text := "deal is not 0 to 5") F (by decide +kernel) w_cl_RX3_291 w_in_java_lang_IndexOutOfBoundsException (by decide +kernel) hat_io hgood_io dX3_dealAt_13 dX3_dealAt_16 dX3_dealAt_17 dX3_dealAt_20 dX3_dealAt_23 (Nat.le_of_ble_eq_true rfl) (by decide) (by omega) (fun n2 hn2 => ⟨rfl, by omega, rfl⟩)
set_option maxHeartbeats 4000000 in
set_option maxRecDepth 100000 in
theorem c_X3_requireHolder {K : e_K} {l : Launch} {w : e_W} {n : Nat} {x wh : Nat} {kn : Int} (hX : w x = some (SO x kn)) (hF : w (x + 1) = some (FO wh)) (hwh : wh < 7) {h : Int} (hh : e_r h) : e_Met K l yX3_requireHolder (Cond.code yX3_requireHolder cX3_requireHolder 2 none :: e_TB) (6) (1) [.ref x, .int (eI h)] w n (fun r w' n' => (1 ≤ h ∧ h ≤ ho wh) ∧ r = none ∧ w' = w ∧ n' = n) (pxc xIO w (¬ (1 ≤ h ∧ h ≤ ho wh))) := by
  refine e_ofV rfl (Nat.le_of_ble_eq_true rfl) ?_
  intro P9 E9 S9 M9 A9 B9 T9 C9 F hnm
  have hp := pr_rg wh hwh
  have ho9 := ho_rg wh hwh
  refine e_iload_n F dX3_requireHolder_0 rfl ?_
  refine e_iconst F dX3_requireHolder_1 ?_
  refine e_icmp_lt F 16 dX3_requireHolder_2 (by decide) (hh) (⟨by omega, by omega⟩) (fun c_2 => ?_) (fun c_2 => ?_)
  · exact e_throwSW (text := "holder is not 1 to M") F (by decide +kernel) w_cl_RX3_291 w_in_java_lang_IndexOutOfBoundsException (by decide +kernel) hat_io hgood_io dX3_requireHolder_16 dX3_requireHolder_19 dX3_requireHolder_20 dX3_requireHolder_23 dX3_requireHolder_26 (Nat.le_of_ble_eq_true rfl) (by decide) (by omega) (fun n2 hn2 => ⟨rfl, by omega, rfl⟩)
  · refine e_iload_n F dX3_requireHolder_5 rfl ?_
    refine e_aload_n F dX3_requireHolder_6 rfl ?_
    refine e_get (ci := 3) (fi := 0) (q := (RX3, TX3, 5)) F (by first | assumption | exact e_up_s | (rw [e_up_n (by first | assumption | omega)]; first | assumption | exact e_up_s | (rw [e_up_n (by first | assumption | omega)]; first | assumption | exact e_up_s | (rw [e_up_n (by first | assumption | omega)]; first | assumption | exact e_up_s))) | exact hD.1 | exact hD1.1 | exact hD2.1 | exact gD.1 | exact gD1.1 | exact gD2.1 | exact gQ.1 | exact hQ.1 | exact gS.1 | exact hS.1 | exact zD.1) rfl (by decide) w_fl_RX3_10 (by rfl) dX3_requireHolder_7 ?_
    refine e_getN (ci := 1) (fi := 4) (q := (RX1, TX1, 5)) F (by first | assumption | exact e_up_s | (rw [e_up_n (by first | assumption | omega)]; first | assumption | exact e_up_s | (rw [e_up_n (by first | assumption | omega)]; first | assumption | exact e_up_s | (rw [e_up_n (by first | assumption | omega)]; first | assumption | exact e_up_s))) | exact hD.1 | exact hD1.1 | exact hD2.1 | exact gD.1 | exact gD1.1 | exact gD2.1 | exact gQ.1 | exact hQ.1 | exact gS.1 | exact hS.1 | exact zD.1) rfl (by decide) w_fn_RX3_116 (by rfl) dX3_requireHolder_10 ?_
    refine e_icmp_le F 27 dX3_requireHolder_13 (by decide) (hh) (⟨by omega, by omega⟩) (fun c_13 => ?_) (fun c_13 => ?_)
    · refine e_vret F rfl (by omega) ?_ dX3_requireHolder_27
      exact ⟨⟨by omega, by omega⟩, rfl, rfl, rfl⟩
    · exact e_throwSW (text := "holder is not 1 to M") F (by decide +kernel) w_cl_RX3_291 w_in_java_lang_IndexOutOfBoundsException (by decide +kernel) hat_io hgood_io dX3_requireHolder_16 dX3_requireHolder_19 dX3_requireHolder_20 dX3_requireHolder_23 dX3_requireHolder_26 (Nat.le_of_ble_eq_true rfl) (by decide) (by omega) (fun n2 hn2 => ⟨rfl, by omega, rfl⟩)
set_option maxHeartbeats 4000000 in
set_option maxRecDepth 100000 in
theorem c_X3_allHolders {K : e_K} {l : Launch} {w : e_W} {n : Nat} {x wh : Nat} {kn : Int} (hX : w x = some (SO x kn)) (hF : w (x + 1) = some (FO wh)) (hwh : wh < 7) : e_Met K l yX3_allHolders (Cond.code yX3_allHolders cX3_allHolders 1 (Option.some .int) :: e_TB) (0) (0) [.ref x] w n (fun r w' n' => r = some (.int (eI (fl wh))) ∧ w' = w ∧ n' = n) (e_px0) := by
  refine e_ofV rfl (Nat.le_of_ble_eq_true rfl) ?_
  intro P9 E9 S9 M9 A9 B9 T9 C9 F hnm
  have hf9 := fl_sh wh hwh
  refine e_iconst F dX3_allHolders_0 ?_
  refine e_aload_n F dX3_allHolders_1 rfl ?_
  refine e_get (ci := 3) (fi := 0) (q := (RX3, TX3, 5)) F (by first | assumption | exact e_up_s | (rw [e_up_n (by first | assumption | omega)]; first | assumption | exact e_up_s | (rw [e_up_n (by first | assumption | omega)]; first | assumption | exact e_up_s | (rw [e_up_n (by first | assumption | omega)]; first | assumption | exact e_up_s))) | exact hD.1 | exact hD1.1 | exact hD2.1 | exact gD.1 | exact gD1.1 | exact gD2.1 | exact gQ.1 | exact hQ.1 | exact gS.1 | exact hS.1 | exact zD.1) rfl (by decide) w_fl_RX3_10 (by rfl) dX3_allHolders_2 ?_
  refine e_getN (ci := 1) (fi := 4) (q := (RX1, TX1, 5)) F (by first | assumption | exact e_up_s | (rw [e_up_n (by first | assumption | omega)]; first | assumption | exact e_up_s | (rw [e_up_n (by first | assumption | omega)]; first | assumption | exact e_up_s | (rw [e_up_n (by first | assumption | omega)]; first | assumption | exact e_up_s))) | exact hD.1 | exact hD1.1 | exact hD2.1 | exact gD.1 | exact gD1.1 | exact gD2.1 | exact gQ.1 | exact hQ.1 | exact gS.1 | exact hS.1 | exact zD.1) rfl (by decide) w_fn_RX3_116 (by rfl) dX3_allHolders_5 ?_
  refine e_ishl F dX3_allHolders_8 (hf9) ?_
  refine e_iconst F dX3_allHolders_9 ?_
  refine e_isub F dX3_allHolders_10 ?_
  refine e_iret F rfl (by omega) ?_ dX3_allHolders_11
  refine ⟨?_, rfl, rfl⟩
  rw [show fl wh + 1 - 1 = fl wh by omega]
set_option maxHeartbeats 4000000 in
set_option maxRecDepth 100000 in
theorem c_X3_requireSet {K : e_K} {l : Launch} {w : e_W} {n : Nat} {x wh : Nat} {kn : Int} (hX : w x = some (SO x kn)) (hF : w (x + 1) = some (FO wh)) (hwh : wh < 7) {s9 : Int} (hh : e_r s9) : e_Met K l yX3_requireSet (Cond.code yX3_requireSet cX3_requireSet 2 none :: e_TB) (6) (1) [.ref x, .int (eI s9)] w n (fun r w' n' => (1 ≤ s9 ∧ s9 ≤ fl wh) ∧ r = none ∧ w' = w ∧ n' = n) (pxc xIA w (¬ (1 ≤ s9 ∧ s9 ≤ fl wh))) := by
  refine e_ofV rfl (Nat.le_of_ble_eq_true rfl) ?_
  intro P9 E9 S9 M9 A9 B9 T9 C9 F hnm
  have hf9 := fl_rg wh hwh
  refine e_iload_n F dX3_requireSet_0 rfl ?_
  refine e_iconst F dX3_requireSet_1 ?_
  refine e_icmp_lt F 13 dX3_requireSet_2 (by decide) (hh) (⟨by omega, by omega⟩) (fun c_2 => ?_) (fun c_2 => ?_)
  · exact e_throwSW (text := "set is no set of holders") F (by decide +kernel) w_cl_RX3_42 w_in_java_lang_IllegalArgumentException (by decide +kernel) hat_ia hgood_ia dX3_requireSet_13 dX3_requireSet_16 dX3_requireSet_17 dX3_requireSet_20 dX3_requireSet_23 (Nat.le_of_ble_eq_true rfl) (by decide) (by omega) (fun n2 hn2 => ⟨rfl, by omega, rfl⟩)
  · refine e_iload_n F dX3_requireSet_5 rfl ?_
    refine e_aload_n F dX3_requireSet_6 rfl ?_
    refine e_callVV F u_X3_allHolders (by rfl) (c_X3_allHolders hX hF hwh) (by first | assumption | exact e_up_s | (rw [e_up_n (by first | assumption | omega)]; first | assumption | exact e_up_s | (rw [e_up_n (by first | assumption | omega)]; first | assumption | exact e_up_s | (rw [e_up_n (by first | assumption | omega)]; first | assumption | exact e_up_s))) | exact hD.1 | exact hD1.1 | exact hD2.1 | exact gD.1 | exact gD1.1 | exact gD2.1 | exact gQ.1 | exact hQ.1 | exact gS.1 | exact hS.1 | exact zD.1) rfl rfl w_ml_RX3_266 dX3_requireSet_7 (by rfl) (Nat.le_of_ble_eq_true rfl) (by decide) (by omega) (fun _ _ _ h _ => False.elim h) (fun r_7 w_7 n_7 h_7 hn_7 => ?_)
    obtain ⟨rfl, ew_7, en_7⟩ := h_7
    rw [ew_7, en_7]
    refine e_icmp_le F 24 dX3_requireSet_10 (by decide) (hh) (⟨by omega, by omega⟩) (fun c_10 => ?_) (fun c_10 => ?_)
    · refine e_vret F rfl (by omega) ?_ dX3_requireSet_24
      exact ⟨⟨by omega, by omega⟩, rfl, rfl, rfl⟩
    · exact e_throwSW (text := "set is no set of holders") F (by decide +kernel) w_cl_RX3_42 w_in_java_lang_IllegalArgumentException (by decide +kernel) hat_ia hgood_ia dX3_requireSet_13 dX3_requireSet_16 dX3_requireSet_17 dX3_requireSet_20 dX3_requireSet_23 (Nat.le_of_ble_eq_true rfl) (by decide) (by omega) (fun n2 hn2 => ⟨rfl, by omega, rfl⟩)
set_option maxHeartbeats 4000000 in
set_option maxRecDepth 100000 in
theorem c_X3_requireToldDegree {K : e_K} {l : Launch} {w : e_W} {n : Nat} {g : Int} (hh : e_r g) : e_Met K l yX3_requireToldDegree (Cond.code yX3_requireToldDegree cX3_requireToldDegree 1 none :: e_TB) (6) (1) [.int (eI g)] w n (fun r w' n' => (0 ≤ g ∧ g ≤ 3) ∧ r = none ∧ w' = w ∧ n' = n) (pxc xIA w (¬ (0 ≤ g ∧ g ≤ 3))) := by
  refine e_ofV rfl (Nat.le_of_ble_eq_true rfl) ?_
  intro P9 E9 S9 M9 A9 B9 T9 C9 F hnm
  refine e_iload_n F dX3_requireToldDegree_0 rfl ?_
  refine e_if_lt F 9 dX3_requireToldDegree_1 (by decide) (hh) (fun c_1 => ?_) (fun c_1 => ?_)
  · exact e_throwSW (text := "degree is not 0 to 3") F (by decide +kernel) w_cl_RX3_42 w_in_java_lang_IllegalArgumentException (by decide +kernel) hat_ia hgood_ia dX3_requireToldDegree_9 dX3_requireToldDegree_12 dX3_requireToldDegree_13 dX3_requireToldDegree_16 dX3_requireToldDegree_19 (Nat.le_of_ble_eq_true rfl) (by decide) (by omega) (fun n2 hn2 => ⟨rfl, by omega, rfl⟩)
  · refine e_iload_n F dX3_requireToldDegree_4 rfl ?_
    refine e_iconst F dX3_requireToldDegree_5 ?_
    refine e_icmp_le F 20 dX3_requireToldDegree_6 (by decide) (hh) (⟨by omega, by omega⟩) (fun c_6 => ?_) (fun c_6 => ?_)
    · refine e_vret F rfl (by omega) ?_ dX3_requireToldDegree_20
      exact ⟨⟨by omega, by omega⟩, rfl, rfl, rfl⟩
    · exact e_throwSW (text := "degree is not 0 to 3") F (by decide +kernel) w_cl_RX3_42 w_in_java_lang_IllegalArgumentException (by decide +kernel) hat_ia hgood_ia dX3_requireToldDegree_9 dX3_requireToldDegree_12 dX3_requireToldDegree_13 dX3_requireToldDegree_16 dX3_requireToldDegree_19 (Nat.le_of_ble_eq_true rfl) (by decide) (by omega) (fun n2 hn2 => ⟨rfl, by omega, rfl⟩)
set_option maxHeartbeats 4000000 in
set_option maxRecDepth 100000 in
theorem c_X3_requireCoefficient {K : e_K} {l : Launch} {w : e_W} {n : Nat} {g : Int} (hh : e_r g) : e_Met K l yX3_requireCoefficient (Cond.code yX3_requireCoefficient cX3_requireCoefficient 1 none :: e_TB) (6) (1) [.int (eI g)] w n (fun r w' n' => (0 ≤ g ∧ g ≤ 6) ∧ r = none ∧ w' = w ∧ n' = n) (pxc xIA w (¬ (0 ≤ g ∧ g ≤ 6))) := by
  refine e_ofV rfl (Nat.le_of_ble_eq_true rfl) ?_
  intro P9 E9 S9 M9 A9 B9 T9 C9 F hnm
  refine e_iload_n F dX3_requireCoefficient_0 rfl ?_
  refine e_if_lt F 10 dX3_requireCoefficient_1 (by decide) (hh) (fun c_1 => ?_) (fun c_1 => ?_)
  · exact e_throwSW (text := "k is not 0 to 6") F (by decide +kernel) w_cl_RX3_42 w_in_java_lang_IllegalArgumentException (by decide +kernel) hat_ia hgood_ia dX3_requireCoefficient_10 dX3_requireCoefficient_13 dX3_requireCoefficient_14 dX3_requireCoefficient_17 dX3_requireCoefficient_20 (Nat.le_of_ble_eq_true rfl) (by decide) (by omega) (fun n2 hn2 => ⟨rfl, by omega, rfl⟩)
  · refine e_iload_n F dX3_requireCoefficient_4 rfl ?_
    refine e_bipush F dX3_requireCoefficient_5 (by decide) ?_
    refine e_icmp_le F 21 dX3_requireCoefficient_7 (by decide) (hh) (⟨by omega, by omega⟩) (fun c_7 => ?_) (fun c_7 => ?_)
    · refine e_vret F rfl (by omega) ?_ dX3_requireCoefficient_21
      exact ⟨⟨by omega, by omega⟩, rfl, rfl, rfl⟩
    · exact e_throwSW (text := "k is not 0 to 6") F (by decide +kernel) w_cl_RX3_42 w_in_java_lang_IllegalArgumentException (by decide +kernel) hat_ia hgood_ia dX3_requireCoefficient_10 dX3_requireCoefficient_13 dX3_requireCoefficient_14 dX3_requireCoefficient_17 dX3_requireCoefficient_20 (Nat.le_of_ble_eq_true rfl) (by decide) (by omega) (fun n2 hn2 => ⟨rfl, by omega, rfl⟩)
set_option maxHeartbeats 4000000 in
set_option maxRecDepth 100000 in
theorem c_X3_quotient {K : e_K} {l : Launch} {w : e_W} {n : Nat} {x wh : Nat} {kn : Int} (hX : w x = some (SO x kn)) (hF : w (x + 1) = some (FO wh)) (hwh : wh < 7) {a b : Int} (ha : 0 ≤ a ∧ a < pr wh) (hb : 0 ≤ b ∧ b < pr wh) : e_Met K l yX3_quotient (Cond.code yX3_quotient cX3_quotient 3 (Option.some .int) :: e_TB) (2) (0) [.ref x, .int (eI a), .int (eI b)] w n (fun r w' n' => r = some (.int (eI (if b = 0 then -9 else a * iv wh b % pr wh))) ∧ w' = w ∧ n' = n) (e_px0) := by
  refine e_ofV rfl (Nat.le_of_ble_eq_true rfl) ?_
  intro P9 E9 S9 M9 A9 B9 T9 C9 F hnm
  have hp := pr_rg wh hwh
  have ho9 := ho_rg wh hwh
  have hiv := iv_rg (v := b) hwh
  refine e_iload_n F dX3_quotient_0 rfl ?_
  refine e_if_ne F 9 dX3_quotient_1 (by decide) (⟨by omega, by omega⟩) (fun c_1 => ?_) (fun c_1 => ?_)
  · refine e_aload_n F dX3_quotient_9 rfl ?_
    refine e_get (ci := 3) (fi := 0) (q := (RX3, TX3, 5)) F (by first | assumption | exact e_up_s | (rw [e_up_n (by first | assumption | omega)]; first | assumption | exact e_up_s | (rw [e_up_n (by first | assumption | omega)]; first | assumption | exact e_up_s | (rw [e_up_n (by first | assumption | omega)]; first | assumption | exact e_up_s))) | exact hD.1 | exact hD1.1 | exact hD2.1 | exact gD.1 | exact gD1.1 | exact gD2.1 | exact gQ.1 | exact hQ.1 | exact gS.1 | exact hS.1 | exact zD.1) rfl (by decide) w_fl_RX3_10 (by rfl) dX3_quotient_10 ?_
    refine e_iload_n F dX3_quotient_13 rfl ?_
    refine e_i2l F dX3_quotient_14 (⟨by omega, by omega⟩) ?_
    refine e_aload_n F dX3_quotient_15 rfl ?_
    refine e_get (ci := 3) (fi := 0) (q := (RX3, TX3, 5)) F (by first | assumption | exact e_up_s | (rw [e_up_n (by first | assumption | omega)]; first | assumption | exact e_up_s | (rw [e_up_n (by first | assumption | omega)]; first | assumption | exact e_up_s | (rw [e_up_n (by first | assumption | omega)]; first | assumption | exact e_up_s))) | exact hD.1 | exact hD1.1 | exact hD2.1 | exact gD.1 | exact gD1.1 | exact gD2.1 | exact gQ.1 | exact hQ.1 | exact gS.1 | exact hS.1 | exact zD.1) rfl (by decide) w_fl_RX3_10 (by rfl) dX3_quotient_16 ?_
    refine e_iload_n F dX3_quotient_19 rfl ?_
    refine e_callVN F u_X1_inverse (by rfl) (c_X1_inverse hF hwh hb.1 hb.2) (by first | assumption | exact e_up_s | (rw [e_up_n (by first | assumption | omega)]; first | assumption | exact e_up_s | (rw [e_up_n (by first | assumption | omega)]; first | assumption | exact e_up_s | (rw [e_up_n (by first | assumption | omega)]; first | assumption | exact e_up_s))) | exact hD.1 | exact hD1.1 | exact hD2.1 | exact gD.1 | exact gD1.1 | exact gD2.1 | exact gQ.1 | exact hQ.1 | exact gS.1 | exact hS.1 | exact zD.1) rfl rfl w_mn_RX3_304 dX3_quotient_20 (by rfl) (Nat.le_of_ble_eq_true rfl) (by decide) (by omega) (fun _ _ _ h _ => False.elim h) (fun r_20 w_20 n_20 h_20 hn_20 => ?_)
    obtain ⟨rfl, ew_20, en_20⟩ := h_20
    rw [ew_20, en_20]
    refine e_i2l F dX3_quotient_23 (⟨by omega, by omega⟩) ?_
    refine e_lmul F dX3_quotient_24 ?_
    refine e_callVN F u_X1_modPrime (by rfl) (c_X1_modPrime hF hwh (mul_rg2 (by omega) (by omega) (by omega) (by omega))) (by first | assumption | exact e_up_s | (rw [e_up_n (by first | assumption | omega)]; first | assumption | exact e_up_s | (rw [e_up_n (by first | assumption | omega)]; first | assumption | exact e_up_s | (rw [e_up_n (by first | assumption | omega)]; first | assumption | exact e_up_s))) | exact hD.1 | exact hD1.1 | exact hD2.1 | exact gD.1 | exact gD1.1 | exact gD2.1 | exact gQ.1 | exact hQ.1 | exact gS.1 | exact hS.1 | exact zD.1) rfl rfl w_mn_RX3_59 dX3_quotient_25 (by rfl) (Nat.le_of_ble_eq_true rfl) (by decide) (by omega) (fun _ _ _ h _ => False.elim h) (fun r_25 w_25 n_25 h_25 hn_25 => ?_)
    obtain ⟨rfl, ew_25, en_25⟩ := h_25
    rw [ew_25, en_25]
    refine e_iret F rfl (by omega) ?_ dX3_quotient_28
    refine ⟨?_, rfl, rfl⟩
    first | rw [if_neg (by omega)] | rw [if_pos (by omega)]
  · refine e_bipush F dX3_quotient_4 (by decide) ?_
    refine e_goto F 28 dX3_quotient_6 (by decide) ?_
    refine e_iret F rfl (by omega) ?_ dX3_quotient_28
    refine ⟨?_, rfl, rfl⟩
    first | rw [if_neg (by omega)] | rw [if_pos (by omega)]
set_option maxHeartbeats 4000000 in
set_option maxRecDepth 100000 in
theorem c_X3_weightSum {K : e_K} {l : Launch} {w : e_W} {n : Nat} {x wh : Nat} {kn : Int} (hX : w x = some (SO x kn)) (hF : w (x + 1) = some (FO wh)) (hwh : wh < 7) {set pl : Int} (h1 : 0 ≤ set) (h2 : set < 2147483648) (hpl : e_r pl) : e_Met K l yX3_weightSum (Cond.code yX3_weightSum cX3_weightSum 6 (Option.some .int) :: e_TB) (3) (0) [.ref x, .int (eI set), .int (eI pl)] w n (fun r w' n' => r = some (.int (eI (tl wh set (fun _ => 1) pl))) ∧ w' = w ∧ n' = n) (e_px0) := by
  refine e_ofV rfl (Nat.le_of_ble_eq_true rfl) ?_
  intro P9 E9 S9 M9 A9 B9 T9 C9 F hnm
  have hp := pr_rg wh hwh
  have ho9 := ho_rg wh hwh
  have lp : ∀ (N : Nat) (k : Nat), (7 - k) < N → k ≤ (ho wh).toNat → e_V K P9 l E9 (3) (0) S9 M9 A9 B9 T9 C9 6 (fun r w' n' => r = some (.int (eI (tl wh set (fun _ => 1) pl))) ∧ w' = w ∧ n' = n) (e_px0) 5 [(0, .ref x), (1, .int (eI set)), (2, .int (eI pl)), (3, .long (eJ (tlK wh set (fun _ => 1) pl k))), (5, .int (eI ((k : Int) + 1)))] [] w n (0) := by
    intro N
    induction N with
    | zero => intro k hN; exact absurd hN (Nat.not_lt_zero _)
    | succ N ih =>
      intro k hN hk
      have ht := tlK_rg (set := set) (x := pl) (A := fun _ => 1) hwh (fun j _ _ => by show -1 ≤ (1 : Int) ∧ (1 : Int) < 1000003; omega) k (by omega)
      refine e_iload F dX3_weightSum_5 rfl ?_
      refine e_aload_n F dX3_weightSum_7 rfl ?_
      refine e_get (ci := 3) (fi := 0) (q := (RX3, TX3, 5)) F (by first | assumption | exact e_up_s | (rw [e_up_n (by first | assumption | omega)]; first | assumption | exact e_up_s | (rw [e_up_n (by first | assumption | omega)]; first | assumption | exact e_up_s | (rw [e_up_n (by first | assumption | omega)]; first | assumption | exact e_up_s))) | exact hD.1 | exact hD1.1 | exact hD2.1 | exact gD.1 | exact gD1.1 | exact gD2.1 | exact gQ.1 | exact hQ.1 | exact gS.1 | exact hS.1 | exact zD.1) rfl (by decide) w_fl_RX3_10 (by rfl) dX3_weightSum_8 ?_
      refine e_getN (ci := 1) (fi := 4) (q := (RX1, TX1, 5)) F (by first | assumption | exact e_up_s | (rw [e_up_n (by first | assumption | omega)]; first | assumption | exact e_up_s | (rw [e_up_n (by first | assumption | omega)]; first | assumption | exact e_up_s | (rw [e_up_n (by first | assumption | omega)]; first | assumption | exact e_up_s))) | exact hD.1 | exact hD1.1 | exact hD2.1 | exact gD.1 | exact gD1.1 | exact gD2.1 | exact gQ.1 | exact hQ.1 | exact gS.1 | exact hS.1 | exact zD.1) rfl (by decide) w_fn_RX3_116 (by rfl) dX3_weightSum_11 ?_
      refine e_icmp_gt F 47 dX3_weightSum_14 (by decide) (⟨by omega, by omega⟩) (⟨by omega, by omega⟩) (fun c_14 => ?_) (fun c_14 => ?_)
      ·
        obtain rfl : k = (ho wh).toNat := by omega
        refine e_aload_n F dX3_weightSum_47 rfl ?_
        refine e_get (ci := 3) (fi := 0) (q := (RX3, TX3, 5)) F (by first | assumption | exact e_up_s | (rw [e_up_n (by first | assumption | omega)]; first | assumption | exact e_up_s | (rw [e_up_n (by first | assumption | omega)]; first | assumption | exact e_up_s | (rw [e_up_n (by first | assumption | omega)]; first | assumption | exact e_up_s))) | exact hD.1 | exact hD1.1 | exact hD2.1 | exact gD.1 | exact gD1.1 | exact gD2.1 | exact gQ.1 | exact hQ.1 | exact gS.1 | exact hS.1 | exact zD.1) rfl (by decide) w_fl_RX3_10 (by rfl) dX3_weightSum_48 ?_
        refine e_lload_n F dX3_weightSum_51 rfl ?_
        refine e_callVN F u_X1_modPrime (by rfl) (c_X1_modPrime hF hwh (by constructor <;> omega)) (by first | assumption | exact e_up_s | (rw [e_up_n (by first | assumption | omega)]; first | assumption | exact e_up_s | (rw [e_up_n (by first | assumption | omega)]; first | assumption | exact e_up_s | (rw [e_up_n (by first | assumption | omega)]; first | assumption | exact e_up_s))) | exact hD.1 | exact hD1.1 | exact hD2.1 | exact gD.1 | exact gD1.1 | exact gD2.1 | exact gQ.1 | exact hQ.1 | exact gS.1 | exact hS.1 | exact zD.1) rfl rfl w_mn_RX3_59 dX3_weightSum_52 (by rfl) (Nat.le_of_ble_eq_true rfl) (by decide) (by omega) (fun _ _ _ h _ => False.elim h) (fun r_52 w_52 n_52 h_52 hn_52 => ?_)
        obtain ⟨rfl, ew_52, en_52⟩ := h_52
        rw [ew_52, en_52]
        refine e_iret F rfl (by omega) ?_ dX3_weightSum_55
        exact ⟨rfl, rfl, rfl⟩
      · refine e_iload_n F dX3_weightSum_17 rfl ?_
        refine e_iload F dX3_weightSum_18 rfl ?_
        refine e_callSS F u_X3_isIn (by rfl) (c_X3_isIn h1 h2 (h := (k : Int) + 1) (by omega) (by omega)) w_ml_RX3_83 dX3_weightSum_20 (by rfl) (Nat.le_of_ble_eq_true rfl) (by decide) (by omega) (fun _ _ _ h _ => False.elim h) (fun r_20 w_20 n_20 h_20 hn_20 => ?_)
        obtain ⟨rfl, ew_20, en_20⟩ := h_20
        rw [ew_20, en_20]
        refine e_if_eq F 41 dX3_weightSum_23 (by decide) (b01_r _) (fun c_23 => ?_) (fun c_23 => ?_)
        ·
          rw [b01_0] at c_23
          have q1 : tlK wh set (fun _ => 1) pl (k + 1) = tlK wh set (fun _ => 1) pl k := if_neg c_23
          refine e_iinc F dX3_weightSum_41 rfl (by decide) ?_
          refine e_goto F 5 dX3_weightSum_44 (by decide) ?_
          refine e_go (ih (k + 1) (by omega) (by omega)) ?_
          rw [q1]
          exact (And.intro rfl (And.intro rfl (And.intro rfl (And.intro rfl (And.intro rfl (trivial))))))
        ·
          rw [b01_0, Classical.not_not] at c_23
          have q1 : tlK wh set (fun _ => 1) pl (k + 1) = tlK wh set (fun _ => 1) pl k + wgt wh set ((k : Int) + 1) pl := (if_pos c_23).trans (by show _ + 1 * _ = _; rw [Int.one_mul])
          refine e_lload_n F dX3_weightSum_26 rfl ?_
          refine e_aload_n F dX3_weightSum_27 rfl ?_
          refine e_get (ci := 3) (fi := 0) (q := (RX3, TX3, 5)) F (by first | assumption | exact e_up_s | (rw [e_up_n (by first | assumption | omega)]; first | assumption | exact e_up_s | (rw [e_up_n (by first | assumption | omega)]; first | assumption | exact e_up_s | (rw [e_up_n (by first | assumption | omega)]; first | assumption | exact e_up_s))) | exact hD.1 | exact hD1.1 | exact hD2.1 | exact gD.1 | exact gD1.1 | exact gD2.1 | exact gQ.1 | exact hQ.1 | exact gS.1 | exact hS.1 | exact zD.1) rfl (by decide) w_fl_RX3_10 (by rfl) dX3_weightSum_28 ?_
          refine e_iload_n F dX3_weightSum_31 rfl ?_
          refine e_iload F dX3_weightSum_32 rfl ?_
          refine e_iload_n F dX3_weightSum_34 rfl ?_
          refine e_callVN F u_X1_weightAt (by rfl) (c_X1_weightAt hF hwh h1 h2 (h := (k : Int) + 1) (by omega) (by omega) hpl) (by first | assumption | exact e_up_s | (rw [e_up_n (by first | assumption | omega)]; first | assumption | exact e_up_s | (rw [e_up_n (by first | assumption | omega)]; first | assumption | exact e_up_s | (rw [e_up_n (by first | assumption | omega)]; first | assumption | exact e_up_s))) | exact hD.1 | exact hD1.1 | exact hD2.1 | exact gD.1 | exact gD1.1 | exact gD2.1 | exact gQ.1 | exact hQ.1 | exact gS.1 | exact hS.1 | exact zD.1) rfl rfl w_mn_RX3_87 dX3_weightSum_35 (by rfl) (Nat.le_of_ble_eq_true rfl) (by decide) (by omega) (fun _ _ _ h _ => False.elim h) (fun r_35 w_35 n_35 h_35 hn_35 => ?_)
          obtain ⟨rfl, ew_35, en_35⟩ := h_35
          rw [ew_35, en_35]
          have hw9 := wgt_rg (set := set) (h := (k : Int) + 1) (x := pl) hwh
          refine e_i2l F dX3_weightSum_38 (⟨by omega, by omega⟩) ?_
          refine e_ladd F dX3_weightSum_39 ?_
          refine e_lstore_n F dX3_weightSum_40 (by decide) ?_
          refine e_iinc F dX3_weightSum_41 rfl (by decide) ?_
          refine e_goto F 5 dX3_weightSum_44 (by decide) ?_
          refine e_go (ih (k + 1) (by omega) (by omega)) ?_
          rw [q1]
          exact (And.intro rfl (And.intro rfl (And.intro rfl (And.intro rfl (And.intro rfl (trivial))))))
  refine e_lconst F dX3_weightSum_0 (y := 0) (by decide) ?_
  refine e_lstore_n F dX3_weightSum_1 (by decide) ?_
  refine e_iconst F dX3_weightSum_2 ?_
  refine e_istore F dX3_weightSum_3 (by decide) ?_
  exact e_go (lp 8 0 (by omega) (by omega)) (And.intro rfl (And.intro rfl (And.intro rfl (And.intro rfl (And.intro rfl (trivial))))))
set_option maxHeartbeats 4000000 in
set_option maxRecDepth 100000 in
theorem c_X3_tell {K : e_K} {l : Launch} {w : e_W} {n : Nat} {x wh : Nat} {kn : Int} (hX : w x = some (SO x kn)) (hF : w (x + 1) = some (FO wh)) (hwh : wh < 7) {d : Nat} {fl9 dg sc : Int} {A B : Int → Int} (hD : DL w d fl9 dg sc A B) {set pl : Int} (h1 : 0 ≤ set) (h2 : set < 2147483648) (hpl : e_r pl) : e_Met K l yX3_tell (Cond.code yX3_tell cX3_tell 7 (Option.some .int) :: e_TB) (3) (0) [.ref x, .ref d, .int (eI set), .int (eI pl)] w n (fun r w' n' => r = some (.int (eI (tl wh set A pl))) ∧ w' = w ∧ n' = n) (e_px0) := by
  refine e_ofV rfl (Nat.le_of_ble_eq_true rfl) ?_
  intro P9 E9 S9 M9 A9 B9 T9 C9 F hnm
  have hp := pr_rg wh hwh
  have ho9 := ho_rg wh hwh
  have hA := hD.2.2.2.2.2.2.1
  have lp : ∀ (N : Nat) (k : Nat), (7 - k) < N → k ≤ (ho wh).toNat → e_V K P9 l E9 (3) (0) S9 M9 A9 B9 T9 C9 7 (fun r w' n' => r = some (.int (eI (tl wh set A pl))) ∧ w' = w ∧ n' = n) (e_px0) 6 [(0, .ref x), (1, .ref d), (2, .int (eI set)), (3, .int (eI pl)), (4, .long (eJ (tlK wh set A pl k))), (6, .int (eI ((k : Int) + 1)))] [] w n (0) := by
    intro N
    induction N with
    | zero => intro k hN; exact absurd hN (Nat.not_lt_zero _)
    | succ N ih =>
      intro k hN hk
      have ht := tlK_rg (set := set) (x := pl) hwh hA k (by omega)
      refine e_iload F dX3_tell_6 rfl ?_
      refine e_aload_n F dX3_tell_8 rfl ?_
      refine e_get (ci := 3) (fi := 0) (q := (RX3, TX3, 5)) F (by first | assumption | exact e_up_s | (rw [e_up_n (by first | assumption | omega)]; first | assumption | exact e_up_s | (rw [e_up_n (by first | assumption | omega)]; first | assumption | exact e_up_s | (rw [e_up_n (by first | assumption | omega)]; first | assumption | exact e_up_s))) | exact hD.1 | exact hD1.1 | exact hD2.1 | exact gD.1 | exact gD1.1 | exact gD2.1 | exact gQ.1 | exact hQ.1 | exact gS.1 | exact hS.1 | exact zD.1) rfl (by decide) w_fl_RX3_10 (by rfl) dX3_tell_9 ?_
      refine e_getN (ci := 1) (fi := 4) (q := (RX1, TX1, 5)) F (by first | assumption | exact e_up_s | (rw [e_up_n (by first | assumption | omega)]; first | assumption | exact e_up_s | (rw [e_up_n (by first | assumption | omega)]; first | assumption | exact e_up_s | (rw [e_up_n (by first | assumption | omega)]; first | assumption | exact e_up_s))) | exact hD.1 | exact hD1.1 | exact hD2.1 | exact gD.1 | exact gD1.1 | exact gD2.1 | exact gQ.1 | exact hQ.1 | exact gS.1 | exact hS.1 | exact zD.1) rfl (by decide) w_fn_RX3_116 (by rfl) dX3_tell_12 ?_
      refine e_icmp_gt F 58 dX3_tell_15 (by decide) (⟨by omega, by omega⟩) (⟨by omega, by omega⟩) (fun c_15 => ?_) (fun c_15 => ?_)
      ·
        obtain rfl : k = (ho wh).toNat := by omega
        refine e_aload_n F dX3_tell_58 rfl ?_
        refine e_get (ci := 3) (fi := 0) (q := (RX3, TX3, 5)) F (by first | assumption | exact e_up_s | (rw [e_up_n (by first | assumption | omega)]; first | assumption | exact e_up_s | (rw [e_up_n (by first | assumption | omega)]; first | assumption | exact e_up_s | (rw [e_up_n (by first | assumption | omega)]; first | assumption | exact e_up_s))) | exact hD.1 | exact hD1.1 | exact hD2.1 | exact gD.1 | exact gD1.1 | exact gD2.1 | exact gQ.1 | exact hQ.1 | exact gS.1 | exact hS.1 | exact zD.1) rfl (by decide) w_fl_RX3_10 (by rfl) dX3_tell_59 ?_
        refine e_lload F dX3_tell_62 rfl ?_
        refine e_callVN F u_X1_modPrime (by rfl) (c_X1_modPrime hF hwh (by constructor <;> omega)) (by first | assumption | exact e_up_s | (rw [e_up_n (by first | assumption | omega)]; first | assumption | exact e_up_s | (rw [e_up_n (by first | assumption | omega)]; first | assumption | exact e_up_s | (rw [e_up_n (by first | assumption | omega)]; first | assumption | exact e_up_s))) | exact hD.1 | exact hD1.1 | exact hD2.1 | exact gD.1 | exact gD1.1 | exact gD2.1 | exact gQ.1 | exact hQ.1 | exact gS.1 | exact hS.1 | exact zD.1) rfl rfl w_mn_RX3_59 dX3_tell_64 (by rfl) (Nat.le_of_ble_eq_true rfl) (by decide) (by omega) (fun _ _ _ h _ => False.elim h) (fun r_64 w_64 n_64 h_64 hn_64 => ?_)
        obtain ⟨rfl, ew_64, en_64⟩ := h_64
        rw [ew_64, en_64]
        refine e_iret F rfl (by omega) ?_ dX3_tell_67
        exact ⟨rfl, rfl, rfl⟩
      · refine e_iload_n F dX3_tell_18 rfl ?_
        refine e_iload F dX3_tell_19 rfl ?_
        refine e_callSS F u_X3_isIn (by rfl) (c_X3_isIn h1 h2 (h := (k : Int) + 1) (by omega) (by omega)) w_ml_RX3_83 dX3_tell_21 (by rfl) (Nat.le_of_ble_eq_true rfl) (by decide) (by omega) (fun _ _ _ h _ => False.elim h) (fun r_21 w_21 n_21 h_21 hn_21 => ?_)
        obtain ⟨rfl, ew_21, en_21⟩ := h_21
        rw [ew_21, en_21]
        refine e_if_eq F 52 dX3_tell_24 (by decide) (b01_r _) (fun c_24 => ?_) (fun c_24 => ?_)
        ·
          rw [b01_0] at c_24
          have q1 : tlK wh set A pl (k + 1) = tlK wh set A pl k := if_neg c_24
          refine e_iinc F dX3_tell_52 rfl (by decide) ?_
          refine e_goto F 6 dX3_tell_55 (by decide) ?_
          refine e_go (ih (k + 1) (by omega) (by omega)) ?_
          rw [q1]
          exact (And.intro rfl (And.intro rfl (And.intro rfl (And.intro rfl (And.intro rfl (And.intro rfl (trivial)))))))
        ·
          rw [b01_0, Classical.not_not] at c_24
          have q1 : tlK wh set A pl (k + 1) = tlK wh set A pl k + A ((k : Int) + 1) * wgt wh set ((k : Int) + 1) pl := if_pos c_24
          have hAk := hA ((k : Int) + 1) (by omega) (by omega)
          refine e_lload F dX3_tell_27 rfl ?_
          refine e_aload_n F dX3_tell_29 rfl ?_
          refine e_iload F dX3_tell_30 rfl ?_
          refine e_callVN F u_X0_shareAt (by rfl) (c_X0_shareAt hD (h := (k : Int) + 1) (by omega) (by omega)) hD.1 rfl rfl w_mn_RX3_123 dX3_tell_32 (by rfl) (Nat.le_of_ble_eq_true rfl) (by decide) (by omega) (fun _ _ _ h _ => False.elim h) (fun r_32 w_32 n_32 h_32 hn_32 => ?_)
          obtain ⟨rfl, ew_32, en_32⟩ := h_32
          rw [ew_32, en_32]
          refine e_i2l F dX3_tell_35 (⟨by omega, by omega⟩) ?_
          refine e_aload_n F dX3_tell_36 rfl ?_
          refine e_get (ci := 3) (fi := 0) (q := (RX3, TX3, 5)) F (by first | assumption | exact e_up_s | (rw [e_up_n (by first | assumption | omega)]; first | assumption | exact e_up_s | (rw [e_up_n (by first | assumption | omega)]; first | assumption | exact e_up_s | (rw [e_up_n (by first | assumption | omega)]; first | assumption | exact e_up_s))) | exact hD.1 | exact hD1.1 | exact hD2.1 | exact gD.1 | exact gD1.1 | exact gD2.1 | exact gQ.1 | exact hQ.1 | exact gS.1 | exact hS.1 | exact zD.1) rfl (by decide) w_fl_RX3_10 (by rfl) dX3_tell_37 ?_
          refine e_iload_n F dX3_tell_40 rfl ?_
          refine e_iload F dX3_tell_41 rfl ?_
          refine e_iload_n F dX3_tell_43 rfl ?_
          refine e_callVN F u_X1_weightAt (by rfl) (c_X1_weightAt hF hwh h1 h2 (h := (k : Int) + 1) (by omega) (by omega) hpl) (by first | assumption | exact e_up_s | (rw [e_up_n (by first | assumption | omega)]; first | assumption | exact e_up_s | (rw [e_up_n (by first | assumption | omega)]; first | assumption | exact e_up_s | (rw [e_up_n (by first | assumption | omega)]; first | assumption | exact e_up_s))) | exact hD.1 | exact hD1.1 | exact hD2.1 | exact gD.1 | exact gD1.1 | exact gD2.1 | exact gQ.1 | exact hQ.1 | exact gS.1 | exact hS.1 | exact zD.1) rfl rfl w_mn_RX3_87 dX3_tell_44 (by rfl) (Nat.le_of_ble_eq_true rfl) (by decide) (by omega) (fun _ _ _ h _ => False.elim h) (fun r_44 w_44 n_44 h_44 hn_44 => ?_)
          obtain ⟨rfl, ew_44, en_44⟩ := h_44
          rw [ew_44, en_44]
          have hw9 := wgt_rg (set := set) (h := (k : Int) + 1) (x := pl) hwh
          refine e_i2l F dX3_tell_47 (⟨by omega, by omega⟩) ?_
          refine e_lmul F dX3_tell_48 ?_
          refine e_ladd F dX3_tell_49 ?_
          refine e_lstore F dX3_tell_50 (by decide) ?_
          refine e_iinc F dX3_tell_52 rfl (by decide) ?_
          refine e_goto F 6 dX3_tell_55 (by decide) ?_
          refine e_go (ih (k + 1) (by omega) (by omega)) ?_
          rw [q1]
          exact (And.intro rfl (And.intro rfl (And.intro rfl (And.intro rfl (And.intro rfl (And.intro rfl (trivial)))))))
  refine e_lconst F dX3_tell_0 (y := 0) (by decide) ?_
  refine e_lstore F dX3_tell_1 (by decide) ?_
  refine e_iconst F dX3_tell_3 ?_
  refine e_istore F dX3_tell_4 (by decide) ?_
  exact e_go (lp 8 0 (by omega) (by omega)) (And.intro rfl (And.intro rfl (And.intro rfl (And.intro rfl (And.intro rfl (And.intro rfl (trivial)))))))
end
-- 21.help.lean.txt
section
/-! Secretshares: lines, suspects, seals -/
abbrev il (wh : Nat) (set : Int) (A : Int → Int) (fl9 dg : Int) : Prop := fl9 = 1 ∧ hiK (gt wh set A (ho wh).toNat) 7 ≤ dg
/-- only the poly's rows changed -/
def PX (w w' : e_W) (x : Nat) : Prop := (∃ P, PL w' (x + 2) P) ∧ PF w w' (x + 2)
theorem hiK_rg (P : Int → Int) (k : Nat) : -1 ≤ hiK P k ∧ hiK P k < k + 1 := by
  induction k with
  | zero => unfold hiK; omega
  | succ k ih =>
    unfold hiK
    split <;> omega
theorem PX.keepD {w w' : e_W} {x d : Nat} {P : Int → Int} {fl9 dg sc : Int} {A B : Int → Int} (h : PF w w' (x + 2)) (hQ : PL w (x + 2) P) (hD : DL w d fl9 dg sc A B) (hd : x + 5 ≤ d) : DL w' d fl9 dg sc A B :=
  hD.fr (h _ (by omega) (by omega)) (h _ (by omega) (by omega)) (h _ (by omega) (by omega))
theorem eI_andn_k : ∀ s : Nat, s < 128 → ∀ k : Nat, k < 7 → hs (s : Int) ((k : Int) + 1) → eI (s : Int) &&& (eI (2 ^ k) ^^^ eI (-1)) = eI ((s : Int) - 2 ^ k) := by decide +kernel
theorem eI_andn {s : Int} {k : Nat} (h0 : 0 ≤ s) (h1 : s < 128) (hk : k < 7) (h : hs s ((k : Int) + 1)) : eI s &&& (eI (2 ^ k) ^^^ eI (-1)) = eI (s - 2 ^ k) := by
  obtain ⟨t, rfl⟩ : ∃ t : Nat, (t : Int) = s := ⟨s.toNat, by omega⟩
  exact eI_andn_k t (by omega) k hk h
theorem hs_le_k : ∀ s : Nat, s < 128 → ∀ k : Nat, k < 7 → hs (s : Int) ((k : Int) + 1) → (2 : Int) ^ k ≤ (s : Int) := by decide +kernel
theorem hs_le {s : Int} {k : Nat} (h0 : 0 ≤ s) (h1 : s < 128) (hk : k < 7) (h : hs s ((k : Int) + 1)) : (2 : Int) ^ k ≤ s := by
  obtain ⟨t, rfl⟩ : ∃ t : Nat, (t : Int) = s := ⟨s.toNat, by omega⟩
  exact hs_le_k t (by omega) k hk h
def ssK (wh : Nat) (A : Int → Int) (fl9 dg : Int) : Nat → Int
  | 0 => 0
  | k + 1 => if hs (st7 A) ((k : Int) + 1) ∧ il wh (st7 A - 2 ^ k) A fl9 dg then ssK wh A fl9 dg k + 2 ^ k else ssK wh A fl9 dg k
theorem ssK_rg (wh : Nat) (A : Int → Int) (fl9 dg : Int) (k : Nat) : 0 ≤ ssK wh A fl9 dg k ∧ ssK wh A fl9 dg k < 2 ^ k := by
  induction k with
  | zero => unfold ssK; decide
  | succ k ih =>
    unfold ssK
    have hp : (0 : Int) < 2 ^ k := Int.pow_pos (by omega)
    rw [Int.pow_succ]
    split <;> omega
def ffd (set M : Int) : Nat → Int
  | 0 => -9
  | r + 1 => if hs set (M - (r : Int)) then M - (r : Int) else ffd set M r
def wrf (wh : Nat) (A : Int → Int) (fl9 dg : Int) : Int := if fl9 = 0 then -9 else if il wh (st7 A) A fl9 dg then 0 else if bc (st7 A) < dg + 3 then -9 else ffd (ssK wh A fl9 dg (ho wh).toNat) (ho wh) (ho wh).toNat
def pbK (p : Int) : Nat → Int
  | 0 => 1
  | k + 1 => if pbK p k ≤ 125 then pbK p k * p else pbK p k
theorem pbK_rg {p : Int} (h1 : 1 ≤ p) (h2 : p ≤ 1000003) (k : Nat) : 1 ≤ pbK p k ∧ pbK p k ≤ 125000375 := by
  induction k with
  | zero => unfold pbK; omega
  | succ k ih =>
    unfold pbK
    split
    · rename_i q
      have h3 : pbK p k * p ≤ 125 * 1000003 := Int.mul_le_mul q h2 (by omega) (by omega)
      have h4 : 1 * 1 ≤ pbK p k * p := Int.mul_le_mul ih.1 h1 (by omega) (by omega)
      omega
    · exact ih
theorem pbK_stop {p : Int} {k : Nat} (h : 125 < pbK p k) : ∀ j, k ≤ j → pbK p j = pbK p k := by
  intro j hj
  induction j with
  | zero => have : k = 0 := by omega
            rw [this]
  | succ j ih =>
    by_cases hk : k = j + 1
    · rw [hk]
    · have h9 := ih (by omega)
      have e9 : pbK p (j + 1) = if pbK p j ≤ 125 then pbK p j * p else pbK p j := rfl
      rw [e9, h9, if_neg (by omega)]
def dfK (q : Int) (B : Int → Int) (h : Int) : Nat → Int
  | 0 => 1
  | k + 1 => dfK q B h k * e_pw (B (k : Int)) (h ^ k).toNat q % q
theorem dfK_rg {q : Int} (hq : 2 ≤ q) (B : Int → Int) (h : Int) (k : Nat) : 0 ≤ dfK q B h k ∧ dfK q B h k < q := by
  cases k with
  | zero => unfold dfK; omega
  | succ k => unfold dfK; exact ⟨Int.emod_nonneg _ (by omega), Int.emod_lt_of_pos _ (by omega)⟩
theorem hpow_rg {h : Int} {k : Nat} (h1 : 1 ≤ h) (h2 : h ≤ 7) (hk : k ≤ 7) : 1 ≤ h ^ k ∧ h ^ k ≤ 823543 := by
  have a1 : (0 : Int) < h ^ k := Int.pow_pos (by omega)
  obtain ⟨t, rfl⟩ : ∃ t : Nat, (t : Int) = h := ⟨h.toNat, by omega⟩
  have a2 : t ^ k ≤ 7 ^ 7 := Nat.le_trans (Nat.pow_le_pow_left (by omega) k) (Nat.pow_le_pow_right (by omega) hk)
  have a3 : ((t ^ k : Nat) : Int) ≤ ((7 ^ 7 : Nat) : Int) := by exact_mod_cast a2
  rw [Int.natCast_pow] at a3
  omega
/-- does the share of h fit -/
abbrev fit (wh : Nat) (sc : Int) (A B : Int → Int) (h : Int) : Prop := sl wh (A h) = dfK (gr wh) B h sc.toNat
def daB (wh : Nat) (sc : Int) (A B : Int → Int) (set M : Int) : Nat → Bool
  | 0 => true
  | r + 1 => (!decide (hs set (M - (r : Int))) || decide (fit wh sc A B (M - (r : Int)))) && daB wh sc A B set M r
set_option maxHeartbeats 4000000 in
set_option maxRecDepth 100000 in
theorem c_X3_isInLine {K : e_K} {l : Launch} {w : e_W} {n : Nat} {x wh : Nat} {kn : Int} (hX : w x = some (SO x kn)) (hF : w (x + 1) = some (FO wh)) (hwh : wh < 7) {P : Int → Int} (hQ : PL w (x + 2) P) {d : Nat} {fl9 dg sc : Int} {A B : Int → Int} (hD : DL w d fl9 dg sc A B) (hd : x + 5 ≤ d) {set : Int} (h1 : 0 ≤ set) (h2 : set < 2147483648) : e_Met K l yX3_isInLine (Cond.code yX3_isInLine cX3_isInLine 3 (Option.some .boolean) :: e_TB) (4) (0) [.ref x, .ref d, .int (eI set)] w n (fun r w' n' => r = some (.int (eI (b01 (il wh set A fl9 dg)))) ∧ n' = n ∧ PX w w' x) (e_px0) := by
  refine e_ofV rfl (Nat.le_of_ble_eq_true rfl) ?_
  intro P9 E9 S9 M9 A9 B9 T9 C9 F hnm
  have hp := pr_rg wh hwh
  have ho9 := ho_rg wh hwh
  have hQ0 := hQ
  obtain ⟨h0, ⟨P9f, hf, hfP⟩, ⟨t, ht⟩, hr⟩ := hQ
  have hW := hD.2.2.2
  have hfl := hW.1
  have hdg := hW.2.1
  refine e_aload_n F dX3_isInLine_0 rfl ?_
  refine e_callVN F u_X0_isEmpty (by rfl) (c_X0_isEmpty hD) hD.1 rfl rfl w_mn_RX3_109 dX3_isInLine_1 (by rfl) (Nat.le_of_ble_eq_true rfl) (by decide) (by omega) (fun _ _ _ h _ => False.elim h) (fun r_1 w_1 n_1 h_1 hn_1 => ?_)
  obtain ⟨rfl, ew_1, en_1⟩ := h_1
  rw [ew_1, en_1]
  refine e_if_eq F 9 dX3_isInLine_4 (by decide) (b01_r _) (fun c_4 => ?_) (fun c_4 => ?_)
  ·
    rw [b01_0] at c_4
    refine e_aload_n F dX3_isInLine_9 rfl ?_
    refine e_get (ci := 3) (fi := 1) (q := (RX3, TX3, 5)) F (by first | assumption | exact e_up_s | (rw [e_up_n (by first | assumption | omega)]; first | assumption | exact e_up_s | (rw [e_up_n (by first | assumption | omega)]; first | assumption | exact e_up_s | (rw [e_up_n (by first | assumption | omega)]; first | assumption | exact e_up_s))) | exact hD.1 | exact hD1.1 | exact hD2.1 | exact gD.1 | exact gD1.1 | exact gD2.1 | exact gQ.1 | exact hQ.1 | exact gS.1 | exact hS.1 | exact zD.1) rfl (by decide) w_fl_RX3_19 (by rfl) dX3_isInLine_10 ?_
    refine e_aload_n F dX3_isInLine_13 rfl ?_
    refine e_get (ci := 3) (fi := 0) (q := (RX3, TX3, 5)) F (by first | assumption | exact e_up_s | (rw [e_up_n (by first | assumption | omega)]; first | assumption | exact e_up_s | (rw [e_up_n (by first | assumption | omega)]; first | assumption | exact e_up_s | (rw [e_up_n (by first | assumption | omega)]; first | assumption | exact e_up_s))) | exact hD.1 | exact hD1.1 | exact hD2.1 | exact gD.1 | exact gD1.1 | exact gD2.1 | exact gQ.1 | exact hQ.1 | exact gS.1 | exact hS.1 | exact zD.1) rfl (by decide) w_fl_RX3_10 (by rfl) dX3_isInLine_14 ?_
    refine e_aload_n F dX3_isInLine_17 rfl ?_
    refine e_iload_n F dX3_isInLine_18 rfl ?_
    refine e_callVN F u_X2_goThrough (by rfl) (c_X2_goThrough hQ0 hF hwh hD h1 h2) h0 rfl rfl w_mn_RX3_213 dX3_isInLine_19 (by rfl) (Nat.le_of_ble_eq_true rfl) (by decide) (by omega) (fun _ _ _ h _ => False.elim h) (fun r_19 w_19 n_19 h_19 hn_19 => ?_)
    obtain ⟨rfl, en19, gP, gF⟩ := h_19
    rw [en19]
    have gX : w_19 x = some (SO x kn) := by rw [gF x (by omega) (by omega)]; exact hX
    have gD := PX.keepD gF hQ0 hD hd
    have hk9 := hiK_rg (gt wh set A (ho wh).toNat) 7
    refine e_aload_n F dX3_isInLine_22 rfl ?_
    refine e_get (ci := 3) (fi := 1) (q := (RX3, TX3, 5)) F (by first | assumption | exact e_up_s | (rw [e_up_n (by first | assumption | omega)]; first | assumption | exact e_up_s | (rw [e_up_n (by first | assumption | omega)]; first | assumption | exact e_up_s | (rw [e_up_n (by first | assumption | omega)]; first | assumption | exact e_up_s))) | exact hD.1 | exact hD1.1 | exact hD2.1 | exact gD.1 | exact gD1.1 | exact gD2.1 | exact gQ.1 | exact hQ.1 | exact gS.1 | exact hS.1 | exact zD.1) rfl (by decide) w_fl_RX3_19 (by rfl) dX3_isInLine_23 ?_
    refine e_callVN F u_X2_highest (by rfl) (c_X2_highest gP) gP.1 rfl rfl w_mn_RX3_217 dX3_isInLine_26 (by rfl) (Nat.le_of_ble_eq_true rfl) (by decide) (by omega) (fun _ _ _ h _ => False.elim h) (fun r_26 w_26 n_26 h_26 hn_26 => ?_)
    obtain ⟨rfl, ew_26, en_26⟩ := h_26
    rw [ew_26, en_26]
    refine e_aload_n F dX3_isInLine_29 rfl ?_
    refine e_getN (ci := 0) (fi := 1) (q := (RX0, TX0, 5)) F gD.1 rfl (by decide) w_fn_RX3_113 (by rfl) dX3_isInLine_30 ?_
    refine e_icmp_gt F 40 dX3_isInLine_33 (by decide) (⟨by omega, by omega⟩) (⟨by omega, by omega⟩) (fun c_33 => ?_) (fun c_33 => ?_)
    · refine e_iconst F dX3_isInLine_40 ?_
      refine e_zret F rfl (by omega) (by omega) ?_ dX3_isInLine_41
      refine ⟨?_, rfl, ⟨_, gP⟩, gF⟩
      first | (rw [b01_t]; exact ⟨by omega, by omega⟩) | (rw [b01_f]; exact fun q => by omega)
    · refine e_iconst F dX3_isInLine_36 ?_
      refine e_goto F 41 dX3_isInLine_37 (by decide) ?_
      refine e_zret F rfl (by omega) (by omega) ?_ dX3_isInLine_41
      refine ⟨?_, rfl, ⟨_, gP⟩, gF⟩
      first | (rw [b01_t]; exact ⟨by omega, by omega⟩) | (rw [b01_f]; exact fun q => by omega)
  ·
    rw [b01_0, Classical.not_not] at c_4
    refine e_iconst F dX3_isInLine_7 ?_
    refine e_zret F rfl (by omega) (by omega) ?_ dX3_isInLine_8
    refine ⟨?_, rfl, ⟨_, hQ0⟩, fun q _ _ => rfl⟩
    rw [b01_f (fun q => by omega)]
set_option maxHeartbeats 4000000 in
set_option maxRecDepth 100000 in
theorem c_X3_suspectSet {K : e_K} {l : Launch} {w : e_W} {n : Nat} {x wh : Nat} {kn : Int} (hX : w x = some (SO x kn)) (hF : w (x + 1) = some (FO wh)) (hwh : wh < 7) {P : Int → Int} (hQ : PL w (x + 2) P) {d : Nat} {fl9 dg sc : Int} {A B : Int → Int} (hD : DL w d fl9 dg sc A B) (hd : x + 5 ≤ d) : e_Met K l yX3_suspectSet (Cond.code yX3_suspectSet cX3_suspectSet 5 (Option.some .int) :: e_TB) (5) (0) [.ref x, .ref d] w n (fun r w' n' => r = some (.int (eI (ssK wh A fl9 dg (ho wh).toNat))) ∧ n' = n ∧ PX w w' x) (e_px0) := by
  refine e_ofV rfl (Nat.le_of_ble_eq_true rfl) ?_
  intro P9 E9 S9 M9 A9 B9 T9 C9 F hnm
  have hp := pr_rg wh hwh
  have ho9 := ho_rg wh hwh
  have hst := st7_rg A
  have lp : ∀ (N : Nat) (k : Nat) (wl : e_W), (7 - k) < N → (k ≤ (ho wh).toNat ∧ PX w wl x) → e_V K P9 l E9 (5) (0) S9 M9 A9 B9 T9 C9 5 (fun r w' n' => r = some (.int (eI (ssK wh A fl9 dg (ho wh).toNat))) ∧ n' = n ∧ PX w w' x) (e_px0) 10 [(0, .ref x), (1, .ref d), (2, .int (eI (st7 A))), (3, .int (eI (ssK wh A fl9 dg k))), (4, .int (eI ((k : Int) + 1)))] [] wl n (0) := by
    intro N
    induction N with
    | zero => intro k wl hN; exact absurd hN (Nat.not_lt_zero _)
    | succ N ih =>
      intro k wl hN ⟨hk, ⟨⟨P2, gQ⟩, gF⟩⟩
      have gX : wl x = some (SO x kn) := by rw [gF x (by omega) (by omega)]; exact hX
      have gFO : wl (x + 1) = some (FO wh) := by rw [gF _ (by omega) (by omega)]; exact hF
      have gD := PX.keepD gF hQ hD hd
      have hsk := ssK_rg wh A fl9 dg k
      refine e_iload F dX3_suspectSet_10 rfl ?_
      refine e_aload_n F dX3_suspectSet_12 rfl ?_
      refine e_get (ci := 3) (fi := 0) (q := (RX3, TX3, 5)) F (by first | assumption | exact e_up_s | (rw [e_up_n (by first | assumption | omega)]; first | assumption | exact e_up_s | (rw [e_up_n (by first | assumption | omega)]; first | assumption | exact e_up_s | (rw [e_up_n (by first | assumption | omega)]; first | assumption | exact e_up_s))) | exact hD.1 | exact hD1.1 | exact hD2.1 | exact gD.1 | exact gD1.1 | exact gD2.1 | exact gQ.1 | exact hQ.1 | exact gS.1 | exact hS.1 | exact zD.1) rfl (by decide) w_fl_RX3_10 (by rfl) dX3_suspectSet_13 ?_
      refine e_getN (ci := 1) (fi := 4) (q := (RX1, TX1, 5)) F (by first | assumption | exact e_up_s | (rw [e_up_n (by first | assumption | omega)]; first | assumption | exact e_up_s | (rw [e_up_n (by first | assumption | omega)]; first | assumption | exact e_up_s | (rw [e_up_n (by first | assumption | omega)]; first | assumption | exact e_up_s))) | exact hD.1 | exact hD1.1 | exact hD2.1 | exact gD.1 | exact gD1.1 | exact gD2.1 | exact gQ.1 | exact hQ.1 | exact gS.1 | exact hS.1 | exact zD.1) rfl (by decide) w_fn_RX3_116 (by rfl) dX3_suspectSet_16 ?_
      refine e_icmp_gt F 62 dX3_suspectSet_19 (by decide) (⟨by omega, by omega⟩) (⟨by omega, by omega⟩) (fun c_19 => ?_) (fun c_19 => ?_)
      ·
        obtain rfl : k = (ho wh).toNat := by omega
        refine e_iload_n F dX3_suspectSet_62 rfl ?_
        refine e_iret F rfl (by omega) ?_ dX3_suspectSet_63
        exact ⟨rfl, rfl, ⟨_, gQ⟩, gF⟩
      · refine e_iload_n F dX3_suspectSet_22 rfl ?_
        refine e_iload F dX3_suspectSet_23 rfl ?_
        refine e_callSS F u_X3_isIn (by rfl) (c_X3_isIn hst.1 (by omega) (h := (k : Int) + 1) (by omega) (by omega)) w_ml_RX3_83 dX3_suspectSet_25 (by rfl) (Nat.le_of_ble_eq_true rfl) (by decide) (by omega) (fun _ _ _ h _ => False.elim h) (fun r_25 w_25 n_25 h_25 hn_25 => ?_)
        obtain ⟨rfl, ew_25, en_25⟩ := h_25
        rw [ew_25, en_25]
        refine e_if_eq F 56 dX3_suspectSet_28 (by decide) (b01_r _) (fun c_28 => ?_) (fun c_28 => ?_)
        ·
          rw [b01_0] at c_28
          have q1 : ssK wh A fl9 dg (k + 1) = ssK wh A fl9 dg k := if_neg (fun q => c_28 q.1)
          refine e_iinc F dX3_suspectSet_56 rfl (by decide) ?_
          refine e_goto F 10 dX3_suspectSet_59 (by decide) ?_
          first
          | (refine e_go (ih (k + 1) w_42 (by omega) ⟨by omega, zQ, zF⟩) ?_
             rw [q1]
             exact (And.intro rfl (And.intro rfl (And.intro rfl (And.intro rfl (And.intro rfl (trivial)))))))
          | (refine e_go (ih (k + 1) wl (by omega) ⟨by omega, ⟨_, gQ⟩, gF⟩) ?_
             rw [q1]
             exact (And.intro rfl (And.intro rfl (And.intro rfl (And.intro rfl (And.intro rfl (trivial)))))))
        ·
          rw [b01_0, Classical.not_not] at c_28
          have e9 : ((k : Int) + 1 - 1).toNat = k := by omega
          have hle := hs_le hst.1 hst.2 (by omega) c_28
          have hpp : (0 : Int) < 2 ^ k := Int.pow_pos (by omega)
          refine e_aload_n F dX3_suspectSet_31 rfl ?_
          refine e_aload_n F dX3_suspectSet_32 rfl ?_
          refine e_iload_n F dX3_suspectSet_33 rfl ?_
          refine e_iload F dX3_suspectSet_34 rfl ?_
          refine e_callSS F u_X3_bitOf (by rfl) (c_X3_bitOf (h := (k : Int) + 1) (by omega) (by omega)) w_ml_RX3_188 dX3_suspectSet_36 (by rfl) (Nat.le_of_ble_eq_true rfl) (by decide) (by omega) (fun _ _ _ h _ => False.elim h) (fun r_36 w_36 n_36 h_36 hn_36 => ?_)
          obtain ⟨rfl, ew_36, en_36⟩ := h_36
          rw [ew_36, en_36]
          refine e_iconst F dX3_suspectSet_39 ?_
          refine e_ixor F dX3_suspectSet_40 ((eI_self _).symm) ?_
          refine e_iand F dX3_suspectSet_41 (show _ = eI (st7 A - 2 ^ k) from by rw [eI_self, e9]; exact eI_andn hst.1 hst.2 (by omega) c_28) ?_
          refine e_callVV F u_X3_isInLine (by rfl) (c_X3_isInLine gX gFO hwh gQ gD hd (set := st7 A - 2 ^ k) (by omega) (by omega)) gX rfl rfl w_ml_RX3_198 dX3_suspectSet_42 (by rfl) (Nat.le_of_ble_eq_true rfl) (by decide) (by omega) (fun _ _ _ h _ => False.elim h) (fun r_42 w_42 n_42 h_42 hn_42 => ?_)
          obtain ⟨rfl, en42, zQ, zF0⟩ := h_42
          rw [en42]
          have zF : PF w w_42 (x + 2) := fun q a1 a2 => by rw [zF0 q a1 a2, gF q a1 a2]
          refine e_if_eq F 56 dX3_suspectSet_45 (by decide) (b01_r _) (fun c_45 => ?_) (fun c_45 => ?_)
          ·
            rw [b01_0] at c_45
            have q1 : ssK wh A fl9 dg (k + 1) = ssK wh A fl9 dg k := if_neg (fun q => c_45 q.2)
            refine e_iinc F dX3_suspectSet_56 rfl (by decide) ?_
            refine e_goto F 10 dX3_suspectSet_59 (by decide) ?_
            first
            | (refine e_go (ih (k + 1) w_42 (by omega) ⟨by omega, zQ, zF⟩) ?_
               rw [q1]
               exact (And.intro rfl (And.intro rfl (And.intro rfl (And.intro rfl (And.intro rfl (trivial)))))))
            | (refine e_go (ih (k + 1) wl (by omega) ⟨by omega, ⟨_, gQ⟩, gF⟩) ?_
               rw [q1]
               exact (And.intro rfl (And.intro rfl (And.intro rfl (And.intro rfl (And.intro rfl (trivial)))))))
          ·
            rw [b01_0, Classical.not_not] at c_45
            have q1 : ssK wh A fl9 dg (k + 1) = ssK wh A fl9 dg k + 2 ^ k := if_pos ⟨c_28, c_45⟩
            refine e_iload_n F dX3_suspectSet_48 rfl ?_
            refine e_iload F dX3_suspectSet_49 rfl ?_
            refine e_callSS F u_X3_bitOf (by rfl) (c_X3_bitOf (h := (k : Int) + 1) (by omega) (by omega)) w_ml_RX3_188 dX3_suspectSet_51 (by rfl) (Nat.le_of_ble_eq_true rfl) (by decide) (by omega) (fun _ _ _ h _ => False.elim h) (fun r_51 w_51 n_51 h_51 hn_51 => ?_)
            obtain ⟨rfl, ew_51, en_51⟩ := h_51
            rw [ew_51, en_51]
            refine e_ior F dX3_suspectSet_54 (by rw [e9]; exact eI_or (by omega) hsk.1 hsk.2) ?_
            refine e_istore_n F dX3_suspectSet_55 (by decide) ?_
            refine e_iinc F dX3_suspectSet_56 rfl (by decide) ?_
            refine e_goto F 10 dX3_suspectSet_59 (by decide) ?_
            first
            | (refine e_go (ih (k + 1) w_42 (by omega) ⟨by omega, zQ, zF⟩) ?_
               rw [q1]
               exact (And.intro rfl (And.intro rfl (And.intro rfl (And.intro rfl (And.intro rfl (trivial)))))))
            | (refine e_go (ih (k + 1) wl (by omega) ⟨by omega, ⟨_, gQ⟩, gF⟩) ?_
               rw [q1]
               exact (And.intro rfl (And.intro rfl (And.intro rfl (And.intro rfl (And.intro rfl (trivial)))))))
  refine e_aload_n F dX3_suspectSet_0 rfl ?_
  refine e_callVN F u_X0_holderSet (by rfl) (c_X0_holderSet hD) hD.1 rfl rfl w_mn_RX3_185 dX3_suspectSet_1 (by rfl) (Nat.le_of_ble_eq_true rfl) (by decide) (by omega) (fun _ _ _ h _ => False.elim h) (fun r_1 w_1 n_1 h_1 hn_1 => ?_)
  obtain ⟨rfl, ew_1, en_1⟩ := h_1
  rw [ew_1, en_1]
  refine e_istore_n F dX3_suspectSet_4 (by decide) ?_
  refine e_iconst F dX3_suspectSet_5 ?_
  refine e_istore_n F dX3_suspectSet_6 (by decide) ?_
  refine e_iconst F dX3_suspectSet_7 ?_
  refine e_istore F dX3_suspectSet_8 (by decide) ?_
  exact e_go (lp 8 0 w (by omega) ⟨by omega, ⟨_, hQ⟩, fun q _ _ => rfl⟩) (And.intro rfl (And.intro rfl (And.intro rfl (And.intro rfl (And.intro rfl (trivial))))))
set_option maxHeartbeats 4000000 in
set_option maxRecDepth 100000 in
theorem c_X3_wrongHolder {K : e_K} {l : Launch} {w : e_W} {n : Nat} {x wh : Nat} {kn : Int} (hX : w x = some (SO x kn)) (hF : w (x + 1) = some (FO wh)) (hwh : wh < 7) {P : Int → Int} (hQ : PL w (x + 2) P) {d : Nat} {fl9 dg sc : Int} {A B : Int → Int} (hD : DL w d fl9 dg sc A B) (hd : x + 5 ≤ d) : e_Met K l yX3_wrongHolder (Cond.code yX3_wrongHolder cX3_wrongHolder 4 (Option.some .int) :: e_TB) (6) (0) [.ref x, .ref d] w n (fun r w' n' => r = some (.int (eI (wrf wh A fl9 dg))) ∧ n' = n ∧ PX w w' x) (e_px0) := by
  refine e_ofV rfl (Nat.le_of_ble_eq_true rfl) ?_
  intro P9 E9 S9 M9 A9 B9 T9 C9 F hnm
  have hp := pr_rg wh hwh
  have ho9 := ho_rg wh hwh
  have hst := st7_rg A
  have hW := hD.2.2.2
  have hfl := hW.1
  have hdg := hW.2.1
  have hbc : 0 ≤ bc (st7 A) ∧ bc (st7 A) ≤ 7 := by unfold bc; omega
  have hsk := ssK_rg wh A fl9 dg (ho wh).toNat
  have hsk2 : (2 : Int) ^ (ho wh).toNat ≤ 128 := by
    have e9 : ((2 : Nat) ^ (ho wh).toNat) ≤ 2 ^ 7 := Nat.pow_le_pow_right (by omega) (by omega)
    have e8 : (((2 : Nat) ^ (ho wh).toNat : Nat) : Int) ≤ ((2 ^ 7 : Nat) : Int) := by exact_mod_cast e9
    rw [Int.natCast_pow] at e8
    exact e8
  have lp : ∀ (N : Nat) (r9 : Nat) (wl : e_W), r9 < N → ((r9 : Int) ≤ ho wh ∧ ffd (ssK wh A fl9 dg (ho wh).toNat) (ho wh) r9 = ffd (ssK wh A fl9 dg (ho wh).toNat) (ho wh) (ho wh).toNat ∧ ffd (ssK wh A fl9 dg (ho wh).toNat) (ho wh) (ho wh).toNat = wrf wh A fl9 dg ∧ PX w wl x) → e_V K P9 l E9 (6) (0) S9 M9 A9 B9 T9 C9 4 (fun r w' n' => r = some (.int (eI (wrf wh A fl9 dg))) ∧ n' = n ∧ PX w w' x) (e_px0) 48 [(0, .ref x), (1, .ref d), (2, .int (eI (ssK wh A fl9 dg (ho wh).toNat))), (3, .int (eI (ho wh - (r9 : Int) + 1)))] [] wl n (0) := by
    intro N
    induction N with
    | zero => intro r9 wl hN; exact absurd hN (Nat.not_lt_zero _)
    | succ N ih =>
      intro r9 wl hN ⟨hk, heq, hres, ⟨⟨P2, gQ⟩, gF⟩⟩
      have gX : wl x = some (SO x kn) := by rw [gF x (by omega) (by omega)]; exact hX
      have gFO : wl (x + 1) = some (FO wh) := by rw [gF _ (by omega) (by omega)]; exact hF
      refine e_iload_n F dX3_wrongHolder_48 rfl ?_
      refine e_aload_n F dX3_wrongHolder_49 rfl ?_
      refine e_get (ci := 3) (fi := 0) (q := (RX3, TX3, 5)) F (by first | assumption | exact e_up_s | (rw [e_up_n (by first | assumption | omega)]; first | assumption | exact e_up_s | (rw [e_up_n (by first | assumption | omega)]; first | assumption | exact e_up_s | (rw [e_up_n (by first | assumption | omega)]; first | assumption | exact e_up_s))) | exact hD.1 | exact hD1.1 | exact hD2.1 | exact gD.1 | exact gD1.1 | exact gD2.1 | exact gQ.1 | exact hQ.1 | exact gS.1 | exact hS.1 | exact zD.1) rfl (by decide) w_fl_RX3_10 (by rfl) dX3_wrongHolder_50 ?_
      refine e_getN (ci := 1) (fi := 4) (q := (RX1, TX1, 5)) F (by first | assumption | exact e_up_s | (rw [e_up_n (by first | assumption | omega)]; first | assumption | exact e_up_s | (rw [e_up_n (by first | assumption | omega)]; first | assumption | exact e_up_s | (rw [e_up_n (by first | assumption | omega)]; first | assumption | exact e_up_s))) | exact hD.1 | exact hD1.1 | exact hD2.1 | exact gD.1 | exact gD1.1 | exact gD2.1 | exact gQ.1 | exact hQ.1 | exact gS.1 | exact hS.1 | exact zD.1) rfl (by decide) w_fn_RX3_116 (by rfl) dX3_wrongHolder_53 ?_
      refine e_icmp_gt F 75 dX3_wrongHolder_56 (by decide) (⟨by omega, by omega⟩) (⟨by omega, by omega⟩) (fun c_56 => ?_) (fun c_56 => ?_)
      ·
        obtain rfl : r9 = 0 := by omega
        refine e_bipush F dX3_wrongHolder_75 (by decide) ?_
        refine e_iret F rfl (by omega) ?_ dX3_wrongHolder_77
        refine ⟨?_, rfl, ⟨_, gQ⟩, gF⟩
        rw [← hres, ← heq]
        rfl
      · refine e_iload_n F dX3_wrongHolder_59 rfl ?_
        refine e_iload_n F dX3_wrongHolder_60 rfl ?_
        refine e_callSS F u_X3_isIn (by rfl) (c_X3_isIn hsk.1 (by omega) (h := ho wh - (r9 : Int) + 1) (by omega) (by omega)) w_ml_RX3_83 dX3_wrongHolder_61 (by rfl) (Nat.le_of_ble_eq_true rfl) (by decide) (by omega) (fun _ _ _ h _ => False.elim h) (fun r_61 w_61 n_61 h_61 hn_61 => ?_)
        obtain ⟨rfl, ew_61, en_61⟩ := h_61
        rw [ew_61, en_61]
        refine e_if_eq F 69 dX3_wrongHolder_64 (by decide) (b01_r _) (fun c_64 => ?_) (fun c_64 => ?_)
        ·
          rw [b01_0] at c_64
          refine e_iinc F dX3_wrongHolder_69 rfl (by decide) ?_
          refine e_goto F 48 dX3_wrongHolder_72 (by decide) ?_
          obtain ⟨r9, rfl⟩ : ∃ z, r9 = z + 1 := ⟨r9 - 1, by omega⟩
          have e8 : ho wh - ((r9 + 1 : Nat) : Int) + 1 = ho wh - (r9 : Int) := by omega
          rw [e8] at c_64 ⊢
          refine e_go (ih r9 wl (by omega) ⟨by omega, ?_, hres, ⟨_, gQ⟩, gF⟩) (And.intro rfl (And.intro rfl (And.intro rfl (And.intro rfl (trivial)))))
          rw [← heq]
          show _ = if hs _ (ho wh - (r9 : Int)) then ho wh - (r9 : Int) else ffd _ _ r9
          rw [if_neg c_64]
        ·
          rw [b01_0, Classical.not_not] at c_64
          refine e_iload_n F dX3_wrongHolder_67 rfl ?_
          refine e_iret F rfl (by omega) ?_ dX3_wrongHolder_68
          refine ⟨?_, rfl, ⟨_, gQ⟩, gF⟩
          obtain ⟨r9, rfl⟩ : ∃ z, r9 = z + 1 := ⟨r9 - 1, by omega⟩
          have e8 : ho wh - ((r9 + 1 : Nat) : Int) + 1 = ho wh - (r9 : Int) := by omega
          rw [e8] at c_64 ⊢
          rw [← hres, ← heq]
          show _ = some (Value.int (eI (if hs _ (ho wh - (r9 : Int)) then ho wh - (r9 : Int) else ffd _ _ r9)))
          rw [if_pos c_64]
  refine e_aload_n F dX3_wrongHolder_0 rfl ?_
  refine e_callVN F u_X0_isEmpty (by rfl) (c_X0_isEmpty hD) hD.1 rfl rfl w_mn_RX3_109 dX3_wrongHolder_1 (by rfl) (Nat.le_of_ble_eq_true rfl) (by decide) (by omega) (fun _ _ _ h _ => False.elim h) (fun r_1 w_1 n_1 h_1 hn_1 => ?_)
  obtain ⟨rfl, ew_1, en_1⟩ := h_1
  rw [ew_1, en_1]
  refine e_if_eq F 10 dX3_wrongHolder_4 (by decide) (b01_r _) (fun c_4 => ?_) (fun c_4 => ?_)
  ·
    rw [b01_0] at c_4
    refine e_aload_n F dX3_wrongHolder_10 rfl ?_
    refine e_aload_n F dX3_wrongHolder_11 rfl ?_
    refine e_aload_n F dX3_wrongHolder_12 rfl ?_
    refine e_callVN F u_X0_holderSet (by rfl) (c_X0_holderSet hD) hD.1 rfl rfl w_mn_RX3_185 dX3_wrongHolder_13 (by rfl) (Nat.le_of_ble_eq_true rfl) (by decide) (by omega) (fun _ _ _ h _ => False.elim h) (fun r_13 w_13 n_13 h_13 hn_13 => ?_)
    obtain ⟨rfl, ew_13, en_13⟩ := h_13
    rw [ew_13, en_13]
    refine e_callVV F u_X3_isInLine (by rfl) (c_X3_isInLine hX hF hwh hQ hD hd hst.1 (by omega)) hX rfl rfl w_ml_RX3_198 dX3_wrongHolder_16 (by rfl) (Nat.le_of_ble_eq_true rfl) (by decide) (by omega) (fun _ _ _ h _ => False.elim h) (fun r_16 w_16 n_16 h_16 hn_16 => ?_)
    obtain ⟨rfl, en16, ⟨P2, zQ⟩, zF⟩ := h_16
    rw [en16]
    have zX : w_16 x = some (SO x kn) := by rw [zF x (by omega) (by omega)]; exact hX
    have zFO : w_16 (x + 1) = some (FO wh) := by rw [zF _ (by omega) (by omega)]; exact hF
    have zD := PX.keepD zF hQ hD hd
    refine e_if_eq F 24 dX3_wrongHolder_19 (by decide) (b01_r _) (fun c_19 => ?_) (fun c_19 => ?_)
    ·
      rw [b01_0] at c_19
      refine e_aload_n F dX3_wrongHolder_24 rfl ?_
      refine e_callVN F u_X0_shareCount (by rfl) (c_X0_shareCount zD) zD.1 rfl rfl w_mn_RX3_149 dX3_wrongHolder_25 (by rfl) (Nat.le_of_ble_eq_true rfl) (by decide) (by omega) (fun _ _ _ h _ => False.elim h) (fun r_25 w_25 n_25 h_25 hn_25 => ?_)
      obtain ⟨rfl, ew_25, en_25⟩ := h_25
      rw [ew_25, en_25]
      refine e_aload_n F dX3_wrongHolder_28 rfl ?_
      refine e_getN (ci := 0) (fi := 1) (q := (RX0, TX0, 5)) F zD.1 rfl (by decide) w_fn_RX3_113 (by rfl) dX3_wrongHolder_29 ?_
      refine e_iconst F dX3_wrongHolder_32 ?_
      refine e_iadd F dX3_wrongHolder_33 ?_
      refine e_icmp_ge F 40 dX3_wrongHolder_34 (by decide) (⟨by omega, by omega⟩) (⟨by omega, by omega⟩) (fun c_34 => ?_) (fun c_34 => ?_)
      · refine e_aload_n F dX3_wrongHolder_40 rfl ?_
        refine e_aload_n F dX3_wrongHolder_41 rfl ?_
        refine e_callVV F u_X3_suspectSet (by rfl) (c_X3_suspectSet zX zFO hwh zQ zD hd) zX rfl rfl w_ml_RX3_220 dX3_wrongHolder_42 (by rfl) (Nat.le_of_ble_eq_true rfl) (by decide) (by omega) (fun _ _ _ h _ => False.elim h) (fun r_42 w_42 n_42 h_42 hn_42 => ?_)
        obtain ⟨rfl, en42, ⟨P3, yQ⟩, yF⟩ := h_42
        rw [en42]
        refine e_istore_n F dX3_wrongHolder_45 (by decide) ?_
        refine e_iconst F dX3_wrongHolder_46 ?_
        refine e_istore_n F dX3_wrongHolder_47 (by decide) ?_
        have e1 : ho wh - (((ho wh).toNat : Nat) : Int) + 1 = 1 := by omega
        have e2 : wrf wh A fl9 dg = ffd (ssK wh A fl9 dg (ho wh).toNat) (ho wh) (ho wh).toNat := by unfold wrf; rw [if_neg (by omega), if_neg c_19, if_neg (by omega)]
        refine e_go (lp 8 (ho wh).toNat w_42 (by omega) ⟨by omega, rfl, e2.symm, ⟨_, yQ⟩, fun q a1 a2 => by rw [yF q a1 a2, zF q a1 a2]⟩) ?_
        rw [e1]
        exact (And.intro rfl (And.intro rfl (And.intro rfl (And.intro rfl (trivial)))))
      · refine e_bipush F dX3_wrongHolder_37 (by decide) ?_
        refine e_iret F rfl (by omega) ?_ dX3_wrongHolder_39
        refine ⟨?_, rfl, ⟨_, zQ⟩, zF⟩
        unfold wrf
        rw [if_neg (by omega), if_neg c_19, if_pos (by omega)]
    ·
      rw [b01_0, Classical.not_not] at c_19
      refine e_iconst F dX3_wrongHolder_22 ?_
      refine e_iret F rfl (by omega) ?_ dX3_wrongHolder_23
      refine ⟨?_, rfl, ⟨_, zQ⟩, zF⟩
      unfold wrf
      rw [if_neg (by omega), if_pos c_19]
  ·
    rw [b01_0, Classical.not_not] at c_4
    refine e_bipush F dX3_wrongHolder_7 (by decide) ?_
    refine e_iret F rfl (by omega) ?_ dX3_wrongHolder_9
    refine ⟨?_, rfl, ⟨_, hQ⟩, fun q _ _ => rfl⟩
    unfold wrf
    rw [if_pos c_4]
set_option maxHeartbeats 4000000 in
set_option maxRecDepth 100000 in
theorem c_X3_polysBeyond {K : e_K} {l : Launch} {w : e_W} {n : Nat} {x wh : Nat} {kn : Int} (hX : w x = some (SO x kn)) (hF : w (x + 1) = some (FO wh)) (hwh : wh < 7) {e9 : Int} (h1 : 0 ≤ e9) (h2 : e9 ≤ 6) : e_Met K l yX3_polysBeyond (Cond.code yX3_polysBeyond cX3_polysBeyond 4 (Option.some .int) :: e_TB) (0) (0) [.ref x, .int (eI e9)] w n (fun r w' n' => r = some (.int (eI (pbK (pr wh) e9.toNat))) ∧ w' = w ∧ n' = n) (e_px0) := by
  refine e_ofV rfl (Nat.le_of_ble_eq_true rfl) ?_
  intro P9 E9 S9 M9 A9 B9 T9 C9 F hnm
  have hp := pr_rg wh hwh
  have ho9 := ho_rg wh hwh
  have lp : ∀ (N : Nat) (k : Nat), (e9.toNat - k) < N → k ≤ e9.toNat → e_V K P9 l E9 (0) (0) S9 M9 A9 B9 T9 C9 4 (fun r w' n' => r = some (.int (eI (pbK (pr wh) e9.toNat))) ∧ w' = w ∧ n' = n) (e_px0) 4 [(0, .ref x), (1, .int (eI e9)), (2, .int (eI (pbK (pr wh) k))), (3, .int (eI (k : Int)))] [] w n (0) := by
    intro N
    induction N with
    | zero => intro k hN; exact absurd hN (Nat.not_lt_zero _)
    | succ N ih =>
      intro k hN hk
      have hpb := pbK_rg (p := pr wh) (by omega) (by omega) k
      refine e_iload_n F dX3_polysBeyond_4 rfl ?_
      refine e_iload_n F dX3_polysBeyond_5 rfl ?_
      refine e_icmp_ge F 31 dX3_polysBeyond_6 (by decide) (⟨by omega, by omega⟩) (⟨by omega, by omega⟩) (fun c_6 => ?_) (fun c_6 => ?_)
      ·
        obtain rfl : k = e9.toNat := by omega
        have q2 : pbK (pr wh) e9.toNat = pbK (pr wh) e9.toNat := rfl
        refine e_iload_n F dX3_polysBeyond_31 rfl ?_
        refine e_iret F rfl (by omega) ?_ dX3_polysBeyond_32
        exact ⟨by rw [q2], rfl, rfl⟩
      · refine e_iload_n F dX3_polysBeyond_9 rfl ?_
        refine e_bipush F dX3_polysBeyond_10 (by decide) ?_
        refine e_icmp_gt F 31 dX3_polysBeyond_12 (by decide) (⟨by omega, by omega⟩) (⟨by omega, by omega⟩) (fun c_12 => ?_) (fun c_12 => ?_)
        ·
          have q2 := pbK_stop (p := pr wh) (k := k) (by omega) e9.toNat (by omega)
          refine e_iload_n F dX3_polysBeyond_31 rfl ?_
          refine e_iret F rfl (by omega) ?_ dX3_polysBeyond_32
          exact ⟨by rw [q2], rfl, rfl⟩
        · refine e_iload_n F dX3_polysBeyond_15 rfl ?_
          refine e_aload_n F dX3_polysBeyond_16 rfl ?_
          refine e_get (ci := 3) (fi := 0) (q := (RX3, TX3, 5)) F (by first | assumption | exact e_up_s | (rw [e_up_n (by first | assumption | omega)]; first | assumption | exact e_up_s | (rw [e_up_n (by first | assumption | omega)]; first | assumption | exact e_up_s | (rw [e_up_n (by first | assumption | omega)]; first | assumption | exact e_up_s))) | exact hD.1 | exact hD1.1 | exact hD2.1 | exact gD.1 | exact gD1.1 | exact gD2.1 | exact gQ.1 | exact hQ.1 | exact gS.1 | exact hS.1 | exact zD.1) rfl (by decide) w_fl_RX3_10 (by rfl) dX3_polysBeyond_17 ?_
          refine e_getN (ci := 1) (fi := 1) (q := (RX1, TX1, 5)) F (by first | assumption | exact e_up_s | (rw [e_up_n (by first | assumption | omega)]; first | assumption | exact e_up_s | (rw [e_up_n (by first | assumption | omega)]; first | assumption | exact e_up_s | (rw [e_up_n (by first | assumption | omega)]; first | assumption | exact e_up_s))) | exact hD.1 | exact hD1.1 | exact hD2.1 | exact gD.1 | exact gD1.1 | exact gD2.1 | exact gQ.1 | exact hQ.1 | exact gS.1 | exact hS.1 | exact zD.1) rfl (by decide) w_fn_RX3_49 (by rfl) dX3_polysBeyond_20 ?_
          refine e_imul F dX3_polysBeyond_23 ?_
          refine e_istore_n F dX3_polysBeyond_24 (by decide) ?_
          refine e_iinc F dX3_polysBeyond_25 rfl (by decide) ?_
          refine e_goto F 4 dX3_polysBeyond_28 (by decide) ?_
          have q1 : pbK (pr wh) (k + 1) = pbK (pr wh) k * pr wh := if_pos (by omega)
          refine e_go (ih (k + 1) (by omega) (by omega)) ?_
          rw [q1]
          exact (And.intro rfl (And.intro rfl (And.intro rfl (And.intro rfl (trivial)))))
  refine e_iconst F dX3_polysBeyond_0 ?_
  refine e_istore_n F dX3_polysBeyond_1 (by decide) ?_
  refine e_iconst F dX3_polysBeyond_2 ?_
  refine e_istore_n F dX3_polysBeyond_3 (by decide) ?_
  exact e_go (lp (e9.toNat + 1) 0 (by omega) (by omega)) (And.intro rfl (And.intro rfl (And.intro rfl (And.intro rfl (trivial)))))
set_option maxHeartbeats 4000000 in
set_option maxRecDepth 100000 in
theorem c_X3_doesFit {K : e_K} {l : Launch} {w : e_W} {n : Nat} {x wh : Nat} {kn : Int} (hX : w x = some (SO x kn)) (hF : w (x + 1) = some (FO wh)) (hwh : wh < 7) {d : Nat} {fl9 dg sc : Int} {A B : Int → Int} (hD : DL w d fl9 dg sc A B) {h : Int} (h1 : 1 ≤ h) (h2 : h ≤ 7) (hB : ∀ j, 0 ≤ j → j < sc → 0 ≤ B j ∧ B j < gr wh) : e_Met K l yX3_doesFit (Cond.code yX3_doesFit cX3_doesFit 7 (Option.some .boolean) :: e_TB) (2) (0) [.ref x, .ref d, .int (eI h)] w n (fun r w' n' => r = some (.int (eI (b01 (fit wh sc A B h)))) ∧ w' = w ∧ n' = n) (e_px0) := by
  refine e_ofV rfl (Nat.le_of_ble_eq_true rfl) ?_
  intro P9 E9 S9 M9 A9 B9 T9 C9 F hnm
  have hp := pr_rg wh hwh
  have ho9 := ho_rg wh hwh
  have hg := gr_rg wh hwh
  have hW := hD.2.2.2
  have hsc := hW.2.2.1
  have hAh := hW.2.2.2.1 h h1 (by omega)
  have lp : ∀ (N : Nat) (k : Nat), (7 - k) < N → (k : Int) ≤ sc → e_V K P9 l E9 (2) (0) S9 M9 A9 B9 T9 C9 7 (fun r w' n' => r = some (.int (eI (b01 (fit wh sc A B h)))) ∧ w' = w ∧ n' = n) (e_px0) 8 [(0, .ref x), (1, .ref d), (2, .int (eI h)), (3, .int (eI (dfK (gr wh) B h k))), (4, .long (eJ (h ^ k))), (6, .int (eI (k : Int)))] [] w n (0) := by
    intro N
    induction N with
    | zero => intro k hN; exact absurd hN (Nat.not_lt_zero _)
    | succ N ih =>
      intro k hN hk
      have hdf := dfK_rg (q := gr wh) (by omega) B h k
      have hpw := hpow_rg (k := k) h1 h2 (by omega)
      refine e_iload F dX3_doesFit_8 rfl ?_
      refine e_aload_n F dX3_doesFit_10 rfl ?_
      refine e_getN (ci := 0) (fi := 2) (q := (RX0, TX0, 5)) F hD.1 rfl (by decide) w_fn_RX3_134 (by rfl) dX3_doesFit_11 ?_
      refine e_icmp_ge F 57 dX3_doesFit_14 (by decide) (⟨by omega, by omega⟩) (⟨by omega, by omega⟩) (fun c_14 => ?_) (fun c_14 => ?_)
      ·
        obtain rfl : k = sc.toNat := by omega
        refine e_aload_n F dX3_doesFit_57 rfl ?_
        refine e_get (ci := 3) (fi := 0) (q := (RX3, TX3, 5)) F (by first | assumption | exact e_up_s | (rw [e_up_n (by first | assumption | omega)]; first | assumption | exact e_up_s | (rw [e_up_n (by first | assumption | omega)]; first | assumption | exact e_up_s | (rw [e_up_n (by first | assumption | omega)]; first | assumption | exact e_up_s))) | exact hD.1 | exact hD1.1 | exact hD2.1 | exact gD.1 | exact gD1.1 | exact gD2.1 | exact gQ.1 | exact hQ.1 | exact gS.1 | exact hS.1 | exact zD.1) rfl (by decide) w_fl_RX3_10 (by rfl) dX3_doesFit_58 ?_
        refine e_aload_n F dX3_doesFit_61 rfl ?_
        refine e_iload_n F dX3_doesFit_62 rfl ?_
        refine e_callVN F u_X0_shareAt (by rfl) (c_X0_shareAt hD h1 h2) hD.1 rfl rfl w_mn_RX3_123 dX3_doesFit_63 (by rfl) (Nat.le_of_ble_eq_true rfl) (by decide) (by omega) (fun _ _ _ h _ => False.elim h) (fun r_63 w_63 n_63 h_63 hn_63 => ?_)
        obtain ⟨rfl, ew_63, en_63⟩ := h_63
        rw [ew_63, en_63]
        refine e_callVN F u_X1_sealFor (by rfl) (c_X1_sealFor hF hwh ⟨by omega, by omega⟩) (by first | assumption | exact e_up_s | (rw [e_up_n (by first | assumption | omega)]; first | assumption | exact e_up_s | (rw [e_up_n (by first | assumption | omega)]; first | assumption | exact e_up_s | (rw [e_up_n (by first | assumption | omega)]; first | assumption | exact e_up_s))) | exact hD.1 | exact hD1.1 | exact hD2.1 | exact gD.1 | exact gD1.1 | exact gD2.1 | exact gQ.1 | exact hQ.1 | exact gS.1 | exact hS.1 | exact zD.1) rfl rfl w_mn_RX3_73 dX3_doesFit_66 (by rfl) (Nat.le_of_ble_eq_true rfl) (by decide) (by omega) (fun _ _ _ h _ => False.elim h) (fun r_66 w_66 n_66 h_66 hn_66 => ?_)
        obtain ⟨rfl, ew_66, en_66⟩ := h_66
        rw [ew_66, en_66]
        refine e_iload_n F dX3_doesFit_69 rfl ?_
        have hsl := sl_rg (v := A h) hwh
        refine e_icmp_ne F 77 dX3_doesFit_70 (by decide) (⟨by omega, by omega⟩) (⟨by omega, by omega⟩) (fun c_70 => ?_) (fun c_70 => ?_)
        · refine e_iconst F dX3_doesFit_77 ?_
          refine e_zret F rfl (by omega) (by omega) ?_ dX3_doesFit_78
          refine ⟨?_, rfl, rfl⟩
          first | (rw [b01_t]; exact by omega) | (rw [b01_f]; exact by omega)
        · refine e_iconst F dX3_doesFit_73 ?_
          refine e_goto F 78 dX3_doesFit_74 (by decide) ?_
          refine e_zret F rfl (by omega) (by omega) ?_ dX3_doesFit_78
          refine ⟨?_, rfl, rfl⟩
          first | (rw [b01_t]; exact by omega) | (rw [b01_f]; exact by omega)
      · refine e_aload_n F dX3_doesFit_17 rfl ?_
        refine e_get (ci := 3) (fi := 0) (q := (RX3, TX3, 5)) F (by first | assumption | exact e_up_s | (rw [e_up_n (by first | assumption | omega)]; first | assumption | exact e_up_s | (rw [e_up_n (by first | assumption | omega)]; first | assumption | exact e_up_s | (rw [e_up_n (by first | assumption | omega)]; first | assumption | exact e_up_s))) | exact hD.1 | exact hD1.1 | exact hD2.1 | exact gD.1 | exact gD1.1 | exact gD2.1 | exact gQ.1 | exact hQ.1 | exact gS.1 | exact hS.1 | exact zD.1) rfl (by decide) w_fl_RX3_10 (by rfl) dX3_doesFit_18 ?_
        refine e_iload_n F dX3_doesFit_21 rfl ?_
        refine e_aload_n F dX3_doesFit_22 rfl ?_
        refine e_iload F dX3_doesFit_23 rfl ?_
        refine e_callVN F u_X0_sealAt (by rfl) (c_X0_sealAt hD (h := (k : Int)) ⟨by omega, by omega⟩) hD.1 rfl rfl w_mn_RX3_137 dX3_doesFit_25 (by rfl) (Nat.le_of_ble_eq_true rfl) (by decide) (by omega) (fun _ _ _ h _ => False.elim h) (fun r_25 w_25 n_25 h_25 hn_25 => ?_)
        obtain ⟨rfl, ew25, en25⟩ := h_25
        rw [ew25, en25, if_pos ⟨by omega, by omega⟩]
        have hBk := hB (k : Int) (by omega) (by omega)
        refine e_lload F dX3_doesFit_28 rfl ?_
        refine e_aload_n F dX3_doesFit_30 rfl ?_
        refine e_get (ci := 3) (fi := 0) (q := (RX3, TX3, 5)) F (by first | assumption | exact e_up_s | (rw [e_up_n (by first | assumption | omega)]; first | assumption | exact e_up_s | (rw [e_up_n (by first | assumption | omega)]; first | assumption | exact e_up_s | (rw [e_up_n (by first | assumption | omega)]; first | assumption | exact e_up_s))) | exact hD.1 | exact hD1.1 | exact hD2.1 | exact gD.1 | exact gD1.1 | exact gD2.1 | exact gQ.1 | exact hQ.1 | exact gS.1 | exact hS.1 | exact zD.1) rfl (by decide) w_fl_RX3_10 (by rfl) dX3_doesFit_31 ?_
        refine e_getN (ci := 1) (fi := 2) (q := (RX1, TX1, 5)) F (by first | assumption | exact e_up_s | (rw [e_up_n (by first | assumption | omega)]; first | assumption | exact e_up_s | (rw [e_up_n (by first | assumption | omega)]; first | assumption | exact e_up_s | (rw [e_up_n (by first | assumption | omega)]; first | assumption | exact e_up_s))) | exact hD.1 | exact hD1.1 | exact hD2.1 | exact gD.1 | exact gD1.1 | exact gD2.1 | exact gQ.1 | exact hQ.1 | exact gS.1 | exact hS.1 | exact zD.1) rfl (by decide) w_fn_RX3_164 (by rfl) dX3_doesFit_34 ?_
        refine e_callSN F u_X1_raise (by rfl) (c_X1_raise (b := B (k : Int)) (k := h ^ k) (m := gr wh) hBk.1 hBk.2 (by omega) (by omega) (by omega) (by omega)) w_mn_RX3_69 dX3_doesFit_37 (by rfl) (Nat.le_of_ble_eq_true rfl) (by decide) (by omega) (fun _ _ _ h _ => False.elim h) (fun r_37 w_37 n_37 h_37 hn_37 => ?_)
        obtain ⟨rfl, ew_37, en_37⟩ := h_37
        rw [ew_37, en_37]
        have hpr := e_pw_rg (b := B (k : Int)) (k := (h ^ k).toNat) (show 0 < gr wh by omega)
        refine e_callVN F u_X1_sealProduct (by rfl) (c_X1_sealProduct hF hwh hdf.1 hdf.2 hpr.1 hpr.2) (by first | assumption | exact e_up_s | (rw [e_up_n (by first | assumption | omega)]; first | assumption | exact e_up_s | (rw [e_up_n (by first | assumption | omega)]; first | assumption | exact e_up_s | (rw [e_up_n (by first | assumption | omega)]; first | assumption | exact e_up_s))) | exact hD.1 | exact hD1.1 | exact hD2.1 | exact gD.1 | exact gD1.1 | exact gD2.1 | exact gQ.1 | exact hQ.1 | exact gS.1 | exact hS.1 | exact zD.1) rfl rfl w_mn_RX3_143 dX3_doesFit_40 (by rfl) (Nat.le_of_ble_eq_true rfl) (by decide) (by omega) (fun _ _ _ h _ => False.elim h) (fun r_40 w_40 n_40 h_40 hn_40 => ?_)
        obtain ⟨rfl, ew_40, en_40⟩ := h_40
        rw [ew_40, en_40]
        refine e_istore_n F dX3_doesFit_43 (by decide) ?_
        refine e_lload F dX3_doesFit_44 rfl ?_
        refine e_iload_n F dX3_doesFit_46 rfl ?_
        refine e_i2l F dX3_doesFit_47 (⟨by omega, by omega⟩) ?_
        refine e_lmul F dX3_doesFit_48 ?_
        refine e_lstore F dX3_doesFit_49 (by decide) ?_
        refine e_iinc F dX3_doesFit_51 rfl (by decide) ?_
        refine e_goto F 8 dX3_doesFit_54 (by decide) ?_
        have q1 : dfK (gr wh) B h (k + 1) = dfK (gr wh) B h k * e_pw (B (k : Int)) (h ^ k).toNat (gr wh) % gr wh := rfl
        refine e_go (ih (k + 1) (by omega) (by omega)) ?_
        rw [q1, Int.pow_succ]
        exact (And.intro rfl (And.intro rfl (And.intro rfl (And.intro rfl (And.intro rfl (And.intro rfl (trivial)))))))
  refine e_iconst F dX3_doesFit_0 ?_
  refine e_istore_n F dX3_doesFit_1 (by decide) ?_
  refine e_lconst F dX3_doesFit_2 (y := 1) (by decide) ?_
  refine e_lstore F dX3_doesFit_3 (by decide) ?_
  refine e_iconst F dX3_doesFit_5 ?_
  refine e_istore F dX3_doesFit_6 (by decide) ?_
  refine e_go (lp 8 0 (by omega) (by omega)) ?_
  rw [Int.pow_zero]
  exact (And.intro rfl (And.intro rfl (And.intro rfl (And.intro rfl (And.intro rfl (And.intro rfl (trivial)))))))
set_option maxHeartbeats 4000000 in
set_option maxRecDepth 100000 in
theorem c_X3_doAllFit {K : e_K} {l : Launch} {w : e_W} {n : Nat} {x wh : Nat} {kn : Int} (hX : w x = some (SO x kn)) (hF : w (x + 1) = some (FO wh)) (hwh : wh < 7) {d : Nat} {fl9 dg sc : Int} {A B : Int → Int} (hD : DL w d fl9 dg sc A B) {set : Int} (h1 : 0 ≤ set) (h2 : set < 2147483648) (hB : ∀ j, 0 ≤ j → j < sc → 0 ≤ B j ∧ B j < gr wh) : e_Met K l yX3_doAllFit (Cond.code yX3_doAllFit cX3_doAllFit 4 (Option.some .boolean) :: e_TB) (3) (0) [.ref x, .ref d, .int (eI set)] w n (fun r w' n' => r = some (.int (eI (b01 (daB wh sc A B set (ho wh) (ho wh).toNat = true)))) ∧ w' = w ∧ n' = n) (e_px0) := by
  refine e_ofV rfl (Nat.le_of_ble_eq_true rfl) ?_
  intro P9 E9 S9 M9 A9 B9 T9 C9 F hnm
  have hp := pr_rg wh hwh
  have ho9 := ho_rg wh hwh
  have lp : ∀ (N : Nat) (r9 : Nat), r9 < N → ((r9 : Int) ≤ ho wh ∧ daB wh sc A B set (ho wh) r9 = daB wh sc A B set (ho wh) (ho wh).toNat) → e_V K P9 l E9 (3) (0) S9 M9 A9 B9 T9 C9 4 (fun r w' n' => r = some (.int (eI (b01 (daB wh sc A B set (ho wh) (ho wh).toNat = true)))) ∧ w' = w ∧ n' = n) (e_px0) 2 [(0, .ref x), (1, .ref d), (2, .int (eI set)), (3, .int (eI (ho wh - (r9 : Int) + 1)))] [] w n (0) := by
    intro N
    induction N with
    | zero => intro r9 hN; exact absurd hN (Nat.not_lt_zero _)
    | succ N ih =>
      intro r9 hN ⟨hk, heq⟩
      refine e_iload_n F dX3_doAllFit_2 rfl ?_
      refine e_aload_n F dX3_doAllFit_3 rfl ?_
      refine e_get (ci := 3) (fi := 0) (q := (RX3, TX3, 5)) F (by first | assumption | exact e_up_s | (rw [e_up_n (by first | assumption | omega)]; first | assumption | exact e_up_s | (rw [e_up_n (by first | assumption | omega)]; first | assumption | exact e_up_s | (rw [e_up_n (by first | assumption | omega)]; first | assumption | exact e_up_s))) | exact hD.1 | exact hD1.1 | exact hD2.1 | exact gD.1 | exact gD1.1 | exact gD2.1 | exact gQ.1 | exact hQ.1 | exact gS.1 | exact hS.1 | exact zD.1) rfl (by decide) w_fl_RX3_10 (by rfl) dX3_doAllFit_4 ?_
      refine e_getN (ci := 1) (fi := 4) (q := (RX1, TX1, 5)) F (by first | assumption | exact e_up_s | (rw [e_up_n (by first | assumption | omega)]; first | assumption | exact e_up_s | (rw [e_up_n (by first | assumption | omega)]; first | assumption | exact e_up_s | (rw [e_up_n (by first | assumption | omega)]; first | assumption | exact e_up_s))) | exact hD.1 | exact hD1.1 | exact hD2.1 | exact gD.1 | exact gD1.1 | exact gD2.1 | exact gQ.1 | exact hQ.1 | exact gS.1 | exact hS.1 | exact zD.1) rfl (by decide) w_fn_RX3_116 (by rfl) dX3_doAllFit_7 ?_
      refine e_icmp_gt F 38 dX3_doAllFit_10 (by decide) (⟨by omega, by omega⟩) (⟨by omega, by omega⟩) (fun c_10 => ?_) (fun c_10 => ?_)
      ·
        obtain rfl : r9 = 0 := by omega
        refine e_iconst F dX3_doAllFit_38 ?_
        refine e_zret F rfl (by omega) (by omega) ?_ dX3_doAllFit_39
        refine ⟨?_, rfl, rfl⟩
        rw [b01_t]
        rw [← heq]
        rfl
      · refine e_iload_n F dX3_doAllFit_13 rfl ?_
        refine e_iload_n F dX3_doAllFit_14 rfl ?_
        refine e_callSS F u_X3_isIn (by rfl) (c_X3_isIn h1 h2 (h := ho wh - (r9 : Int) + 1) (by omega) (by omega)) w_ml_RX3_83 dX3_doAllFit_15 (by rfl) (Nat.le_of_ble_eq_true rfl) (by decide) (by omega) (fun _ _ _ h _ => False.elim h) (fun r_15 w_15 n_15 h_15 hn_15 => ?_)
        obtain ⟨rfl, ew_15, en_15⟩ := h_15
        rw [ew_15, en_15]
        refine e_if_eq F 32 dX3_doAllFit_18 (by decide) (b01_r _) (fun c_18 => ?_) (fun c_18 => ?_)
        ·
          rw [b01_0] at c_18
          have q1 : (¬ hs set (ho wh - (r9 : Int) + 1)) ∨ fit wh sc A B (ho wh - (r9 : Int) + 1) := Or.inl c_18
          refine e_iinc F dX3_doAllFit_32 rfl (by decide) ?_
          refine e_goto F 2 dX3_doAllFit_35 (by decide) ?_
          obtain ⟨r9, rfl⟩ : ∃ z, r9 = z + 1 := ⟨r9 - 1, by omega⟩
          have e8 : ho wh - ((r9 + 1 : Nat) : Int) + 1 = ho wh - (r9 : Int) := by omega
          rw [e8] at q1 ⊢
          refine e_go (ih r9 (by omega) ⟨by omega, ?_⟩) (And.intro rfl (And.intro rfl (And.intro rfl (And.intro rfl (trivial)))))
          rw [← heq]
          show _ = ((!decide (hs set (ho wh - (r9 : Int))) || decide (fit wh sc A B (ho wh - (r9 : Int)))) && daB wh sc A B set (ho wh) r9)
          rcases q1 with q1 | q1
          · rw [decide_eq_false q1]; rfl
          · rw [decide_eq_true q1, Bool.or_true]; rfl
        ·
          rw [b01_0, Classical.not_not] at c_18
          refine e_aload_n F dX3_doAllFit_21 rfl ?_
          refine e_aload_n F dX3_doAllFit_22 rfl ?_
          refine e_iload_n F dX3_doAllFit_23 rfl ?_
          refine e_callVV F u_X3_doesFit (by rfl) (c_X3_doesFit hX hF hwh hD (h := ho wh - (r9 : Int) + 1) (by omega) (by omega) hB) hX rfl rfl w_ml_RX3_231 dX3_doAllFit_24 (by rfl) (Nat.le_of_ble_eq_true rfl) (by decide) (by omega) (fun _ _ _ h _ => False.elim h) (fun r_24 w_24 n_24 h_24 hn_24 => ?_)
          obtain ⟨rfl, ew_24, en_24⟩ := h_24
          rw [ew_24, en_24]
          refine e_if_ne F 32 dX3_doAllFit_27 (by decide) (b01_r _) (fun c_27 => ?_) (fun c_27 => ?_)
          ·
            have c27 : fit wh sc A B (ho wh - (r9 : Int) + 1) := Classical.byContradiction (fun q => c_27 (b01_f q))
            have q1 : (¬ hs set (ho wh - (r9 : Int) + 1)) ∨ fit wh sc A B (ho wh - (r9 : Int) + 1) := Or.inr c27
            refine e_iinc F dX3_doAllFit_32 rfl (by decide) ?_
            refine e_goto F 2 dX3_doAllFit_35 (by decide) ?_
            obtain ⟨r9, rfl⟩ : ∃ z, r9 = z + 1 := ⟨r9 - 1, by omega⟩
            have e8 : ho wh - ((r9 + 1 : Nat) : Int) + 1 = ho wh - (r9 : Int) := by omega
            rw [e8] at q1 ⊢
            refine e_go (ih r9 (by omega) ⟨by omega, ?_⟩) (And.intro rfl (And.intro rfl (And.intro rfl (And.intro rfl (trivial)))))
            rw [← heq]
            show _ = ((!decide (hs set (ho wh - (r9 : Int))) || decide (fit wh sc A B (ho wh - (r9 : Int)))) && daB wh sc A B set (ho wh) r9)
            rcases q1 with q1 | q1
            · rw [decide_eq_false q1]; rfl
            · rw [decide_eq_true q1, Bool.or_true]; rfl
          ·
            have c27 : ¬ fit wh sc A B (ho wh - (r9 : Int) + 1) := b01_0.mp c_27
            refine e_iconst F dX3_doAllFit_30 ?_
            refine e_zret F rfl (by omega) (by omega) ?_ dX3_doAllFit_31
            refine ⟨?_, rfl, rfl⟩
            obtain ⟨r9, rfl⟩ : ∃ z, r9 = z + 1 := ⟨r9 - 1, by omega⟩
            have e8 : ho wh - ((r9 + 1 : Nat) : Int) + 1 = ho wh - (r9 : Int) := by omega
            rw [e8] at c_18 c27
            rw [b01_f]
            rw [← heq]
            show ¬ ((!decide (hs set (ho wh - (r9 : Int))) || decide (fit wh sc A B (ho wh - (r9 : Int)))) && daB wh sc A B set (ho wh) r9) = true
            rw [decide_eq_true c_18, decide_eq_false c27]
            simp
  refine e_iconst F dX3_doAllFit_0 ?_
  refine e_istore_n F dX3_doAllFit_1 (by decide) ?_
  have e1 : ho wh - (((ho wh).toNat : Nat) : Int) + 1 = 1 := by omega
  refine e_go (lp 8 (ho wh).toNat (by omega) ⟨by omega, rfl⟩) ?_
  rw [e1]
  exact (And.intro rfl (And.intro rfl (And.intro rfl (And.intro rfl (trivial)))))
end
-- 22.lay.lean.txt
section
/-! Secretshares: what is laid into deals -/
theorem PL.fr {w w' : e_W} {a : Nat} {P : Int → Int} (h : PL w a P) (h0 : w' a = w a) (h1 : w' (a + 1) = w (a + 1)) (h2 : w' (a + 2) = w (a + 2)) : PL w' a P :=
  ⟨by rw [h0]; exact h.1, h.2.1.fr h1, by rw [h2]; exact h.2.2.1, h.2.2.2⟩
def lpA (wh : Nat) (P : Int → Int) : Int → Int := fun h => if 1 ≤ h ∧ h ≤ ho wh then hz (pr wh) h P 7 else -1
theorem DF.hi {w w' : e_W} {d x : Nat} (h : DF w w' d) (hd : x + 5 ≤ d) : ∀ q, q < x + 5 → w' q = w q := fun q hq => h q (by omega) (by omega) (by omega)
def auS (wh : Nat) (b : Int) (s1 : Int) (B1 : Int → Int) (s2 : Int) (B2 : Int → Int) : Int → Int := fun k => (if k < s1 then B1 k else 1) * (if b = 0 then (if k < s2 then B2 k else 1) else ivq wh (if k < s2 then B2 k else 1)) % gr wh
theorem auS_rg {wh : Nat} (hwh : wh < 7) {b s1 s2 : Int} {B1 B2 : Int → Int} (k : Int) : 0 ≤ auS wh b s1 B1 s2 B2 k ∧ auS wh b s1 B1 s2 B2 k < gr wh := by
  have hg := gr_rg wh hwh
  exact ⟨Int.emod_nonneg _ (by omega), Int.emod_lt_of_pos _ (by omega)⟩
def auA (wh : Nat) (b : Int) (A1 A2 : Int → Int) : Int → Int := fun h => if (1 ≤ h ∧ h ≤ ho wh) ∧ A1 h ≠ -1 ∧ A2 h ≠ -1 then (A1 h + (if b = 0 then A2 h else -A2 h)) % pr wh else -1
set_option maxHeartbeats 4000000 in
set_option maxRecDepth 100000 in
theorem c_X3_layPoly {K : e_K} {l : Launch} {w : e_W} {n : Nat} {x wh : Nat} {kn : Int} (hX : w x = some (SO x kn)) (hF : w (x + 1) = some (FO wh)) (hwh : wh < 7) {P : Int → Int} (hQ : PL w (x + 2) P) {d : Nat} {fl9 dg sc : Int} {A B : Int → Int} (hD : DL w d fl9 dg sc A B) (hd : x + 5 ≤ d) {g : Int} (hg : 0 ≤ g ∧ g ≤ 6) : e_Met K l yX3_layPoly (Cond.code yX3_layPoly cX3_layPoly 4 (Option.some .int) :: e_TB) (3) (0) [.ref x, .ref d, .int (eI g)] w n (fun r w' n' => r = some (.int (eI (bc (st7 (lpA wh P))))) ∧ n' = n ∧ DL w' d 1 g (g + 1) (lpA wh P) (fun k => sl wh (P k)) ∧ DF w w' d) (e_px0) := by
  refine e_ofV rfl (Nat.le_of_ble_eq_true rfl) ?_
  intro P9 E9 S9 M9 A9 B9 T9 C9 F hnm
  have hp := pr_rg wh hwh
  have ho9 := ho_rg wh hwh
  have hg9 := gr_rg wh hwh
  have hPR := hQ.2.2.2
  have lq : ∀ (N : Nat) (i : Int) (wl : e_W), (8 - i).toNat < N → (0 ≤ i ∧ i ≤ g + 1 ∧ DL wl d 1 g i (lpA wh P) (fun k => sl wh (P k)) ∧ DF w wl d) → e_V K P9 l E9 (3) (0) S9 M9 A9 B9 T9 C9 4 (fun r w' n' => r = some (.int (eI (bc (st7 (lpA wh P))))) ∧ n' = n ∧ DL w' d 1 g (g + 1) (lpA wh P) (fun k => sl wh (P k)) ∧ DF w w' d) (e_px0) 43 [(0, .ref x), (1, .ref d), (2, .int (eI g)), (3, .int (eI i))] [] wl n (0) := by
    intro N
    induction N with
    | zero => intro i wl hN; exact absurd hN (Nat.not_lt_zero _)
    | succ N ih =>
      intro i wl hN ⟨h1, h2, gD, gF⟩
      have hfr := DF.hi gF hd
      have gX : wl x = some (SO x kn) := by rw [hfr x (by omega)]; exact hX
      have gFO : wl (x + 1) = some (FO wh) := by rw [hfr _ (by omega)]; exact hF
      have gQ : PL wl (x + 2) P := hQ.fr (hfr _ (by omega)) (hfr _ (by omega)) (hfr _ (by omega))
      refine e_iload_n F dX3_layPoly_43 rfl ?_
      refine e_iload_n F dX3_layPoly_44 rfl ?_
      refine e_icmp_gt F 73 dX3_layPoly_45 (by decide) (⟨by omega, by omega⟩) (⟨by omega, by omega⟩) (fun c_45 => ?_) (fun c_45 => ?_)
      ·
        obtain rfl : i = g + 1 := by omega
        refine e_aload_n F dX3_layPoly_73 rfl ?_
        refine e_callVN F u_X0_shareCount (by rfl) (c_X0_shareCount gD) gD.1 rfl rfl w_mn_RX3_149 dX3_layPoly_74 (by rfl) (Nat.le_of_ble_eq_true rfl) (by decide) (by omega) (fun _ _ _ h _ => False.elim h) (fun r_74 w_74 n_74 h_74 hn_74 => ?_)
        obtain ⟨rfl, ew_74, en_74⟩ := h_74
        rw [ew_74, en_74]
        refine e_iret F rfl (by omega) ?_ dX3_layPoly_77
        exact ⟨rfl, rfl, gD, gF⟩
      · refine e_aload_n F dX3_layPoly_48 rfl ?_
        refine e_aload_n F dX3_layPoly_49 rfl ?_
        refine e_get (ci := 3) (fi := 0) (q := (RX3, TX3, 5)) F (by first | assumption | exact e_up_s | (rw [e_up_n (by first | assumption | omega)]; first | assumption | exact e_up_s | (rw [e_up_n (by first | assumption | omega)]; first | assumption | exact e_up_s | (rw [e_up_n (by first | assumption | omega)]; first | assumption | exact e_up_s))) | exact hD.1 | exact hD1.1 | exact hD2.1 | exact gD.1 | exact gD1.1 | exact gD2.1 | exact gQ.1 | exact hQ.1 | exact gS.1 | exact hS.1 | exact zD.1) rfl (by decide) w_fl_RX3_10 (by rfl) dX3_layPoly_50 ?_
        refine e_aload_n F dX3_layPoly_53 rfl ?_
        refine e_get (ci := 3) (fi := 1) (q := (RX3, TX3, 5)) F (by first | assumption | exact e_up_s | (rw [e_up_n (by first | assumption | omega)]; first | assumption | exact e_up_s | (rw [e_up_n (by first | assumption | omega)]; first | assumption | exact e_up_s | (rw [e_up_n (by first | assumption | omega)]; first | assumption | exact e_up_s))) | exact hD.1 | exact hD1.1 | exact hD2.1 | exact gD.1 | exact gD1.1 | exact gD2.1 | exact gQ.1 | exact hQ.1 | exact gS.1 | exact hS.1 | exact zD.1) rfl (by decide) w_fl_RX3_19 (by rfl) dX3_layPoly_54 ?_
        refine e_iload_n F dX3_layPoly_57 rfl ?_
        refine e_callVN F u_X2_at (by rfl) (c_X2_at gQ (h := i) ⟨by omega, by omega⟩) gQ.1 rfl rfl w_mn_RX3_140 dX3_layPoly_58 (by rfl) (Nat.le_of_ble_eq_true rfl) (by decide) (by omega) (fun _ _ _ h _ => False.elim h) (fun r_58 w_58 n_58 h_58 hn_58 => ?_)
        obtain ⟨rfl, ew_58, en_58⟩ := h_58
        rw [ew_58, en_58, if_pos (show 0 ≤ i ∧ i < 7 from ⟨by omega, by omega⟩)]
        have hPi := hPR i (by omega) (by omega)
        refine e_callVN F u_X1_sealFor (by rfl) (c_X1_sealFor gFO hwh ⟨by omega, by omega⟩) (by first | assumption | exact e_up_s | (rw [e_up_n (by first | assumption | omega)]; first | assumption | exact e_up_s | (rw [e_up_n (by first | assumption | omega)]; first | assumption | exact e_up_s | (rw [e_up_n (by first | assumption | omega)]; first | assumption | exact e_up_s))) | exact hD.1 | exact hD1.1 | exact hD2.1 | exact gD.1 | exact gD1.1 | exact gD2.1 | exact gQ.1 | exact hQ.1 | exact gS.1 | exact hS.1 | exact zD.1) rfl rfl w_mn_RX3_73 dX3_layPoly_61 (by rfl) (Nat.le_of_ble_eq_true rfl) (by decide) (by omega) (fun _ _ _ h _ => False.elim h) (fun r_61 w_61 n_61 h_61 hn_61 => ?_)
        obtain ⟨rfl, ew_61, en_61⟩ := h_61
        rw [ew_61, en_61]
        have hsl := sl_rg (v := P i) hwh
        refine e_callVN F u_X0_addSeal (by rfl) (c_X0_addSeal gD (v := sl wh (P i)) (by omega) (by omega) (by omega)) gD.1 rfl rfl w_mn_RX3_167 dX3_layPoly_64 (by rfl) (Nat.le_of_ble_eq_true rfl) (by decide) (by omega) (fun _ _ _ h _ => False.elim h) (fun r_64 w_64 n_64 h_64 hn_64 => ?_)
        
        refine e_iinc F dX3_layPoly_67 rfl (by decide) ?_
        refine e_goto F 43 dX3_layPoly_70 (by decide) ?_
        obtain rfl : r_64 = none := h_64.1
        obtain ⟨_, en64, zD, zF⟩ := h_64
        rw [en64]
        refine e_go (ih (i + 1) w_64 (by omega) ⟨by omega, by omega, zD.to (fun _ _ _ => rfl) (fu_ite rfl (fun _ _ _ => rfl)), fun q a1 a2 a3 => by rw [zF q a1 a2 a3, gF q a1 a2 a3]⟩) (And.intro rfl (And.intro rfl (And.intro rfl (And.intro rfl (trivial)))))
  have lp : ∀ (N : Nat) (i : Int) (wl : e_W), (9 - i).toNat < N → (1 ≤ i ∧ i ≤ ho wh + 1 ∧ DL wl d 1 g 0 (fun h => if 1 ≤ h ∧ h < i then hz (pr wh) h P 7 else -1) B ∧ DF w wl d) → e_V K P9 l E9 (3) (0) S9 M9 A9 B9 T9 C9 4 (fun r w' n' => r = some (.int (eI (bc (st7 (lpA wh P))))) ∧ n' = n ∧ DL w' d 1 g (g + 1) (lpA wh P) (fun k => sl wh (P k)) ∧ DF w w' d) (e_px0) 7 [(0, .ref x), (1, .ref d), (2, .int (eI g)), (3, .int (eI i))] [] wl n (0) := by
    intro N
    induction N with
    | zero => intro i wl hN; exact absurd hN (Nat.not_lt_zero _)
    | succ N ih =>
      intro i wl hN ⟨h1, h2, gD, gF⟩
      have hfr := DF.hi gF hd
      have gX : wl x = some (SO x kn) := by rw [hfr x (by omega)]; exact hX
      have gFO : wl (x + 1) = some (FO wh) := by rw [hfr _ (by omega)]; exact hF
      have gQ : PL wl (x + 2) P := hQ.fr (hfr _ (by omega)) (hfr _ (by omega)) (hfr _ (by omega))
      refine e_iload_n F dX3_layPoly_7 rfl ?_
      refine e_aload_n F dX3_layPoly_8 rfl ?_
      refine e_get (ci := 3) (fi := 0) (q := (RX3, TX3, 5)) F (by first | assumption | exact e_up_s | (rw [e_up_n (by first | assumption | omega)]; first | assumption | exact e_up_s | (rw [e_up_n (by first | assumption | omega)]; first | assumption | exact e_up_s | (rw [e_up_n (by first | assumption | omega)]; first | assumption | exact e_up_s))) | exact hD.1 | exact hD1.1 | exact hD2.1 | exact gD.1 | exact gD1.1 | exact gD2.1 | exact gQ.1 | exact hQ.1 | exact gS.1 | exact hS.1 | exact zD.1) rfl (by decide) w_fl_RX3_10 (by rfl) dX3_layPoly_9 ?_
      refine e_getN (ci := 1) (fi := 4) (q := (RX1, TX1, 5)) F (by first | assumption | exact e_up_s | (rw [e_up_n (by first | assumption | omega)]; first | assumption | exact e_up_s | (rw [e_up_n (by first | assumption | omega)]; first | assumption | exact e_up_s | (rw [e_up_n (by first | assumption | omega)]; first | assumption | exact e_up_s))) | exact hD.1 | exact hD1.1 | exact hD2.1 | exact gD.1 | exact gD1.1 | exact gD2.1 | exact gQ.1 | exact hQ.1 | exact gS.1 | exact hS.1 | exact zD.1) rfl (by decide) w_fn_RX3_116 (by rfl) dX3_layPoly_12 ?_
      refine e_icmp_gt F 41 dX3_layPoly_15 (by decide) (⟨by omega, by omega⟩) (⟨by omega, by omega⟩) (fun c_15 => ?_) (fun c_15 => ?_)
      · refine e_iconst F dX3_layPoly_41 ?_
        refine e_istore_n F dX3_layPoly_42 (by decide) ?_
        obtain rfl : i = ho wh + 1 := by omega
        refine e_go (lq 9 0 wl (by omega) ⟨by omega, by omega, gD.to (fun j j0 j1 => ?_) (fun j j0 j1 => by omega), gF⟩) (And.intro rfl (And.intro rfl (And.intro rfl (And.intro rfl (trivial)))))
        unfold lpA
        by_cases e8 : 1 ≤ j ∧ j ≤ ho wh
        · rw [if_pos e8, if_pos ⟨by omega, by omega⟩]
        · rw [if_neg e8, if_neg (by omega)]
      · refine e_aload_n F dX3_layPoly_18 rfl ?_
        refine e_iload_n F dX3_layPoly_19 rfl ?_
        refine e_aload_n F dX3_layPoly_20 rfl ?_
        refine e_get (ci := 3) (fi := 1) (q := (RX3, TX3, 5)) F (by first | assumption | exact e_up_s | (rw [e_up_n (by first | assumption | omega)]; first | assumption | exact e_up_s | (rw [e_up_n (by first | assumption | omega)]; first | assumption | exact e_up_s | (rw [e_up_n (by first | assumption | omega)]; first | assumption | exact e_up_s))) | exact hD.1 | exact hD1.1 | exact hD2.1 | exact gD.1 | exact gD1.1 | exact gD2.1 | exact gQ.1 | exact hQ.1 | exact gS.1 | exact hS.1 | exact zD.1) rfl (by decide) w_fl_RX3_19 (by rfl) dX3_layPoly_21 ?_
        refine e_aload_n F dX3_layPoly_24 rfl ?_
        refine e_get (ci := 3) (fi := 0) (q := (RX3, TX3, 5)) F (by first | assumption | exact e_up_s | (rw [e_up_n (by first | assumption | omega)]; first | assumption | exact e_up_s | (rw [e_up_n (by first | assumption | omega)]; first | assumption | exact e_up_s | (rw [e_up_n (by first | assumption | omega)]; first | assumption | exact e_up_s))) | exact hD.1 | exact hD1.1 | exact hD2.1 | exact gD.1 | exact gD1.1 | exact gD2.1 | exact gQ.1 | exact hQ.1 | exact gS.1 | exact hS.1 | exact zD.1) rfl (by decide) w_fl_RX3_10 (by rfl) dX3_layPoly_25 ?_
        refine e_iload_n F dX3_layPoly_28 rfl ?_
        refine e_callVN F u_X2_valueAt (by rfl) (c_X2_valueAt gQ gFO hwh (x := i) ⟨by omega, by omega⟩) gQ.1 rfl rfl w_mn_RX3_126 dX3_layPoly_29 (by rfl) (Nat.le_of_ble_eq_true rfl) (by decide) (by omega) (fun _ _ _ h _ => False.elim h) (fun r_29 w_29 n_29 h_29 hn_29 => ?_)
        obtain ⟨rfl, ew_29, en_29⟩ := h_29
        rw [ew_29, en_29]
        have hz9 := hz_rg (p := pr wh) (x := i) (P := P) (by omega) 7
        refine e_callVN F u_X0_setShare (by rfl) (c_X0_setShare gD (h := i) (v := hz (pr wh) i P 7) (by omega) (by omega) (by omega) (by omega)) gD.1 rfl rfl w_mn_RX3_130 dX3_layPoly_32 (by rfl) (Nat.le_of_ble_eq_true rfl) (by decide) (by omega) (fun _ _ _ h _ => False.elim h) (fun r_32 w_32 n_32 h_32 hn_32 => ?_)
        
        refine e_iinc F dX3_layPoly_35 rfl (by decide) ?_
        refine e_goto F 7 dX3_layPoly_38 (by decide) ?_
        obtain rfl : r_32 = none := h_32.1
        obtain ⟨_, en32, zD, zF⟩ := h_32
        rw [en32]
        refine e_go (ih (i + 1) w_32 (by omega) ⟨by omega, by omega, zD.to (fun j j0 j1 => ?_) (fun _ _ _ => rfl), fun q a1 a2 a3 => by rw [zF q a1 a2 a3, gF q a1 a2 a3]⟩) (And.intro rfl (And.intro rfl (And.intro rfl (And.intro rfl (trivial)))))
        unfold e_fu
        dsimp only
        by_cases e9 : j = i
        · rw [if_pos e9, e9, if_pos ⟨by omega, by omega⟩]
        · rw [if_neg e9]
          by_cases e8 : 1 ≤ j ∧ j < i
          · rw [if_pos e8, if_pos ⟨by omega, by omega⟩]
          · rw [if_neg e8, if_neg (by omega)]
  refine e_aload_n F dX3_layPoly_0 rfl ?_
  refine e_iload_n F dX3_layPoly_1 rfl ?_
  refine e_callVN F u_X0_start (by rfl) (c_X0_start hD (t := g) ⟨by omega, by omega⟩) hD.1 rfl rfl w_mn_RX3_157 dX3_layPoly_2 (by rfl) (Nat.le_of_ble_eq_true rfl) (by decide) (by omega) (fun _ _ _ h _ => False.elim h) (fun r_2 w_2 n_2 h_2 hn_2 => ?_)
  obtain ⟨rfl, en2, gD, gF⟩ := h_2
  rw [en2]
  refine e_iconst F dX3_layPoly_5 ?_
  refine e_istore_n F dX3_layPoly_6 (by decide) ?_
  refine e_go (lp 9 1 w_2 (by omega) ⟨by omega, by omega, gD.to (fun j j0 j1 => by rw [if_neg (by omega)]) (fun _ _ _ => rfl), gF⟩) (And.intro rfl (And.intro rfl (And.intro rfl (And.intro rfl (trivial)))))
set_option maxHeartbeats 4000000 in
set_option maxRecDepth 100000 in
theorem c_X3_laySpare {K : e_K} {l : Launch} {w : e_W} {n : Nat} {x : Nat} {kn : Int} (hX : w x = some (SO x kn)) {d : Nat} {fl9 dg sc : Int} {A B : Int → Int} (hD : DL w d fl9 dg sc A B) {fl2 dg2 sc2 : Int} {A2 B2 : Int → Int} (hS : DL w (x + 24) fl2 dg2 sc2 A2 B2) (hd2 : d + 3 ≤ x + 24) : e_Met K l yX3_laySpare (Cond.code yX3_laySpare cX3_laySpare 2 (Option.some .int) :: e_TB) (3) (0) [.ref x, .ref d] w n (fun r w' n' => r = some (.int (eI (bc (st7 A2)))) ∧ n' = n ∧ DL w' d fl2 dg2 sc2 A2 B2 ∧ DF w w' d) (e_px0) := by
  refine e_ofV rfl (Nat.le_of_ble_eq_true rfl) ?_
  intro P9 E9 S9 M9 A9 B9 T9 C9 F hnm
  refine e_aload_n F dX3_laySpare_0 rfl ?_
  refine e_aload_n F dX3_laySpare_1 rfl ?_
  refine e_get (ci := 3) (fi := 3) (q := (RX3, TX3, 5)) F (by first | assumption | exact e_up_s | (rw [e_up_n (by first | assumption | omega)]; first | assumption | exact e_up_s | (rw [e_up_n (by first | assumption | omega)]; first | assumption | exact e_up_s | (rw [e_up_n (by first | assumption | omega)]; first | assumption | exact e_up_s))) | exact hD.1 | exact hD1.1 | exact hD2.1 | exact gD.1 | exact gD1.1 | exact gD2.1 | exact gQ.1 | exact hQ.1 | exact gS.1 | exact hS.1 | exact zD.1) rfl (by decide) w_fl_RX3_30 (by rfl) dX3_laySpare_2 ?_
  refine e_callVN F u_X0_take (by rfl) (c_X0_take hD hS (Or.inr hd2)) hD.1 rfl rfl w_mn_RX3_191 dX3_laySpare_5 (by rfl) (Nat.le_of_ble_eq_true rfl) (by decide) (by omega) (fun _ _ _ h _ => False.elim h) (fun r_5 w_5 n_5 h_5 hn_5 => ?_)
  obtain ⟨rfl, en5, gD, gF⟩ := h_5
  rw [en5]
  refine e_aload_n F dX3_laySpare_8 rfl ?_
  refine e_callVN F u_X0_shareCount (by rfl) (c_X0_shareCount gD) gD.1 rfl rfl w_mn_RX3_149 dX3_laySpare_9 (by rfl) (Nat.le_of_ble_eq_true rfl) (by decide) (by omega) (fun _ _ _ h _ => False.elim h) (fun r_9 w_9 n_9 h_9 hn_9 => ?_)
  obtain ⟨rfl, ew_9, en_9⟩ := h_9
  rw [ew_9, en_9]
  refine e_iret F rfl (by omega) ?_ dX3_laySpare_12
  exact ⟨rfl, rfl, gD, gF⟩
set_option maxHeartbeats 4000000 in
set_option maxRecDepth 100000 in
theorem c_X3_addUpSeals {K : e_K} {l : Launch} {w : e_W} {n : Nat} {x wh : Nat} {kn : Int} (hX : w x = some (SO x kn)) (hF : w (x + 1) = some (FO wh)) (hwh : wh < 7) {d1 d2 : Nat} {fl1 dg1 sc1 fl2 dg2 sc2 g b : Int} {A A1 A2 B B1 B2 : Int → Int} (hD1 : DL w d1 fl1 dg1 sc1 A1 B1) (hD2 : DL w d2 fl2 dg2 sc2 A2 B2) (hS : DL w (x + 24) 1 g 0 A B) (hd1 : d1 + 3 ≤ x + 24) (hd2 : d2 + 3 ≤ x + 24) (hg : 0 ≤ g ∧ g ≤ 6) (hb : b = 0 ∨ b = 1) (hB1 : ∀ j, 0 ≤ j → j < sc1 → 0 ≤ B1 j ∧ B1 j < gr wh) (hB2 : ∀ j, 0 ≤ j → j < sc2 → 0 ≤ B2 j ∧ B2 j < gr wh) : e_Met K l yX3_addUpSeals (Cond.code yX3_addUpSeals cX3_addUpSeals 7 none :: e_TB) (3) (0) [.ref x, .ref d1, .ref d2, .int (eI b)] w n (fun r w' n' => r = none ∧ n' = n ∧ DL w' (x + 24) 1 g (g + 1) A (auS wh b sc1 B1 sc2 B2) ∧ DF w w' (x + 24)) (e_px0) := by
  refine e_ofV rfl (Nat.le_of_ble_eq_true rfl) ?_
  intro P9 E9 S9 M9 A9 B9 T9 C9 F hnm
  have hp := pr_rg wh hwh
  have ho9 := ho_rg wh hwh
  have hg9 := gr_rg wh hwh
  have lp : ∀ (N : Nat) (i : Int) (wl : e_W), (8 - i).toNat < N → (0 ≤ i ∧ i ≤ g + 1 ∧ DL wl (x + 24) 1 g i A (auS wh b sc1 B1 sc2 B2) ∧ DF w wl (x + 24)) → e_V K P9 l E9 (3) (0) S9 M9 A9 B9 T9 C9 7 (fun r w' n' => r = none ∧ n' = n ∧ DL w' (x + 24) 1 g (g + 1) A (auS wh b sc1 B1 sc2 B2) ∧ DF w w' (x + 24)) (e_px0) 3 [(0, .ref x), (1, .ref d1), (2, .ref d2), (3, .int (eI b)), (4, .int (eI i))] [] wl n (0) := by
    intro N
    induction N with
    | zero => intro i wl hN; exact absurd hN (Nat.not_lt_zero _)
    | succ N ih =>
      intro i wl hN ⟨h1, h2, gS, gF⟩
      have gX : wl x = some (SO x kn) := by rw [gF x (by omega) (by omega) (by omega)]; exact hX
      have gFO : wl (x + 1) = some (FO wh) := by rw [gF _ (by omega) (by omega) (by omega)]; exact hF
      have g1 : DL wl d1 fl1 dg1 sc1 A1 B1 := hD1.fr (gF _ (by omega) (by omega) (by omega)) (gF _ (by omega) (by omega) (by omega)) (gF _ (by omega) (by omega) (by omega))
      have g2 : DL wl d2 fl2 dg2 sc2 A2 B2 := hD2.fr (gF _ (by omega) (by omega) (by omega)) (gF _ (by omega) (by omega) (by omega)) (gF _ (by omega) (by omega) (by omega))
      have hs1 := hD1.2.2.2.2.2.1
      have hs2 := hD2.2.2.2.2.2.1
      have hlr : 0 ≤ (if i < sc1 then B1 i else 1) ∧ (if i < sc1 then B1 i else 1) < gr wh := by
        split
        · exact hB1 i (by omega) (by omega)
        · omega
      have hrr : 0 ≤ (if i < sc2 then B2 i else 1) ∧ (if i < sc2 then B2 i else 1) < gr wh := by
        split
        · exact hB2 i (by omega) (by omega)
        · omega
      have l57 : i ≤ g → e_V K P9 l E9 (3) (0) S9 M9 A9 B9 T9 C9 7 (fun r w' n' => r = none ∧ n' = n ∧ DL w' (x + 24) 1 g (g + 1) A (auS wh b sc1 B1 sc2 B2) ∧ DF w w' (x + 24)) (e_px0) 57 [(0, .ref x), (1, .ref d1), (2, .ref d2), (3, .int (eI b)), (4, .int (eI i)), (5, .int (eI (if i < sc1 then B1 i else 1))), (6, .int (eI (if i < sc2 then B2 i else 1)))] [] wl n (0) := by
        intro hig
        refine e_aload_n F dX3_addUpSeals_57 rfl ?_
        refine e_get (ci := 3) (fi := 3) (q := (RX3, TX3, 5)) F (by first | assumption | exact e_up_s | (rw [e_up_n (by first | assumption | omega)]; first | assumption | exact e_up_s | (rw [e_up_n (by first | assumption | omega)]; first | assumption | exact e_up_s | (rw [e_up_n (by first | assumption | omega)]; first | assumption | exact e_up_s))) | exact hD.1 | exact hD1.1 | exact hD2.1 | exact gD.1 | exact gD1.1 | exact gD2.1 | exact gQ.1 | exact hQ.1 | exact gS.1 | exact hS.1 | exact zD.1) rfl (by decide) w_fl_RX3_30 (by rfl) dX3_addUpSeals_58 ?_
        refine e_aload_n F dX3_addUpSeals_61 rfl ?_
        refine e_get (ci := 3) (fi := 0) (q := (RX3, TX3, 5)) F (by first | assumption | exact e_up_s | (rw [e_up_n (by first | assumption | omega)]; first | assumption | exact e_up_s | (rw [e_up_n (by first | assumption | omega)]; first | assumption | exact e_up_s | (rw [e_up_n (by first | assumption | omega)]; first | assumption | exact e_up_s))) | exact hD.1 | exact hD1.1 | exact hD2.1 | exact gD.1 | exact gD1.1 | exact gD2.1 | exact gQ.1 | exact hQ.1 | exact gS.1 | exact hS.1 | exact zD.1) rfl (by decide) w_fl_RX3_10 (by rfl) dX3_addUpSeals_62 ?_
        refine e_iload F dX3_addUpSeals_65 rfl ?_
        refine e_iload_n F dX3_addUpSeals_67 rfl ?_
        refine e_if_eq F 83 dX3_addUpSeals_68 (by decide) (by rcases hb with h | h <;> rw [h] <;> decide) (fun c_68 => ?_) (fun c_68 => ?_)
        ·
          have hv9 := hrr
          refine e_iload F dX3_addUpSeals_83 rfl ?_
          refine e_callVN F u_X1_sealProduct (by rfl) (c_X1_sealProduct gFO hwh hlr.1 hlr.2 hv9.1 hv9.2) (by first | assumption | exact e_up_s | (rw [e_up_n (by first | assumption | omega)]; first | assumption | exact e_up_s | (rw [e_up_n (by first | assumption | omega)]; first | assumption | exact e_up_s | (rw [e_up_n (by first | assumption | omega)]; first | assumption | exact e_up_s))) | exact hD.1 | exact hD1.1 | exact hD2.1 | exact gD.1 | exact gD1.1 | exact gD2.1 | exact gQ.1 | exact hQ.1 | exact gS.1 | exact hS.1 | exact zD.1) rfl rfl w_mn_RX3_143 dX3_addUpSeals_85 (by rfl) (Nat.le_of_ble_eq_true rfl) (by decide) (by omega) (fun _ _ _ h _ => False.elim h) (fun r_85 w_85 n_85 h_85 hn_85 => ?_)
          obtain ⟨rfl, ew_85, en_85⟩ := h_85
          rw [ew_85, en_85]
          refine e_callVN F u_X0_addSeal (by rfl) (c_X0_addSeal gS (by omega) (Int.emod_nonneg _ (by omega)) (Int.lt_of_lt_of_le (Int.emod_lt_of_pos _ (by omega)) hg9.2)) gS.1 rfl rfl w_mn_RX3_167 dX3_addUpSeals_88 (by rfl) (Nat.le_of_ble_eq_true rfl) (by decide) (by omega) (fun _ _ _ h _ => False.elim h) (fun r_88 w_88 n_88 h_88 hn_88 => ?_)
          
          refine e_iinc F dX3_addUpSeals_91 rfl (by decide) ?_
          refine e_goto F 3 dX3_addUpSeals_94 (by decide) ?_
          obtain ⟨rfl, en88, zD, zF⟩ := h_88
          rw [en88]
          refine e_go (ih (i + 1) w_88 (by omega) ⟨by omega, by omega, zD.to (fun _ _ _ => rfl) (fu_ite ?_ (fun _ _ _ => rfl)), fun q a1 a2 a3 => by rw [zF q a1 a2 a3, gF q a1 a2 a3]⟩) (And.intro rfl (And.intro rfl (And.intro rfl (And.intro rfl (And.intro rfl (trivial))))))
          unfold auS
          first | rw [if_pos c_68] | rw [if_neg c_68]
        ·
          have hv9 := ivq_rg (v := if i < sc2 then B2 i else 1) hwh
          refine e_aload_n F dX3_addUpSeals_71 rfl ?_
          refine e_get (ci := 3) (fi := 0) (q := (RX3, TX3, 5)) F (by first | assumption | exact e_up_s | (rw [e_up_n (by first | assumption | omega)]; first | assumption | exact e_up_s | (rw [e_up_n (by first | assumption | omega)]; first | assumption | exact e_up_s | (rw [e_up_n (by first | assumption | omega)]; first | assumption | exact e_up_s))) | exact hD.1 | exact hD1.1 | exact hD2.1 | exact gD.1 | exact gD1.1 | exact gD2.1 | exact gQ.1 | exact hQ.1 | exact gS.1 | exact hS.1 | exact zD.1) rfl (by decide) w_fl_RX3_10 (by rfl) dX3_addUpSeals_72 ?_
          refine e_iload F dX3_addUpSeals_75 rfl ?_
          refine e_callVN F u_X1_inverseSeal (by rfl) (c_X1_inverseSeal gFO hwh hrr.1 hrr.2) (by first | assumption | exact e_up_s | (rw [e_up_n (by first | assumption | omega)]; first | assumption | exact e_up_s | (rw [e_up_n (by first | assumption | omega)]; first | assumption | exact e_up_s | (rw [e_up_n (by first | assumption | omega)]; first | assumption | exact e_up_s))) | exact hD.1 | exact hD1.1 | exact hD2.1 | exact gD.1 | exact gD1.1 | exact gD2.1 | exact gQ.1 | exact hQ.1 | exact gS.1 | exact hS.1 | exact zD.1) rfl rfl w_mn_RX3_316 dX3_addUpSeals_77 (by rfl) (Nat.le_of_ble_eq_true rfl) (by decide) (by omega) (fun _ _ _ h _ => False.elim h) (fun r_77 w_77 n_77 h_77 hn_77 => ?_)
          obtain ⟨rfl, ew_77, en_77⟩ := h_77
          rw [ew_77, en_77]
          refine e_goto F 85 dX3_addUpSeals_80 (by decide) ?_
          refine e_callVN F u_X1_sealProduct (by rfl) (c_X1_sealProduct gFO hwh hlr.1 hlr.2 hv9.1 hv9.2) (by first | assumption | exact e_up_s | (rw [e_up_n (by first | assumption | omega)]; first | assumption | exact e_up_s | (rw [e_up_n (by first | assumption | omega)]; first | assumption | exact e_up_s | (rw [e_up_n (by first | assumption | omega)]; first | assumption | exact e_up_s))) | exact hD.1 | exact hD1.1 | exact hD2.1 | exact gD.1 | exact gD1.1 | exact gD2.1 | exact gQ.1 | exact hQ.1 | exact gS.1 | exact hS.1 | exact zD.1) rfl rfl w_mn_RX3_143 dX3_addUpSeals_85 (by rfl) (Nat.le_of_ble_eq_true rfl) (by decide) (by omega) (fun _ _ _ h _ => False.elim h) (fun r_85 w_85 n_85 h_85 hn_85 => ?_)
          obtain ⟨rfl, ew_85, en_85⟩ := h_85
          rw [ew_85, en_85]
          refine e_callVN F u_X0_addSeal (by rfl) (c_X0_addSeal gS (by omega) (Int.emod_nonneg _ (by omega)) (Int.lt_of_lt_of_le (Int.emod_lt_of_pos _ (by omega)) hg9.2)) gS.1 rfl rfl w_mn_RX3_167 dX3_addUpSeals_88 (by rfl) (Nat.le_of_ble_eq_true rfl) (by decide) (by omega) (fun _ _ _ h _ => False.elim h) (fun r_88 w_88 n_88 h_88 hn_88 => ?_)
          
          refine e_iinc F dX3_addUpSeals_91 rfl (by decide) ?_
          refine e_goto F 3 dX3_addUpSeals_94 (by decide) ?_
          obtain ⟨rfl, en88, zD, zF⟩ := h_88
          rw [en88]
          refine e_go (ih (i + 1) w_88 (by omega) ⟨by omega, by omega, zD.to (fun _ _ _ => rfl) (fu_ite ?_ (fun _ _ _ => rfl)), fun q a1 a2 a3 => by rw [zF q a1 a2 a3, gF q a1 a2 a3]⟩) (And.intro rfl (And.intro rfl (And.intro rfl (And.intro rfl (And.intro rfl (trivial))))))
          unfold auS
          first | rw [if_pos c_68] | rw [if_neg c_68]
      have l36 : i ≤ g → e_V K P9 l E9 (3) (0) S9 M9 A9 B9 T9 C9 7 (fun r w' n' => r = none ∧ n' = n ∧ DL w' (x + 24) 1 g (g + 1) A (auS wh b sc1 B1 sc2 B2) ∧ DF w w' (x + 24)) (e_px0) 36 [(0, .ref x), (1, .ref d1), (2, .ref d2), (3, .int (eI b)), (4, .int (eI i)), (5, .int (eI (if i < sc1 then B1 i else 1)))] [] wl n (0) := by
        intro hig
        refine e_iload F dX3_addUpSeals_36 rfl ?_
        refine e_aload_n F dX3_addUpSeals_38 rfl ?_
        refine e_getN (ci := 0) (fi := 2) (q := (RX0, TX0, 5)) F g2.1 rfl (by decide) w_fn_RX3_134 (by rfl) dX3_addUpSeals_39 ?_
        refine e_icmp_ge F 54 dX3_addUpSeals_42 (by decide) (⟨by omega, by omega⟩) (⟨by omega, by omega⟩) (fun c_42 => ?_) (fun c_42 => ?_)
        ·
          have e9 : (if i < sc2 then B2 i else 1) = 1 := if_neg (by omega)
          rw [e9] at l57
          refine e_iconst F dX3_addUpSeals_54 ?_
          refine e_istore F dX3_addUpSeals_55 (by decide) ?_
          exact e_go (l57 hig) (And.intro rfl (And.intro rfl (And.intro rfl (And.intro rfl (And.intro rfl (And.intro rfl (And.intro rfl (trivial))))))))
        ·
          have e9 : (if i < sc2 then B2 i else 1) = B2 i := if_pos (by omega)
          rw [e9] at l57
          refine e_aload_n F dX3_addUpSeals_45 rfl ?_
          refine e_iload F dX3_addUpSeals_46 rfl ?_
          refine e_callVN F u_X0_sealAt (by rfl) (c_X0_sealAt g2 (h := i) ⟨by omega, by omega⟩) g2.1 rfl rfl w_mn_RX3_137 dX3_addUpSeals_48 (by rfl) (Nat.le_of_ble_eq_true rfl) (by decide) (by omega) (fun _ _ _ h _ => False.elim h) (fun r_48 w_48 n_48 h_48 hn_48 => ?_)
          obtain ⟨rfl, ew_48, en_48⟩ := h_48
          rw [ew_48, en_48, if_pos (show 0 ≤ i ∧ i < sc2 from ⟨by omega, by omega⟩)]
          refine e_goto F 55 dX3_addUpSeals_51 (by decide) ?_
          refine e_istore F dX3_addUpSeals_55 (by decide) ?_
          exact e_go (l57 hig) (And.intro rfl (And.intro rfl (And.intro rfl (And.intro rfl (And.intro rfl (And.intro rfl (And.intro rfl (trivial))))))))
      refine e_iload F dX3_addUpSeals_3 rfl ?_
      refine e_aload_n F dX3_addUpSeals_5 rfl ?_
      refine e_get (ci := 3) (fi := 3) (q := (RX3, TX3, 5)) F (by first | assumption | exact e_up_s | (rw [e_up_n (by first | assumption | omega)]; first | assumption | exact e_up_s | (rw [e_up_n (by first | assumption | omega)]; first | assumption | exact e_up_s | (rw [e_up_n (by first | assumption | omega)]; first | assumption | exact e_up_s))) | exact hD.1 | exact hD1.1 | exact hD2.1 | exact gD.1 | exact gD1.1 | exact gD2.1 | exact gQ.1 | exact hQ.1 | exact gS.1 | exact hS.1 | exact zD.1) rfl (by decide) w_fl_RX3_30 (by rfl) dX3_addUpSeals_6 ?_
      refine e_getN (ci := 0) (fi := 1) (q := (RX0, TX0, 5)) F gS.1 rfl (by decide) w_fn_RX3_113 (by rfl) dX3_addUpSeals_9 ?_
      refine e_icmp_gt F 97 dX3_addUpSeals_12 (by decide) (⟨by omega, by omega⟩) (⟨by omega, by omega⟩) (fun c_12 => ?_) (fun c_12 => ?_)
      ·
        obtain rfl : i = g + 1 := by omega
        refine e_vret F rfl (by omega) ?_ dX3_addUpSeals_97
        exact ⟨rfl, rfl, gS, gF⟩
      · refine e_iload F dX3_addUpSeals_15 rfl ?_
        refine e_aload_n F dX3_addUpSeals_17 rfl ?_
        refine e_getN (ci := 0) (fi := 2) (q := (RX0, TX0, 5)) F g1.1 rfl (by decide) w_fn_RX3_134 (by rfl) dX3_addUpSeals_18 ?_
        refine e_icmp_ge F 33 dX3_addUpSeals_21 (by decide) (⟨by omega, by omega⟩) (⟨by omega, by omega⟩) (fun c_21 => ?_) (fun c_21 => ?_)
        ·
          have e9 : (if i < sc1 then B1 i else 1) = 1 := if_neg (by omega)
          rw [e9] at l36
          refine e_iconst F dX3_addUpSeals_33 ?_
          refine e_istore F dX3_addUpSeals_34 (by decide) ?_
          exact e_go (l36 (by omega)) (And.intro rfl (And.intro rfl (And.intro rfl (And.intro rfl (And.intro rfl (And.intro rfl (trivial)))))))
        ·
          have e9 : (if i < sc1 then B1 i else 1) = B1 i := if_pos (by omega)
          rw [e9] at l36
          refine e_aload_n F dX3_addUpSeals_24 rfl ?_
          refine e_iload F dX3_addUpSeals_25 rfl ?_
          refine e_callVN F u_X0_sealAt (by rfl) (c_X0_sealAt g1 (h := i) ⟨by omega, by omega⟩) g1.1 rfl rfl w_mn_RX3_137 dX3_addUpSeals_27 (by rfl) (Nat.le_of_ble_eq_true rfl) (by decide) (by omega) (fun _ _ _ h _ => False.elim h) (fun r_27 w_27 n_27 h_27 hn_27 => ?_)
          obtain ⟨rfl, ew_27, en_27⟩ := h_27
          rw [ew_27, en_27, if_pos (show 0 ≤ i ∧ i < sc1 from ⟨by omega, by omega⟩)]
          refine e_goto F 34 dX3_addUpSeals_30 (by decide) ?_
          refine e_istore F dX3_addUpSeals_34 (by decide) ?_
          exact e_go (l36 (by omega)) (And.intro rfl (And.intro rfl (And.intro rfl (And.intro rfl (And.intro rfl (And.intro rfl (trivial)))))))
  refine e_iconst F dX3_addUpSeals_0 ?_
  refine e_istore F dX3_addUpSeals_1 (by decide) ?_
  exact e_go (lp 9 0 w (by omega) ⟨by omega, by omega, hS.to (fun _ _ _ => rfl) (fun j j0 j1 => by omega), fun q _ _ _ => rfl⟩) (And.intro rfl (And.intro rfl (And.intro rfl (And.intro rfl (And.intro rfl (trivial))))))
end
-- 23.obj.lean.txt
section
/-! Secretshares: the whole object -/
/-- a deal: filled, degree, number of seals, shares, seals -/
abbrev SD : Type := Int × Int × Int × (Int → Int) × (Int → Int)
abbrev SD.fl (s : SD) : Int := s.1
abbrev SD.dg (s : SD) : Int := s.2.1
abbrev SD.sc (s : SD) : Int := s.2.2.1
abbrev SD.A (s : SD) : Int → Int := s.2.2.2.1
abbrev SD.B (s : SD) : Int → Int := s.2.2.2.2
abbrev DS (w : e_W) (d : Nat) (s : SD) : Prop := DL w d s.fl s.dg s.sc s.A s.B
/-- a unit mod the great prime -/
def UN (wh : Nat) (b : Int) : Prop := ∃ u, b * u % gr wh = 1
def SW (wh : Nat) (s : SD) : Prop := (∀ j, 1 ≤ j → j < 8 → s.A j = -1 ∨ (0 ≤ s.A j ∧ s.A j < pr wh ∧ j ≤ ho wh)) ∧ (∀ j, 0 ≤ j → j < s.sc → (0 ≤ s.B j ∧ s.B j < gr wh) ∧ UN wh (s.B j)) ∧ (s.sc = 0 ∨ s.sc = s.dg + 1) ∧ (s.fl = 0 → s.dg = 0 ∧ s.sc = 0 ∧ ∀ j, 1 ≤ j → j < 8 → s.A j = -1)
def CW (w : e_W) (x wh : Nat) (kn : Int) (D : Nat → SD) : Prop := w x = some (SO x kn) ∧ w (x + 1) = some (FO wh) ∧ wh < 7 ∧ (∃ P, PL w (x + 2) P) ∧ DA w x ∧ (∀ j, j < 6 → DS w (x + 6 + 3 * j) (D j) ∧ SW wh (D j)) ∧ ∃ s, DS w (x + 24) s
def FR (w w' : e_W) (x : Nat) : Prop := ∀ q, q < x ∨ x + 27 ≤ q → w' q = w q
def upD (D : Nat → SD) (i : Nat) (s : SD) : Nat → SD := fun j => if j = i then s else D j
/-- changed: the poly's rows, deal i, the spare one -/
def FC (w w' : e_W) (x i : Nat) : Prop := ∀ q, q ≠ x + 3 → q ≠ x + 4 → (q < x + 6 + 3 * i ∨ x + 9 + 3 * i ≤ q) → (q < x + 24 ∨ x + 27 ≤ q) → w' q = w q
theorem CW.lay {w w' : e_W} {x wh i : Nat} {kn : Int} {D : Nat → SD} {s : SD} (h : CW w x wh kn D) (hi : i < 6) (hP : ∃ P, PL w' (x + 2) P) (hd : DS w' (x + 6 + 3 * i) s) (hs : SW wh s) (hS : ∃ s2, DS w' (x + 24) s2) (hf : FC w w' x i) : CW w' x wh kn (upD D i s) ∧ FR w w' x := by
  obtain ⟨hX, hF, hwh, _, ⟨g, hg, hgj⟩, hDs, _⟩ := h
  refine ⟨⟨by rw [hf x (by omega) (by omega) (by omega) (by omega)]; exact hX, by rw [hf _ (by omega) (by omega) (by omega) (by omega)]; exact hF, hwh, hP, ⟨g, by rw [hf _ (by omega) (by omega) (by omega) (by omega)]; exact hg, hgj⟩, fun j hj => ?_, hS⟩, fun q hq => hf q (by omega) (by omega) (by omega) (by omega)⟩
  unfold upD
  by_cases e : j = i
  · rw [if_pos e, e]; exact ⟨hd, hs⟩
  · rw [if_neg e]
    exact ⟨(hDs j hj).1.fr (hf _ (by omega) (by omega) (by omega) (by omega)) (hf _ (by omega) (by omega) (by omega) (by omega)) (hf _ (by omega) (by omega) (by omega) (by omega)), (hDs j hj).2⟩
theorem CW.px {w w' : e_W} {x wh : Nat} {kn : Int} {D : Nat → SD} (h : CW w x wh kn D) (hp : PX w w' x) : CW w' x wh kn D ∧ FR w w' x := by
  obtain ⟨hX, hF, hwh, _, ⟨g, hg, hgj⟩, hDs, s, hS⟩ := h
  obtain ⟨hP, hf⟩ := hp
  exact ⟨⟨by rw [hf x (by omega) (by omega)]; exact hX, by rw [hf _ (by omega) (by omega)]; exact hF, hwh, hP, ⟨g, by rw [hf _ (by omega) (by omega)]; exact hg, hgj⟩, fun j hj => ⟨(hDs j hj).1.fr (hf _ (by omega) (by omega)) (hf _ (by omega) (by omega)) (hf _ (by omega) (by omega)), (hDs j hj).2⟩, s, hS.fr (hf _ (by omega) (by omega)) (hf _ (by omega) (by omega)) (hf _ (by omega) (by omega))⟩, fun q hq => hf q (by omega) (by omega)⟩
theorem FR.rf {w : e_W} {x : Nat} : FR w w x := fun _ _ => rfl
theorem CW.spare {w wl : e_W} {x wh : Nat} {kn : Int} {D : Nat → SD} (h : CW w x wh kn D) (hf : DF w wl (x + 24)) : wl x = some (SO x kn) ∧ wl (x + 1) = some (FO wh) ∧ (∃ P, PL wl (x + 2) P) ∧ DA wl x ∧ ∀ j, j < 6 → DS wl (x + 6 + 3 * j) (D j) := by
  obtain ⟨hX, hF, hwh, ⟨P, hP⟩, ⟨g, hg, hgj⟩, hDs, _⟩ := h
  have hf2 : ∀ q, q < x + 24 → wl q = w q := fun q hq => hf q (by omega) (by omega) (by omega)
  exact ⟨by rw [hf2 x (by omega)]; exact hX, by rw [hf2 _ (by omega)]; exact hF, ⟨P, hP.fr (hf2 _ (by omega)) (hf2 _ (by omega)) (hf2 _ (by omega))⟩, ⟨g, by rw [hf2 _ (by omega)]; exact hg, hgj⟩, fun j hj => (hDs j hj).1.fr (hf2 _ (by omega)) (hf2 _ (by omega)) (hf2 _ (by omega))⟩
/-! units -/
theorem un_ne {wh : Nat} (hwh : wh < 7) {b : Int} (h : UN wh b) (h0 : 0 ≤ b) : 1 ≤ b := by
  obtain ⟨u, hu⟩ := h
  have hg := gr_rg wh hwh
  apply Classical.byContradiction
  intro q
  have e : b = 0 := by omega
  rw [e, Int.zero_mul, Int.zero_emod] at hu
  exact absurd hu (by decide)
theorem un_mul {wh : Nat} {a b : Int} (h1 : UN wh a) (h2 : UN wh b) : UN wh (a * b % gr wh) := by
  obtain ⟨u, hu⟩ := h1
  obtain ⟨v, hv⟩ := h2
  refine ⟨u * v, ?_⟩
  rw [emod_mul_l, show a * b * (u * v) = (a * u) * (b * v) by rw [Int.mul_assoc, Int.mul_assoc, Int.mul_left_comm b u v], ← emod_mul_l, hu, Int.one_mul, hv]
theorem un_one {wh : Nat} (hwh : wh < 7) : UN wh 1 := ⟨1, by have := gr_rg wh hwh; rw [Int.one_mul]; exact Int.emod_eq_of_lt (by omega) (by omega)⟩
theorem un_pow {wh : Nat} (hwh : wh < 7) {a : Int} (h : UN wh a) (k : Nat) : UN wh (e_pw a k (gr wh)) := by
  have hg := gr_rg wh hwh
  induction k with
  | zero =>
    refine ⟨1, ?_⟩
    unfold e_pw
    rw [Int.pow_zero, Int.mul_one, Int.emod_emod_of_dvd _ (Int.dvd_refl _)]
    exact Int.emod_eq_of_lt (by omega) (by omega)
  | succ k ih =>
    have := un_mul ih h
    unfold e_pw at this ⊢
    rw [emod_mul_l] at this
    rw [Int.pow_succ]
    exact this
theorem un_bs : ∀ wh, wh < 7 → UN wh (bs wh) := wh_cases ⟨4, by decide⟩ ⟨25, by decide⟩ ⟨12, by decide⟩ ⟨16, by decide⟩ ⟨347, by decide⟩ ⟨183504, by decide⟩ ⟨14684255, by decide⟩
theorem un_sl {wh : Nat} (hwh : wh < 7) (v : Int) : UN wh (sl wh v) := un_pow hwh (un_bs wh hwh) _
theorem un_ivq {wh : Nat} (hwh : wh < 7) {v : Int} (h : UN wh v) : UN wh (ivq wh v) := un_pow hwh h _
theorem un_auS {wh : Nat} (hwh : wh < 7) {b s1 s2 : Int} {B1 B2 : Int → Int} {k : Int} (h1 : k < s1 → UN wh (B1 k)) (h2 : k < s2 → UN wh (B2 k)) : UN wh (auS wh b s1 B1 s2 B2 k) := by
  unfold auS
  have a1 : UN wh (if k < s1 then B1 k else 1) := by
    split
    · exact h1 (by assumption)
    · exact un_one hwh
  have a2 : UN wh (if k < s2 then B2 k else 1) := by
    split
    · exact h2 (by assumption)
    · exact un_one hwh
  apply un_mul a1
  split
  · exact a2
  · exact un_ivq hwh a2
def auR (wh : Nat) (b : Int) (s1 s2 : SD) : SD := ⟨1, if s1.dg < s2.dg then s2.dg else s1.dg, if 0 < s1.sc ∧ 0 < s2.sc then (if s1.dg < s2.dg then s2.dg else s1.dg) + 1 else 0, auA wh b s1.A s2.A, auS wh b s1.sc s1.B s2.sc s2.B⟩
def auQ (wh : Nat) (b : Int) (D : Nat → SD) (i1 i2 i3 : Nat) : Int × (Nat → SD) := if (D i1).fl = 0 ∨ (D i2).fl = 0 then (-9, D) else (bc (st7 (auA wh b (D i1).A (D i2).A)), upD D i3 (auR wh b (D i1) (D i2)))
theorem auA_rg {wh : Nat} (hwh : wh < 7) (b : Int) (A1 A2 : Int → Int) (j : Int) : auA wh b A1 A2 j = -1 ∨ (0 ≤ auA wh b A1 A2 j ∧ auA wh b A1 A2 j < pr wh ∧ j ≤ ho wh) := by
  unfold auA
  split
  · rename_i q
    have := emod_rg (A1 j + (if b = 0 then A2 j else -A2 j)) hwh
    exact Or.inr ⟨this.1, this.2, q.1.2⟩
  · exact Or.inl rfl
theorem auR_SW {wh : Nat} (hwh : wh < 7) {b : Int} {s1 s2 : SD} (h1 : SW wh s1) (h2 : SW wh s2) : SW wh (auR wh b s1 s2) := by
  refine ⟨fun j _ _ => auA_rg hwh b _ _ j, fun j j0 _ => ⟨auS_rg hwh j, un_auS hwh (fun q => (h1.2.1 j j0 q).2) (fun q => (h2.2.1 j j0 q).2)⟩, ?_, fun q => absurd q (show ¬ ((1 : Int) = 0) by decide)⟩
  show (if 0 < s1.sc ∧ 0 < s2.sc then (if s1.dg < s2.dg then s2.dg else s1.dg) + 1 else 0) = 0 ∨ (if 0 < s1.sc ∧ 0 < s2.sc then (if s1.dg < s2.dg then s2.dg else s1.dg) + 1 else 0) = (if s1.dg < s2.dg then s2.dg else s1.dg) + 1
  split
  · exact Or.inr rfl
  · exact Or.inl rfl
set_option maxHeartbeats 4000000 in
set_option maxRecDepth 100000 in
theorem c_X3_addUp {K : e_K} {l : Launch} {w : e_W} {n : Nat} {x wh : Nat} {kn : Int} {D : Nat → SD} (hC : CW w x wh kn D) {i1 i2 i3 : Nat} {b : Int} (h1 : i1 < 6) (h2 : i2 < 6) (h3 : i3 < 6) (hb : b = 0 ∨ b = 1) : e_Met K l yX3_addUp (Cond.code yX3_addUp cX3_addUp 8 (Option.some .int) :: e_TB) (4) (0) [.ref x, .ref (x + 6 + 3 * i1), .ref (x + 6 + 3 * i2), .ref (x + 6 + 3 * i3), .int (eI b)] w n (fun r w' n' => r = some (.int (eI (auQ wh b D i1 i2 i3).1)) ∧ n' = n ∧ CW w' x wh kn (auQ wh b D i1 i2 i3).2 ∧ FR w w' x) (e_px0) := by
  refine e_ofV rfl (Nat.le_of_ble_eq_true rfl) ?_
  intro P9 E9 S9 M9 A9 B9 T9 C9 F hnm
  have hC0 := hC
  obtain ⟨hX, hF, hwh, ⟨P0, hQ⟩, hDA, hDs, s0, hS⟩ := hC
  have hp := pr_rg wh hwh
  have ho9 := ho_rg wh hwh
  have hg9 := gr_rg wh hwh
  obtain ⟨hD1, hW1⟩ := hDs i1 h1
  obtain ⟨hD2, hW2⟩ := hDs i2 h2
  obtain ⟨hD3, hW3⟩ := hDs i3 h3
  have hdg1 := hD1.2.2.2.2.1
  have hdg2 := hD2.2.2.2.2.1
  have hA1 := hD1.2.2.2.2.2.2.1
  have hA2 := hD2.2.2.2.2.2.2.1
  have l147 : ¬ ((D i1).fl = 0 ∨ (D i2).fl = 0) → ∀ wl : e_W, DS wl (x + 24) (auR wh b (D i1) (D i2)) → DF w wl (x + 24) → e_V K P9 l E9 (4) (0) S9 M9 A9 B9 T9 C9 8 (fun r w' n' => r = some (.int (eI (auQ wh b D i1 i2 i3).1)) ∧ n' = n ∧ CW w' x wh kn (auQ wh b D i1 i2 i3).2 ∧ FR w w' x) (e_px0) 147 [(0, .ref x), (1, .ref (x + 6 + 3 * i1)), (2, .ref (x + 6 + 3 * i2)), (3, .ref (x + 6 + 3 * i3)), (4, .int (eI b))] [] wl n (0) := by
    intro hne wl gS gF
    obtain ⟨gX, gFO, ⟨P2, gQ⟩, gDA, gDs⟩ := hC0.spare gF
    refine e_aload_n F dX3_addUp_147 rfl ?_
    refine e_aload_n F dX3_addUp_148 rfl ?_
    refine e_callVV F u_X3_laySpare (by rfl) (c_X3_laySpare gX (gDs i3 h3) gS (by omega)) gX rfl rfl w_ml_RX3_160 dX3_addUp_149 (by rfl) (Nat.le_of_ble_eq_true rfl) (by decide) (by omega) (fun _ _ _ h _ => False.elim h) (fun r_149 w_149 n_149 h_149 hn_149 => ?_)
    obtain ⟨rfl, en149, zD, zF⟩ := h_149
    rw [en149]
    refine e_iret F rfl (by omega) ?_ dX3_addUp_152
    have hres := CW.lay hC0 h3 ⟨P2, gQ.fr (zF _ (by omega) (by omega) (by omega)) (zF _ (by omega) (by omega) (by omega)) (zF _ (by omega) (by omega) (by omega))⟩ (s := auR wh b (D i1) (D i2)) zD (auR_SW hwh hW1 hW2) ⟨auR wh b (D i1) (D i2), gS.fr (zF _ (by omega) (by omega) (by omega)) (zF _ (by omega) (by omega) (by omega)) (zF _ (by omega) (by omega) (by omega))⟩ (fun q a1 a2 a3 a4 => by rw [zF q (by omega) (by omega) (by omega), gF q (by omega) (by omega) (by omega)])
    unfold auQ
    rw [if_neg hne]
    exact ⟨rfl, rfl, hres.1, hres.2⟩
  have lp : ¬ ((D i1).fl = 0 ∨ (D i2).fl = 0) → True := fun _ => trivial
  have lp2 : ¬ ((D i1).fl = 0 ∨ (D i2).fl = 0) → ∀ (N : Nat) (i : Int) (wl : e_W), (9 - i).toNat < N → (1 ≤ i ∧ i ≤ ho wh + 1 ∧ DL wl (x + 24) 1 (if (D i1).dg < (D i2).dg then (D i2).dg else (D i1).dg) 0 (fun h => if h < i then auA wh b (D i1).A (D i2).A h else -1) s0.B ∧ DF w wl (x + 24)) → e_V K P9 l E9 (4) (0) S9 M9 A9 B9 T9 C9 8 (fun r w' n' => r = some (.int (eI (auQ wh b D i1 i2 i3).1)) ∧ n' = n ∧ CW w' x wh kn (auQ wh b D i1 i2 i3).2 ∧ FR w w' x) (e_px0) 38 [(0, .ref x), (1, .ref (x + 6 + 3 * i1)), (2, .ref (x + 6 + 3 * i2)), (3, .ref (x + 6 + 3 * i3)), (4, .int (eI b)), (5, .int (eI i))] [] wl n (0) := by
    intro hne N
    induction N with
    | zero => intro i wl hN; exact absurd hN (Nat.not_lt_zero _)
    | succ N ih =>
      intro i wl hN ⟨k1, k2, gS, gF⟩
      obtain ⟨gX, gFO, ⟨P2, gQ⟩, gDA, gDs⟩ := hC0.spare gF
      have gD1 := gDs i1 h1
      have gD2 := gDs i2 h2
      have l91 : i ≤ ho wh → (D i1).A i ≠ -1 → (D i2).A i ≠ -1 → e_V K P9 l E9 (4) (0) S9 M9 A9 B9 T9 C9 8 (fun r w' n' => r = some (.int (eI (auQ wh b D i1 i2 i3).1)) ∧ n' = n ∧ CW w' x wh kn (auQ wh b D i1 i2 i3).2 ∧ FR w w' x) (e_px0) 91 [(0, .ref x), (1, .ref (x + 6 + 3 * i1)), (2, .ref (x + 6 + 3 * i2)), (3, .ref (x + 6 + 3 * i3)), (4, .int (eI b)), (5, .int (eI i))] [.long (eJ (if b = 0 then (D i2).A i else -(D i2).A i))] wl n (0) := by
        intro hi c_56 c_65
        have hA1i := hA1 i (by omega) (by omega)
        have hA2i := hA2 i (by omega) (by omega)
        have hadd : -1000003 ≤ (if b = 0 then (D i2).A i else -(D i2).A i) ∧ (if b = 0 then (D i2).A i else -(D i2).A i) ≤ 1000003 := by split <;> omega
        have hm9 := emod_rg ((D i1).A i + (if b = 0 then (D i2).A i else -(D i2).A i)) hwh
        refine e_lstore F dX3_addUp_91 (by decide) ?_
        refine e_aload_n F dX3_addUp_93 rfl ?_
        refine e_get (ci := 3) (fi := 3) (q := (RX3, TX3, 5)) F (by first | assumption | exact e_up_s | (rw [e_up_n (by first | assumption | omega)]; first | assumption | exact e_up_s | (rw [e_up_n (by first | assumption | omega)]; first | assumption | exact e_up_s | (rw [e_up_n (by first | assumption | omega)]; first | assumption | exact e_up_s))) | exact hD.1 | exact hD1.1 | exact hD2.1 | exact gD.1 | exact gD1.1 | exact gD2.1 | exact gQ.1 | exact hQ.1 | exact gS.1 | exact hS.1 | exact zD.1) rfl (by decide) w_fl_RX3_30 (by rfl) dX3_addUp_94 ?_
        refine e_iload F dX3_addUp_97 rfl ?_
        refine e_aload_n F dX3_addUp_99 rfl ?_
        refine e_get (ci := 3) (fi := 0) (q := (RX3, TX3, 5)) F (by first | assumption | exact e_up_s | (rw [e_up_n (by first | assumption | omega)]; first | assumption | exact e_up_s | (rw [e_up_n (by first | assumption | omega)]; first | assumption | exact e_up_s | (rw [e_up_n (by first | assumption | omega)]; first | assumption | exact e_up_s))) | exact hD.1 | exact hD1.1 | exact hD2.1 | exact gD.1 | exact gD1.1 | exact gD2.1 | exact gQ.1 | exact hQ.1 | exact gS.1 | exact hS.1 | exact zD.1) rfl (by decide) w_fl_RX3_10 (by rfl) dX3_addUp_100 ?_
        refine e_aload_n F dX3_addUp_103 rfl ?_
        refine e_iload F dX3_addUp_104 rfl ?_
        refine e_callVN F u_X0_shareAt (by rfl) (c_X0_shareAt gD1 (h := i) (by omega) (by omega)) gD1.1 rfl rfl w_mn_RX3_123 dX3_addUp_106 (by rfl) (Nat.le_of_ble_eq_true rfl) (by decide) (by omega) (fun _ _ _ h _ => False.elim h) (fun r_106 w_106 n_106 h_106 hn_106 => ?_)
        obtain ⟨rfl, ew_106, en_106⟩ := h_106
        rw [ew_106, en_106]
        refine e_i2l F dX3_addUp_109 (⟨by omega, by omega⟩) ?_
        refine e_lload F dX3_addUp_110 rfl ?_
        refine e_ladd F dX3_addUp_112 ?_
        refine e_callVN F u_X1_modPrime (by rfl) (c_X1_modPrime gFO hwh (by constructor <;> omega)) (by first | assumption | exact e_up_s | (rw [e_up_n (by first | assumption | omega)]; first | assumption | exact e_up_s | (rw [e_up_n (by first | assumption | omega)]; first | assumption | exact e_up_s | (rw [e_up_n (by first | assumption | omega)]; first | assumption | exact e_up_s))) | exact hD.1 | exact hD1.1 | exact hD2.1 | exact gD.1 | exact gD1.1 | exact gD2.1 | exact gQ.1 | exact hQ.1 | exact gS.1 | exact hS.1 | exact zD.1) rfl rfl w_mn_RX3_59 dX3_addUp_113 (by rfl) (Nat.le_of_ble_eq_true rfl) (by decide) (by omega) (fun _ _ _ h _ => False.elim h) (fun r_113 w_113 n_113 h_113 hn_113 => ?_)
        obtain ⟨rfl, ew_113, en_113⟩ := h_113
        rw [ew_113, en_113]
        refine e_callVN F u_X0_setShare (by rfl) (c_X0_setShare gS (h := i) (by omega) (by omega) (v := ((D i1).A i + (if b = 0 then (D i2).A i else -(D i2).A i)) % pr wh) (by omega) (by omega)) gS.1 rfl rfl w_mn_RX3_130 dX3_addUp_116 (by rfl) (Nat.le_of_ble_eq_true rfl) (by decide) (by omega) (fun _ _ _ h _ => False.elim h) (fun r_116 w_116 n_116 h_116 hn_116 => ?_)
        
        refine e_iinc F dX3_addUp_119 rfl (by decide) ?_
        refine e_goto F 38 dX3_addUp_122 (by decide) ?_
        obtain ⟨rfl, en116, zD, zF⟩ := h_116
        rw [en116]
        refine e_go (ih (i + 1) w_116 (by omega) ⟨by omega, by omega, zD.to (fun j j0 j1 => ?_) (fun _ _ _ => rfl), fun q a1 a2 a3 => by rw [zF q a1 a2 a3, gF q a1 a2 a3]⟩) (And.intro rfl (And.intro rfl (And.intro rfl (And.intro rfl (And.intro rfl (And.intro rfl (trivial)))))))
        unfold e_fu
        try dsimp only
        by_cases e9 : j = i
        · rw [if_pos e9, if_pos (show j < i + 1 by omega), e9]
          unfold auA
          rw [if_pos (show (1 ≤ i ∧ i ≤ ho wh) ∧ (D i1).A i ≠ -1 ∧ (D i2).A i ≠ -1 from ⟨⟨by omega, by omega⟩, c_56, c_65⟩)]
        · rw [if_neg e9]
          by_cases e8 : j < i
          · rw [if_pos e8, if_pos (show j < i + 1 by omega)]
          · rw [if_neg e8, if_neg (show ¬ j < i + 1 by omega)]
      refine e_iload F dX3_addUp_38 rfl ?_
      refine e_aload_n F dX3_addUp_40 rfl ?_
      refine e_get (ci := 3) (fi := 0) (q := (RX3, TX3, 5)) F (by first | assumption | exact e_up_s | (rw [e_up_n (by first | assumption | omega)]; first | assumption | exact e_up_s | (rw [e_up_n (by first | assumption | omega)]; first | assumption | exact e_up_s | (rw [e_up_n (by first | assumption | omega)]; first | assumption | exact e_up_s))) | exact hD.1 | exact hD1.1 | exact hD2.1 | exact gD.1 | exact gD1.1 | exact gD2.1 | exact gQ.1 | exact hQ.1 | exact gS.1 | exact hS.1 | exact zD.1) rfl (by decide) w_fl_RX3_10 (by rfl) dX3_addUp_41 ?_
      refine e_getN (ci := 1) (fi := 4) (q := (RX1, TX1, 5)) F (by first | assumption | exact e_up_s | (rw [e_up_n (by first | assumption | omega)]; first | assumption | exact e_up_s | (rw [e_up_n (by first | assumption | omega)]; first | assumption | exact e_up_s | (rw [e_up_n (by first | assumption | omega)]; first | assumption | exact e_up_s))) | exact hD.1 | exact hD1.1 | exact hD2.1 | exact gD.1 | exact gD1.1 | exact gD2.1 | exact gQ.1 | exact hQ.1 | exact gS.1 | exact hS.1 | exact zD.1) rfl (by decide) w_fn_RX3_116 (by rfl) dX3_addUp_44 ?_
      refine e_icmp_gt F 125 dX3_addUp_47 (by decide) (⟨by omega, by omega⟩) (⟨by omega, by omega⟩) (fun c_47 => ?_) (fun c_47 => ?_)
      ·
        obtain rfl : i = ho wh + 1 := by omega
        have gS0 : DL wl (x + 24) 1 (if (D i1).dg < (D i2).dg then (D i2).dg else (D i1).dg) 0 (auA wh b (D i1).A (D i2).A) s0.B := gS.to (fun j j0 j1 => by
            try dsimp only
            by_cases e8 : j < ho wh + 1
            · rw [if_pos e8]
            · rw [if_neg e8]
              unfold auA
              rw [if_neg (fun q => by omega)]) (fun _ _ _ => rfl)
        refine e_aload_n F dX3_addUp_125 rfl ?_
        refine e_callVN F u_X0_hasSeals (by rfl) (c_X0_hasSeals gD1) gD1.1 rfl rfl w_mn_RX3_195 dX3_addUp_126 (by rfl) (Nat.le_of_ble_eq_true rfl) (by decide) (by omega) (fun _ _ _ h _ => False.elim h) (fun r_126 w_126 n_126 h_126 hn_126 => ?_)
        obtain ⟨rfl, ew_126, en_126⟩ := h_126
        rw [ew_126, en_126]
        refine e_if_eq F 147 dX3_addUp_129 (by decide) (b01_r _) (fun c_129 => ?_) (fun c_129 => ?_)
        ·
          have hns : ¬ (0 < (D i1).sc ∧ 0 < (D i2).sc) := fun q => (b01_0.mp c_129) q.1
          first
          | (refine e_go (l147 hne w_144 ?_ (fun q a1 a2 a3 => by rw [zF q a1 a2 a3, gF q a1 a2 a3])) (And.intro rfl (And.intro rfl (And.intro rfl (And.intro rfl (And.intro rfl (trivial))))))
             show DL _ _ 1 _ (if 0 < (D i1).sc ∧ 0 < (D i2).sc then _ else 0) _ _
             rw [if_pos ⟨c_129, c_136⟩]
             exact zS)
          | (refine e_go (l147 hne wl ?_ gF) (And.intro rfl (And.intro rfl (And.intro rfl (And.intro rfl (And.intro rfl (trivial))))))
             show DL _ _ 1 _ (if 0 < (D i1).sc ∧ 0 < (D i2).sc then _ else 0) _ _
             rw [if_neg hns]
             exact gS0.to (fun _ _ _ => rfl) (fun j j0 j1 => by omega))
        ·
          rw [b01_0, Classical.not_not] at c_129
          refine e_aload_n F dX3_addUp_132 rfl ?_
          refine e_callVN F u_X0_hasSeals (by rfl) (c_X0_hasSeals gD2) gD2.1 rfl rfl w_mn_RX3_195 dX3_addUp_133 (by rfl) (Nat.le_of_ble_eq_true rfl) (by decide) (by omega) (fun _ _ _ h _ => False.elim h) (fun r_133 w_133 n_133 h_133 hn_133 => ?_)
          obtain ⟨rfl, ew_133, en_133⟩ := h_133
          rw [ew_133, en_133]
          refine e_if_eq F 147 dX3_addUp_136 (by decide) (b01_r _) (fun c_136 => ?_) (fun c_136 => ?_)
          ·
            have hns : ¬ (0 < (D i1).sc ∧ 0 < (D i2).sc) := fun q => (b01_0.mp c_136) q.2
            first
            | (refine e_go (l147 hne w_144 ?_ (fun q a1 a2 a3 => by rw [zF q a1 a2 a3, gF q a1 a2 a3])) (And.intro rfl (And.intro rfl (And.intro rfl (And.intro rfl (And.intro rfl (trivial))))))
               show DL _ _ 1 _ (if 0 < (D i1).sc ∧ 0 < (D i2).sc then _ else 0) _ _
               rw [if_pos ⟨c_129, c_136⟩]
               exact zS)
            | (refine e_go (l147 hne wl ?_ gF) (And.intro rfl (And.intro rfl (And.intro rfl (And.intro rfl (And.intro rfl (trivial))))))
               show DL _ _ 1 _ (if 0 < (D i1).sc ∧ 0 < (D i2).sc then _ else 0) _ _
               rw [if_neg hns]
               exact gS0.to (fun _ _ _ => rfl) (fun j j0 j1 => by omega))
          ·
            rw [b01_0, Classical.not_not] at c_136
            refine e_aload_n F dX3_addUp_139 rfl ?_
            refine e_aload_n F dX3_addUp_140 rfl ?_
            refine e_aload_n F dX3_addUp_141 rfl ?_
            refine e_iload F dX3_addUp_142 rfl ?_
            refine e_callVV F u_X3_addUpSeals (by rfl) (c_X3_addUpSeals gX gFO hwh gD1 gD2 gS0 (by omega) (by omega) (by split <;> omega) hb (fun j a1 a2 => (hW1.2.1 j a1 a2).1) (fun j a1 a2 => (hW2.2.1 j a1 a2).1)) gX rfl rfl w_ml_RX3_312 dX3_addUp_144 (by rfl) (Nat.le_of_ble_eq_true rfl) (by decide) (by omega) (fun _ _ _ h _ => False.elim h) (fun r_144 w_144 n_144 h_144 hn_144 => ?_)
            obtain ⟨rfl, en144, zS, zF⟩ := h_144
            rw [en144]
            first
            | (refine e_go (l147 hne w_144 ?_ (fun q a1 a2 a3 => by rw [zF q a1 a2 a3, gF q a1 a2 a3])) (And.intro rfl (And.intro rfl (And.intro rfl (And.intro rfl (And.intro rfl (trivial))))))
               show DL _ _ 1 _ (if 0 < (D i1).sc ∧ 0 < (D i2).sc then _ else 0) _ _
               rw [if_pos ⟨c_129, c_136⟩]
               exact zS)
            | (refine e_go (l147 hne wl ?_ gF) (And.intro rfl (And.intro rfl (And.intro rfl (And.intro rfl (And.intro rfl (trivial))))))
               show DL _ _ 1 _ (if 0 < (D i1).sc ∧ 0 < (D i2).sc then _ else 0) _ _
               rw [if_neg hns]
               exact gS0.to (fun _ _ _ => rfl) (fun j j0 j1 => by omega))
      · refine e_aload_n F dX3_addUp_50 rfl ?_
        refine e_iload F dX3_addUp_51 rfl ?_
        refine e_callVN F u_X0_hasShare (by rfl) (c_X0_hasShare gD1 (h := i) (by omega) (by omega)) gD1.1 rfl rfl w_mn_RX3_119 dX3_addUp_53 (by rfl) (Nat.le_of_ble_eq_true rfl) (by decide) (by omega) (fun _ _ _ h _ => False.elim h) (fun r_53 w_53 n_53 h_53 hn_53 => ?_)
        obtain ⟨rfl, ew_53, en_53⟩ := h_53
        rw [ew_53, en_53]
        refine e_if_eq F 119 dX3_addUp_56 (by decide) (b01_r _) (fun c_56 => ?_) (fun c_56 => ?_)
        ·
          have hno : ¬ ((D i1).A i ≠ -1 ∧ (D i2).A i ≠ -1) := fun q => (b01_0.mp c_56) q.1
          refine e_iinc F dX3_addUp_119 rfl (by decide) ?_
          refine e_goto F 38 dX3_addUp_122 (by decide) ?_
          refine e_go (ih (i + 1) wl (by omega) ⟨by omega, by omega, gS.to (fun j j0 j1 => ?_) (fun _ _ _ => rfl), gF⟩) (And.intro rfl (And.intro rfl (And.intro rfl (And.intro rfl (And.intro rfl (And.intro rfl (trivial)))))))
          try dsimp only
          by_cases e9 : j = i
          · rw [if_neg (show ¬ j < i by omega), if_pos (show j < i + 1 by omega), e9]
            unfold auA
            rw [if_neg (fun q => hno ⟨q.2.1, q.2.2⟩)]
          · by_cases e8 : j < i
            · rw [if_pos e8, if_pos (show j < i + 1 by omega)]
            · rw [if_neg e8, if_neg (show ¬ j < i + 1 by omega)]
        ·
          rw [b01_0, Classical.not_not] at c_56
          refine e_aload_n F dX3_addUp_59 rfl ?_
          refine e_iload F dX3_addUp_60 rfl ?_
          refine e_callVN F u_X0_hasShare (by rfl) (c_X0_hasShare gD2 (h := i) (by omega) (by omega)) gD2.1 rfl rfl w_mn_RX3_119 dX3_addUp_62 (by rfl) (Nat.le_of_ble_eq_true rfl) (by decide) (by omega) (fun _ _ _ h _ => False.elim h) (fun r_62 w_62 n_62 h_62 hn_62 => ?_)
          obtain ⟨rfl, ew_62, en_62⟩ := h_62
          rw [ew_62, en_62]
          refine e_if_eq F 119 dX3_addUp_65 (by decide) (b01_r _) (fun c_65 => ?_) (fun c_65 => ?_)
          ·
            have hno : ¬ ((D i1).A i ≠ -1 ∧ (D i2).A i ≠ -1) := fun q => (b01_0.mp c_65) q.2
            refine e_iinc F dX3_addUp_119 rfl (by decide) ?_
            refine e_goto F 38 dX3_addUp_122 (by decide) ?_
            refine e_go (ih (i + 1) wl (by omega) ⟨by omega, by omega, gS.to (fun j j0 j1 => ?_) (fun _ _ _ => rfl), gF⟩) (And.intro rfl (And.intro rfl (And.intro rfl (And.intro rfl (And.intro rfl (And.intro rfl (trivial)))))))
            try dsimp only
            by_cases e9 : j = i
            · rw [if_neg (show ¬ j < i by omega), if_pos (show j < i + 1 by omega), e9]
              unfold auA
              rw [if_neg (fun q => hno ⟨q.2.1, q.2.2⟩)]
            · by_cases e8 : j < i
              · rw [if_pos e8, if_pos (show j < i + 1 by omega)]
              · rw [if_neg e8, if_neg (show ¬ j < i + 1 by omega)]
          ·
            rw [b01_0, Classical.not_not] at c_65
            have hA2i := hA2 i (by omega) (by omega)
            refine e_iload F dX3_addUp_68 rfl ?_
            refine e_if_eq F 84 dX3_addUp_70 (by decide) (by rcases hb with h | h <;> rw [h] <;> decide) (fun c_70 => ?_) (fun c_70 => ?_)
            ·
              have e5 : (if b = 0 then (D i2).A i else -(D i2).A i) = (D i2).A i := if_pos c_70
              rw [e5] at l91
              refine e_aload_n F dX3_addUp_84 rfl ?_
              refine e_iload F dX3_addUp_85 rfl ?_
              refine e_callVN F u_X0_shareAt (by rfl) (c_X0_shareAt gD2 (h := i) (by omega) (by omega)) gD2.1 rfl rfl w_mn_RX3_123 dX3_addUp_87 (by rfl) (Nat.le_of_ble_eq_true rfl) (by decide) (by omega) (fun _ _ _ h _ => False.elim h) (fun r_87 w_87 n_87 h_87 hn_87 => ?_)
              obtain ⟨rfl, ew_87, en_87⟩ := h_87
              rw [ew_87, en_87]
              refine e_i2l F dX3_addUp_90 (⟨by omega, by omega⟩) ?_
              exact e_go (l91 (by omega) c_56 c_65) (And.intro rfl (And.intro rfl (And.intro rfl (And.intro rfl (And.intro rfl (And.intro rfl (trivial)))))))
            ·
              have e5 : (if b = 0 then (D i2).A i else -(D i2).A i) = -(D i2).A i := if_neg c_70
              rw [e5] at l91
              refine e_aload_n F dX3_addUp_73 rfl ?_
              refine e_iload F dX3_addUp_74 rfl ?_
              refine e_callVN F u_X0_shareAt (by rfl) (c_X0_shareAt gD2 (h := i) (by omega) (by omega)) gD2.1 rfl rfl w_mn_RX3_123 dX3_addUp_76 (by rfl) (Nat.le_of_ble_eq_true rfl) (by decide) (by omega) (fun _ _ _ h _ => False.elim h) (fun r_76 w_76 n_76 h_76 hn_76 => ?_)
              obtain ⟨rfl, ew_76, en_76⟩ := h_76
              rw [ew_76, en_76]
              refine e_i2l F dX3_addUp_79 (⟨by omega, by omega⟩) ?_
              refine e_lneg F dX3_addUp_80 ?_
              refine e_goto F 91 dX3_addUp_81 (by decide) ?_
              exact e_go (l91 (by omega) c_56 c_65) (And.intro rfl (And.intro rfl (And.intro rfl (And.intro rfl (And.intro rfl (And.intro rfl (trivial)))))))
  refine e_aload_n F dX3_addUp_0 rfl ?_
  refine e_callVN F u_X0_isEmpty (by rfl) (c_X0_isEmpty hD1) hD1.1 rfl rfl w_mn_RX3_109 dX3_addUp_1 (by rfl) (Nat.le_of_ble_eq_true rfl) (by decide) (by omega) (fun _ _ _ h _ => False.elim h) (fun r_1 w_1 n_1 h_1 hn_1 => ?_)
  obtain ⟨rfl, ew_1, en_1⟩ := h_1
  rw [ew_1, en_1]
  refine e_if_ne F 14 dX3_addUp_4 (by decide) (b01_r _) (fun c_4 => ?_) (fun c_4 => ?_)
  ·
    rw [ne_eq, b01_0, Classical.not_not] at c_4
    refine e_bipush F dX3_addUp_14 (by decide) ?_
    refine e_iret F rfl (by omega) ?_ dX3_addUp_16
    have q9 : (D i1).fl = 0 ∨ (D i2).fl = 0 := by first | exact Or.inl c_4 | exact Or.inr c_11
    unfold auQ
    rw [if_pos q9]
    exact ⟨rfl, rfl, hC0, FR.rf⟩
  ·
    rw [b01_0] at c_4
    refine e_aload_n F dX3_addUp_7 rfl ?_
    refine e_callVN F u_X0_isEmpty (by rfl) (c_X0_isEmpty hD2) hD2.1 rfl rfl w_mn_RX3_109 dX3_addUp_8 (by rfl) (Nat.le_of_ble_eq_true rfl) (by decide) (by omega) (fun _ _ _ h _ => False.elim h) (fun r_8 w_8 n_8 h_8 hn_8 => ?_)
    obtain ⟨rfl, ew_8, en_8⟩ := h_8
    rw [ew_8, en_8]
    refine e_if_eq F 17 dX3_addUp_11 (by decide) (b01_r _) (fun c_11 => ?_) (fun c_11 => ?_)
    ·
      rw [b01_0] at c_11
      refine e_aload_n F dX3_addUp_17 rfl ?_
      refine e_get (ci := 3) (fi := 3) (q := (RX3, TX3, 5)) F (by first | assumption | exact e_up_s | (rw [e_up_n (by first | assumption | omega)]; first | assumption | exact e_up_s | (rw [e_up_n (by first | assumption | omega)]; first | assumption | exact e_up_s | (rw [e_up_n (by first | assumption | omega)]; first | assumption | exact e_up_s))) | exact hD.1 | exact hD1.1 | exact hD2.1 | exact gD.1 | exact gD1.1 | exact gD2.1 | exact gQ.1 | exact hQ.1 | exact gS.1 | exact hS.1 | exact zD.1) rfl (by decide) w_fl_RX3_30 (by rfl) dX3_addUp_18 ?_
      refine e_aload_n F dX3_addUp_21 rfl ?_
      refine e_getN (ci := 0) (fi := 1) (q := (RX0, TX0, 5)) F (by first | assumption | exact e_up_s | (rw [e_up_n (by first | assumption | omega)]; first | assumption | exact e_up_s | (rw [e_up_n (by first | assumption | omega)]; first | assumption | exact e_up_s | (rw [e_up_n (by first | assumption | omega)]; first | assumption | exact e_up_s))) | exact hD.1 | exact hD1.1 | exact hD2.1 | exact gD.1 | exact gD1.1 | exact gD2.1 | exact gQ.1 | exact hQ.1 | exact gS.1 | exact hS.1 | exact zD.1) rfl (by decide) w_fn_RX3_113 (by rfl) dX3_addUp_22 ?_
      refine e_aload_n F dX3_addUp_25 rfl ?_
      refine e_getN (ci := 0) (fi := 1) (q := (RX0, TX0, 5)) F (by first | assumption | exact e_up_s | (rw [e_up_n (by first | assumption | omega)]; first | assumption | exact e_up_s | (rw [e_up_n (by first | assumption | omega)]; first | assumption | exact e_up_s | (rw [e_up_n (by first | assumption | omega)]; first | assumption | exact e_up_s))) | exact hD.1 | exact hD1.1 | exact hD2.1 | exact gD.1 | exact gD1.1 | exact gD2.1 | exact gQ.1 | exact hQ.1 | exact gS.1 | exact hS.1 | exact zD.1) rfl (by decide) w_fn_RX3_113 (by rfl) dX3_addUp_26 ?_
      refine e_mmax F ⟨by omega, by omega⟩ ⟨by omega, by omega⟩ w_ml_RX3_307 w_sm_J9_max_7cf53 w_in_RJ9 w_co_J9_max_7cf53 dX3_addUp_29 (Nat.le_of_ble_eq_true rfl) (by decide) (by omega) ?_
      refine e_callVN F u_X0_start (by rfl) (c_X0_start hS (t := (if (D i1).dg < (D i2).dg then (D i2).dg else (D i1).dg)) (by split <;> omega)) hS.1 rfl rfl w_mn_RX3_157 dX3_addUp_32 (by rfl) (Nat.le_of_ble_eq_true rfl) (by decide) (by omega) (fun _ _ _ h _ => False.elim h) (fun r_32 w_32 n_32 h_32 hn_32 => ?_)
      obtain ⟨rfl, en32, gS, gF⟩ := h_32
      rw [en32]
      refine e_iconst F dX3_addUp_35 ?_
      refine e_istore F dX3_addUp_36 (by decide) ?_
      refine e_go (lp2 (fun q => q.elim c_4 c_11) 9 1 w_32 (by omega) ⟨by omega, by omega, gS.to (fun j j0 j1 => by rw [if_neg (show ¬ j < 1 by omega)]) (fun j _ _ => by omega), gF⟩) (And.intro rfl (And.intro rfl (And.intro rfl (And.intro rfl (And.intro rfl (And.intro rfl (trivial)))))))
    ·
      rw [b01_0, Classical.not_not] at c_11
      refine e_bipush F dX3_addUp_14 (by decide) ?_
      refine e_iret F rfl (by omega) ?_ dX3_addUp_16
      have q9 : (D i1).fl = 0 ∨ (D i2).fl = 0 := by first | exact Or.inl c_4 | exact Or.inr c_11
      unfold auQ
      rw [if_pos q9]
      exact ⟨rfl, rfl, hC0, FR.rf⟩
end
-- 24.sound.lean.txt
section
/-! Secretshares: what is sound -/
def fdK (D : Nat → SD) : Nat → Int
  | 0 => 0
  | k + 1 => if (D k).fl = 0 then fdK D k else fdK D k + 1
theorem fdK_rg (D : Nat → SD) (k : Nat) : 0 ≤ fdK D k ∧ fdK D k ≤ k := by
  induction k with
  | zero => unfold fdK; omega
  | succ k ih => unfold fdK; split <;> omega
abbrev dok (wh : Nat) (s : SD) : Prop := fs7 s.A s.dg = 0 ∨ ¬ (daB wh s.sc s.A s.B (fs7 s.A s.dg) (ho wh) (ho wh).toNat = true) ∨ sl wh (tl wh (fs7 s.A s.dg) s.A 0) = s.B 0
def fss (wh : Nat) (D : Nat → SD) : Nat → Bool
  | 0 => true
  | r + 1 => if 0 < (D (5 - r)).sc then decide (dok wh (D (5 - r))) else fss wh D r
theorem fs7_rg {A : Int → Int} {dg : Int} (h : 0 ≤ dg) : 0 ≤ fs7 A dg ∧ fs7 A dg < 128 := by
  have := fsK_rg A dg h 7
  unfold fs7
  split <;> omega
def SD0 : SD := (0, 0, 0, fun _ => -1, fun _ => 0)
theorem SD0_SW (wh : Nat) : SW wh SD0 := ⟨fun _ _ _ => Or.inl rfl, fun j j0 j1 => absurd j1 (show ¬ j < 0 by omega), Or.inl rfl, fun _ => ⟨rfl, rfl, fun _ _ _ => rfl⟩⟩
set_option maxHeartbeats 4000000 in
set_option maxRecDepth 100000 in
theorem c_X3_filledDeals {K : e_K} {l : Launch} {w : e_W} {n : Nat} {x wh : Nat} {kn : Int} {D : Nat → SD} (hC : CW w x wh kn D) : e_Met K l yX3_filledDeals (Cond.code yX3_filledDeals cX3_filledDeals 3 (Option.some .int) :: e_TB) (1) (0) [.ref x] w n (fun r w' n' => r = some (.int (eI (fdK D 6))) ∧ w' = w ∧ n' = n) (e_px0) := by
  refine e_ofV rfl (Nat.le_of_ble_eq_true rfl) ?_
  intro P9 E9 S9 M9 A9 B9 T9 C9 F hnm
  have hC0 := hC
  obtain ⟨hX, hF, hwh, ⟨P0, hQ⟩, ⟨ga, hga, hgj⟩, hDs, s0, hS⟩ := hC
  have hp := pr_rg wh hwh
  have ho9 := ho_rg wh hwh
  have hg9 := gr_rg wh hwh
  have lp : ∀ (N : Nat) (k : Nat), (6 - k) < N → k ≤ 6 → e_V K P9 l E9 (1) (0) S9 M9 A9 B9 T9 C9 3 (fun r w' n' => r = some (.int (eI (fdK D 6))) ∧ w' = w ∧ n' = n) (e_px0) 4 [(0, .ref x), (1, .int (eI (fdK D k))), (2, .int (eI (k : Int)))] [] w n (0) := by
    intro N
    induction N with
    | zero => intro k hN; exact absurd hN (Nat.not_lt_zero _)
    | succ N ih =>
      intro k hN hk
      have hfd := fdK_rg D k
      refine e_iload_n F dX3_filledDeals_4 rfl ?_
      refine e_aload_n F dX3_filledDeals_5 rfl ?_
      refine e_get (ci := 3) (fi := 2) (q := (RX3, TX3, 5)) F (by first | assumption | exact e_up_s | (rw [e_up_n (by first | assumption | omega)]; first | assumption | exact e_up_s | (rw [e_up_n (by first | assumption | omega)]; first | assumption | exact e_up_s | (rw [e_up_n (by first | assumption | omega)]; first | assumption | exact e_up_s))) | exact hD.1 | exact hD1.1 | exact hD2.1 | exact gD.1 | exact gD1.1 | exact gD2.1 | exact gQ.1 | exact hQ.1 | exact gS.1 | exact hS.1 | exact zD.1) rfl (by decide) w_fl_RX3_25 (by rfl) dX3_filledDeals_6 ?_
      refine e_alen9 F (by first | assumption | exact e_up_s | (rw [e_up_n (by first | assumption | omega)]; first | assumption | exact e_up_s | (rw [e_up_n (by first | assumption | omega)]; first | assumption | exact e_up_s | (rw [e_up_n (by first | assumption | omega)]; first | assumption | exact e_up_s))) | exact hD.1 | exact hD1.1 | exact hD2.1 | exact gD.1 | exact gD1.1 | exact gD2.1 | exact gQ.1 | exact hQ.1 | exact gS.1 | exact hS.1 | exact zD.1) dX3_filledDeals_9 ?_
      refine e_icmp_ge F 34 dX3_filledDeals_10 (by decide) (⟨by omega, by omega⟩) (⟨by omega, by omega⟩) (fun c_10 => ?_) (fun c_10 => ?_)
      ·
        obtain rfl : k = 6 := by omega
        refine e_iload_n F dX3_filledDeals_34 rfl ?_
        refine e_iret F rfl (by omega) ?_ dX3_filledDeals_35
        exact ⟨rfl, rfl, rfl⟩
      · refine e_aload_n F dX3_filledDeals_13 rfl ?_
        refine e_get (ci := 3) (fi := 2) (q := (RX3, TX3, 5)) F (by first | assumption | exact e_up_s | (rw [e_up_n (by first | assumption | omega)]; first | assumption | exact e_up_s | (rw [e_up_n (by first | assumption | omega)]; first | assumption | exact e_up_s | (rw [e_up_n (by first | assumption | omega)]; first | assumption | exact e_up_s))) | exact hD.1 | exact hD1.1 | exact hD2.1 | exact gD.1 | exact gD1.1 | exact gD2.1 | exact gQ.1 | exact hQ.1 | exact gS.1 | exact hS.1 | exact zD.1) rfl (by decide) w_fl_RX3_25 (by rfl) dX3_filledDeals_14 ?_
        refine e_iload_n F dX3_filledDeals_17 rfl ?_
        refine e_aald9 F hga (by omega) (by omega) (by decide) (hgj k (by omega)) dX3_filledDeals_18 ?_
        have hD := (hDs k (by omega)).1
        refine e_callVN F u_X0_isEmpty (by rfl) (c_X0_isEmpty hD) hD.1 rfl rfl w_mn_RX3_109 dX3_filledDeals_19 (by rfl) (Nat.le_of_ble_eq_true rfl) (by decide) (by omega) (fun _ _ _ h _ => False.elim h) (fun r_19 w_19 n_19 h_19 hn_19 => ?_)
        obtain ⟨rfl, ew_19, en_19⟩ := h_19
        rw [ew_19, en_19]
        refine e_if_ne F 28 dX3_filledDeals_22 (by decide) (b01_r _) (fun c_22 => ?_) (fun c_22 => ?_)
        ·
          rw [ne_eq, b01_0, Classical.not_not] at c_22
          have q1 : fdK D (k + 1) = fdK D k := if_pos c_22
          refine e_iinc F dX3_filledDeals_28 rfl (by decide) ?_
          refine e_goto F 4 dX3_filledDeals_31 (by decide) ?_
          refine e_go (ih (k + 1) (by omega) (by omega)) ?_
          rw [q1]
          exact (And.intro rfl (And.intro rfl (And.intro rfl (trivial))))
        ·
          rw [b01_0] at c_22
          have q1 : fdK D (k + 1) = fdK D k + 1 := if_neg c_22
          refine e_iinc F dX3_filledDeals_25 rfl (by decide) ?_
          refine e_iinc F dX3_filledDeals_28 rfl (by decide) ?_
          refine e_goto F 4 dX3_filledDeals_31 (by decide) ?_
          refine e_go (ih (k + 1) (by omega) (by omega)) ?_
          rw [q1]
          exact (And.intro rfl (And.intro rfl (And.intro rfl (trivial))))
  refine e_iconst F dX3_filledDeals_0 ?_
  refine e_istore_n F dX3_filledDeals_1 (by decide) ?_
  refine e_iconst F dX3_filledDeals_2 ?_
  refine e_istore_n F dX3_filledDeals_3 (by decide) ?_
  exact e_go (lp 7 0 (by omega) (by omega)) (And.intro rfl (And.intro rfl (And.intro rfl (trivial))))
set_option maxHeartbeats 4000000 in
set_option maxRecDepth 100000 in
theorem c_X3_areSharesSound {K : e_K} {l : Launch} {w : e_W} {n : Nat} {x wh : Nat} {kn : Int} {D : Nat → SD} (hC : CW w x wh kn D) {i1 : Nat} (h1 : i1 < 6) : e_Met K l yX3_areSharesSound (Cond.code yX3_areSharesSound cX3_areSharesSound 4 (Option.some .boolean) :: e_TB) (1) (0) [.ref x, .ref (x + 6 + 3 * i1)] w n (fun r w' n' => r = some (.int (eI (1))) ∧ w' = w ∧ n' = n) (e_px0) := by
  refine e_ofV rfl (Nat.le_of_ble_eq_true rfl) ?_
  intro P9 E9 S9 M9 A9 B9 T9 C9 F hnm
  have hC0 := hC
  obtain ⟨hX, hF, hwh, ⟨P0, hQ⟩, ⟨ga, hga, hgj⟩, hDs, s0, hS⟩ := hC
  have hp := pr_rg wh hwh
  have ho9 := ho_rg wh hwh
  have hg9 := gr_rg wh hwh
  obtain ⟨hD, hW⟩ := hDs i1 h1
  have lp : ∀ (N : Nat) (i : Int), (9 - i).toNat < N → (1 ≤ i ∧ i ≤ ho wh + 1) → e_V K P9 l E9 (1) (0) S9 M9 A9 B9 T9 C9 4 (fun r w' n' => r = some (.int (eI (1))) ∧ w' = w ∧ n' = n) (e_px0) 2 [(0, .ref x), (1, .ref (x + 6 + 3 * i1)), (2, .int (eI i))] [] w n (0) := by
    intro N
    induction N with
    | zero => intro i hN; exact absurd hN (Nat.not_lt_zero _)
    | succ N ih =>
      intro i hN ⟨k1, k2⟩
      refine e_iload_n F dX3_areSharesSound_2 rfl ?_
      refine e_aload_n F dX3_areSharesSound_3 rfl ?_
      refine e_get (ci := 3) (fi := 0) (q := (RX3, TX3, 5)) F (by first | assumption | exact e_up_s | (rw [e_up_n (by first | assumption | omega)]; first | assumption | exact e_up_s | (rw [e_up_n (by first | assumption | omega)]; first | assumption | exact e_up_s | (rw [e_up_n (by first | assumption | omega)]; first | assumption | exact e_up_s))) | exact hD.1 | exact hD1.1 | exact hD2.1 | exact gD.1 | exact gD1.1 | exact gD2.1 | exact gQ.1 | exact hQ.1 | exact gS.1 | exact hS.1 | exact zD.1) rfl (by decide) w_fl_RX3_10 (by rfl) dX3_areSharesSound_4 ?_
      refine e_getN (ci := 1) (fi := 4) (q := (RX1, TX1, 5)) F (by first | assumption | exact e_up_s | (rw [e_up_n (by first | assumption | omega)]; first | assumption | exact e_up_s | (rw [e_up_n (by first | assumption | omega)]; first | assumption | exact e_up_s | (rw [e_up_n (by first | assumption | omega)]; first | assumption | exact e_up_s))) | exact hD.1 | exact hD1.1 | exact hD2.1 | exact gD.1 | exact gD1.1 | exact gD2.1 | exact gQ.1 | exact hQ.1 | exact gS.1 | exact hS.1 | exact zD.1) rfl (by decide) w_fn_RX3_116 (by rfl) dX3_areSharesSound_7 ?_
      refine e_icmp_gt F 47 dX3_areSharesSound_10 (by decide) (⟨by omega, by omega⟩) (⟨by omega, by omega⟩) (fun c_10 => ?_) (fun c_10 => ?_)
      · refine e_iconst F dX3_areSharesSound_47 ?_
        refine e_zret F rfl (by omega) (by omega) ?_ dX3_areSharesSound_48
        exact ⟨rfl, rfl, rfl⟩
      · have hWi := hW.1 i (by omega) (by omega)
        refine e_aload_n F dX3_areSharesSound_13 rfl ?_
        refine e_iload_n F dX3_areSharesSound_14 rfl ?_
        refine e_callVN F u_X0_shareAt (by rfl) (c_X0_shareAt hD (h := i) (by omega) (by omega)) (by first | assumption | exact e_up_s | (rw [e_up_n (by first | assumption | omega)]; first | assumption | exact e_up_s | (rw [e_up_n (by first | assumption | omega)]; first | assumption | exact e_up_s | (rw [e_up_n (by first | assumption | omega)]; first | assumption | exact e_up_s))) | exact hD.1 | exact hD1.1 | exact hD2.1 | exact gD.1 | exact gD1.1 | exact gD2.1 | exact gQ.1 | exact hQ.1 | exact gS.1 | exact hS.1 | exact zD.1) rfl rfl w_mn_RX3_123 dX3_areSharesSound_15 (by rfl) (Nat.le_of_ble_eq_true rfl) (by decide) (by omega) (fun _ _ _ h _ => False.elim h) (fun r_15 w_15 n_15 h_15 hn_15 => ?_)
        obtain ⟨rfl, ew_15, en_15⟩ := h_15
        rw [ew_15, en_15]
        refine e_istore_n F dX3_areSharesSound_18 (by decide) ?_
        refine e_iload_n F dX3_areSharesSound_19 rfl ?_
        refine e_iconst F dX3_areSharesSound_20 ?_
        refine e_icmp_eq F 41 dX3_areSharesSound_21 (by decide) (⟨by omega, by omega⟩) (⟨by omega, by omega⟩) (fun c_21 => ?_) (fun c_21 => ?_)
        · refine e_iinc F dX3_areSharesSound_41 rfl (by decide) ?_
          refine e_goto F 2 dX3_areSharesSound_44 (by decide) ?_
          exact e_go (ih (i + 1) (by omega) (by omega)) (And.intro rfl (And.intro rfl (And.intro rfl (trivial))))
        · refine e_iload_n F dX3_areSharesSound_24 rfl ?_
          refine e_if_lt F 39 dX3_areSharesSound_25 (by decide) (⟨by omega, by omega⟩) (fun c_25 => ?_) (fun c_25 => ?_)
          · exact absurd c_25 (by omega)
          · refine e_iload_n F dX3_areSharesSound_28 rfl ?_
            refine e_aload_n F dX3_areSharesSound_29 rfl ?_
            refine e_get (ci := 3) (fi := 0) (q := (RX3, TX3, 5)) F (by first | assumption | exact e_up_s | (rw [e_up_n (by first | assumption | omega)]; first | assumption | exact e_up_s | (rw [e_up_n (by first | assumption | omega)]; first | assumption | exact e_up_s | (rw [e_up_n (by first | assumption | omega)]; first | assumption | exact e_up_s))) | exact hD.1 | exact hD1.1 | exact hD2.1 | exact gD.1 | exact gD1.1 | exact gD2.1 | exact gQ.1 | exact hQ.1 | exact gS.1 | exact hS.1 | exact zD.1) rfl (by decide) w_fl_RX3_10 (by rfl) dX3_areSharesSound_30 ?_
            refine e_getN (ci := 1) (fi := 1) (q := (RX1, TX1, 5)) F (by first | assumption | exact e_up_s | (rw [e_up_n (by first | assumption | omega)]; first | assumption | exact e_up_s | (rw [e_up_n (by first | assumption | omega)]; first | assumption | exact e_up_s | (rw [e_up_n (by first | assumption | omega)]; first | assumption | exact e_up_s))) | exact hD.1 | exact hD1.1 | exact hD2.1 | exact gD.1 | exact gD1.1 | exact gD2.1 | exact gQ.1 | exact hQ.1 | exact gS.1 | exact hS.1 | exact zD.1) rfl (by decide) w_fn_RX3_49 (by rfl) dX3_areSharesSound_33 ?_
            refine e_icmp_lt F 41 dX3_areSharesSound_36 (by decide) (⟨by omega, by omega⟩) (⟨by omega, by omega⟩) (fun c_36 => ?_) (fun c_36 => ?_)
            · refine e_iinc F dX3_areSharesSound_41 rfl (by decide) ?_
              refine e_goto F 2 dX3_areSharesSound_44 (by decide) ?_
              exact e_go (ih (i + 1) (by omega) (by omega)) (And.intro rfl (And.intro rfl (And.intro rfl (trivial))))
            · exact absurd c_36 (by omega)
  refine e_iconst F dX3_areSharesSound_0 ?_
  refine e_istore_n F dX3_areSharesSound_1 (by decide) ?_
  exact e_go (lp 9 1 (by omega) (by omega)) (And.intro rfl (And.intro rfl (And.intro rfl (trivial))))
set_option maxHeartbeats 4000000 in
set_option maxRecDepth 100000 in
theorem c_X3_areSealsSound {K : e_K} {l : Launch} {w : e_W} {n : Nat} {x wh : Nat} {kn : Int} {D : Nat → SD} (hC : CW w x wh kn D) {i1 : Nat} (h1 : i1 < 6) : e_Met K l yX3_areSealsSound (Cond.code yX3_areSealsSound cX3_areSealsSound 3 (Option.some .boolean) :: e_TB) (1) (0) [.ref x, .ref (x + 6 + 3 * i1)] w n (fun r w' n' => r = some (.int (eI (1))) ∧ w' = w ∧ n' = n) (e_px0) := by
  refine e_ofV rfl (Nat.le_of_ble_eq_true rfl) ?_
  intro P9 E9 S9 M9 A9 B9 T9 C9 F hnm
  have hC0 := hC
  obtain ⟨hX, hF, hwh, ⟨P0, hQ⟩, ⟨ga, hga, hgj⟩, hDs, s0, hS⟩ := hC
  have hp := pr_rg wh hwh
  have ho9 := ho_rg wh hwh
  have hg9 := gr_rg wh hwh
  obtain ⟨hD, hW⟩ := hDs i1 h1
  have hsc := hD.2.2.2.2.2.1
  have hdg := hD.2.2.2.2.1
  have hW3 := hW.2.2.1
  have lp : ∀ (N : Nat) (i : Int), (9 - i).toNat < N → (0 ≤ i ∧ i ≤ (D i1).sc) → e_V K P9 l E9 (1) (0) S9 M9 A9 B9 T9 C9 3 (fun r w' n' => r = some (.int (eI (1))) ∧ w' = w ∧ n' = n) (e_px0) 2 [(0, .ref x), (1, .ref (x + 6 + 3 * i1)), (2, .int (eI i))] [] w n (0) := by
    intro N
    induction N with
    | zero => intro i hN; exact absurd hN (Nat.not_lt_zero _)
    | succ N ih =>
      intro i hN ⟨k1, k2⟩
      refine e_iload_n F dX3_areSealsSound_2 rfl ?_
      refine e_aload_n F dX3_areSealsSound_3 rfl ?_
      refine e_getN (ci := 0) (fi := 2) (q := (RX0, TX0, 5)) F (by first | assumption | exact e_up_s | (rw [e_up_n (by first | assumption | omega)]; first | assumption | exact e_up_s | (rw [e_up_n (by first | assumption | omega)]; first | assumption | exact e_up_s | (rw [e_up_n (by first | assumption | omega)]; first | assumption | exact e_up_s))) | exact hD.1 | exact hD1.1 | exact hD2.1 | exact gD.1 | exact gD1.1 | exact gD2.1 | exact gQ.1 | exact hQ.1 | exact gS.1 | exact hS.1 | exact zD.1) rfl (by decide) w_fn_RX3_134 (by rfl) dX3_areSealsSound_4 ?_
      refine e_icmp_ge F 42 dX3_areSealsSound_7 (by decide) (⟨by omega, by omega⟩) (⟨by omega, by omega⟩) (fun c_7 => ?_) (fun c_7 => ?_)
      · refine e_aload_n F dX3_areSealsSound_42 rfl ?_
        refine e_callVN F u_X0_hasSeals (by rfl) (c_X0_hasSeals hD) (by first | assumption | exact e_up_s | (rw [e_up_n (by first | assumption | omega)]; first | assumption | exact e_up_s | (rw [e_up_n (by first | assumption | omega)]; first | assumption | exact e_up_s | (rw [e_up_n (by first | assumption | omega)]; first | assumption | exact e_up_s))) | exact hD.1 | exact hD1.1 | exact hD2.1 | exact gD.1 | exact gD1.1 | exact gD2.1 | exact gQ.1 | exact hQ.1 | exact gS.1 | exact hS.1 | exact zD.1) rfl rfl w_mn_RX3_195 dX3_areSealsSound_43 (by rfl) (Nat.le_of_ble_eq_true rfl) (by decide) (by omega) (fun _ _ _ h _ => False.elim h) (fun r_43 w_43 n_43 h_43 hn_43 => ?_)
        obtain ⟨rfl, ew_43, en_43⟩ := h_43
        rw [ew_43, en_43]
        refine e_if_eq F 62 dX3_areSealsSound_46 (by decide) (b01_r _) (fun c_46 => ?_) (fun c_46 => ?_)
        ·
          rw [b01_0] at c_46
          refine e_iconst F dX3_areSealsSound_62 ?_
          refine e_goto F 67 dX3_areSealsSound_63 (by decide) ?_
          refine e_zret F rfl (by omega) (by omega) ?_ dX3_areSealsSound_67
          exact ⟨rfl, rfl, rfl⟩
        ·
          rw [b01_0, Classical.not_not] at c_46
          refine e_aload_n F dX3_areSealsSound_49 rfl ?_
          refine e_getN (ci := 0) (fi := 2) (q := (RX0, TX0, 5)) F (by first | assumption | exact e_up_s | (rw [e_up_n (by first | assumption | omega)]; first | assumption | exact e_up_s | (rw [e_up_n (by first | assumption | omega)]; first | assumption | exact e_up_s | (rw [e_up_n (by first | assumption | omega)]; first | assumption | exact e_up_s))) | exact hD.1 | exact hD1.1 | exact hD2.1 | exact gD.1 | exact gD1.1 | exact gD2.1 | exact gQ.1 | exact hQ.1 | exact gS.1 | exact hS.1 | exact zD.1) rfl (by decide) w_fn_RX3_134 (by rfl) dX3_areSealsSound_50 ?_
          refine e_aload_n F dX3_areSealsSound_53 rfl ?_
          refine e_getN (ci := 0) (fi := 1) (q := (RX0, TX0, 5)) F (by first | assumption | exact e_up_s | (rw [e_up_n (by first | assumption | omega)]; first | assumption | exact e_up_s | (rw [e_up_n (by first | assumption | omega)]; first | assumption | exact e_up_s | (rw [e_up_n (by first | assumption | omega)]; first | assumption | exact e_up_s))) | exact hD.1 | exact hD1.1 | exact hD2.1 | exact gD.1 | exact gD1.1 | exact gD2.1 | exact gQ.1 | exact hQ.1 | exact gS.1 | exact hS.1 | exact zD.1) rfl (by decide) w_fn_RX3_113 (by rfl) dX3_areSealsSound_54 ?_
          refine e_iconst F dX3_areSealsSound_57 ?_
          refine e_iadd F dX3_areSealsSound_58 ?_
          refine e_icmp_ne F 66 dX3_areSealsSound_59 (by decide) (⟨by omega, by omega⟩) (⟨by omega, by omega⟩) (fun c_59 => ?_) (fun c_59 => ?_)
          · exact absurd c_59 (by omega)
          · refine e_iconst F dX3_areSealsSound_62 ?_
            refine e_goto F 67 dX3_areSealsSound_63 (by decide) ?_
            refine e_zret F rfl (by omega) (by omega) ?_ dX3_areSealsSound_67
            exact ⟨rfl, rfl, rfl⟩
      · have hWi := hW.2.1 i (by omega) (by omega)
        have hui := un_ne hwh hWi.2 hWi.1.1
        refine e_aload_n F dX3_areSealsSound_10 rfl ?_
        refine e_iload_n F dX3_areSealsSound_11 rfl ?_
        refine e_callVN F u_X0_sealAt (by rfl) (c_X0_sealAt hD (h := i) ⟨by omega, by omega⟩) (by first | assumption | exact e_up_s | (rw [e_up_n (by first | assumption | omega)]; first | assumption | exact e_up_s | (rw [e_up_n (by first | assumption | omega)]; first | assumption | exact e_up_s | (rw [e_up_n (by first | assumption | omega)]; first | assumption | exact e_up_s))) | exact hD.1 | exact hD1.1 | exact hD2.1 | exact gD.1 | exact gD1.1 | exact gD2.1 | exact gQ.1 | exact hQ.1 | exact gS.1 | exact hS.1 | exact zD.1) rfl rfl w_mn_RX3_137 dX3_areSealsSound_12 (by rfl) (Nat.le_of_ble_eq_true rfl) (by decide) (by omega) (fun _ _ _ h _ => False.elim h) (fun r_12 w_12 n_12 h_12 hn_12 => ?_)
        obtain ⟨rfl, ew_12, en_12⟩ := h_12
        rw [ew_12, en_12, if_pos (show 0 ≤ i ∧ i < (D i1).sc from ⟨by omega, by omega⟩)]
        refine e_iconst F dX3_areSealsSound_15 ?_
        refine e_icmp_lt F 34 dX3_areSealsSound_16 (by decide) (⟨by omega, by omega⟩) (⟨by omega, by omega⟩) (fun c_16 => ?_) (fun c_16 => ?_)
        · exact absurd c_16 (by omega)
        · refine e_aload_n F dX3_areSealsSound_19 rfl ?_
          refine e_iload_n F dX3_areSealsSound_20 rfl ?_
          refine e_callVN F u_X0_sealAt (by rfl) (c_X0_sealAt hD (h := i) ⟨by omega, by omega⟩) (by first | assumption | exact e_up_s | (rw [e_up_n (by first | assumption | omega)]; first | assumption | exact e_up_s | (rw [e_up_n (by first | assumption | omega)]; first | assumption | exact e_up_s | (rw [e_up_n (by first | assumption | omega)]; first | assumption | exact e_up_s))) | exact hD.1 | exact hD1.1 | exact hD2.1 | exact gD.1 | exact gD1.1 | exact gD2.1 | exact gQ.1 | exact hQ.1 | exact gS.1 | exact hS.1 | exact zD.1) rfl rfl w_mn_RX3_137 dX3_areSealsSound_21 (by rfl) (Nat.le_of_ble_eq_true rfl) (by decide) (by omega) (fun _ _ _ h _ => False.elim h) (fun r_21 w_21 n_21 h_21 hn_21 => ?_)
          obtain ⟨rfl, ew_21, en_21⟩ := h_21
          rw [ew_21, en_21, if_pos (show 0 ≤ i ∧ i < (D i1).sc from ⟨by omega, by omega⟩)]
          refine e_aload_n F dX3_areSealsSound_24 rfl ?_
          refine e_get (ci := 3) (fi := 0) (q := (RX3, TX3, 5)) F (by first | assumption | exact e_up_s | (rw [e_up_n (by first | assumption | omega)]; first | assumption | exact e_up_s | (rw [e_up_n (by first | assumption | omega)]; first | assumption | exact e_up_s | (rw [e_up_n (by first | assumption | omega)]; first | assumption | exact e_up_s))) | exact hD.1 | exact hD1.1 | exact hD2.1 | exact gD.1 | exact gD1.1 | exact gD2.1 | exact gQ.1 | exact hQ.1 | exact gS.1 | exact hS.1 | exact zD.1) rfl (by decide) w_fl_RX3_10 (by rfl) dX3_areSealsSound_25 ?_
          refine e_getN (ci := 1) (fi := 2) (q := (RX1, TX1, 5)) F (by first | assumption | exact e_up_s | (rw [e_up_n (by first | assumption | omega)]; first | assumption | exact e_up_s | (rw [e_up_n (by first | assumption | omega)]; first | assumption | exact e_up_s | (rw [e_up_n (by first | assumption | omega)]; first | assumption | exact e_up_s))) | exact hD.1 | exact hD1.1 | exact hD2.1 | exact gD.1 | exact gD1.1 | exact gD2.1 | exact gQ.1 | exact hQ.1 | exact gS.1 | exact hS.1 | exact zD.1) rfl (by decide) w_fn_RX3_164 (by rfl) dX3_areSealsSound_28 ?_
          refine e_icmp_lt F 36 dX3_areSealsSound_31 (by decide) (⟨by omega, by omega⟩) (⟨by omega, by omega⟩) (fun c_31 => ?_) (fun c_31 => ?_)
          · refine e_iinc F dX3_areSealsSound_36 rfl (by decide) ?_
            refine e_goto F 2 dX3_areSealsSound_39 (by decide) ?_
            exact e_go (ih (i + 1) (by omega) (by omega)) (And.intro rfl (And.intro rfl (And.intro rfl (trivial))))
          · exact absurd c_31 (by omega)
  refine e_iconst F dX3_areSealsSound_0 ?_
  refine e_istore_n F dX3_areSealsSound_1 (by decide) ?_
  exact e_go (lp 10 0 (by omega) (by omega)) (And.intro rfl (And.intro rfl (And.intro rfl (trivial))))
set_option maxHeartbeats 4000000 in
set_option maxRecDepth 100000 in
theorem c_X3_isFirstSealSound {K : e_K} {l : Launch} {w : e_W} {n : Nat} {x wh : Nat} {kn : Int} {D : Nat → SD} (hC : CW w x wh kn D) : e_Met K l yX3_isFirstSealSound (Cond.code yX3_isFirstSealSound cX3_isFirstSealSound 3 (Option.some .boolean) :: e_TB) (4) (0) [.ref x] w n (fun r w' n' => r = some (.int (eI (b01 (fss wh D 6 = true)))) ∧ w' = w ∧ n' = n) (e_px0) := by
  refine e_ofV rfl (Nat.le_of_ble_eq_true rfl) ?_
  intro P9 E9 S9 M9 A9 B9 T9 C9 F hnm
  have hC0 := hC
  obtain ⟨hX, hF, hwh, ⟨P0, hQ⟩, ⟨ga, hga, hgj⟩, hDs, s0, hS⟩ := hC
  have hp := pr_rg wh hwh
  have ho9 := ho_rg wh hwh
  have hg9 := gr_rg wh hwh
  have lp : ∀ (N : Nat) (k : Nat), (6 - k) < N → (k ≤ 6 ∧ fss wh D (6 - k) = fss wh D 6) → e_V K P9 l E9 (4) (0) S9 M9 A9 B9 T9 C9 3 (fun r w' n' => r = some (.int (eI (b01 (fss wh D 6 = true)))) ∧ w' = w ∧ n' = n) (e_px0) 2 [(0, .ref x), (1, .int (eI (k : Int)))] [] w n (0) := by
    intro N
    induction N with
    | zero => intro k hN; exact absurd hN (Nat.not_lt_zero _)
    | succ N ih =>
      intro k hN ⟨hk, heq⟩
      refine e_iload_n F dX3_isFirstSealSound_2 rfl ?_
      refine e_aload_n F dX3_isFirstSealSound_3 rfl ?_
      refine e_get (ci := 3) (fi := 2) (q := (RX3, TX3, 5)) F (by first | assumption | exact e_up_s | (rw [e_up_n (by first | assumption | omega)]; first | assumption | exact e_up_s | (rw [e_up_n (by first | assumption | omega)]; first | assumption | exact e_up_s | (rw [e_up_n (by first | assumption | omega)]; first | assumption | exact e_up_s))) | exact hD.1 | exact hD1.1 | exact hD2.1 | exact gD.1 | exact gD1.1 | exact gD2.1 | exact gQ.1 | exact hQ.1 | exact gS.1 | exact hS.1 | exact zD.1) rfl (by decide) w_fl_RX3_25 (by rfl) dX3_isFirstSealSound_4 ?_
      refine e_alen9 F (by first | assumption | exact e_up_s | (rw [e_up_n (by first | assumption | omega)]; first | assumption | exact e_up_s | (rw [e_up_n (by first | assumption | omega)]; first | assumption | exact e_up_s | (rw [e_up_n (by first | assumption | omega)]; first | assumption | exact e_up_s))) | exact hD.1 | exact hD1.1 | exact hD2.1 | exact gD.1 | exact gD1.1 | exact gD2.1 | exact gQ.1 | exact hQ.1 | exact gS.1 | exact hS.1 | exact zD.1) dX3_isFirstSealSound_7 ?_
      refine e_icmp_ge F 95 dX3_isFirstSealSound_8 (by decide) (⟨by omega, by omega⟩) (⟨by omega, by omega⟩) (fun c_8 => ?_) (fun c_8 => ?_)
      ·
        obtain rfl : k = 6 := by omega
        refine e_iconst F dX3_isFirstSealSound_95 ?_
        refine e_zret F rfl (by omega) (by omega) ?_ dX3_isFirstSealSound_96
        refine ⟨?_, rfl, rfl⟩
        rw [b01_t]
        rw [← heq]
        rfl
      · have e9 : 6 - k = (5 - k) + 1 := by omega
        have e8 : 5 - (5 - k) = k := by omega
        have e7 : fss wh D (6 - k) = if 0 < (D k).sc then decide (dok wh (D k)) else fss wh D (5 - k) := by rw [e9]; show (if 0 < (D (5 - (5 - k))).sc then decide (dok wh (D (5 - (5 - k)))) else fss wh D (5 - k)) = _; rw [e8]
        obtain ⟨hD, hW⟩ := hDs k (by omega)
        have hdg := hD.2.2.2.2.1
        have hf7 := fs7_rg (A := (D k).A) hdg.1
        refine e_aload_n F dX3_isFirstSealSound_11 rfl ?_
        refine e_get (ci := 3) (fi := 2) (q := (RX3, TX3, 5)) F (by first | assumption | exact e_up_s | (rw [e_up_n (by first | assumption | omega)]; first | assumption | exact e_up_s | (rw [e_up_n (by first | assumption | omega)]; first | assumption | exact e_up_s | (rw [e_up_n (by first | assumption | omega)]; first | assumption | exact e_up_s))) | exact hD.1 | exact hD1.1 | exact hD2.1 | exact gD.1 | exact gD1.1 | exact gD2.1 | exact gQ.1 | exact hQ.1 | exact gS.1 | exact hS.1 | exact zD.1) rfl (by decide) w_fl_RX3_25 (by rfl) dX3_isFirstSealSound_12 ?_
        refine e_iload_n F dX3_isFirstSealSound_15 rfl ?_
        refine e_aald9 F hga (by omega) (by omega) (by decide) (hgj k (by omega)) dX3_isFirstSealSound_16 ?_
        refine e_callVN F u_X0_hasSeals (by rfl) (c_X0_hasSeals hD) (by first | assumption | exact e_up_s | (rw [e_up_n (by first | assumption | omega)]; first | assumption | exact e_up_s | (rw [e_up_n (by first | assumption | omega)]; first | assumption | exact e_up_s | (rw [e_up_n (by first | assumption | omega)]; first | assumption | exact e_up_s))) | exact hD.1 | exact hD1.1 | exact hD2.1 | exact gD.1 | exact gD1.1 | exact gD2.1 | exact gQ.1 | exact hQ.1 | exact gS.1 | exact hS.1 | exact zD.1) rfl rfl w_mn_RX3_195 dX3_isFirstSealSound_17 (by rfl) (Nat.le_of_ble_eq_true rfl) (by decide) (by omega) (fun _ _ _ h _ => False.elim h) (fun r_17 w_17 n_17 h_17 hn_17 => ?_)
        obtain ⟨rfl, ew_17, en_17⟩ := h_17
        rw [ew_17, en_17]
        refine e_if_eq F 89 dX3_isFirstSealSound_20 (by decide) (b01_r _) (fun c_20 => ?_) (fun c_20 => ?_)
        ·
          rw [b01_0] at c_20
          refine e_iinc F dX3_isFirstSealSound_89 rfl (by decide) ?_
          refine e_goto F 2 dX3_isFirstSealSound_92 (by decide) ?_
          have e6 : 6 - (k + 1) = 5 - k := by omega
          exact e_go (ih (k + 1) (by omega) ⟨by omega, by rw [e6, ← heq, e7, if_neg c_20]⟩) (And.intro rfl (And.intro rfl (trivial)))
        ·
          rw [b01_0, Classical.not_not] at c_20
          have hW3 := hW.2.2.1
          refine e_aload_n F dX3_isFirstSealSound_23 rfl ?_
          refine e_get (ci := 3) (fi := 2) (q := (RX3, TX3, 5)) F (by first | assumption | exact e_up_s | (rw [e_up_n (by first | assumption | omega)]; first | assumption | exact e_up_s | (rw [e_up_n (by first | assumption | omega)]; first | assumption | exact e_up_s | (rw [e_up_n (by first | assumption | omega)]; first | assumption | exact e_up_s))) | exact hD.1 | exact hD1.1 | exact hD2.1 | exact gD.1 | exact gD1.1 | exact gD2.1 | exact gQ.1 | exact hQ.1 | exact gS.1 | exact hS.1 | exact zD.1) rfl (by decide) w_fl_RX3_25 (by rfl) dX3_isFirstSealSound_24 ?_
          refine e_iload_n F dX3_isFirstSealSound_27 rfl ?_
          refine e_aald9 F hga (by omega) (by omega) (by decide) (hgj k (by omega)) dX3_isFirstSealSound_28 ?_
          refine e_callVN F u_X0_firstSet (by rfl) (c_X0_firstSet hD) (by first | assumption | exact e_up_s | (rw [e_up_n (by first | assumption | omega)]; first | assumption | exact e_up_s | (rw [e_up_n (by first | assumption | omega)]; first | assumption | exact e_up_s | (rw [e_up_n (by first | assumption | omega)]; first | assumption | exact e_up_s))) | exact hD.1 | exact hD1.1 | exact hD2.1 | exact gD.1 | exact gD1.1 | exact gD2.1 | exact gQ.1 | exact hQ.1 | exact gS.1 | exact hS.1 | exact zD.1) rfl rfl w_mn_RX3_202 dX3_isFirstSealSound_29 (by rfl) (Nat.le_of_ble_eq_true rfl) (by decide) (by omega) (fun _ _ _ h _ => False.elim h) (fun r_29 w_29 n_29 h_29 hn_29 => ?_)
          obtain ⟨rfl, ew_29, en_29⟩ := h_29
          rw [ew_29, en_29]
          refine e_istore_n F dX3_isFirstSealSound_32 (by decide) ?_
          refine e_iload_n F dX3_isFirstSealSound_33 rfl ?_
          refine e_if_eq F 83 dX3_isFirstSealSound_34 (by decide) (⟨by omega, by omega⟩) (fun c_34 => ?_) (fun c_34 => ?_)
          · refine e_iconst F dX3_isFirstSealSound_83 ?_
            refine e_goto F 88 dX3_isFirstSealSound_84 (by decide) ?_
            refine e_zret F rfl (by omega) (by omega) ?_ dX3_isFirstSealSound_88
            refine ⟨?_, rfl, rfl⟩
            have e6 : fss wh D 6 = decide (dok wh (D k)) := by rw [← heq, e7, if_pos c_20]
            rw [e6]
            first | (rw [b01_f]; rw [decide_eq_true_iff]; exact fun q => q.elim c_34 (fun q => q.elim (fun q => q c_48) c_80)) | (rw [b01_t]; rw [decide_eq_true_iff]; first | exact Or.inl c_34 | exact Or.inr (Or.inl c_48) | exact Or.inr (Or.inr c_80))
          · refine e_aload_n F dX3_isFirstSealSound_37 rfl ?_
            refine e_aload_n F dX3_isFirstSealSound_38 rfl ?_
            refine e_get (ci := 3) (fi := 2) (q := (RX3, TX3, 5)) F (by first | assumption | exact e_up_s | (rw [e_up_n (by first | assumption | omega)]; first | assumption | exact e_up_s | (rw [e_up_n (by first | assumption | omega)]; first | assumption | exact e_up_s | (rw [e_up_n (by first | assumption | omega)]; first | assumption | exact e_up_s))) | exact hD.1 | exact hD1.1 | exact hD2.1 | exact gD.1 | exact gD1.1 | exact gD2.1 | exact gQ.1 | exact hQ.1 | exact gS.1 | exact hS.1 | exact zD.1) rfl (by decide) w_fl_RX3_25 (by rfl) dX3_isFirstSealSound_39 ?_
            refine e_iload_n F dX3_isFirstSealSound_42 rfl ?_
            refine e_aald9 F hga (by omega) (by omega) (by decide) (hgj k (by omega)) dX3_isFirstSealSound_43 ?_
            refine e_iload_n F dX3_isFirstSealSound_44 rfl ?_
            refine e_callVV F u_X3_doAllFit (by rfl) (c_X3_doAllFit hX hF hwh hD hf7.1 (by omega) (fun j a1 a2 => (hW.2.1 j a1 a2).1)) hX rfl rfl w_ml_RX3_319 dX3_isFirstSealSound_45 (by rfl) (Nat.le_of_ble_eq_true rfl) (by decide) (by omega) (fun _ _ _ h _ => False.elim h) (fun r_45 w_45 n_45 h_45 hn_45 => ?_)
            obtain ⟨rfl, ew_45, en_45⟩ := h_45
            rw [ew_45, en_45]
            refine e_if_eq F 83 dX3_isFirstSealSound_48 (by decide) (b01_r _) (fun c_48 => ?_) (fun c_48 => ?_)
            ·
              rw [b01_0] at c_48
              refine e_iconst F dX3_isFirstSealSound_83 ?_
              refine e_goto F 88 dX3_isFirstSealSound_84 (by decide) ?_
              refine e_zret F rfl (by omega) (by omega) ?_ dX3_isFirstSealSound_88
              refine ⟨?_, rfl, rfl⟩
              have e6 : fss wh D 6 = decide (dok wh (D k)) := by rw [← heq, e7, if_pos c_20]
              rw [e6]
              first | (rw [b01_f]; rw [decide_eq_true_iff]; exact fun q => q.elim c_34 (fun q => q.elim (fun q => q c_48) c_80)) | (rw [b01_t]; rw [decide_eq_true_iff]; first | exact Or.inl c_34 | exact Or.inr (Or.inl c_48) | exact Or.inr (Or.inr c_80))
            ·
              rw [b01_0, Classical.not_not] at c_48
              refine e_aload_n F dX3_isFirstSealSound_51 rfl ?_
              refine e_get (ci := 3) (fi := 0) (q := (RX3, TX3, 5)) F (by first | assumption | exact e_up_s | (rw [e_up_n (by first | assumption | omega)]; first | assumption | exact e_up_s | (rw [e_up_n (by first | assumption | omega)]; first | assumption | exact e_up_s | (rw [e_up_n (by first | assumption | omega)]; first | assumption | exact e_up_s))) | exact hD.1 | exact hD1.1 | exact hD2.1 | exact gD.1 | exact gD1.1 | exact gD2.1 | exact gQ.1 | exact hQ.1 | exact gS.1 | exact hS.1 | exact zD.1) rfl (by decide) w_fl_RX3_10 (by rfl) dX3_isFirstSealSound_52 ?_
              refine e_aload_n F dX3_isFirstSealSound_55 rfl ?_
              refine e_aload_n F dX3_isFirstSealSound_56 rfl ?_
              refine e_get (ci := 3) (fi := 2) (q := (RX3, TX3, 5)) F (by first | assumption | exact e_up_s | (rw [e_up_n (by first | assumption | omega)]; first | assumption | exact e_up_s | (rw [e_up_n (by first | assumption | omega)]; first | assumption | exact e_up_s | (rw [e_up_n (by first | assumption | omega)]; first | assumption | exact e_up_s))) | exact hD.1 | exact hD1.1 | exact hD2.1 | exact gD.1 | exact gD1.1 | exact gD2.1 | exact gQ.1 | exact hQ.1 | exact gS.1 | exact hS.1 | exact zD.1) rfl (by decide) w_fl_RX3_25 (by rfl) dX3_isFirstSealSound_57 ?_
              refine e_iload_n F dX3_isFirstSealSound_60 rfl ?_
              refine e_aald9 F hga (by omega) (by omega) (by decide) (hgj k (by omega)) dX3_isFirstSealSound_61 ?_
              refine e_iload_n F dX3_isFirstSealSound_62 rfl ?_
              refine e_iconst F dX3_isFirstSealSound_63 ?_
              refine e_callVV F u_X3_tell (by rfl) (c_X3_tell hX hF hwh hD hf7.1 (by omega) (pl := 0) (by decide)) hX rfl rfl w_ml_RX3_178 dX3_isFirstSealSound_64 (by rfl) (Nat.le_of_ble_eq_true rfl) (by decide) (by omega) (fun _ _ _ h _ => False.elim h) (fun r_64 w_64 n_64 h_64 hn_64 => ?_)
              obtain ⟨rfl, ew_64, en_64⟩ := h_64
              rw [ew_64, en_64]
              have htl : 0 ≤ tl wh (fs7 (D k).A (D k).dg) (D k).A 0 ∧ tl wh (fs7 (D k).A (D k).dg) (D k).A 0 < pr wh := emod_rg _ hwh
              refine e_callVN F u_X1_sealFor (by rfl) (c_X1_sealFor hF hwh ⟨by omega, by omega⟩) (by first | assumption | exact e_up_s | (rw [e_up_n (by first | assumption | omega)]; first | assumption | exact e_up_s | (rw [e_up_n (by first | assumption | omega)]; first | assumption | exact e_up_s | (rw [e_up_n (by first | assumption | omega)]; first | assumption | exact e_up_s))) | exact hD.1 | exact hD1.1 | exact hD2.1 | exact gD.1 | exact gD1.1 | exact gD2.1 | exact gQ.1 | exact hQ.1 | exact gS.1 | exact hS.1 | exact zD.1) rfl rfl w_mn_RX3_73 dX3_isFirstSealSound_67 (by rfl) (Nat.le_of_ble_eq_true rfl) (by decide) (by omega) (fun _ _ _ h _ => False.elim h) (fun r_67 w_67 n_67 h_67 hn_67 => ?_)
              obtain ⟨rfl, ew_67, en_67⟩ := h_67
              rw [ew_67, en_67]
              refine e_aload_n F dX3_isFirstSealSound_70 rfl ?_
              refine e_get (ci := 3) (fi := 2) (q := (RX3, TX3, 5)) F (by first | assumption | exact e_up_s | (rw [e_up_n (by first | assumption | omega)]; first | assumption | exact e_up_s | (rw [e_up_n (by first | assumption | omega)]; first | assumption | exact e_up_s | (rw [e_up_n (by first | assumption | omega)]; first | assumption | exact e_up_s))) | exact hD.1 | exact hD1.1 | exact hD2.1 | exact gD.1 | exact gD1.1 | exact gD2.1 | exact gQ.1 | exact hQ.1 | exact gS.1 | exact hS.1 | exact zD.1) rfl (by decide) w_fl_RX3_25 (by rfl) dX3_isFirstSealSound_71 ?_
              refine e_iload_n F dX3_isFirstSealSound_74 rfl ?_
              refine e_aald9 F hga (by omega) (by omega) (by decide) (hgj k (by omega)) dX3_isFirstSealSound_75 ?_
              refine e_iconst F dX3_isFirstSealSound_76 ?_
              refine e_callVN F u_X0_sealAt (by rfl) (c_X0_sealAt hD (h := 0) (by decide)) (by first | assumption | exact e_up_s | (rw [e_up_n (by first | assumption | omega)]; first | assumption | exact e_up_s | (rw [e_up_n (by first | assumption | omega)]; first | assumption | exact e_up_s | (rw [e_up_n (by first | assumption | omega)]; first | assumption | exact e_up_s))) | exact hD.1 | exact hD1.1 | exact hD2.1 | exact gD.1 | exact gD1.1 | exact gD2.1 | exact gQ.1 | exact hQ.1 | exact gS.1 | exact hS.1 | exact zD.1) rfl rfl w_mn_RX3_137 dX3_isFirstSealSound_77 (by rfl) (Nat.le_of_ble_eq_true rfl) (by decide) (by omega) (fun _ _ _ h _ => False.elim h) (fun r_77 w_77 n_77 h_77 hn_77 => ?_)
              obtain ⟨rfl, ew_77, en_77⟩ := h_77
              rw [ew_77, en_77, if_pos (show 0 ≤ (0 : Int) ∧ 0 < (D k).sc from ⟨by omega, by omega⟩)]
              have hB0 := hW.2.1 0 (by omega) (by omega)
              have hsl := sl_rg (v := tl wh (fs7 (D k).A (D k).dg) (D k).A 0) hwh
              refine e_icmp_ne F 87 dX3_isFirstSealSound_80 (by decide) (⟨by omega, by omega⟩) (⟨by omega, by omega⟩) (fun c_80 => ?_) (fun c_80 => ?_)
              · refine e_iconst F dX3_isFirstSealSound_87 ?_
                refine e_zret F rfl (by omega) (by omega) ?_ dX3_isFirstSealSound_88
                refine ⟨?_, rfl, rfl⟩
                have e6 : fss wh D 6 = decide (dok wh (D k)) := by rw [← heq, e7, if_pos c_20]
                rw [e6]
                first | (rw [b01_f]; rw [decide_eq_true_iff]; exact fun q => q.elim c_34 (fun q => q.elim (fun q => q c_48) c_80)) | (rw [b01_t]; rw [decide_eq_true_iff]; first | exact Or.inl c_34 | exact Or.inr (Or.inl c_48) | exact Or.inr (Or.inr c_80))
              · refine e_iconst F dX3_isFirstSealSound_83 ?_
                refine e_goto F 88 dX3_isFirstSealSound_84 (by decide) ?_
                refine e_zret F rfl (by omega) (by omega) ?_ dX3_isFirstSealSound_88
                refine ⟨?_, rfl, rfl⟩
                have e6 : fss wh D 6 = decide (dok wh (D k)) := by rw [← heq, e7, if_pos c_20]
                rw [e6]
                first | (rw [b01_f]; rw [decide_eq_true_iff]; exact fun q => q.elim c_34 (fun q => q.elim (fun q => q c_48) c_80)) | (rw [b01_t]; rw [decide_eq_true_iff]; first | exact Or.inl c_34 | exact Or.inr (Or.inl c_48) | exact Or.inr (Or.inr c_80))
  refine e_iconst F dX3_isFirstSealSound_0 ?_
  refine e_istore_n F dX3_isFirstSealSound_1 (by decide) ?_
  exact e_go (lp 7 0 (by omega) ⟨by omega, rfl⟩) (And.intro rfl (And.intro rfl (trivial)))
set_option maxHeartbeats 4000000 in
set_option maxRecDepth 100000 in
theorem c_X3_init {K : e_K} {l : Launch} {w : e_W} {n : Nat} {x : Nat} (h0 : w x = some (.inl (3, [.null, .null, .null, .null, .int (eI 0)]))) (hn : n = x + 1) : e_Met K l yX3_init (Cond.code yX3_init cX3_init 2 none :: e_TB) (3) (26) [.ref x] w n (fun r w' n' => r = none ∧ n' = x + 27 ∧ CW w' x 3 0 (fun _ => SD0) ∧ ∀ q, q < x → w' q = w q) (e_px0) := by
  refine e_ofV rfl (Nat.le_of_ble_eq_true rfl) ?_
  intro P9 E9 S9 M9 A9 B9 T9 C9 F hnm
  subst hn
  have lp : ∀ (N k : Nat) (wl : e_W) (g : Nat → Value), 6 - k < N → (k ≤ 6 ∧ wl x = some (.inl (3, [.ref (x + 1), .ref (x + 2), .ref (x + 5), .null, .int (eI 0)])) ∧ wl (x + 1) = some (FO 3) ∧ PL wl (x + 2) (fun _ => 0) ∧ wl (x + 5) = some (.inr (9, 6, g)) ∧ (∀ j : Nat, j < k → g j = .ref (x + 6 + 3 * j) ∧ DS wl (x + 6 + 3 * j) SD0) ∧ ∀ q, q < x → wl q = w q) → e_V K P9 l E9 (3) (26) S9 M9 A9 B9 T9 C9 2 (fun r w' n' => r = none ∧ n' = x + 27 ∧ CW w' x 3 0 (fun _ => SD0) ∧ ∀ q, q < x → w' q = w q) (e_px0) 37 [(0, .ref x), (1, .int (eI (k : Int)))] [] wl (x + 6 + 3 * k) ((5 + 3 * k)) := by
    intro N
    induction N with
    | zero => intro k wl g hN; exact absurd hN (Nat.not_lt_zero _)
    | succ N ih =>
      intro k wl g hN ⟨hk, g0, g1, g2, g5, gj, gf⟩
      refine e_iload_n F dX3_init_37 rfl ?_
      refine e_aload_n F dX3_init_38 rfl ?_
      refine e_get (ci := 3) (fi := 2) (q := (RX3, TX3, 5)) F (by first | assumption | exact e_up_s | (rw [e_up_n (by first | assumption | omega)]; first | assumption | exact e_up_s | (rw [e_up_n (by first | assumption | omega)]; first | assumption | exact e_up_s | (rw [e_up_n (by first | assumption | omega)]; first | assumption | exact e_up_s))) | exact hD.1 | exact hD1.1 | exact hD2.1 | exact gD.1 | exact gD1.1 | exact gD2.1 | exact gQ.1 | exact hQ.1 | exact gS.1 | exact hS.1 | exact zD.1) rfl (by decide) w_fl_RX3_25 (by rfl) dX3_init_39 ?_
      refine e_alen9 F (by first | assumption | exact e_up_s | (rw [e_up_n (by first | assumption | omega)]; first | assumption | exact e_up_s | (rw [e_up_n (by first | assumption | omega)]; first | assumption | exact e_up_s | (rw [e_up_n (by first | assumption | omega)]; first | assumption | exact e_up_s))) | exact hD.1 | exact hD1.1 | exact hD2.1 | exact gD.1 | exact gD1.1 | exact gD2.1 | exact gQ.1 | exact hQ.1 | exact gS.1 | exact hS.1 | exact zD.1) dX3_init_42 ?_
      refine e_icmp_ge F 65 dX3_init_43 (by decide) (⟨by omega, by omega⟩) (⟨by omega, by omega⟩) (fun c_43 => ?_) (fun c_43 => ?_)
      ·
        obtain rfl : k = 6 := by omega
        refine e_aload_n F dX3_init_65 rfl ?_
        refine e_newO F (ci := 0) (q := (RX0, TX0, 5)) (fs := [.int (eI 0), .int (eI 0), .int (eI 0), .null, .null]) rfl (by omega) w_cl_RX3_23 w_is_RX0 w_in_RX0 (by decide) (by intro j hj; have hj9 : j < 5 := hj; rcases j with _ | _ | _ | _ | _ | j <;> first | rfl | omega) dX3_init_66 ?_
        refine e_dup F dX3_init_69 rfl ?_
        refine e_callIN F u_X0_init (by rfl) (c_X0_init (d := x + 24) (v3 := .null) (v4 := .null) e_up_s rfl) w_mn_RX3_29 dX3_init_70 (by rfl) (Nat.le_of_ble_eq_true rfl) (by decide) (by omega) (fun _ _ _ h _ => False.elim h) (fun r_70 w_70 n_70 h_70 hn_70 => ?_)
        obtain ⟨rfl, en70, yD, yF⟩ := h_70
        rw [en70]
        refine e_setF (host := "") (ci := 3) (fi := 3) (q := (RX3, TX3, 5)) F (show w_70 x = _ by rw [yF _ (by omega), e_up_n (by omega)]; exact g0) rfl (by decide) w_fl_RX3_30 hnm rfl rfl rfl (by rfl) (Nat.le_of_ble_eq_true rfl) dX3_init_73 ?_
        refine e_aload_n F dX3_init_76 rfl ?_
        refine e_iconst F dX3_init_77 ?_
        refine e_set (host := "") (ci := 3) (fi := 4) (q := (RX3, TX3, 5)) F e_up_s rfl (by decide) w_fl_RX3_34 rfl (by rfl) (by rfl) (Nat.le_of_ble_eq_true rfl) dX3_init_78 ?_
        refine e_vret F rfl (by omega) ?_ dX3_init_81
        refine ⟨rfl, by omega, ⟨e_up_s, ?_, by decide, ⟨_, g2.fr ?_ ?_ ?_⟩, ⟨g, ?_, fun j hj => (gj j hj).1⟩, fun j hj => ⟨(gj j hj).2.fr ?_ ?_ ?_, SD0_SW 3⟩, SD0, yD.fr ?_ ?_ ?_⟩, fun q hq => ?_⟩
        · rw [e_up_n (by omega), e_up_n (by omega), yF _ (by omega), e_up_n (by omega)]; exact g1
        · rw [e_up_n (by omega), e_up_n (by omega), yF _ (by omega), e_up_n (by omega)]
        · rw [e_up_n (by omega), e_up_n (by omega), yF _ (by omega), e_up_n (by omega)]
        · rw [e_up_n (by omega), e_up_n (by omega), yF _ (by omega), e_up_n (by omega)]
        · rw [e_up_n (by omega), e_up_n (by omega), yF _ (by omega), e_up_n (by omega)]; exact g5
        · rw [e_up_n (by omega), e_up_n (by omega), yF _ (by omega), e_up_n (by omega)]
        · rw [e_up_n (by omega), e_up_n (by omega), yF _ (by omega), e_up_n (by omega)]
        · rw [e_up_n (by omega), e_up_n (by omega), yF _ (by omega), e_up_n (by omega)]
        · rw [e_up_n (by omega), e_up_n (by omega)]
        · rw [e_up_n (by omega), e_up_n (by omega)]
        · rw [e_up_n (by omega), e_up_n (by omega)]
        · rw [e_up_n (by omega), e_up_n (by omega), yF _ (by omega), e_up_n (by omega)]; exact gf q hq
      · refine e_aload_n F dX3_init_46 rfl ?_
        refine e_get (ci := 3) (fi := 2) (q := (RX3, TX3, 5)) F (by first | assumption | exact e_up_s | (rw [e_up_n (by first | assumption | omega)]; first | assumption | exact e_up_s | (rw [e_up_n (by first | assumption | omega)]; first | assumption | exact e_up_s | (rw [e_up_n (by first | assumption | omega)]; first | assumption | exact e_up_s))) | exact hD.1 | exact hD1.1 | exact hD2.1 | exact gD.1 | exact gD1.1 | exact gD2.1 | exact gQ.1 | exact hQ.1 | exact gS.1 | exact hS.1 | exact zD.1) rfl (by decide) w_fl_RX3_25 (by rfl) dX3_init_47 ?_
        refine e_iload_n F dX3_init_50 rfl ?_
        refine e_newO F (ci := 0) (q := (RX0, TX0, 5)) (fs := [.int (eI 0), .int (eI 0), .int (eI 0), .null, .null]) rfl (by omega) w_cl_RX3_23 w_is_RX0 w_in_RX0 (by decide) (by intro j hj; have hj9 : j < 5 := hj; rcases j with _ | _ | _ | _ | _ | j <;> first | rfl | omega) dX3_init_51 ?_
        refine e_dup F dX3_init_54 rfl ?_
        refine e_callIN F u_X0_init (by rfl) (c_X0_init (d := x + 6 + 3 * k) (v3 := .null) (v4 := .null) e_up_s rfl) w_mn_RX3_29 dX3_init_55 (by rfl) (Nat.le_of_ble_eq_true rfl) (by decide) (by omega) (fun _ _ _ h _ => False.elim h) (fun r_55 w_55 n_55 h_55 hn_55 => ?_)
        obtain ⟨rfl, en55, yD, yF⟩ := h_55
        rw [en55, show x + 6 + 3 * k + 3 = x + 6 + 3 * (k + 1) by omega, show 5 + 3 * k + 1 + 2 = 5 + 3 * (k + 1) by omega]
        refine e_aastD F (show w_55 (x + 5) = some (.inr (9, 6, g)) by rw [yF _ (by omega), e_up_n (by omega)]; exact g5) yD.1 (by omega) (by omega) (by decide) dX3_init_58 ?_
        refine e_iinc F dX3_init_59 rfl (by decide) ?_
        refine e_goto F 37 dX3_init_62 (by decide) ?_
        refine e_go (ih (k + 1) _ _ (by omega) ⟨by omega, by rw [e_up_n (by omega), yF x (by omega), e_up_n (by omega)]; exact g0, by rw [e_up_n (by omega), yF _ (by omega), e_up_n (by omega)]; exact g1, g2.fr (by rw [e_up_n (by omega), yF _ (by omega), e_up_n (by omega)]) (by rw [e_up_n (by omega), yF _ (by omega), e_up_n (by omega)]) (by rw [e_up_n (by omega), yF _ (by omega), e_up_n (by omega)]), e_up_s, fun j hj => ?_, fun q hq => by rw [e_up_n (by omega), yF _ (by omega), e_up_n (by omega)]; exact gf q hq⟩) (And.intro rfl (And.intro rfl (trivial)))
        by_cases e9 : j = k
        · subst e9
          exact ⟨if_pos rfl, yD.fr (e_up_n (by omega)) (e_up_n (by omega)) (e_up_n (by omega))⟩
        · have hj2 := gj j (by omega)
          refine ⟨(if_neg (by omega)).trans hj2.1, hj2.2.fr ?_ ?_ ?_⟩ <;> rw [e_up_n (by omega), yF _ (by omega), e_up_n (by omega)]
  refine e_aload_n F dX3_init_0 rfl ?_
  refine e_oinit F w_ml_RX3_1 w_im_java_lang_Object__init____V w_co_oinit (Nat.le_of_ble_eq_true rfl) (by decide) dX3_init_1 ?_
  refine e_aload_n F dX3_init_4 rfl ?_
  refine e_newO F (ci := 1) (q := (RX1, TX1, 5)) (fs := [.int (eI 0), .int (eI 0), .int (eI 0), .int (eI 0), .int (eI 0)]) rfl (by omega) w_cl_RX3_7 w_is_RX1 w_in_RX1 (by decide) (by intro j hj; have hj9 : j < 5 := hj; rcases j with _ | _ | _ | _ | _ | j <;> first | rfl | omega) dX3_init_5 ?_
  refine e_dup F dX3_init_8 rfl ?_
  refine e_callIN F u_X1_init (by rfl) (c_X1_init (f := x + 1) (x0 := 0) (x1 := 0) (x2 := 0) (x3 := 0) (x4 := 0) e_up_s) w_mn_RX3_9 dX3_init_9 (by rfl) (Nat.le_of_ble_eq_true rfl) (by decide) (by omega) (fun _ _ _ h _ => False.elim h) (fun r_9 w_9 n_9 h_9 hn_9 => ?_)
  obtain ⟨rfl, f1, fF, en9⟩ := h_9
  rw [en9]
  refine e_setF (host := "") (ci := 3) (fi := 0) (q := (RX3, TX3, 5)) F (show w_9 x = _ by rw [fF x (by omega), e_up_n (by omega)]; exact h0) rfl (by decide) w_fl_RX3_10 hnm rfl rfl rfl (by rfl) (Nat.le_of_ble_eq_true rfl) dX3_init_12 ?_
  refine e_aload_n F dX3_init_15 rfl ?_
  refine e_newO F (ci := 2) (q := (RX2, TX2, 2)) (fs := [.null, .null]) rfl (by omega) w_cl_RX3_16 w_is_RX2 w_in_RX2 (by decide) (by intro j hj; have hj9 : j < 2 := hj; rcases j with _ | _ | j <;> first | rfl | omega) dX3_init_16 ?_
  refine e_dup F dX3_init_19 rfl ?_
  refine e_callIN F u_X2_init (by rfl) (c_X2_init (a := x + 2) (v0 := .null) (v1 := .null) e_up_s rfl) w_mn_RX3_18 dX3_init_20 (by rfl) (Nat.le_of_ble_eq_true rfl) (by decide) (by omega) (fun _ _ _ h _ => False.elim h) (fun r_20 w_20 n_20 h_20 hn_20 => ?_)
  obtain ⟨rfl, en20, zQ, zF⟩ := h_20
  rw [en20]
  refine e_setF (host := "") (ci := 3) (fi := 1) (q := (RX3, TX3, 5)) F (show w_20 x = _ by rw [zF x (by omega), e_up_n (by omega)]; exact e_up_s) rfl (by decide) w_fl_RX3_19 hnm rfl rfl rfl (by rfl) (Nat.le_of_ble_eq_true rfl) dX3_init_23 ?_
  refine e_aload_n F dX3_init_26 rfl ?_
  refine e_bipush F dX3_init_27 (by decide) ?_
  refine e_newA9 F (N := 6) (by rfl) (by decide) (by omega) w_cl_RX3_23 (by decide +kernel) dX3_init_29 ?_
  refine e_setF (host := "") (ci := 3) (fi := 2) (q := (RX3, TX3, 5)) F (by first | assumption | exact e_up_s | (rw [e_up_n (by first | assumption | omega)]; first | assumption | exact e_up_s | (rw [e_up_n (by first | assumption | omega)]; first | assumption | exact e_up_s | (rw [e_up_n (by first | assumption | omega)]; first | assumption | exact e_up_s))) | exact hD.1 | exact hD1.1 | exact hD2.1 | exact gD.1 | exact gD1.1 | exact gD2.1 | exact gQ.1 | exact hQ.1 | exact gS.1 | exact hS.1 | exact zD.1) rfl (by decide) w_fl_RX3_25 hnm rfl rfl rfl (by rfl) (Nat.le_of_ble_eq_true rfl) dX3_init_32 ?_
  refine e_iconst F dX3_init_35 ?_
  refine e_istore_n F dX3_init_36 (by decide) ?_
  refine e_go (lp 7 0 _ (fun _ => .null) (by omega) ⟨by omega, e_up_s, ?_, ?_, ?_, fun j hj => absurd hj (Nat.not_lt_zero _), fun q hq => ?_⟩) (And.intro rfl (And.intro rfl (trivial)))
  · rw [e_up_n (by omega), e_up_n (by omega), e_up_n (by omega), zF _ (by omega), e_up_n (by omega), e_up_n (by omega)]; exact f1
  · exact zQ.fr (by rw [e_up_n (by omega), e_up_n (by omega), e_up_n (by omega)]) (by rw [e_up_n (by omega), e_up_n (by omega), e_up_n (by omega)]) (by rw [e_up_n (by omega), e_up_n (by omega), e_up_n (by omega)])
  · rw [e_up_n (by omega)]; exact e_up_s
  · rw [e_up_n (by omega), e_up_n (by omega), e_up_n (by omega), zF _ (by omega), e_up_n (by omega), e_up_n (by omega), fF q (by omega), e_up_n (by omega)]
end
-- 25.pub.lean.txt
section
/-! Secretshares: public methods -/
def pxd (w : e_W) (c1 c2 : Prop) : String → e_W → Nat → Prop := fun E w2 _ => ((E = xIO ∧ c1) ∨ (E = xIA ∧ c2)) ∧ w2 = w
def qv (wh : Nat) (a b : Int) : Int := if b = 0 then -9 else a * iv wh b % pr wh
theorem qv_rg {wh : Nat} (hwh : wh < 7) (a b : Int) : (qv wh a b = -9 ∧ b = 0) ∨ (b ≠ 0 ∧ 0 ≤ qv wh a b ∧ qv wh a b < pr wh) := by
  unfold qv
  split
  · exact Or.inl ⟨rfl, by assumption⟩
  · exact Or.inr ⟨by assumption, emod_rg _ hwh⟩
def rcV (wh : Nat) (a b how : Int) : Int := if how = 0 then (a + b) % pr wh else if how = 1 then (a - b) % pr wh else if how = 2 then a * b % pr wh else qv wh (a % pr wh) (b % pr wh)
def pwV (wh : Nat) (a e : Int) : Int := if 0 ≤ e then e_pw (a % pr wh) e.toNat (pr wh) else if a % pr wh = 0 then -9 else e_pw (qv wh 1 (a % pr wh)) (-e).toNat (pr wh)
theorem mulI_rg {a b : Int} (ha : e_r a) (hb : e_r b) : e_r8 (a * b) := by
  obtain ⟨a1, a2⟩ := ha
  obtain ⟨b1, b2⟩ := hb
  have h1 : (a + 2147483648) * (b + 2147483648) ≤ 4294967295 * 4294967295 := Int.mul_le_mul (by omega) (by omega) (by omega) (by omega)
  have h2 : 0 ≤ (a + 2147483648) * (b + 2147483648) := Int.mul_nonneg (by omega) (by omega)
  have h3 : (a + 2147483648) * (b + 2147483648) = a * b + 2147483648 * a + 2147483648 * b + 2147483648 * 2147483648 := by
    rw [Int.add_mul, Int.mul_add, Int.mul_add, Int.mul_comm a 2147483648]; omega
  have h4 : (a + 2147483648) * (2147483647 - b) ≤ 4294967295 * 4294967295 := Int.mul_le_mul (by omega) (by omega) (by omega) (by omega)
  have h5 : 0 ≤ (a + 2147483648) * (2147483647 - b) := Int.mul_nonneg (by omega) (by omega)
  have h6 : (a + 2147483648) * (2147483647 - b) = a * 2147483647 - a * b + 2147483648 * 2147483647 - 2147483648 * b := by
    rw [Int.add_mul, Int.mul_sub, Int.mul_sub]; omega
  have h7 : (2147483647 - a) * (b + 2147483648) = 2147483647 * b + 2147483647 * 2147483648 - a * b - a * 2147483648 := by
    rw [Int.sub_mul, Int.mul_add, Int.mul_add]; omega
  have h8 : 0 ≤ (2147483647 - a) * (b + 2147483648) := Int.mul_nonneg (by omega) (by omega)
  have h9 : (2147483647 - a) * (2147483647 - b) = 2147483647 * 2147483647 - 2147483647 * b - a * 2147483647 + a * b := by
    rw [Int.sub_mul, Int.mul_sub, Int.mul_sub]; omega
  have h10 : 0 ≤ (2147483647 - a) * (2147483647 - b) := Int.mul_nonneg (by omega) (by omega)
  constructor <;> omega
set_option maxHeartbeats 4000000 in
set_option maxRecDepth 100000 in
theorem c_X3_rest {K : e_K} {l : Launch} {w : e_W} {n : Nat} {x wh : Nat} {kn : Int} {D : Nat → SD} (hC : CW w x wh kn D) {a : Int} (ha : e_r a) : e_Met K l yX3_rest (Cond.code yX3_rest cX3_rest 2 (Option.some .int) :: e_TB) (1) (0) [.ref x, .int (eI a)] w n (fun r w' n' => r = some (.int (eI (a % pr wh))) ∧ n' = n ∧ CW w' x wh (kn) (D) ∧ FR w w' x) (e_px0) := by
  refine e_ofV rfl (Nat.le_of_ble_eq_true rfl) ?_
  intro P9 E9 S9 M9 A9 B9 T9 C9 F hnm
  have hC0 := hC
  have hDA := hC.2.2.2.2.1
  obtain ⟨hX, hF, hwh, ⟨P0, hQ⟩, ⟨ga, hga, hgj⟩, hDs, s0, hS⟩ := hC
  have hp := pr_rg wh hwh
  have ho9 := ho_rg wh hwh
  have hg9 := gr_rg wh hwh
  have hf9 := fl_rg wh hwh
  refine e_aload_n F dX3_rest_0 rfl ?_
  refine e_get (ci := 3) (fi := 0) (q := (RX3, TX3, 5)) F (by first | assumption | exact e_up_s | (rw [e_up_n (by first | assumption | omega)]; first | assumption | exact e_up_s | (rw [e_up_n (by first | assumption | omega)]; first | assumption | exact e_up_s | (rw [e_up_n (by first | assumption | omega)]; first | assumption | exact e_up_s))) | exact hD.1 | exact hD1.1 | exact hD2.1 | exact gD.1 | exact gD1.1 | exact gD2.1 | exact gQ.1 | exact hQ.1 | exact gS.1 | exact hS.1 | exact zD.1) rfl (by decide) w_fl_RX3_10 (by rfl) dX3_rest_1 ?_
  refine e_iload_n F dX3_rest_4 rfl ?_
  refine e_i2l F dX3_rest_5 (⟨by omega, by omega⟩) ?_
  refine e_callVN F u_X1_modPrime (by rfl) (c_X1_modPrime hF hwh (v := a) (by constructor <;> omega)) (by first | assumption | exact e_up_s | (rw [e_up_n (by first | assumption | omega)]; first | assumption | exact e_up_s | (rw [e_up_n (by first | assumption | omega)]; first | assumption | exact e_up_s | (rw [e_up_n (by first | assumption | omega)]; first | assumption | exact e_up_s))) | exact hD.1 | exact hD1.1 | exact hD2.1 | exact gD.1 | exact gD1.1 | exact gD2.1 | exact gQ.1 | exact hQ.1 | exact gS.1 | exact hS.1 | exact zD.1) rfl rfl w_mn_RX3_59 dX3_rest_6 (by rfl) (Nat.le_of_ble_eq_true rfl) (by decide) (by omega) (fun _ _ _ h _ => False.elim h) (fun r_6 w_6 n_6 h_6 hn_6 => ?_)
  obtain ⟨rfl, ew_6, en_6⟩ := h_6
  rw [ew_6, en_6]
  refine e_iret F rfl (by omega) ?_ dX3_rest_9
  exact ⟨rfl, rfl, hC0, FR.rf⟩
set_option maxHeartbeats 4000000 in
set_option maxRecDepth 100000 in
theorem c_X3_reciprocal {K : e_K} {l : Launch} {w : e_W} {n : Nat} {x wh : Nat} {kn : Int} {D : Nat → SD} (hC : CW w x wh kn D) {a : Int} (ha : e_r a) : e_Met K l yX3_reciprocal (Cond.code yX3_reciprocal cX3_reciprocal 2 (Option.some .int) :: e_TB) (3) (0) [.ref x, .int (eI a)] w n (fun r w' n' => r = some (.int (eI (qv wh 1 (a % pr wh)))) ∧ n' = n ∧ CW w' x wh (kn) (D) ∧ FR w w' x) (e_px0) := by
  refine e_ofV rfl (Nat.le_of_ble_eq_true rfl) ?_
  intro P9 E9 S9 M9 A9 B9 T9 C9 F hnm
  have hC0 := hC
  have hDA := hC.2.2.2.2.1
  obtain ⟨hX, hF, hwh, ⟨P0, hQ⟩, ⟨ga, hga, hgj⟩, hDs, s0, hS⟩ := hC
  have hp := pr_rg wh hwh
  have ho9 := ho_rg wh hwh
  have hg9 := gr_rg wh hwh
  have hf9 := fl_rg wh hwh
  have hm := emod_rg a hwh
  refine e_aload_n F dX3_reciprocal_0 rfl ?_
  refine e_iconst F dX3_reciprocal_1 ?_
  refine e_aload_n F dX3_reciprocal_2 rfl ?_
  refine e_get (ci := 3) (fi := 0) (q := (RX3, TX3, 5)) F (by first | assumption | exact e_up_s | (rw [e_up_n (by first | assumption | omega)]; first | assumption | exact e_up_s | (rw [e_up_n (by first | assumption | omega)]; first | assumption | exact e_up_s | (rw [e_up_n (by first | assumption | omega)]; first | assumption | exact e_up_s))) | exact hD.1 | exact hD1.1 | exact hD2.1 | exact gD.1 | exact gD1.1 | exact gD2.1 | exact gQ.1 | exact hQ.1 | exact gS.1 | exact hS.1 | exact zD.1) rfl (by decide) w_fl_RX3_10 (by rfl) dX3_reciprocal_3 ?_
  refine e_iload_n F dX3_reciprocal_6 rfl ?_
  refine e_i2l F dX3_reciprocal_7 (⟨by omega, by omega⟩) ?_
  refine e_callVN F u_X1_modPrime (by rfl) (c_X1_modPrime hF hwh (v := a) (by constructor <;> omega)) (by first | assumption | exact e_up_s | (rw [e_up_n (by first | assumption | omega)]; first | assumption | exact e_up_s | (rw [e_up_n (by first | assumption | omega)]; first | assumption | exact e_up_s | (rw [e_up_n (by first | assumption | omega)]; first | assumption | exact e_up_s))) | exact hD.1 | exact hD1.1 | exact hD2.1 | exact gD.1 | exact gD1.1 | exact gD2.1 | exact gQ.1 | exact hQ.1 | exact gS.1 | exact hS.1 | exact zD.1) rfl rfl w_mn_RX3_59 dX3_reciprocal_8 (by rfl) (Nat.le_of_ble_eq_true rfl) (by decide) (by omega) (fun _ _ _ h _ => False.elim h) (fun r_8 w_8 n_8 h_8 hn_8 => ?_)
  obtain ⟨rfl, ew_8, en_8⟩ := h_8
  rw [ew_8, en_8]
  refine e_callVV F u_X3_quotient (by rfl) (c_X3_quotient hX hF hwh (a := 1) (b := a % pr wh) (by omega) hm) hX rfl rfl w_ml_RX3_63 dX3_reciprocal_11 (by rfl) (Nat.le_of_ble_eq_true rfl) (by decide) (by omega) (fun _ _ _ h _ => False.elim h) (fun r_11 w_11 n_11 h_11 hn_11 => ?_)
  obtain ⟨rfl, ew_11, en_11⟩ := h_11
  rw [ew_11, en_11]
  refine e_iret F rfl (by omega) ?_ dX3_reciprocal_14
  exact ⟨rfl, rfl, hC0, FR.rf⟩
set_option maxHeartbeats 4000000 in
set_option maxRecDepth 100000 in
theorem c_X3_sealOf {K : e_K} {l : Launch} {w : e_W} {n : Nat} {x wh : Nat} {kn : Int} {D : Nat → SD} (hC : CW w x wh kn D) {a : Int} (ha : e_r a) : e_Met K l yX3_sealOf (Cond.code yX3_sealOf cX3_sealOf 2 (Option.some .int) :: e_TB) (3) (0) [.ref x, .int (eI a)] w n (fun r w' n' => r = some (.int (eI (sl wh a))) ∧ n' = n ∧ CW w' x wh (kn) (D) ∧ FR w w' x) (e_px0) := by
  refine e_ofV rfl (Nat.le_of_ble_eq_true rfl) ?_
  intro P9 E9 S9 M9 A9 B9 T9 C9 F hnm
  have hC0 := hC
  have hDA := hC.2.2.2.2.1
  obtain ⟨hX, hF, hwh, ⟨P0, hQ⟩, ⟨ga, hga, hgj⟩, hDs, s0, hS⟩ := hC
  have hp := pr_rg wh hwh
  have ho9 := ho_rg wh hwh
  have hg9 := gr_rg wh hwh
  have hf9 := fl_rg wh hwh
  refine e_aload_n F dX3_sealOf_0 rfl ?_
  refine e_get (ci := 3) (fi := 0) (q := (RX3, TX3, 5)) F (by first | assumption | exact e_up_s | (rw [e_up_n (by first | assumption | omega)]; first | assumption | exact e_up_s | (rw [e_up_n (by first | assumption | omega)]; first | assumption | exact e_up_s | (rw [e_up_n (by first | assumption | omega)]; first | assumption | exact e_up_s))) | exact hD.1 | exact hD1.1 | exact hD2.1 | exact gD.1 | exact gD1.1 | exact gD2.1 | exact gQ.1 | exact hQ.1 | exact gS.1 | exact hS.1 | exact zD.1) rfl (by decide) w_fl_RX3_10 (by rfl) dX3_sealOf_1 ?_
  refine e_iload_n F dX3_sealOf_4 rfl ?_
  refine e_callVN F u_X1_sealFor (by rfl) (c_X1_sealFor hF hwh ha) (by first | assumption | exact e_up_s | (rw [e_up_n (by first | assumption | omega)]; first | assumption | exact e_up_s | (rw [e_up_n (by first | assumption | omega)]; first | assumption | exact e_up_s | (rw [e_up_n (by first | assumption | omega)]; first | assumption | exact e_up_s))) | exact hD.1 | exact hD1.1 | exact hD2.1 | exact gD.1 | exact gD1.1 | exact gD2.1 | exact gQ.1 | exact hQ.1 | exact gS.1 | exact hS.1 | exact zD.1) rfl rfl w_mn_RX3_73 dX3_sealOf_5 (by rfl) (Nat.le_of_ble_eq_true rfl) (by decide) (by omega) (fun _ _ _ h _ => False.elim h) (fun r_5 w_5 n_5 h_5 hn_5 => ?_)
  obtain ⟨rfl, ew_5, en_5⟩ := h_5
  rw [ew_5, en_5]
  refine e_iret F rfl (by omega) ?_ dX3_sealOf_8
  exact ⟨rfl, rfl, hC0, FR.rf⟩
set_option maxHeartbeats 4000000 in
set_option maxRecDepth 100000 in
theorem c_X3_power {K : e_K} {l : Launch} {w : e_W} {n : Nat} {x wh : Nat} {kn : Int} {D : Nat → SD} (hC : CW w x wh kn D) {a : Int} (ha : e_r a) {e : Int} (he : e_r e) : e_Met K l yX3_power (Cond.code yX3_power cX3_power 5 (Option.some .int) :: e_TB) (3) (0) [.ref x, .int (eI a), .int (eI e)] w n (fun r w' n' => r = some (.int (eI (pwV wh a e))) ∧ n' = n ∧ CW w' x wh (kn) (D) ∧ FR w w' x) (e_px0) := by
  refine e_ofV rfl (Nat.le_of_ble_eq_true rfl) ?_
  intro P9 E9 S9 M9 A9 B9 T9 C9 F hnm
  have hC0 := hC
  have hDA := hC.2.2.2.2.1
  obtain ⟨hX, hF, hwh, ⟨P0, hQ⟩, ⟨ga, hga, hgj⟩, hDs, s0, hS⟩ := hC
  have hp := pr_rg wh hwh
  have ho9 := ho_rg wh hwh
  have hg9 := gr_rg wh hwh
  have hf9 := fl_rg wh hwh
  have hm := emod_rg a hwh
  have hq := qv_rg hwh 1 (a % pr wh)
  refine e_aload_n F dX3_power_0 rfl ?_
  refine e_get (ci := 3) (fi := 0) (q := (RX3, TX3, 5)) F (by first | assumption | exact e_up_s | (rw [e_up_n (by first | assumption | omega)]; first | assumption | exact e_up_s | (rw [e_up_n (by first | assumption | omega)]; first | assumption | exact e_up_s | (rw [e_up_n (by first | assumption | omega)]; first | assumption | exact e_up_s))) | exact hD.1 | exact hD1.1 | exact hD2.1 | exact gD.1 | exact gD1.1 | exact gD2.1 | exact gQ.1 | exact hQ.1 | exact gS.1 | exact hS.1 | exact zD.1) rfl (by decide) w_fl_RX3_10 (by rfl) dX3_power_1 ?_
  refine e_iload_n F dX3_power_4 rfl ?_
  refine e_i2l F dX3_power_5 (⟨by omega, by omega⟩) ?_
  refine e_callVN F u_X1_modPrime (by rfl) (c_X1_modPrime hF hwh (v := a) (by constructor <;> omega)) (by first | assumption | exact e_up_s | (rw [e_up_n (by first | assumption | omega)]; first | assumption | exact e_up_s | (rw [e_up_n (by first | assumption | omega)]; first | assumption | exact e_up_s | (rw [e_up_n (by first | assumption | omega)]; first | assumption | exact e_up_s))) | exact hD.1 | exact hD1.1 | exact hD2.1 | exact gD.1 | exact gD1.1 | exact gD2.1 | exact gQ.1 | exact hQ.1 | exact gS.1 | exact hS.1 | exact zD.1) rfl rfl w_mn_RX3_59 dX3_power_6 (by rfl) (Nat.le_of_ble_eq_true rfl) (by decide) (by omega) (fun _ _ _ h _ => False.elim h) (fun r_6 w_6 n_6 h_6 hn_6 => ?_)
  obtain ⟨rfl, ew_6, en_6⟩ := h_6
  rw [ew_6, en_6]
  refine e_istore_n F dX3_power_9 (by decide) ?_
  refine e_iload_n F dX3_power_10 rfl ?_
  refine e_if_lt F 28 dX3_power_11 (by decide) (he) (fun c_11 => ?_) (fun c_11 => ?_)
  · refine e_aload_n F dX3_power_28 rfl ?_
    refine e_iconst F dX3_power_29 ?_
    refine e_iload_n F dX3_power_30 rfl ?_
    refine e_callVV F u_X3_quotient (by rfl) (c_X3_quotient hX hF hwh (a := 1) (b := a % pr wh) (by omega) hm) hX rfl rfl w_ml_RX3_63 dX3_power_31 (by rfl) (Nat.le_of_ble_eq_true rfl) (by decide) (by omega) (fun _ _ _ h _ => False.elim h) (fun r_31 w_31 n_31 h_31 hn_31 => ?_)
    obtain ⟨rfl, ew_31, en_31⟩ := h_31
    rw [ew_31, en_31]
    change e_V _ _ _ _ _ _ _ _ _ _ _ _ _ _ _ _ _ (.int (eI (qv wh 1 (a % pr wh))) :: _) _ _ _
    refine e_istore F dX3_power_34 (by decide) ?_
    refine e_iload F dX3_power_36 rfl ?_
    refine e_bipush F dX3_power_38 (by decide) ?_
    refine e_icmp_ne F 48 dX3_power_40 (by decide) (⟨by omega, by omega⟩) (⟨by omega, by omega⟩) (fun c_40 => ?_) (fun c_40 => ?_)
    · refine e_iload F dX3_power_48 rfl ?_
      refine e_iload_n F dX3_power_50 rfl ?_
      refine e_i2l F dX3_power_51 (⟨by omega, by omega⟩) ?_
      refine e_lneg F dX3_power_52 ?_
      refine e_aload_n F dX3_power_53 rfl ?_
      refine e_get (ci := 3) (fi := 0) (q := (RX3, TX3, 5)) F (by first | assumption | exact e_up_s | (rw [e_up_n (by first | assumption | omega)]; first | assumption | exact e_up_s | (rw [e_up_n (by first | assumption | omega)]; first | assumption | exact e_up_s | (rw [e_up_n (by first | assumption | omega)]; first | assumption | exact e_up_s))) | exact hD.1 | exact hD1.1 | exact hD2.1 | exact gD.1 | exact gD1.1 | exact gD2.1 | exact gQ.1 | exact hQ.1 | exact gS.1 | exact hS.1 | exact zD.1) rfl (by decide) w_fl_RX3_10 (by rfl) dX3_power_54 ?_
      refine e_getN (ci := 1) (fi := 1) (q := (RX1, TX1, 5)) F (by first | assumption | exact e_up_s | (rw [e_up_n (by first | assumption | omega)]; first | assumption | exact e_up_s | (rw [e_up_n (by first | assumption | omega)]; first | assumption | exact e_up_s | (rw [e_up_n (by first | assumption | omega)]; first | assumption | exact e_up_s))) | exact hD.1 | exact hD1.1 | exact hD2.1 | exact gD.1 | exact gD1.1 | exact gD2.1 | exact gQ.1 | exact hQ.1 | exact gS.1 | exact hS.1 | exact zD.1) rfl (by decide) w_fn_RX3_49 (by rfl) dX3_power_57 ?_
      refine e_callSN F u_X1_raise (by rfl) (c_X1_raise (b := qv wh 1 (a % pr wh)) (k := -e) (m := pr wh) (by omega) (by omega) (by omega) (by omega) (by omega) (by omega)) w_mn_RX3_69 dX3_power_60 (by rfl) (Nat.le_of_ble_eq_true rfl) (by decide) (by omega) (fun _ _ _ h _ => False.elim h) (fun r_60 w_60 n_60 h_60 hn_60 => ?_)
      obtain ⟨rfl, ew_60, en_60⟩ := h_60
      rw [ew_60, en_60]
      refine e_iret F rfl (by omega) ?_ dX3_power_63
      refine ⟨?_, rfl, hC0, FR.rf⟩
      unfold pwV
      rw [if_neg (by omega)]
      first | (rw [if_neg (by omega)]; done) | rw [if_pos (by omega)]
    · refine e_bipush F dX3_power_43 (by decide) ?_
      refine e_goto F 63 dX3_power_45 (by decide) ?_
      refine e_iret F rfl (by omega) ?_ dX3_power_63
      refine ⟨?_, rfl, hC0, FR.rf⟩
      unfold pwV
      rw [if_neg (by omega)]
      first | (rw [if_neg (by omega)]; done) | rw [if_pos (by omega)]
  · refine e_iload_n F dX3_power_14 rfl ?_
    refine e_iload_n F dX3_power_15 rfl ?_
    refine e_i2l F dX3_power_16 (⟨by omega, by omega⟩) ?_
    refine e_aload_n F dX3_power_17 rfl ?_
    refine e_get (ci := 3) (fi := 0) (q := (RX3, TX3, 5)) F (by first | assumption | exact e_up_s | (rw [e_up_n (by first | assumption | omega)]; first | assumption | exact e_up_s | (rw [e_up_n (by first | assumption | omega)]; first | assumption | exact e_up_s | (rw [e_up_n (by first | assumption | omega)]; first | assumption | exact e_up_s))) | exact hD.1 | exact hD1.1 | exact hD2.1 | exact gD.1 | exact gD1.1 | exact gD2.1 | exact gQ.1 | exact hQ.1 | exact gS.1 | exact hS.1 | exact zD.1) rfl (by decide) w_fl_RX3_10 (by rfl) dX3_power_18 ?_
    refine e_getN (ci := 1) (fi := 1) (q := (RX1, TX1, 5)) F (by first | assumption | exact e_up_s | (rw [e_up_n (by first | assumption | omega)]; first | assumption | exact e_up_s | (rw [e_up_n (by first | assumption | omega)]; first | assumption | exact e_up_s | (rw [e_up_n (by first | assumption | omega)]; first | assumption | exact e_up_s))) | exact hD.1 | exact hD1.1 | exact hD2.1 | exact gD.1 | exact gD1.1 | exact gD2.1 | exact gQ.1 | exact hQ.1 | exact gS.1 | exact hS.1 | exact zD.1) rfl (by decide) w_fn_RX3_49 (by rfl) dX3_power_21 ?_
    refine e_callSN F u_X1_raise (by rfl) (c_X1_raise (b := a % pr wh) (k := e) (m := pr wh) hm.1 hm.2 (by omega) (by omega) (by omega) (by omega)) w_mn_RX3_69 dX3_power_24 (by rfl) (Nat.le_of_ble_eq_true rfl) (by decide) (by omega) (fun _ _ _ h _ => False.elim h) (fun r_24 w_24 n_24 h_24 hn_24 => ?_)
    obtain ⟨rfl, ew_24, en_24⟩ := h_24
    rw [ew_24, en_24]
    refine e_iret F rfl (by omega) ?_ dX3_power_27
    refine ⟨?_, rfl, hC0, FR.rf⟩
    unfold pwV
    rw [if_pos (by omega)]
set_option maxHeartbeats 4000000 in
set_option maxRecDepth 100000 in
theorem c_X3_reckon {K : e_K} {l : Launch} {w : e_W} {n : Nat} {x wh : Nat} {kn : Int} {D : Nat → SD} (hC : CW w x wh kn D) {a : Int} (ha : e_r a) {b : Int} (hb : e_r b) {c : Int} (hc : e_r c) : e_Met K l yX3_reckon (Cond.code yX3_reckon cX3_reckon 4 (Option.some .int) :: e_TB) (6) (1) [.ref x, .int (eI a), .int (eI b), .int (eI c)] w n (fun r w' n' => (0 ≤ c ∧ c ≤ 3) ∧ r = some (.int (eI (rcV wh a b c))) ∧ n' = n ∧ CW w' x wh (kn) (D) ∧ FR w w' x) (pxd w False (¬ (0 ≤ c ∧ c ≤ 3))) := by
  refine e_ofV rfl (Nat.le_of_ble_eq_true rfl) ?_
  intro P9 E9 S9 M9 A9 B9 T9 C9 F hnm
  have hC0 := hC
  have hDA := hC.2.2.2.2.1
  obtain ⟨hX, hF, hwh, ⟨P0, hQ⟩, ⟨ga, hga, hgj⟩, hDs, s0, hS⟩ := hC
  have hp := pr_rg wh hwh
  have ho9 := ho_rg wh hwh
  have hg9 := gr_rg wh hwh
  have hf9 := fl_rg wh hwh
  have hma := emod_rg a hwh
  have hmb := emod_rg b hwh
  refine e_iload_n F dX3_reckon_0 rfl ?_
  rcases (show c = 0 ∨ c = 1 ∨ c = 2 ∨ c = 3 ∨ (c < 0 ∨ 3 < c) by omega) with rfl | rfl | rfl | rfl | ho
  · refine e_tabIn F 32 dX3_reckon_1 (by decide) (by decide) (by decide) (by rfl) (by decide) ?_
    refine e_aload_n F dX3_reckon_32 rfl ?_
    refine e_get (ci := 3) (fi := 0) (q := (RX3, TX3, 5)) F (by first | assumption | exact e_up_s | (rw [e_up_n (by first | assumption | omega)]; first | assumption | exact e_up_s | (rw [e_up_n (by first | assumption | omega)]; first | assumption | exact e_up_s | (rw [e_up_n (by first | assumption | omega)]; first | assumption | exact e_up_s))) | exact hD.1 | exact hD1.1 | exact hD2.1 | exact gD.1 | exact gD1.1 | exact gD2.1 | exact gQ.1 | exact hQ.1 | exact gS.1 | exact hS.1 | exact zD.1) rfl (by decide) w_fl_RX3_10 (by rfl) dX3_reckon_33 ?_
    refine e_iload_n F dX3_reckon_36 rfl ?_
    refine e_i2l F dX3_reckon_37 (⟨by omega, by omega⟩) ?_
    refine e_iload_n F dX3_reckon_38 rfl ?_
    refine e_i2l F dX3_reckon_39 (⟨by omega, by omega⟩) ?_
    refine e_ladd F dX3_reckon_40 ?_
    refine e_callVN F u_X1_modPrime (by rfl) (c_X1_modPrime hF hwh (by constructor <;> omega)) (by first | assumption | exact e_up_s | (rw [e_up_n (by first | assumption | omega)]; first | assumption | exact e_up_s | (rw [e_up_n (by first | assumption | omega)]; first | assumption | exact e_up_s | (rw [e_up_n (by first | assumption | omega)]; first | assumption | exact e_up_s))) | exact hD.1 | exact hD1.1 | exact hD2.1 | exact gD.1 | exact gD1.1 | exact gD2.1 | exact gQ.1 | exact hQ.1 | exact gS.1 | exact hS.1 | exact zD.1) rfl rfl w_mn_RX3_59 dX3_reckon_41 (by rfl) (Nat.le_of_ble_eq_true rfl) (by decide) (by omega) (fun _ _ _ h _ => False.elim h) (fun r_41 w_41 n_41 h_41 hn_41 => ?_)
    obtain ⟨rfl, ew_41, en_41⟩ := h_41
    rw [ew_41, en_41]
    refine e_iret F rfl (by omega) ?_ dX3_reckon_44
    exact ⟨by decide, rfl, rfl, hC0, FR.rf⟩
  · refine e_tabIn F 45 dX3_reckon_1 (by decide) (by decide) (by decide) (by rfl) (by decide) ?_
    refine e_aload_n F dX3_reckon_45 rfl ?_
    refine e_get (ci := 3) (fi := 0) (q := (RX3, TX3, 5)) F (by first | assumption | exact e_up_s | (rw [e_up_n (by first | assumption | omega)]; first | assumption | exact e_up_s | (rw [e_up_n (by first | assumption | omega)]; first | assumption | exact e_up_s | (rw [e_up_n (by first | assumption | omega)]; first | assumption | exact e_up_s))) | exact hD.1 | exact hD1.1 | exact hD2.1 | exact gD.1 | exact gD1.1 | exact gD2.1 | exact gQ.1 | exact hQ.1 | exact gS.1 | exact hS.1 | exact zD.1) rfl (by decide) w_fl_RX3_10 (by rfl) dX3_reckon_46 ?_
    refine e_iload_n F dX3_reckon_49 rfl ?_
    refine e_i2l F dX3_reckon_50 (⟨by omega, by omega⟩) ?_
    refine e_iload_n F dX3_reckon_51 rfl ?_
    refine e_i2l F dX3_reckon_52 (⟨by omega, by omega⟩) ?_
    refine e_lsub F dX3_reckon_53 ?_
    refine e_callVN F u_X1_modPrime (by rfl) (c_X1_modPrime hF hwh (by constructor <;> omega)) (by first | assumption | exact e_up_s | (rw [e_up_n (by first | assumption | omega)]; first | assumption | exact e_up_s | (rw [e_up_n (by first | assumption | omega)]; first | assumption | exact e_up_s | (rw [e_up_n (by first | assumption | omega)]; first | assumption | exact e_up_s))) | exact hD.1 | exact hD1.1 | exact hD2.1 | exact gD.1 | exact gD1.1 | exact gD2.1 | exact gQ.1 | exact hQ.1 | exact gS.1 | exact hS.1 | exact zD.1) rfl rfl w_mn_RX3_59 dX3_reckon_54 (by rfl) (Nat.le_of_ble_eq_true rfl) (by decide) (by omega) (fun _ _ _ h _ => False.elim h) (fun r_54 w_54 n_54 h_54 hn_54 => ?_)
    obtain ⟨rfl, ew_54, en_54⟩ := h_54
    rw [ew_54, en_54]
    refine e_iret F rfl (by omega) ?_ dX3_reckon_57
    exact ⟨by decide, rfl, rfl, hC0, FR.rf⟩
  · refine e_tabIn F 58 dX3_reckon_1 (by decide) (by decide) (by decide) (by rfl) (by decide) ?_
    refine e_aload_n F dX3_reckon_58 rfl ?_
    refine e_get (ci := 3) (fi := 0) (q := (RX3, TX3, 5)) F (by first | assumption | exact e_up_s | (rw [e_up_n (by first | assumption | omega)]; first | assumption | exact e_up_s | (rw [e_up_n (by first | assumption | omega)]; first | assumption | exact e_up_s | (rw [e_up_n (by first | assumption | omega)]; first | assumption | exact e_up_s))) | exact hD.1 | exact hD1.1 | exact hD2.1 | exact gD.1 | exact gD1.1 | exact gD2.1 | exact gQ.1 | exact hQ.1 | exact gS.1 | exact hS.1 | exact zD.1) rfl (by decide) w_fl_RX3_10 (by rfl) dX3_reckon_59 ?_
    refine e_iload_n F dX3_reckon_62 rfl ?_
    refine e_i2l F dX3_reckon_63 (⟨by omega, by omega⟩) ?_
    refine e_iload_n F dX3_reckon_64 rfl ?_
    refine e_i2l F dX3_reckon_65 (⟨by omega, by omega⟩) ?_
    refine e_lmul F dX3_reckon_66 ?_
    refine e_callVN F u_X1_modPrime (by rfl) (c_X1_modPrime hF hwh (mulI_rg ha hb)) (by first | assumption | exact e_up_s | (rw [e_up_n (by first | assumption | omega)]; first | assumption | exact e_up_s | (rw [e_up_n (by first | assumption | omega)]; first | assumption | exact e_up_s | (rw [e_up_n (by first | assumption | omega)]; first | assumption | exact e_up_s))) | exact hD.1 | exact hD1.1 | exact hD2.1 | exact gD.1 | exact gD1.1 | exact gD2.1 | exact gQ.1 | exact hQ.1 | exact gS.1 | exact hS.1 | exact zD.1) rfl rfl w_mn_RX3_59 dX3_reckon_67 (by rfl) (Nat.le_of_ble_eq_true rfl) (by decide) (by omega) (fun _ _ _ h _ => False.elim h) (fun r_67 w_67 n_67 h_67 hn_67 => ?_)
    obtain ⟨rfl, ew_67, en_67⟩ := h_67
    rw [ew_67, en_67]
    refine e_iret F rfl (by omega) ?_ dX3_reckon_70
    exact ⟨by decide, rfl, rfl, hC0, FR.rf⟩
  · refine e_tabIn F 71 dX3_reckon_1 (by decide) (by decide) (by decide) (by rfl) (by decide) ?_
    refine e_aload_n F dX3_reckon_71 rfl ?_
    refine e_aload_n F dX3_reckon_72 rfl ?_
    refine e_get (ci := 3) (fi := 0) (q := (RX3, TX3, 5)) F (by first | assumption | exact e_up_s | (rw [e_up_n (by first | assumption | omega)]; first | assumption | exact e_up_s | (rw [e_up_n (by first | assumption | omega)]; first | assumption | exact e_up_s | (rw [e_up_n (by first | assumption | omega)]; first | assumption | exact e_up_s))) | exact hD.1 | exact hD1.1 | exact hD2.1 | exact gD.1 | exact gD1.1 | exact gD2.1 | exact gQ.1 | exact hQ.1 | exact gS.1 | exact hS.1 | exact zD.1) rfl (by decide) w_fl_RX3_10 (by rfl) dX3_reckon_73 ?_
    refine e_iload_n F dX3_reckon_76 rfl ?_
    refine e_i2l F dX3_reckon_77 (⟨by omega, by omega⟩) ?_
    refine e_callVN F u_X1_modPrime (by rfl) (c_X1_modPrime hF hwh (v := a) (by constructor <;> omega)) (by first | assumption | exact e_up_s | (rw [e_up_n (by first | assumption | omega)]; first | assumption | exact e_up_s | (rw [e_up_n (by first | assumption | omega)]; first | assumption | exact e_up_s | (rw [e_up_n (by first | assumption | omega)]; first | assumption | exact e_up_s))) | exact hD.1 | exact hD1.1 | exact hD2.1 | exact gD.1 | exact gD1.1 | exact gD2.1 | exact gQ.1 | exact hQ.1 | exact gS.1 | exact hS.1 | exact zD.1) rfl rfl w_mn_RX3_59 dX3_reckon_78 (by rfl) (Nat.le_of_ble_eq_true rfl) (by decide) (by omega) (fun _ _ _ h _ => False.elim h) (fun r_78 w_78 n_78 h_78 hn_78 => ?_)
    obtain ⟨rfl, ew_78, en_78⟩ := h_78
    rw [ew_78, en_78]
    refine e_aload_n F dX3_reckon_81 rfl ?_
    refine e_get (ci := 3) (fi := 0) (q := (RX3, TX3, 5)) F (by first | assumption | exact e_up_s | (rw [e_up_n (by first | assumption | omega)]; first | assumption | exact e_up_s | (rw [e_up_n (by first | assumption | omega)]; first | assumption | exact e_up_s | (rw [e_up_n (by first | assumption | omega)]; first | assumption | exact e_up_s))) | exact hD.1 | exact hD1.1 | exact hD2.1 | exact gD.1 | exact gD1.1 | exact gD2.1 | exact gQ.1 | exact hQ.1 | exact gS.1 | exact hS.1 | exact zD.1) rfl (by decide) w_fl_RX3_10 (by rfl) dX3_reckon_82 ?_
    refine e_iload_n F dX3_reckon_85 rfl ?_
    refine e_i2l F dX3_reckon_86 (⟨by omega, by omega⟩) ?_
    refine e_callVN F u_X1_modPrime (by rfl) (c_X1_modPrime hF hwh (v := b) (by constructor <;> omega)) (by first | assumption | exact e_up_s | (rw [e_up_n (by first | assumption | omega)]; first | assumption | exact e_up_s | (rw [e_up_n (by first | assumption | omega)]; first | assumption | exact e_up_s | (rw [e_up_n (by first | assumption | omega)]; first | assumption | exact e_up_s))) | exact hD.1 | exact hD1.1 | exact hD2.1 | exact gD.1 | exact gD1.1 | exact gD2.1 | exact gQ.1 | exact hQ.1 | exact gS.1 | exact hS.1 | exact zD.1) rfl rfl w_mn_RX3_59 dX3_reckon_87 (by rfl) (Nat.le_of_ble_eq_true rfl) (by decide) (by omega) (fun _ _ _ h _ => False.elim h) (fun r_87 w_87 n_87 h_87 hn_87 => ?_)
    obtain ⟨rfl, ew_87, en_87⟩ := h_87
    rw [ew_87, en_87]
    refine e_callVV F u_X3_quotient (by rfl) (c_X3_quotient hX hF hwh (a := a % pr wh) (b := b % pr wh) hma hmb) hX rfl rfl w_ml_RX3_63 dX3_reckon_90 (by rfl) (Nat.le_of_ble_eq_true rfl) (by decide) (by omega) (fun _ _ _ h _ => False.elim h) (fun r_90 w_90 n_90 h_90 hn_90 => ?_)
    obtain ⟨rfl, ew_90, en_90⟩ := h_90
    rw [ew_90, en_90]
    refine e_iret F rfl (by omega) ?_ dX3_reckon_93
    exact ⟨by decide, rfl, rfl, hC0, FR.rf⟩
  · refine e_tabOut F 94 dX3_reckon_1 hc ho (by decide) ?_
    exact e_throwS (text := "how is not 0 to 3") F (by decide +kernel) w_cl_RX3_42 w_in_java_lang_IllegalArgumentException (by decide +kernel) hat_ia hgood_ia dX3_reckon_94 dX3_reckon_97 dX3_reckon_98 dX3_reckon_100 dX3_reckon_103 (Nat.le_of_ble_eq_true rfl) (by decide) (by omega) (fun n2 hn2 => ⟨Or.inr ⟨rfl, by omega⟩, rfl⟩)
set_option maxHeartbeats 4000000 in
set_option maxRecDepth 100000 in
theorem c_X3_knock {K : e_K} {l : Launch} {w : e_W} {n : Nat} {x wh : Nat} {kn : Int} {D : Nat → SD} (hC : CW w x wh kn D) : e_Met K l yX3_knock (Cond.code yX3_knock cX3_knock 1 (Option.some .int) :: e_TB) (0) (0) [.ref x] w n (fun r w' n' => r = some (.int (eI (kn + 1))) ∧ n' = n ∧ CW w' x wh (kn + 1) (D) ∧ FR w w' x) (e_px0) := by
  refine e_ofV rfl (Nat.le_of_ble_eq_true rfl) ?_
  intro P9 E9 S9 M9 A9 B9 T9 C9 F hnm
  have hC0 := hC
  have hDA := hC.2.2.2.2.1
  obtain ⟨hX, hF, hwh, ⟨P0, hQ⟩, ⟨ga, hga, hgj⟩, hDs, s0, hS⟩ := hC
  have hp := pr_rg wh hwh
  have ho9 := ho_rg wh hwh
  have hg9 := gr_rg wh hwh
  have hf9 := fl_rg wh hwh
  refine e_aload_n F dX3_knock_0 rfl ?_
  refine e_dup F dX3_knock_1 rfl ?_
  refine e_get (ci := 3) (fi := 4) (q := (RX3, TX3, 5)) F hX rfl (by decide) w_fl_RX3_34 (by rfl) dX3_knock_2 ?_
  refine e_iconst F dX3_knock_5 ?_
  refine e_iadd F dX3_knock_6 ?_
  refine e_set (host := "") (ci := 3) (fi := 4) (q := (RX3, TX3, 5)) F hX rfl (by decide) w_fl_RX3_34 rfl (by rfl) (by rfl) (Nat.le_of_ble_eq_true rfl) dX3_knock_7 ?_
  refine e_aload_n F dX3_knock_10 rfl ?_
  refine e_get (ci := 3) (fi := 4) (q := (RX3, TX3, 5)) F e_up_s rfl (by decide) w_fl_RX3_34 (by rfl) dX3_knock_11 ?_
  refine e_iret F rfl (by omega) ?_ dX3_knock_14
  have f : ∀ (c : e_C) q, q ≠ x → e_up w x c q = w q := fun c q hq => e_up_n hq
  refine ⟨rfl, rfl, ⟨e_up_s, by rw [f _ _ (by omega)]; exact hF, hwh, ⟨P0, hQ.fr (f _ _ (by omega)) (f _ _ (by omega)) (f _ _ (by omega))⟩, ⟨ga, by rw [f _ _ (by omega)]; exact hga, hgj⟩, fun j hj => ⟨(hDs j hj).1.fr (f _ _ (by omega)) (f _ _ (by omega)) (f _ _ (by omega)), (hDs j hj).2⟩, s0, hS.fr (f _ _ (by omega)) (f _ _ (by omega)) (f _ _ (by omega))⟩, fun q hq => f _ q (by omega)⟩
set_option maxHeartbeats 4000000 in
set_option maxRecDepth 100000 in
theorem c_X3_weight {K : e_K} {l : Launch} {w : e_W} {n : Nat} {x wh : Nat} {kn : Int} {D : Nat → SD} (hC : CW w x wh kn D) {a : Int} (ha : e_r a) {h : Int} (hh : e_r h) {c : Int} (hc : e_r c) : e_Met K l yX3_weight (Cond.code yX3_weight cX3_weight 4 (Option.some .int) :: e_TB) (7) (2) [.ref x, .int (eI a), .int (eI h), .int (eI c)] w n (fun r w' n' => ((1 ≤ h ∧ h ≤ ho wh) ∧ (1 ≤ a ∧ a ≤ fl wh)) ∧ r = some (.int (eI (if hs a h then wgt wh a h c else -9))) ∧ n' = n ∧ CW w' x wh (kn) (D) ∧ FR w w' x) (pxd w (¬ (1 ≤ h ∧ h ≤ ho wh)) ((1 ≤ h ∧ h ≤ ho wh) ∧ ¬ (1 ≤ a ∧ a ≤ fl wh))) := by
  refine e_ofV rfl (Nat.le_of_ble_eq_true rfl) ?_
  intro P9 E9 S9 M9 A9 B9 T9 C9 F hnm
  have hC0 := hC
  have hDA := hC.2.2.2.2.1
  obtain ⟨hX, hF, hwh, ⟨P0, hQ⟩, ⟨ga, hga, hgj⟩, hDs, s0, hS⟩ := hC
  have hp := pr_rg wh hwh
  have ho9 := ho_rg wh hwh
  have hg9 := gr_rg wh hwh
  have hf9 := fl_rg wh hwh
  refine e_aload_n F dX3_weight_0 rfl ?_
  refine e_iload_n F dX3_weight_1 rfl ?_
  refine e_callVV F u_X3_requireHolder (by rfl) (c_X3_requireHolder hX hF hwh (h := h) hh) hX rfl rfl w_ml_RX3_77 dX3_weight_2 (by rfl) (Nat.le_of_ble_eq_true rfl) (by decide) (by omega) (fun E w2 n2 h _ => ⟨Or.inl ⟨h.1, by have q := h.2.1; omega⟩, h.2.2⟩) (fun r_2 w_2 n_2 h_2 hn_2 => ?_)
  obtain ⟨hrh, rfl, ew_2, en_2⟩ := h_2
  rw [ew_2, en_2]
  refine e_aload_n F dX3_weight_5 rfl ?_
  refine e_iload_n F dX3_weight_6 rfl ?_
  refine e_callVV F u_X3_requireSet (by rfl) (c_X3_requireSet hX hF hwh (s9 := a) ha) hX rfl rfl w_ml_RX3_80 dX3_weight_7 (by rfl) (Nat.le_of_ble_eq_true rfl) (by decide) (by omega) (fun E w2 n2 h _ => ⟨Or.inr ⟨h.1, by have q := h.2.1; omega⟩, h.2.2⟩) (fun r_7 w_7 n_7 h_7 hn_7 => ?_)
  obtain ⟨hrs, rfl, ew_7, en_7⟩ := h_7
  rw [ew_7, en_7]
  refine e_iload_n F dX3_weight_10 rfl ?_
  refine e_iload_n F dX3_weight_11 rfl ?_
  refine e_callSS F u_X3_isIn (by rfl) (c_X3_isIn (set := a) (h := h) (by omega) (by omega) (by omega) (by omega)) w_ml_RX3_83 dX3_weight_12 (by rfl) (Nat.le_of_ble_eq_true rfl) (by decide) (by omega) (fun _ _ _ h _ => False.elim h) (fun r_12 w_12 n_12 h_12 hn_12 => ?_)
  obtain ⟨rfl, ew_12, en_12⟩ := h_12
  rw [ew_12, en_12]
  refine e_if_eq F 31 dX3_weight_15 (by decide) (b01_r _) (fun c_15 => ?_) (fun c_15 => ?_)
  ·
    rw [b01_0] at c_15
    refine e_bipush F dX3_weight_31 (by decide) ?_
    refine e_iret F rfl (by omega) ?_ dX3_weight_33
    refine ⟨⟨hrh, hrs⟩, ?_, rfl, hC0, FR.rf⟩
    first | rw [if_neg c_15] | rw [if_pos c_15]
  ·
    rw [b01_0, Classical.not_not] at c_15
    refine e_aload_n F dX3_weight_18 rfl ?_
    refine e_get (ci := 3) (fi := 0) (q := (RX3, TX3, 5)) F (by first | assumption | exact e_up_s | (rw [e_up_n (by first | assumption | omega)]; first | assumption | exact e_up_s | (rw [e_up_n (by first | assumption | omega)]; first | assumption | exact e_up_s | (rw [e_up_n (by first | assumption | omega)]; first | assumption | exact e_up_s))) | exact hD.1 | exact hD1.1 | exact hD2.1 | exact gD.1 | exact gD1.1 | exact gD2.1 | exact gQ.1 | exact hQ.1 | exact gS.1 | exact hS.1 | exact zD.1) rfl (by decide) w_fl_RX3_10 (by rfl) dX3_weight_19 ?_
    refine e_iload_n F dX3_weight_22 rfl ?_
    refine e_iload_n F dX3_weight_23 rfl ?_
    refine e_iload_n F dX3_weight_24 rfl ?_
    refine e_callVN F u_X1_weightAt (by rfl) (c_X1_weightAt hF hwh (set := a) (h := h) (x := c) (by omega) (by omega) (by omega) (by omega) hc) (by first | assumption | exact e_up_s | (rw [e_up_n (by first | assumption | omega)]; first | assumption | exact e_up_s | (rw [e_up_n (by first | assumption | omega)]; first | assumption | exact e_up_s | (rw [e_up_n (by first | assumption | omega)]; first | assumption | exact e_up_s))) | exact hD.1 | exact hD1.1 | exact hD2.1 | exact gD.1 | exact gD1.1 | exact gD2.1 | exact gQ.1 | exact hQ.1 | exact gS.1 | exact hS.1 | exact zD.1) rfl rfl w_mn_RX3_87 dX3_weight_25 (by rfl) (Nat.le_of_ble_eq_true rfl) (by decide) (by omega) (fun _ _ _ h _ => False.elim h) (fun r_25 w_25 n_25 h_25 hn_25 => ?_)
    obtain ⟨rfl, ew_25, en_25⟩ := h_25
    rw [ew_25, en_25]
    refine e_goto F 33 dX3_weight_28 (by decide) ?_
    refine e_iret F rfl (by omega) ?_ dX3_weight_33
    refine ⟨⟨hrh, hrs⟩, ?_, rfl, hC0, FR.rf⟩
    first | rw [if_neg c_15] | rw [if_pos c_15]
set_option maxHeartbeats 4000000 in
set_option maxRecDepth 100000 in
theorem c_X3_weights {K : e_K} {l : Launch} {w : e_W} {n : Nat} {x wh : Nat} {kn : Int} {D : Nat → SD} (hC : CW w x wh kn D) {a : Int} (ha : e_r a) {c : Int} (hc : e_r c) : e_Met K l yX3_weights (Cond.code yX3_weights cX3_weights 3 (Option.some .int) :: e_TB) (7) (1) [.ref x, .int (eI a), .int (eI c)] w n (fun r w' n' => (1 ≤ a ∧ a ≤ fl wh) ∧ r = some (.int (eI (tl wh a (fun _ => 1) c))) ∧ n' = n ∧ CW w' x wh (kn) (D) ∧ FR w w' x) (pxd w False (¬ (1 ≤ a ∧ a ≤ fl wh))) := by
  refine e_ofV rfl (Nat.le_of_ble_eq_true rfl) ?_
  intro P9 E9 S9 M9 A9 B9 T9 C9 F hnm
  have hC0 := hC
  have hDA := hC.2.2.2.2.1
  obtain ⟨hX, hF, hwh, ⟨P0, hQ⟩, ⟨ga, hga, hgj⟩, hDs, s0, hS⟩ := hC
  have hp := pr_rg wh hwh
  have ho9 := ho_rg wh hwh
  have hg9 := gr_rg wh hwh
  have hf9 := fl_rg wh hwh
  refine e_aload_n F dX3_weights_0 rfl ?_
  refine e_iload_n F dX3_weights_1 rfl ?_
  refine e_callVV F u_X3_requireSet (by rfl) (c_X3_requireSet hX hF hwh (s9 := a) ha) hX rfl rfl w_ml_RX3_80 dX3_weights_2 (by rfl) (Nat.le_of_ble_eq_true rfl) (by decide) (by omega) (fun E w2 n2 h _ => ⟨Or.inr ⟨h.1, by have q := h.2.1; omega⟩, h.2.2⟩) (fun r_2 w_2 n_2 h_2 hn_2 => ?_)
  obtain ⟨hrs, rfl, ew_2, en_2⟩ := h_2
  rw [ew_2, en_2]
  refine e_aload_n F dX3_weights_5 rfl ?_
  refine e_iload_n F dX3_weights_6 rfl ?_
  refine e_iload_n F dX3_weights_7 rfl ?_
  refine e_callVV F u_X3_weightSum (by rfl) (c_X3_weightSum hX hF hwh (set := a) (pl := c) (by omega) (by omega) hc) hX rfl rfl w_ml_RX3_91 dX3_weights_8 (by rfl) (Nat.le_of_ble_eq_true rfl) (by decide) (by omega) (fun _ _ _ h _ => False.elim h) (fun r_8 w_8 n_8 h_8 hn_8 => ?_)
  obtain ⟨rfl, ew_8, en_8⟩ := h_8
  rw [ew_8, en_8]
  refine e_iret F rfl (by omega) ?_ dX3_weights_11
  exact ⟨hrs, rfl, rfl, hC0, FR.rf⟩
set_option maxHeartbeats 4000000 in
set_option maxRecDepth 100000 in
theorem c_X3_share {K : e_K} {l : Launch} {w : e_W} {n : Nat} {x wh : Nat} {kn : Int} {D : Nat → SD} (hC : CW w x wh kn D) {i : Int} (hi : e_r i) {h : Int} (hh : e_r h) : e_Met K l yX3_share (Cond.code yX3_share cX3_share 4 (Option.some .int) :: e_TB) (7) (2) [.ref x, .int (eI i), .int (eI h)] w n (fun r w' n' => ((0 ≤ i ∧ i < 6) ∧ (1 ≤ h ∧ h ≤ ho wh)) ∧ r = some (.int (eI ((D i.toNat).A h))) ∧ n' = n ∧ CW w' x wh (kn) (D) ∧ FR w w' x) (pxd w (¬ ((0 ≤ i ∧ i < 6) ∧ (1 ≤ h ∧ h ≤ ho wh))) False) := by
  refine e_ofV rfl (Nat.le_of_ble_eq_true rfl) ?_
  intro P9 E9 S9 M9 A9 B9 T9 C9 F hnm
  have hC0 := hC
  have hDA := hC.2.2.2.2.1
  obtain ⟨hX, hF, hwh, ⟨P0, hQ⟩, ⟨ga, hga, hgj⟩, hDs, s0, hS⟩ := hC
  have hp := pr_rg wh hwh
  have ho9 := ho_rg wh hwh
  have hg9 := gr_rg wh hwh
  have hf9 := fl_rg wh hwh
  refine e_aload_n F dX3_share_0 rfl ?_
  refine e_iload_n F dX3_share_1 rfl ?_
  refine e_callVV F u_X3_dealAt (by rfl) (c_X3_dealAt hX hDA (i := i) hi) hX rfl rfl w_ml_RX3_94 dX3_share_2 (by rfl) (Nat.le_of_ble_eq_true rfl) (by decide) (by omega) (fun E w2 n2 h _ => ⟨Or.inl ⟨h.1, by have q := h.2.1; omega⟩, h.2.2⟩) (fun r_2 w_2 n_2 h_2 hn_2 => ?_)
  obtain ⟨hi1, rfl, ew_2, en_2⟩ := h_2
  rw [ew_2, en_2]
  obtain ⟨hD1, hW1⟩ := hDs i.toNat (by omega)
  refine e_astore_n F dX3_share_5 (by decide) ?_
  refine e_aload_n F dX3_share_6 rfl ?_
  refine e_iload_n F dX3_share_7 rfl ?_
  refine e_callVV F u_X3_requireHolder (by rfl) (c_X3_requireHolder hX hF hwh (h := h) hh) hX rfl rfl w_ml_RX3_77 dX3_share_8 (by rfl) (Nat.le_of_ble_eq_true rfl) (by decide) (by omega) (fun E w2 n2 h _ => ⟨Or.inl ⟨h.1, by have q := h.2.1; omega⟩, h.2.2⟩) (fun r_8 w_8 n_8 h_8 hn_8 => ?_)
  obtain ⟨hrh, rfl, ew_8, en_8⟩ := h_8
  rw [ew_8, en_8]
  refine e_aload_n F dX3_share_11 rfl ?_
  refine e_iload_n F dX3_share_12 rfl ?_
  refine e_callVN F u_X0_shareAt (by rfl) (c_X0_shareAt hD1 (h := h) (by omega) (by omega)) (by first | assumption | exact e_up_s | (rw [e_up_n (by first | assumption | omega)]; first | assumption | exact e_up_s | (rw [e_up_n (by first | assumption | omega)]; first | assumption | exact e_up_s | (rw [e_up_n (by first | assumption | omega)]; first | assumption | exact e_up_s))) | exact hD.1 | exact hD1.1 | exact hD2.1 | exact gD.1 | exact gD1.1 | exact gD2.1 | exact gQ.1 | exact hQ.1 | exact gS.1 | exact hS.1 | exact zD.1) rfl rfl w_mn_RX3_123 dX3_share_13 (by rfl) (Nat.le_of_ble_eq_true rfl) (by decide) (by omega) (fun _ _ _ h _ => False.elim h) (fun r_13 w_13 n_13 h_13 hn_13 => ?_)
  obtain ⟨rfl, ew_13, en_13⟩ := h_13
  rw [ew_13, en_13]
  refine e_iret F rfl (by omega) ?_ dX3_share_16
  exact ⟨⟨hi1, hrh⟩, rfl, rfl, hC0, FR.rf⟩
set_option maxHeartbeats 4000000 in
set_option maxRecDepth 100000 in
theorem c_X3_told {K : e_K} {l : Launch} {w : e_W} {n : Nat} {x wh : Nat} {kn : Int} {D : Nat → SD} (hC : CW w x wh kn D) {i : Int} (hi : e_r i) {a : Int} (ha : e_r a) {c : Int} (hc : e_r c) : e_Met K l yX3_told (Cond.code yX3_told cX3_told 5 (Option.some .int) :: e_TB) (7) (2) [.ref x, .int (eI i), .int (eI a), .int (eI c)] w n (fun r w' n' => ((0 ≤ i ∧ i < 6) ∧ (1 ≤ a ∧ a ≤ fl wh)) ∧ r = some (.int (eI (if (D i.toNat).fl = 1 ∧ thr (D i.toNat).A a then tl wh a (D i.toNat).A c else -9))) ∧ n' = n ∧ CW w' x wh (kn) (D) ∧ FR w w' x) (pxd w (¬ (0 ≤ i ∧ i < 6)) ((0 ≤ i ∧ i < 6) ∧ ¬ (1 ≤ a ∧ a ≤ fl wh))) := by
  refine e_ofV rfl (Nat.le_of_ble_eq_true rfl) ?_
  intro P9 E9 S9 M9 A9 B9 T9 C9 F hnm
  have hC0 := hC
  have hDA := hC.2.2.2.2.1
  obtain ⟨hX, hF, hwh, ⟨P0, hQ⟩, ⟨ga, hga, hgj⟩, hDs, s0, hS⟩ := hC
  have hp := pr_rg wh hwh
  have ho9 := ho_rg wh hwh
  have hg9 := gr_rg wh hwh
  have hf9 := fl_rg wh hwh
  refine e_aload_n F dX3_told_0 rfl ?_
  refine e_iload_n F dX3_told_1 rfl ?_
  refine e_callVV F u_X3_dealAt (by rfl) (c_X3_dealAt hX hDA (i := i) hi) hX rfl rfl w_ml_RX3_94 dX3_told_2 (by rfl) (Nat.le_of_ble_eq_true rfl) (by decide) (by omega) (fun E w2 n2 h _ => ⟨Or.inl ⟨h.1, by have q := h.2.1; omega⟩, h.2.2⟩) (fun r_2 w_2 n_2 h_2 hn_2 => ?_)
  obtain ⟨hi1, rfl, ew_2, en_2⟩ := h_2
  rw [ew_2, en_2]
  obtain ⟨hD1, hW1⟩ := hDs i.toNat (by omega)
  refine e_astore F dX3_told_5 (by decide) ?_
  refine e_aload_n F dX3_told_7 rfl ?_
  refine e_iload_n F dX3_told_8 rfl ?_
  refine e_callVV F u_X3_requireSet (by rfl) (c_X3_requireSet hX hF hwh (s9 := a) ha) hX rfl rfl w_ml_RX3_80 dX3_told_9 (by rfl) (Nat.le_of_ble_eq_true rfl) (by decide) (by omega) (fun E w2 n2 h _ => ⟨Or.inr ⟨h.1, by have q := h.2.1; omega⟩, h.2.2⟩) (fun r_9 w_9 n_9 h_9 hn_9 => ?_)
  obtain ⟨hrs, rfl, ew_9, en_9⟩ := h_9
  rw [ew_9, en_9]
  refine e_aload F dX3_told_12 rfl ?_
  refine e_iload_n F dX3_told_14 rfl ?_
  refine e_callVN F u_X0_isThere (by rfl) (c_X0_isThere hD1 (set := a) (by omega) (by omega)) (by first | assumption | exact e_up_s | (rw [e_up_n (by first | assumption | omega)]; first | assumption | exact e_up_s | (rw [e_up_n (by first | assumption | omega)]; first | assumption | exact e_up_s | (rw [e_up_n (by first | assumption | omega)]; first | assumption | exact e_up_s))) | exact hD.1 | exact hD1.1 | exact hD2.1 | exact gD.1 | exact gD1.1 | exact gD2.1 | exact gQ.1 | exact hQ.1 | exact gS.1 | exact hS.1 | exact zD.1) rfl rfl w_mn_RX3_207 dX3_told_15 (by rfl) (Nat.le_of_ble_eq_true rfl) (by decide) (by omega) (fun _ _ _ h _ => False.elim h) (fun r_15 w_15 n_15 h_15 hn_15 => ?_)
  obtain ⟨rfl, ew_15, en_15⟩ := h_15
  rw [ew_15, en_15]
  refine e_if_eq F 32 dX3_told_18 (by decide) (b01_r _) (fun c_18 => ?_) (fun c_18 => ?_)
  ·
    rw [b01_0] at c_18
    refine e_bipush F dX3_told_32 (by decide) ?_
    refine e_iret F rfl (by omega) ?_ dX3_told_34
    refine ⟨⟨hi1, hrs⟩, ?_, rfl, hC0, FR.rf⟩
    first | rw [if_neg c_18] | rw [if_pos c_18]
  ·
    rw [b01_0, Classical.not_not] at c_18
    refine e_aload_n F dX3_told_21 rfl ?_
    refine e_aload F dX3_told_22 rfl ?_
    refine e_iload_n F dX3_told_24 rfl ?_
    refine e_iload_n F dX3_told_25 rfl ?_
    refine e_callVV F u_X3_tell (by rfl) (c_X3_tell hX hF hwh hD1 (set := a) (pl := c) (by omega) (by omega) hc) hX rfl rfl w_ml_RX3_178 dX3_told_26 (by rfl) (Nat.le_of_ble_eq_true rfl) (by decide) (by omega) (fun _ _ _ h _ => False.elim h) (fun r_26 w_26 n_26 h_26 hn_26 => ?_)
    obtain ⟨rfl, ew_26, en_26⟩ := h_26
    rw [ew_26, en_26]
    refine e_goto F 34 dX3_told_29 (by decide) ?_
    refine e_iret F rfl (by omega) ?_ dX3_told_34
    refine ⟨⟨hi1, hrs⟩, ?_, rfl, hC0, FR.rf⟩
    first | rw [if_neg c_18] | rw [if_pos c_18]
set_option maxHeartbeats 4000000 in
set_option maxRecDepth 100000 in
theorem c_X3_open {K : e_K} {l : Launch} {w : e_W} {n : Nat} {x wh : Nat} {kn : Int} {D : Nat → SD} (hC : CW w x wh kn D) {i : Int} (hi : e_r i) {a : Int} (ha : e_r a) : e_Met K l yX3_open (Cond.code yX3_open cX3_open 4 (Option.some .int) :: e_TB) (7) (2) [.ref x, .int (eI i), .int (eI a)] w n (fun r w' n' => ((0 ≤ i ∧ i < 6) ∧ (1 ≤ a ∧ a ≤ fl wh)) ∧ r = some (.int (eI (if ((D i.toNat).fl = 1 ∧ thr (D i.toNat).A a) ∧ (D i.toNat).dg < bc a then tl wh a (D i.toNat).A 0 else -9))) ∧ n' = n ∧ CW w' x wh (kn) (D) ∧ FR w w' x) (pxd w (¬ (0 ≤ i ∧ i < 6)) ((0 ≤ i ∧ i < 6) ∧ ¬ (1 ≤ a ∧ a ≤ fl wh))) := by
  refine e_ofV rfl (Nat.le_of_ble_eq_true rfl) ?_
  intro P9 E9 S9 M9 A9 B9 T9 C9 F hnm
  have hC0 := hC
  have hDA := hC.2.2.2.2.1
  obtain ⟨hX, hF, hwh, ⟨P0, hQ⟩, ⟨ga, hga, hgj⟩, hDs, s0, hS⟩ := hC
  have hp := pr_rg wh hwh
  have ho9 := ho_rg wh hwh
  have hg9 := gr_rg wh hwh
  have hf9 := fl_rg wh hwh
  refine e_aload_n F dX3_open_0 rfl ?_
  refine e_iload_n F dX3_open_1 rfl ?_
  refine e_callVV F u_X3_dealAt (by rfl) (c_X3_dealAt hX hDA (i := i) hi) hX rfl rfl w_ml_RX3_94 dX3_open_2 (by rfl) (Nat.le_of_ble_eq_true rfl) (by decide) (by omega) (fun E w2 n2 h _ => ⟨Or.inl ⟨h.1, by have q := h.2.1; omega⟩, h.2.2⟩) (fun r_2 w_2 n_2 h_2 hn_2 => ?_)
  obtain ⟨hi1, rfl, ew_2, en_2⟩ := h_2
  rw [ew_2, en_2]
  obtain ⟨hD1, hW1⟩ := hDs i.toNat (by omega)
  refine e_astore_n F dX3_open_5 (by decide) ?_
  refine e_aload_n F dX3_open_6 rfl ?_
  refine e_iload_n F dX3_open_7 rfl ?_
  refine e_callVV F u_X3_requireSet (by rfl) (c_X3_requireSet hX hF hwh (s9 := a) ha) hX rfl rfl w_ml_RX3_80 dX3_open_8 (by rfl) (Nat.le_of_ble_eq_true rfl) (by decide) (by omega) (fun E w2 n2 h _ => ⟨Or.inr ⟨h.1, by have q := h.2.1; omega⟩, h.2.2⟩) (fun r_8 w_8 n_8 h_8 hn_8 => ?_)
  obtain ⟨hrs, rfl, ew_8, en_8⟩ := h_8
  rw [ew_8, en_8]
  refine e_aload_n F dX3_open_11 rfl ?_
  refine e_iload_n F dX3_open_12 rfl ?_
  refine e_callVN F u_X0_isEnough (by rfl) (c_X0_isEnough hD1 (set := a) (by omega) (by omega)) (by first | assumption | exact e_up_s | (rw [e_up_n (by first | assumption | omega)]; first | assumption | exact e_up_s | (rw [e_up_n (by first | assumption | omega)]; first | assumption | exact e_up_s | (rw [e_up_n (by first | assumption | omega)]; first | assumption | exact e_up_s))) | exact hD.1 | exact hD1.1 | exact hD2.1 | exact gD.1 | exact gD1.1 | exact gD2.1 | exact gQ.1 | exact hQ.1 | exact gS.1 | exact hS.1 | exact zD.1) rfl rfl w_mn_RX3_170 dX3_open_13 (by rfl) (Nat.le_of_ble_eq_true rfl) (by decide) (by omega) (fun _ _ _ h _ => False.elim h) (fun r_13 w_13 n_13 h_13 hn_13 => ?_)
  obtain ⟨rfl, ew_13, en_13⟩ := h_13
  rw [ew_13, en_13]
  refine e_if_eq F 29 dX3_open_16 (by decide) (b01_r _) (fun c_16 => ?_) (fun c_16 => ?_)
  ·
    rw [b01_0] at c_16
    refine e_bipush F dX3_open_29 (by decide) ?_
    refine e_iret F rfl (by omega) ?_ dX3_open_31
    refine ⟨⟨hi1, hrs⟩, ?_, rfl, hC0, FR.rf⟩
    first | rw [if_neg c_16] | rw [if_pos c_16]
  ·
    rw [b01_0, Classical.not_not] at c_16
    refine e_aload_n F dX3_open_19 rfl ?_
    refine e_aload_n F dX3_open_20 rfl ?_
    refine e_iload_n F dX3_open_21 rfl ?_
    refine e_iconst F dX3_open_22 ?_
    refine e_callVV F u_X3_tell (by rfl) (c_X3_tell hX hF hwh hD1 (set := a) (pl := 0) (by omega) (by omega) (by decide)) hX rfl rfl w_ml_RX3_178 dX3_open_23 (by rfl) (Nat.le_of_ble_eq_true rfl) (by decide) (by omega) (fun _ _ _ h _ => False.elim h) (fun r_23 w_23 n_23 h_23 hn_23 => ?_)
    obtain ⟨rfl, ew_23, en_23⟩ := h_23
    rw [ew_23, en_23]
    refine e_goto F 31 dX3_open_26 (by decide) ?_
    refine e_iret F rfl (by omega) ?_ dX3_open_31
    refine ⟨⟨hi1, hrs⟩, ?_, rfl, hC0, FR.rf⟩
    first | rw [if_neg c_16] | rw [if_pos c_16]
set_option maxHeartbeats 4000000 in
set_option maxRecDepth 100000 in
theorem c_X3_coefficient {K : e_K} {l : Launch} {w : e_W} {n : Nat} {x wh : Nat} {kn : Int} {D : Nat → SD} (hC : CW w x wh kn D) {i : Int} (hi : e_r i) {a : Int} (ha : e_r a) {c : Int} (hc : e_r c) : e_Met K l yX3_coefficient (Cond.code yX3_coefficient cX3_coefficient 5 (Option.some .int) :: e_TB) (7) (3) [.ref x, .int (eI i), .int (eI a), .int (eI c)] w n (fun r w' n' => ((0 ≤ i ∧ i < 6) ∧ (1 ≤ a ∧ a ≤ fl wh) ∧ (0 ≤ c ∧ c ≤ 6)) ∧ r = some (.int (eI (if (D i.toNat).fl = 1 ∧ thr (D i.toNat).A a then gt wh a (D i.toNat).A (ho wh).toNat c else -9))) ∧ n' = n ∧ CW w' x wh (kn) (D) ∧ FR w w' x) (pxd w (¬ (0 ≤ i ∧ i < 6)) ((0 ≤ i ∧ i < 6) ∧ ¬ ((1 ≤ a ∧ a ≤ fl wh) ∧ (0 ≤ c ∧ c ≤ 6)))) := by
  refine e_ofV rfl (Nat.le_of_ble_eq_true rfl) ?_
  intro P9 E9 S9 M9 A9 B9 T9 C9 F hnm
  have hC0 := hC
  have hDA := hC.2.2.2.2.1
  obtain ⟨hX, hF, hwh, ⟨P0, hQ⟩, ⟨ga, hga, hgj⟩, hDs, s0, hS⟩ := hC
  have hp := pr_rg wh hwh
  have ho9 := ho_rg wh hwh
  have hg9 := gr_rg wh hwh
  have hf9 := fl_rg wh hwh
  refine e_aload_n F dX3_coefficient_0 rfl ?_
  refine e_iload_n F dX3_coefficient_1 rfl ?_
  refine e_callVV F u_X3_dealAt (by rfl) (c_X3_dealAt hX hDA (i := i) hi) hX rfl rfl w_ml_RX3_94 dX3_coefficient_2 (by rfl) (Nat.le_of_ble_eq_true rfl) (by decide) (by omega) (fun E w2 n2 h _ => ⟨Or.inl ⟨h.1, by have q := h.2.1; omega⟩, h.2.2⟩) (fun r_2 w_2 n_2 h_2 hn_2 => ?_)
  obtain ⟨hi1, rfl, ew_2, en_2⟩ := h_2
  rw [ew_2, en_2]
  obtain ⟨hD1, hW1⟩ := hDs i.toNat (by omega)
  refine e_astore F dX3_coefficient_5 (by decide) ?_
  refine e_aload_n F dX3_coefficient_7 rfl ?_
  refine e_iload_n F dX3_coefficient_8 rfl ?_
  refine e_callVV F u_X3_requireSet (by rfl) (c_X3_requireSet hX hF hwh (s9 := a) ha) hX rfl rfl w_ml_RX3_80 dX3_coefficient_9 (by rfl) (Nat.le_of_ble_eq_true rfl) (by decide) (by omega) (fun E w2 n2 h _ => ⟨Or.inr ⟨h.1, by have q := h.2.1; omega⟩, h.2.2⟩) (fun r_9 w_9 n_9 h_9 hn_9 => ?_)
  obtain ⟨hrs, rfl, ew_9, en_9⟩ := h_9
  rw [ew_9, en_9]
  refine e_iload_n F dX3_coefficient_12 rfl ?_
  refine e_callSS F u_X3_requireCoefficient (by rfl) (c_X3_requireCoefficient (g := c) hc) w_ml_RX3_210 dX3_coefficient_13 (by rfl) (Nat.le_of_ble_eq_true rfl) (by decide) (by omega) (fun E w2 n2 h _ => ⟨Or.inr ⟨h.1, by have q := h.2.1; omega⟩, h.2.2⟩) (fun r_13 w_13 n_13 h_13 hn_13 => ?_)
  obtain ⟨hrk, rfl, ew_13, en_13⟩ := h_13
  rw [ew_13, en_13]
  refine e_aload F dX3_coefficient_16 rfl ?_
  refine e_iload_n F dX3_coefficient_18 rfl ?_
  refine e_callVN F u_X0_isThere (by rfl) (c_X0_isThere hD1 (set := a) (by omega) (by omega)) (by first | assumption | exact e_up_s | (rw [e_up_n (by first | assumption | omega)]; first | assumption | exact e_up_s | (rw [e_up_n (by first | assumption | omega)]; first | assumption | exact e_up_s | (rw [e_up_n (by first | assumption | omega)]; first | assumption | exact e_up_s))) | exact hD.1 | exact hD1.1 | exact hD2.1 | exact gD.1 | exact gD1.1 | exact gD2.1 | exact gQ.1 | exact hQ.1 | exact gS.1 | exact hS.1 | exact zD.1) rfl rfl w_mn_RX3_207 dX3_coefficient_19 (by rfl) (Nat.le_of_ble_eq_true rfl) (by decide) (by omega) (fun _ _ _ h _ => False.elim h) (fun r_19 w_19 n_19 h_19 hn_19 => ?_)
  obtain ⟨rfl, ew_19, en_19⟩ := h_19
  rw [ew_19, en_19]
  refine e_if_ne F 28 dX3_coefficient_22 (by decide) (b01_r _) (fun c_22 => ?_) (fun c_22 => ?_)
  ·
    rw [ne_eq, b01_0, Classical.not_not] at c_22
    refine e_aload_n F dX3_coefficient_28 rfl ?_
    refine e_get (ci := 3) (fi := 1) (q := (RX3, TX3, 5)) F (by first | assumption | exact e_up_s | (rw [e_up_n (by first | assumption | omega)]; first | assumption | exact e_up_s | (rw [e_up_n (by first | assumption | omega)]; first | assumption | exact e_up_s | (rw [e_up_n (by first | assumption | omega)]; first | assumption | exact e_up_s))) | exact hD.1 | exact hD1.1 | exact hD2.1 | exact gD.1 | exact gD1.1 | exact gD2.1 | exact gQ.1 | exact hQ.1 | exact gS.1 | exact hS.1 | exact zD.1) rfl (by decide) w_fl_RX3_19 (by rfl) dX3_coefficient_29 ?_
    refine e_aload_n F dX3_coefficient_32 rfl ?_
    refine e_get (ci := 3) (fi := 0) (q := (RX3, TX3, 5)) F (by first | assumption | exact e_up_s | (rw [e_up_n (by first | assumption | omega)]; first | assumption | exact e_up_s | (rw [e_up_n (by first | assumption | omega)]; first | assumption | exact e_up_s | (rw [e_up_n (by first | assumption | omega)]; first | assumption | exact e_up_s))) | exact hD.1 | exact hD1.1 | exact hD2.1 | exact gD.1 | exact gD1.1 | exact gD2.1 | exact gQ.1 | exact hQ.1 | exact gS.1 | exact hS.1 | exact zD.1) rfl (by decide) w_fl_RX3_10 (by rfl) dX3_coefficient_33 ?_
    refine e_aload F dX3_coefficient_36 rfl ?_
    refine e_iload_n F dX3_coefficient_38 rfl ?_
    refine e_callVN F u_X2_goThrough (by rfl) (c_X2_goThrough hQ hF hwh hD1 (set := a) (by omega) (by omega)) (by first | assumption | exact e_up_s | (rw [e_up_n (by first | assumption | omega)]; first | assumption | exact e_up_s | (rw [e_up_n (by first | assumption | omega)]; first | assumption | exact e_up_s | (rw [e_up_n (by first | assumption | omega)]; first | assumption | exact e_up_s))) | exact hD.1 | exact hD1.1 | exact hD2.1 | exact gD.1 | exact gD1.1 | exact gD2.1 | exact gQ.1 | exact hQ.1 | exact gS.1 | exact hS.1 | exact zD.1) rfl rfl w_mn_RX3_213 dX3_coefficient_39 (by rfl) (Nat.le_of_ble_eq_true rfl) (by decide) (by omega) (fun _ _ _ h _ => False.elim h) (fun r_39 w_39 n_39 h_39 hn_39 => ?_)
    obtain ⟨rfl, en_39, gQ, gF⟩ := h_39
    rw [en_39]
    have gX : w_39 x = some (SO x kn) := by rw [gF x (by omega) (by omega)]; exact hX
    have hres := hC0.px ⟨⟨_, gQ⟩, gF⟩
    refine e_aload_n F dX3_coefficient_42 rfl ?_
    refine e_get (ci := 3) (fi := 1) (q := (RX3, TX3, 5)) F (by first | assumption | exact e_up_s | (rw [e_up_n (by first | assumption | omega)]; first | assumption | exact e_up_s | (rw [e_up_n (by first | assumption | omega)]; first | assumption | exact e_up_s | (rw [e_up_n (by first | assumption | omega)]; first | assumption | exact e_up_s))) | exact hD.1 | exact hD1.1 | exact hD2.1 | exact gD.1 | exact gD1.1 | exact gD2.1 | exact gQ.1 | exact hQ.1 | exact gS.1 | exact hS.1 | exact zD.1) rfl (by decide) w_fl_RX3_19 (by rfl) dX3_coefficient_43 ?_
    refine e_iload_n F dX3_coefficient_46 rfl ?_
    refine e_callVN F u_X2_at (by rfl) (c_X2_at gQ (h := c) hc) (by first | assumption | exact e_up_s | (rw [e_up_n (by first | assumption | omega)]; first | assumption | exact e_up_s | (rw [e_up_n (by first | assumption | omega)]; first | assumption | exact e_up_s | (rw [e_up_n (by first | assumption | omega)]; first | assumption | exact e_up_s))) | exact hD.1 | exact hD1.1 | exact hD2.1 | exact gD.1 | exact gD1.1 | exact gD2.1 | exact gQ.1 | exact hQ.1 | exact gS.1 | exact hS.1 | exact zD.1) rfl rfl w_mn_RX3_140 dX3_coefficient_47 (by rfl) (Nat.le_of_ble_eq_true rfl) (by decide) (by omega) (fun _ _ _ h _ => False.elim h) (fun r_47 w_47 n_47 h_47 hn_47 => ?_)
    obtain ⟨rfl, ew_47, en_47⟩ := h_47
    rw [ew_47, en_47, if_pos (show 0 ≤ c ∧ c < 7 from ⟨by omega, by omega⟩)]
    refine e_iret F rfl (by omega) ?_ dX3_coefficient_50
    refine ⟨⟨hi1, hrs, hrk⟩, ?_, rfl, hres⟩
    rw [if_pos c_22]
  ·
    rw [b01_0] at c_22
    refine e_bipush F dX3_coefficient_25 (by decide) ?_
    refine e_iret F rfl (by omega) ?_ dX3_coefficient_27
    refine ⟨⟨hi1, hrs, hrk⟩, ?_, rfl, hC0, FR.rf⟩
    rw [if_neg c_22]
set_option maxHeartbeats 4000000 in
set_option maxRecDepth 100000 in
theorem c_X3_degreeBy {K : e_K} {l : Launch} {w : e_W} {n : Nat} {x wh : Nat} {kn : Int} {D : Nat → SD} (hC : CW w x wh kn D) {i : Int} (hi : e_r i) {a : Int} (ha : e_r a) : e_Met K l yX3_degreeBy (Cond.code yX3_degreeBy cX3_degreeBy 4 (Option.some .int) :: e_TB) (7) (2) [.ref x, .int (eI i), .int (eI a)] w n (fun r w' n' => ((0 ≤ i ∧ i < 6) ∧ (1 ≤ a ∧ a ≤ fl wh)) ∧ r = some (.int (eI (if (D i.toNat).fl = 1 ∧ thr (D i.toNat).A a then hiK (gt wh a (D i.toNat).A (ho wh).toNat) 7 else -9))) ∧ n' = n ∧ CW w' x wh (kn) (D) ∧ FR w w' x) (pxd w (¬ (0 ≤ i ∧ i < 6)) ((0 ≤ i ∧ i < 6) ∧ ¬ (1 ≤ a ∧ a ≤ fl wh))) := by
  refine e_ofV rfl (Nat.le_of_ble_eq_true rfl) ?_
  intro P9 E9 S9 M9 A9 B9 T9 C9 F hnm
  have hC0 := hC
  have hDA := hC.2.2.2.2.1
  obtain ⟨hX, hF, hwh, ⟨P0, hQ⟩, ⟨ga, hga, hgj⟩, hDs, s0, hS⟩ := hC
  have hp := pr_rg wh hwh
  have ho9 := ho_rg wh hwh
  have hg9 := gr_rg wh hwh
  have hf9 := fl_rg wh hwh
  refine e_aload_n F dX3_degreeBy_0 rfl ?_
  refine e_iload_n F dX3_degreeBy_1 rfl ?_
  refine e_callVV F u_X3_dealAt (by rfl) (c_X3_dealAt hX hDA (i := i) hi) hX rfl rfl w_ml_RX3_94 dX3_degreeBy_2 (by rfl) (Nat.le_of_ble_eq_true rfl) (by decide) (by omega) (fun E w2 n2 h _ => ⟨Or.inl ⟨h.1, by have q := h.2.1; omega⟩, h.2.2⟩) (fun r_2 w_2 n_2 h_2 hn_2 => ?_)
  obtain ⟨hi1, rfl, ew_2, en_2⟩ := h_2
  rw [ew_2, en_2]
  obtain ⟨hD1, hW1⟩ := hDs i.toNat (by omega)
  refine e_astore_n F dX3_degreeBy_5 (by decide) ?_
  refine e_aload_n F dX3_degreeBy_6 rfl ?_
  refine e_iload_n F dX3_degreeBy_7 rfl ?_
  refine e_callVV F u_X3_requireSet (by rfl) (c_X3_requireSet hX hF hwh (s9 := a) ha) hX rfl rfl w_ml_RX3_80 dX3_degreeBy_8 (by rfl) (Nat.le_of_ble_eq_true rfl) (by decide) (by omega) (fun E w2 n2 h _ => ⟨Or.inr ⟨h.1, by have q := h.2.1; omega⟩, h.2.2⟩) (fun r_8 w_8 n_8 h_8 hn_8 => ?_)
  obtain ⟨hrs, rfl, ew_8, en_8⟩ := h_8
  rw [ew_8, en_8]
  refine e_aload_n F dX3_degreeBy_11 rfl ?_
  refine e_iload_n F dX3_degreeBy_12 rfl ?_
  refine e_callVN F u_X0_isThere (by rfl) (c_X0_isThere hD1 (set := a) (by omega) (by omega)) (by first | assumption | exact e_up_s | (rw [e_up_n (by first | assumption | omega)]; first | assumption | exact e_up_s | (rw [e_up_n (by first | assumption | omega)]; first | assumption | exact e_up_s | (rw [e_up_n (by first | assumption | omega)]; first | assumption | exact e_up_s))) | exact hD.1 | exact hD1.1 | exact hD2.1 | exact gD.1 | exact gD1.1 | exact gD2.1 | exact gQ.1 | exact hQ.1 | exact gS.1 | exact hS.1 | exact zD.1) rfl rfl w_mn_RX3_207 dX3_degreeBy_13 (by rfl) (Nat.le_of_ble_eq_true rfl) (by decide) (by omega) (fun _ _ _ h _ => False.elim h) (fun r_13 w_13 n_13 h_13 hn_13 => ?_)
  obtain ⟨rfl, ew_13, en_13⟩ := h_13
  rw [ew_13, en_13]
  refine e_if_ne F 22 dX3_degreeBy_16 (by decide) (b01_r _) (fun c_16 => ?_) (fun c_16 => ?_)
  ·
    rw [ne_eq, b01_0, Classical.not_not] at c_16
    refine e_aload_n F dX3_degreeBy_22 rfl ?_
    refine e_get (ci := 3) (fi := 1) (q := (RX3, TX3, 5)) F (by first | assumption | exact e_up_s | (rw [e_up_n (by first | assumption | omega)]; first | assumption | exact e_up_s | (rw [e_up_n (by first | assumption | omega)]; first | assumption | exact e_up_s | (rw [e_up_n (by first | assumption | omega)]; first | assumption | exact e_up_s))) | exact hD.1 | exact hD1.1 | exact hD2.1 | exact gD.1 | exact gD1.1 | exact gD2.1 | exact gQ.1 | exact hQ.1 | exact gS.1 | exact hS.1 | exact zD.1) rfl (by decide) w_fl_RX3_19 (by rfl) dX3_degreeBy_23 ?_
    refine e_aload_n F dX3_degreeBy_26 rfl ?_
    refine e_get (ci := 3) (fi := 0) (q := (RX3, TX3, 5)) F (by first | assumption | exact e_up_s | (rw [e_up_n (by first | assumption | omega)]; first | assumption | exact e_up_s | (rw [e_up_n (by first | assumption | omega)]; first | assumption | exact e_up_s | (rw [e_up_n (by first | assumption | omega)]; first | assumption | exact e_up_s))) | exact hD.1 | exact hD1.1 | exact hD2.1 | exact gD.1 | exact gD1.1 | exact gD2.1 | exact gQ.1 | exact hQ.1 | exact gS.1 | exact hS.1 | exact zD.1) rfl (by decide) w_fl_RX3_10 (by rfl) dX3_degreeBy_27 ?_
    refine e_aload_n F dX3_degreeBy_30 rfl ?_
    refine e_iload_n F dX3_degreeBy_31 rfl ?_
    refine e_callVN F u_X2_goThrough (by rfl) (c_X2_goThrough hQ hF hwh hD1 (set := a) (by omega) (by omega)) (by first | assumption | exact e_up_s | (rw [e_up_n (by first | assumption | omega)]; first | assumption | exact e_up_s | (rw [e_up_n (by first | assumption | omega)]; first | assumption | exact e_up_s | (rw [e_up_n (by first | assumption | omega)]; first | assumption | exact e_up_s))) | exact hD.1 | exact hD1.1 | exact hD2.1 | exact gD.1 | exact gD1.1 | exact gD2.1 | exact gQ.1 | exact hQ.1 | exact gS.1 | exact hS.1 | exact zD.1) rfl rfl w_mn_RX3_213 dX3_degreeBy_32 (by rfl) (Nat.le_of_ble_eq_true rfl) (by decide) (by omega) (fun _ _ _ h _ => False.elim h) (fun r_32 w_32 n_32 h_32 hn_32 => ?_)
    obtain ⟨rfl, en_32, gQ, gF⟩ := h_32
    rw [en_32]
    have gX : w_32 x = some (SO x kn) := by rw [gF x (by omega) (by omega)]; exact hX
    have hres := hC0.px ⟨⟨_, gQ⟩, gF⟩
    refine e_aload_n F dX3_degreeBy_35 rfl ?_
    refine e_get (ci := 3) (fi := 1) (q := (RX3, TX3, 5)) F (by first | assumption | exact e_up_s | (rw [e_up_n (by first | assumption | omega)]; first | assumption | exact e_up_s | (rw [e_up_n (by first | assumption | omega)]; first | assumption | exact e_up_s | (rw [e_up_n (by first | assumption | omega)]; first | assumption | exact e_up_s))) | exact hD.1 | exact hD1.1 | exact hD2.1 | exact gD.1 | exact gD1.1 | exact gD2.1 | exact gQ.1 | exact hQ.1 | exact gS.1 | exact hS.1 | exact zD.1) rfl (by decide) w_fl_RX3_19 (by rfl) dX3_degreeBy_36 ?_
    refine e_callVN F u_X2_highest (by rfl) (c_X2_highest gQ) (by first | assumption | exact e_up_s | (rw [e_up_n (by first | assumption | omega)]; first | assumption | exact e_up_s | (rw [e_up_n (by first | assumption | omega)]; first | assumption | exact e_up_s | (rw [e_up_n (by first | assumption | omega)]; first | assumption | exact e_up_s))) | exact hD.1 | exact hD1.1 | exact hD2.1 | exact gD.1 | exact gD1.1 | exact gD2.1 | exact gQ.1 | exact hQ.1 | exact gS.1 | exact hS.1 | exact zD.1) rfl rfl w_mn_RX3_217 dX3_degreeBy_39 (by rfl) (Nat.le_of_ble_eq_true rfl) (by decide) (by omega) (fun _ _ _ h _ => False.elim h) (fun r_39 w_39 n_39 h_39 hn_39 => ?_)
    obtain ⟨rfl, ew_39, en_39⟩ := h_39
    rw [ew_39, en_39]
    refine e_iret F rfl (by omega) ?_ dX3_degreeBy_42
    refine ⟨⟨hi1, hrs⟩, ?_, rfl, hres⟩
    rw [if_pos c_16]
  ·
    rw [b01_0] at c_16
    refine e_bipush F dX3_degreeBy_19 (by decide) ?_
    refine e_iret F rfl (by omega) ?_ dX3_degreeBy_21
    refine ⟨⟨hi1, hrs⟩, ?_, rfl, hC0, FR.rf⟩
    rw [if_neg c_16]
set_option maxHeartbeats 4000000 in
set_option maxRecDepth 100000 in
theorem c_X3_agrees {K : e_K} {l : Launch} {w : e_W} {n : Nat} {x wh : Nat} {kn : Int} {D : Nat → SD} (hC : CW w x wh kn D) {i : Int} (hi : e_r i) {a : Int} (ha : e_r a) : e_Met K l yX3_agrees (Cond.code yX3_agrees cX3_agrees 4 (Option.some .int) :: e_TB) (7) (2) [.ref x, .int (eI i), .int (eI a)] w n (fun r w' n' => ((0 ≤ i ∧ i < 6) ∧ (1 ≤ a ∧ a ≤ fl wh)) ∧ r = some (.int (eI (if (D i.toNat).fl = 1 ∧ thr (D i.toNat).A a then b01 (il wh a (D i.toNat).A (D i.toNat).fl (D i.toNat).dg) else -9))) ∧ n' = n ∧ CW w' x wh (kn) (D) ∧ FR w w' x) (pxd w (¬ (0 ≤ i ∧ i < 6)) ((0 ≤ i ∧ i < 6) ∧ ¬ (1 ≤ a ∧ a ≤ fl wh))) := by
  refine e_ofV rfl (Nat.le_of_ble_eq_true rfl) ?_
  intro P9 E9 S9 M9 A9 B9 T9 C9 F hnm
  have hC0 := hC
  have hDA := hC.2.2.2.2.1
  obtain ⟨hX, hF, hwh, ⟨P0, hQ⟩, ⟨ga, hga, hgj⟩, hDs, s0, hS⟩ := hC
  have hp := pr_rg wh hwh
  have ho9 := ho_rg wh hwh
  have hg9 := gr_rg wh hwh
  have hf9 := fl_rg wh hwh
  refine e_aload_n F dX3_agrees_0 rfl ?_
  refine e_iload_n F dX3_agrees_1 rfl ?_
  refine e_callVV F u_X3_dealAt (by rfl) (c_X3_dealAt hX hDA (i := i) hi) hX rfl rfl w_ml_RX3_94 dX3_agrees_2 (by rfl) (Nat.le_of_ble_eq_true rfl) (by decide) (by omega) (fun E w2 n2 h _ => ⟨Or.inl ⟨h.1, by have q := h.2.1; omega⟩, h.2.2⟩) (fun r_2 w_2 n_2 h_2 hn_2 => ?_)
  obtain ⟨hi1, rfl, ew_2, en_2⟩ := h_2
  rw [ew_2, en_2]
  obtain ⟨hD1, hW1⟩ := hDs i.toNat (by omega)
  refine e_astore_n F dX3_agrees_5 (by decide) ?_
  refine e_aload_n F dX3_agrees_6 rfl ?_
  refine e_iload_n F dX3_agrees_7 rfl ?_
  refine e_callVV F u_X3_requireSet (by rfl) (c_X3_requireSet hX hF hwh (s9 := a) ha) hX rfl rfl w_ml_RX3_80 dX3_agrees_8 (by rfl) (Nat.le_of_ble_eq_true rfl) (by decide) (by omega) (fun E w2 n2 h _ => ⟨Or.inr ⟨h.1, by have q := h.2.1; omega⟩, h.2.2⟩) (fun r_8 w_8 n_8 h_8 hn_8 => ?_)
  obtain ⟨hrs, rfl, ew_8, en_8⟩ := h_8
  rw [ew_8, en_8]
  refine e_aload_n F dX3_agrees_11 rfl ?_
  refine e_iload_n F dX3_agrees_12 rfl ?_
  refine e_callVN F u_X0_isThere (by rfl) (c_X0_isThere hD1 (set := a) (by omega) (by omega)) (by first | assumption | exact e_up_s | (rw [e_up_n (by first | assumption | omega)]; first | assumption | exact e_up_s | (rw [e_up_n (by first | assumption | omega)]; first | assumption | exact e_up_s | (rw [e_up_n (by first | assumption | omega)]; first | assumption | exact e_up_s))) | exact hD.1 | exact hD1.1 | exact hD2.1 | exact gD.1 | exact gD1.1 | exact gD2.1 | exact gQ.1 | exact hQ.1 | exact gS.1 | exact hS.1 | exact zD.1) rfl rfl w_mn_RX3_207 dX3_agrees_13 (by rfl) (Nat.le_of_ble_eq_true rfl) (by decide) (by omega) (fun _ _ _ h _ => False.elim h) (fun r_13 w_13 n_13 h_13 hn_13 => ?_)
  obtain ⟨rfl, ew_13, en_13⟩ := h_13
  rw [ew_13, en_13]
  refine e_if_ne F 22 dX3_agrees_16 (by decide) (b01_r _) (fun c_16 => ?_) (fun c_16 => ?_)
  ·
    rw [ne_eq, b01_0, Classical.not_not] at c_16
    refine e_aload_n F dX3_agrees_22 rfl ?_
    refine e_aload_n F dX3_agrees_23 rfl ?_
    refine e_iload_n F dX3_agrees_24 rfl ?_
    refine e_callVV F u_X3_isInLine (by rfl) (c_X3_isInLine hX hF hwh hQ hD1 (by omega) (set := a) (by omega) (by omega)) hX rfl rfl w_ml_RX3_198 dX3_agrees_25 (by rfl) (Nat.le_of_ble_eq_true rfl) (by decide) (by omega) (fun _ _ _ h _ => False.elim h) (fun r_25 w_25 n_25 h_25 hn_25 => ?_)
    obtain ⟨rfl, en_25, gP⟩ := h_25
    rw [en_25]
    have hres := hC0.px gP
    refine e_if_eq F 35 dX3_agrees_28 (by decide) (b01_r _) (fun c_28 => ?_) (fun c_28 => ?_)
    ·
      rw [b01_0] at c_28
      refine e_iconst F dX3_agrees_35 ?_
      refine e_iret F rfl (by omega) ?_ dX3_agrees_36
      refine ⟨⟨hi1, hrs⟩, ?_, rfl, hres⟩
      rw [if_pos c_16]
      first | rw [b01_f c_28] | rw [b01_t c_28]
    ·
      rw [b01_0, Classical.not_not] at c_28
      refine e_iconst F dX3_agrees_31 ?_
      refine e_goto F 36 dX3_agrees_32 (by decide) ?_
      refine e_iret F rfl (by omega) ?_ dX3_agrees_36
      refine ⟨⟨hi1, hrs⟩, ?_, rfl, hres⟩
      rw [if_pos c_16]
      first | rw [b01_f c_28] | rw [b01_t c_28]
  ·
    rw [b01_0] at c_16
    refine e_bipush F dX3_agrees_19 (by decide) ?_
    refine e_iret F rfl (by omega) ?_ dX3_agrees_21
    refine ⟨⟨hi1, hrs⟩, ?_, rfl, hC0, FR.rf⟩
    rw [if_neg c_16]
set_option maxHeartbeats 4000000 in
set_option maxRecDepth 100000 in
theorem c_X3_suspects {K : e_K} {l : Launch} {w : e_W} {n : Nat} {x wh : Nat} {kn : Int} {D : Nat → SD} (hC : CW w x wh kn D) {i : Int} (hi : e_r i) : e_Met K l yX3_suspects (Cond.code yX3_suspects cX3_suspects 3 (Option.some .int) :: e_TB) (7) (1) [.ref x, .int (eI i)] w n (fun r w' n' => ((0 ≤ i ∧ i < 6)) ∧ r = some (.int (eI (if (D i.toNat).fl = 0 then -9 else ssK wh (D i.toNat).A (D i.toNat).fl (D i.toNat).dg (ho wh).toNat))) ∧ n' = n ∧ CW w' x wh (kn) (D) ∧ FR w w' x) (pxd w (¬ (0 ≤ i ∧ i < 6)) False) := by
  refine e_ofV rfl (Nat.le_of_ble_eq_true rfl) ?_
  intro P9 E9 S9 M9 A9 B9 T9 C9 F hnm
  have hC0 := hC
  have hDA := hC.2.2.2.2.1
  obtain ⟨hX, hF, hwh, ⟨P0, hQ⟩, ⟨ga, hga, hgj⟩, hDs, s0, hS⟩ := hC
  have hp := pr_rg wh hwh
  have ho9 := ho_rg wh hwh
  have hg9 := gr_rg wh hwh
  have hf9 := fl_rg wh hwh
  refine e_aload_n F dX3_suspects_0 rfl ?_
  refine e_iload_n F dX3_suspects_1 rfl ?_
  refine e_callVV F u_X3_dealAt (by rfl) (c_X3_dealAt hX hDA (i := i) hi) hX rfl rfl w_ml_RX3_94 dX3_suspects_2 (by rfl) (Nat.le_of_ble_eq_true rfl) (by decide) (by omega) (fun E w2 n2 h _ => ⟨Or.inl ⟨h.1, by have q := h.2.1; omega⟩, h.2.2⟩) (fun r_2 w_2 n_2 h_2 hn_2 => ?_)
  obtain ⟨hi1, rfl, ew_2, en_2⟩ := h_2
  rw [ew_2, en_2]
  obtain ⟨hD1, hW1⟩ := hDs i.toNat (by omega)
  refine e_astore_n F dX3_suspects_5 (by decide) ?_
  refine e_aload_n F dX3_suspects_6 rfl ?_
  refine e_callVN F u_X0_isEmpty (by rfl) (c_X0_isEmpty hD1) (by first | assumption | exact e_up_s | (rw [e_up_n (by first | assumption | omega)]; first | assumption | exact e_up_s | (rw [e_up_n (by first | assumption | omega)]; first | assumption | exact e_up_s | (rw [e_up_n (by first | assumption | omega)]; first | assumption | exact e_up_s))) | exact hD.1 | exact hD1.1 | exact hD2.1 | exact gD.1 | exact gD1.1 | exact gD2.1 | exact gQ.1 | exact hQ.1 | exact gS.1 | exact hS.1 | exact zD.1) rfl rfl w_mn_RX3_109 dX3_suspects_7 (by rfl) (Nat.le_of_ble_eq_true rfl) (by decide) (by omega) (fun _ _ _ h _ => False.elim h) (fun r_7 w_7 n_7 h_7 hn_7 => ?_)
  obtain ⟨rfl, ew_7, en_7⟩ := h_7
  rw [ew_7, en_7]
  refine e_if_eq F 18 dX3_suspects_10 (by decide) (b01_r _) (fun c_10 => ?_) (fun c_10 => ?_)
  ·
    rw [b01_0] at c_10
    refine e_aload_n F dX3_suspects_18 rfl ?_
    refine e_aload_n F dX3_suspects_19 rfl ?_
    refine e_callVV F u_X3_suspectSet (by rfl) (c_X3_suspectSet hX hF hwh hQ hD1 (by omega)) hX rfl rfl w_ml_RX3_220 dX3_suspects_20 (by rfl) (Nat.le_of_ble_eq_true rfl) (by decide) (by omega) (fun _ _ _ h _ => False.elim h) (fun r_20 w_20 n_20 h_20 hn_20 => ?_)
    obtain ⟨rfl, en_20, gP⟩ := h_20
    rw [en_20]
    have hres := hC0.px gP
    refine e_iret F rfl (by omega) ?_ dX3_suspects_23
    first
    | (refine ⟨hi1, ?_, rfl, hres⟩
       rw [if_neg c_10])
    | (refine ⟨hi1, ?_, rfl, hC0, FR.rf⟩
       rw [if_pos c_10])
  ·
    rw [b01_0, Classical.not_not] at c_10
    refine e_bipush F dX3_suspects_13 (by decide) ?_
    refine e_goto F 23 dX3_suspects_15 (by decide) ?_
    refine e_iret F rfl (by omega) ?_ dX3_suspects_23
    first
    | (refine ⟨hi1, ?_, rfl, hres⟩
       rw [if_neg c_10])
    | (refine ⟨hi1, ?_, rfl, hC0, FR.rf⟩
       rw [if_pos c_10])
set_option maxHeartbeats 4000000 in
set_option maxRecDepth 100000 in
theorem c_X3_wrong {K : e_K} {l : Launch} {w : e_W} {n : Nat} {x wh : Nat} {kn : Int} {D : Nat → SD} (hC : CW w x wh kn D) {i : Int} (hi : e_r i) : e_Met K l yX3_wrong (Cond.code yX3_wrong cX3_wrong 2 (Option.some .int) :: e_TB) (7) (1) [.ref x, .int (eI i)] w n (fun r w' n' => ((0 ≤ i ∧ i < 6)) ∧ r = some (.int (eI (wrf wh (D i.toNat).A (D i.toNat).fl (D i.toNat).dg))) ∧ n' = n ∧ CW w' x wh (kn) (D) ∧ FR w w' x) (pxd w (¬ (0 ≤ i ∧ i < 6)) False) := by
  refine e_ofV rfl (Nat.le_of_ble_eq_true rfl) ?_
  intro P9 E9 S9 M9 A9 B9 T9 C9 F hnm
  have hC0 := hC
  have hDA := hC.2.2.2.2.1
  obtain ⟨hX, hF, hwh, ⟨P0, hQ⟩, ⟨ga, hga, hgj⟩, hDs, s0, hS⟩ := hC
  have hp := pr_rg wh hwh
  have ho9 := ho_rg wh hwh
  have hg9 := gr_rg wh hwh
  have hf9 := fl_rg wh hwh
  refine e_aload_n F dX3_wrong_0 rfl ?_
  refine e_aload_n F dX3_wrong_1 rfl ?_
  refine e_iload_n F dX3_wrong_2 rfl ?_
  refine e_callVV F u_X3_dealAt (by rfl) (c_X3_dealAt hX hDA (i := i) hi) hX rfl rfl w_ml_RX3_94 dX3_wrong_3 (by rfl) (Nat.le_of_ble_eq_true rfl) (by decide) (by omega) (fun E w2 n2 h _ => ⟨Or.inl ⟨h.1, by have q := h.2.1; omega⟩, h.2.2⟩) (fun r_3 w_3 n_3 h_3 hn_3 => ?_)
  obtain ⟨hi1, rfl, ew_3, en_3⟩ := h_3
  rw [ew_3, en_3]
  obtain ⟨hD1, hW1⟩ := hDs i.toNat (by omega)
  refine e_callVV F u_X3_wrongHolder (by rfl) (c_X3_wrongHolder hX hF hwh hQ hD1 (by omega)) hX rfl rfl w_ml_RX3_182 dX3_wrong_6 (by rfl) (Nat.le_of_ble_eq_true rfl) (by decide) (by omega) (fun _ _ _ h _ => False.elim h) (fun r_6 w_6 n_6 h_6 hn_6 => ?_)
  obtain ⟨rfl, en_6, gP⟩ := h_6
  rw [en_6]
  have hres := hC0.px gP
  refine e_iret F rfl (by omega) ?_ dX3_wrong_9
  exact ⟨hi1, rfl, rfl, hres⟩
set_option maxHeartbeats 4000000 in
set_option maxRecDepth 100000 in
theorem c_X3_seal {K : e_K} {l : Launch} {w : e_W} {n : Nat} {x wh : Nat} {kn : Int} {D : Nat → SD} (hC : CW w x wh kn D) {i : Int} (hi : e_r i) {c : Int} (hc : e_r c) : e_Met K l yX3_seal (Cond.code yX3_seal cX3_seal 4 (Option.some .int) :: e_TB) (7) (2) [.ref x, .int (eI i), .int (eI c)] w n (fun r w' n' => ((0 ≤ i ∧ i < 6) ∧ (0 ≤ c ∧ c ≤ 6)) ∧ r = some (.int (eI (if 0 ≤ c ∧ c < (D i.toNat).sc then (D i.toNat).B c else -1))) ∧ n' = n ∧ CW w' x wh (kn) (D) ∧ FR w w' x) (pxd w (¬ (0 ≤ i ∧ i < 6)) ((0 ≤ i ∧ i < 6) ∧ ¬ (0 ≤ c ∧ c ≤ 6))) := by
  refine e_ofV rfl (Nat.le_of_ble_eq_true rfl) ?_
  intro P9 E9 S9 M9 A9 B9 T9 C9 F hnm
  have hC0 := hC
  have hDA := hC.2.2.2.2.1
  obtain ⟨hX, hF, hwh, ⟨P0, hQ⟩, ⟨ga, hga, hgj⟩, hDs, s0, hS⟩ := hC
  have hp := pr_rg wh hwh
  have ho9 := ho_rg wh hwh
  have hg9 := gr_rg wh hwh
  have hf9 := fl_rg wh hwh
  refine e_aload_n F dX3_seal_0 rfl ?_
  refine e_iload_n F dX3_seal_1 rfl ?_
  refine e_callVV F u_X3_dealAt (by rfl) (c_X3_dealAt hX hDA (i := i) hi) hX rfl rfl w_ml_RX3_94 dX3_seal_2 (by rfl) (Nat.le_of_ble_eq_true rfl) (by decide) (by omega) (fun E w2 n2 h _ => ⟨Or.inl ⟨h.1, by have q := h.2.1; omega⟩, h.2.2⟩) (fun r_2 w_2 n_2 h_2 hn_2 => ?_)
  obtain ⟨hi1, rfl, ew_2, en_2⟩ := h_2
  rw [ew_2, en_2]
  obtain ⟨hD1, hW1⟩ := hDs i.toNat (by omega)
  refine e_astore_n F dX3_seal_5 (by decide) ?_
  refine e_iload_n F dX3_seal_6 rfl ?_
  refine e_callSS F u_X3_requireCoefficient (by rfl) (c_X3_requireCoefficient (g := c) hc) w_ml_RX3_210 dX3_seal_7 (by rfl) (Nat.le_of_ble_eq_true rfl) (by decide) (by omega) (fun E w2 n2 h _ => ⟨Or.inr ⟨h.1, by have q := h.2.1; omega⟩, h.2.2⟩) (fun r_7 w_7 n_7 h_7 hn_7 => ?_)
  obtain ⟨hrk, rfl, ew_7, en_7⟩ := h_7
  rw [ew_7, en_7]
  refine e_aload_n F dX3_seal_10 rfl ?_
  refine e_iload_n F dX3_seal_11 rfl ?_
  refine e_callVN F u_X0_sealAt (by rfl) (c_X0_sealAt hD1 (h := c) hc) (by first | assumption | exact e_up_s | (rw [e_up_n (by first | assumption | omega)]; first | assumption | exact e_up_s | (rw [e_up_n (by first | assumption | omega)]; first | assumption | exact e_up_s | (rw [e_up_n (by first | assumption | omega)]; first | assumption | exact e_up_s))) | exact hD.1 | exact hD1.1 | exact hD2.1 | exact gD.1 | exact gD1.1 | exact gD2.1 | exact gQ.1 | exact hQ.1 | exact gS.1 | exact hS.1 | exact zD.1) rfl rfl w_mn_RX3_137 dX3_seal_12 (by rfl) (Nat.le_of_ble_eq_true rfl) (by decide) (by omega) (fun _ _ _ h _ => False.elim h) (fun r_12 w_12 n_12 h_12 hn_12 => ?_)
  obtain ⟨rfl, ew_12, en_12⟩ := h_12
  rw [ew_12, en_12]
  refine e_iret F rfl (by omega) ?_ dX3_seal_15
  exact ⟨⟨hi1, hrk⟩, rfl, rfl, hC0, FR.rf⟩
set_option maxHeartbeats 4000000 in
set_option maxRecDepth 100000 in
theorem c_X3_fits {K : e_K} {l : Launch} {w : e_W} {n : Nat} {x wh : Nat} {kn : Int} {D : Nat → SD} (hC : CW w x wh kn D) {i : Int} (hi : e_r i) {h : Int} (hh : e_r h) : e_Met K l yX3_fits (Cond.code yX3_fits cX3_fits 4 (Option.some .int) :: e_TB) (7) (2) [.ref x, .int (eI i), .int (eI h)] w n (fun r w' n' => ((0 ≤ i ∧ i < 6) ∧ (1 ≤ h ∧ h ≤ ho wh)) ∧ r = some (.int (eI (if 0 < (D i.toNat).sc ∧ (D i.toNat).A h ≠ -1 then b01 (fit wh (D i.toNat).sc (D i.toNat).A (D i.toNat).B h) else -9))) ∧ n' = n ∧ CW w' x wh (kn) (D) ∧ FR w w' x) (pxd w (¬ ((0 ≤ i ∧ i < 6) ∧ (1 ≤ h ∧ h ≤ ho wh))) False) := by
  refine e_ofV rfl (Nat.le_of_ble_eq_true rfl) ?_
  intro P9 E9 S9 M9 A9 B9 T9 C9 F hnm
  have hC0 := hC
  have hDA := hC.2.2.2.2.1
  obtain ⟨hX, hF, hwh, ⟨P0, hQ⟩, ⟨ga, hga, hgj⟩, hDs, s0, hS⟩ := hC
  have hp := pr_rg wh hwh
  have ho9 := ho_rg wh hwh
  have hg9 := gr_rg wh hwh
  have hf9 := fl_rg wh hwh
  refine e_aload_n F dX3_fits_0 rfl ?_
  refine e_iload_n F dX3_fits_1 rfl ?_
  refine e_callVV F u_X3_dealAt (by rfl) (c_X3_dealAt hX hDA (i := i) hi) hX rfl rfl w_ml_RX3_94 dX3_fits_2 (by rfl) (Nat.le_of_ble_eq_true rfl) (by decide) (by omega) (fun E w2 n2 h _ => ⟨Or.inl ⟨h.1, by have q := h.2.1; omega⟩, h.2.2⟩) (fun r_2 w_2 n_2 h_2 hn_2 => ?_)
  obtain ⟨hi1, rfl, ew_2, en_2⟩ := h_2
  rw [ew_2, en_2]
  obtain ⟨hD1, hW1⟩ := hDs i.toNat (by omega)
  refine e_astore_n F dX3_fits_5 (by decide) ?_
  refine e_aload_n F dX3_fits_6 rfl ?_
  refine e_iload_n F dX3_fits_7 rfl ?_
  refine e_callVV F u_X3_requireHolder (by rfl) (c_X3_requireHolder hX hF hwh (h := h) hh) hX rfl rfl w_ml_RX3_77 dX3_fits_8 (by rfl) (Nat.le_of_ble_eq_true rfl) (by decide) (by omega) (fun E w2 n2 h _ => ⟨Or.inl ⟨h.1, by have q := h.2.1; omega⟩, h.2.2⟩) (fun r_8 w_8 n_8 h_8 hn_8 => ?_)
  obtain ⟨hrh, rfl, ew_8, en_8⟩ := h_8
  rw [ew_8, en_8]
  refine e_aload_n F dX3_fits_11 rfl ?_
  refine e_callVN F u_X0_hasSeals (by rfl) (c_X0_hasSeals hD1) (by first | assumption | exact e_up_s | (rw [e_up_n (by first | assumption | omega)]; first | assumption | exact e_up_s | (rw [e_up_n (by first | assumption | omega)]; first | assumption | exact e_up_s | (rw [e_up_n (by first | assumption | omega)]; first | assumption | exact e_up_s))) | exact hD.1 | exact hD1.1 | exact hD2.1 | exact gD.1 | exact gD1.1 | exact gD2.1 | exact gQ.1 | exact hQ.1 | exact gS.1 | exact hS.1 | exact zD.1) rfl rfl w_mn_RX3_195 dX3_fits_12 (by rfl) (Nat.le_of_ble_eq_true rfl) (by decide) (by omega) (fun _ _ _ h _ => False.elim h) (fun r_12 w_12 n_12 h_12 hn_12 => ?_)
  obtain ⟨rfl, ew_12, en_12⟩ := h_12
  rw [ew_12, en_12]
  refine e_if_eq F 26 dX3_fits_15 (by decide) (b01_r _) (fun c_15 => ?_) (fun c_15 => ?_)
  ·
    rw [b01_0] at c_15
    refine e_bipush F dX3_fits_26 (by decide) ?_
    refine e_iret F rfl (by omega) ?_ dX3_fits_28
    refine ⟨⟨hi1, hrh⟩, ?_, rfl, hC0, FR.rf⟩
    first | rw [if_neg (fun q => c_15 q.1)] | rw [if_neg (fun q => c_23 q.2)]
  ·
    rw [b01_0, Classical.not_not] at c_15
    refine e_aload_n F dX3_fits_18 rfl ?_
    refine e_iload_n F dX3_fits_19 rfl ?_
    refine e_callVN F u_X0_hasShare (by rfl) (c_X0_hasShare hD1 (h := h) (by omega) (by omega)) (by first | assumption | exact e_up_s | (rw [e_up_n (by first | assumption | omega)]; first | assumption | exact e_up_s | (rw [e_up_n (by first | assumption | omega)]; first | assumption | exact e_up_s | (rw [e_up_n (by first | assumption | omega)]; first | assumption | exact e_up_s))) | exact hD.1 | exact hD1.1 | exact hD2.1 | exact gD.1 | exact gD1.1 | exact gD2.1 | exact gQ.1 | exact hQ.1 | exact gS.1 | exact hS.1 | exact zD.1) rfl rfl w_mn_RX3_119 dX3_fits_20 (by rfl) (Nat.le_of_ble_eq_true rfl) (by decide) (by omega) (fun _ _ _ h _ => False.elim h) (fun r_20 w_20 n_20 h_20 hn_20 => ?_)
    obtain ⟨rfl, ew_20, en_20⟩ := h_20
    rw [ew_20, en_20]
    refine e_if_ne F 29 dX3_fits_23 (by decide) (b01_r _) (fun c_23 => ?_) (fun c_23 => ?_)
    ·
      rw [ne_eq, b01_0, Classical.not_not] at c_23
      refine e_aload_n F dX3_fits_29 rfl ?_
      refine e_aload_n F dX3_fits_30 rfl ?_
      refine e_iload_n F dX3_fits_31 rfl ?_
      refine e_callVV F u_X3_doesFit (by rfl) (c_X3_doesFit hX hF hwh hD1 (h := h) (by omega) (by omega) (fun j a1 a2 => (hW1.2.1 j a1 a2).1)) hX rfl rfl w_ml_RX3_231 dX3_fits_32 (by rfl) (Nat.le_of_ble_eq_true rfl) (by decide) (by omega) (fun _ _ _ h _ => False.elim h) (fun r_32 w_32 n_32 h_32 hn_32 => ?_)
      obtain ⟨rfl, ew_32, en_32⟩ := h_32
      rw [ew_32, en_32]
      refine e_if_eq F 42 dX3_fits_35 (by decide) (b01_r _) (fun c_35 => ?_) (fun c_35 => ?_)
      ·
        rw [b01_0] at c_35
        refine e_iconst F dX3_fits_42 ?_
        refine e_iret F rfl (by omega) ?_ dX3_fits_43
        refine ⟨⟨hi1, hrh⟩, ?_, rfl, hC0, FR.rf⟩
        rw [if_pos ⟨c_15, c_23⟩]
        first | rw [b01_f c_35] | rw [b01_t c_35]
      ·
        rw [b01_0, Classical.not_not] at c_35
        refine e_iconst F dX3_fits_38 ?_
        refine e_goto F 43 dX3_fits_39 (by decide) ?_
        refine e_iret F rfl (by omega) ?_ dX3_fits_43
        refine ⟨⟨hi1, hrh⟩, ?_, rfl, hC0, FR.rf⟩
        rw [if_pos ⟨c_15, c_23⟩]
        first | rw [b01_f c_35] | rw [b01_t c_35]
    ·
      rw [b01_0] at c_23
      refine e_bipush F dX3_fits_26 (by decide) ?_
      refine e_iret F rfl (by omega) ?_ dX3_fits_28
      refine ⟨⟨hi1, hrh⟩, ?_, rfl, hC0, FR.rf⟩
      first | rw [if_neg (fun q => c_15 q.1)] | rw [if_neg (fun q => c_23 q.2)]
set_option maxHeartbeats 4000000 in
set_option maxRecDepth 100000 in
theorem c_X3_order {K : e_K} {l : Launch} {w : e_W} {n : Nat} {x wh : Nat} {kn : Int} {D : Nat → SD} (hC : CW w x wh kn D) {i : Int} (hi : e_r i) {j : Int} (hj : e_r j) {h : Int} (hh : e_r h) : e_Met K l yX3_order (Cond.code yX3_order cX3_order 8 (Option.some .int) :: e_TB) (7) (3) [.ref x, .int (eI i), .int (eI j), .int (eI h)] w n (fun r w' n' => ((0 ≤ i ∧ i < 6) ∧ (0 ≤ j ∧ j < 6) ∧ (1 ≤ h ∧ h ≤ ho wh)) ∧ r = some (.int (eI (if (D i.toNat).A h ≠ -1 ∧ (D j.toNat).A h ≠ -1 then (if (D i.toNat).A h < (D j.toNat).A h then -1 else if (D j.toNat).A h < (D i.toNat).A h then 1 else 0) else -9))) ∧ n' = n ∧ CW w' x wh (kn) (D) ∧ FR w w' x) (pxd w (¬ ((0 ≤ i ∧ i < 6) ∧ (0 ≤ j ∧ j < 6) ∧ (1 ≤ h ∧ h ≤ ho wh))) False) := by
  refine e_ofV rfl (Nat.le_of_ble_eq_true rfl) ?_
  intro P9 E9 S9 M9 A9 B9 T9 C9 F hnm
  have hC0 := hC
  have hDA := hC.2.2.2.2.1
  obtain ⟨hX, hF, hwh, ⟨P0, hQ⟩, ⟨ga, hga, hgj⟩, hDs, s0, hS⟩ := hC
  have hp := pr_rg wh hwh
  have ho9 := ho_rg wh hwh
  have hg9 := gr_rg wh hwh
  have hf9 := fl_rg wh hwh
  refine e_aload_n F dX3_order_0 rfl ?_
  refine e_iload_n F dX3_order_1 rfl ?_
  refine e_callVV F u_X3_dealAt (by rfl) (c_X3_dealAt hX hDA (i := i) hi) hX rfl rfl w_ml_RX3_94 dX3_order_2 (by rfl) (Nat.le_of_ble_eq_true rfl) (by decide) (by omega) (fun E w2 n2 h _ => ⟨Or.inl ⟨h.1, by have q := h.2.1; omega⟩, h.2.2⟩) (fun r_2 w_2 n_2 h_2 hn_2 => ?_)
  obtain ⟨hi1, rfl, ew_2, en_2⟩ := h_2
  rw [ew_2, en_2]
  obtain ⟨hD1, hW1⟩ := hDs i.toNat (by omega)
  refine e_astore F dX3_order_5 (by decide) ?_
  refine e_aload_n F dX3_order_7 rfl ?_
  refine e_iload_n F dX3_order_8 rfl ?_
  refine e_callVV F u_X3_dealAt (by rfl) (c_X3_dealAt hX hDA (i := j) hj) hX rfl rfl w_ml_RX3_94 dX3_order_9 (by rfl) (Nat.le_of_ble_eq_true rfl) (by decide) (by omega) (fun E w2 n2 h _ => ⟨Or.inl ⟨h.1, by have q := h.2.1; omega⟩, h.2.2⟩) (fun r_9 w_9 n_9 h_9 hn_9 => ?_)
  obtain ⟨hi2, rfl, ew_9, en_9⟩ := h_9
  rw [ew_9, en_9]
  obtain ⟨hD2, hW2⟩ := hDs j.toNat (by omega)
  refine e_astore F dX3_order_12 (by decide) ?_
  refine e_aload_n F dX3_order_14 rfl ?_
  refine e_iload_n F dX3_order_15 rfl ?_
  refine e_callVV F u_X3_requireHolder (by rfl) (c_X3_requireHolder hX hF hwh (h := h) hh) hX rfl rfl w_ml_RX3_77 dX3_order_16 (by rfl) (Nat.le_of_ble_eq_true rfl) (by decide) (by omega) (fun E w2 n2 h _ => ⟨Or.inl ⟨h.1, by have q := h.2.1; omega⟩, h.2.2⟩) (fun r_16 w_16 n_16 h_16 hn_16 => ?_)
  obtain ⟨hrh, rfl, ew_16, en_16⟩ := h_16
  rw [ew_16, en_16]
  refine e_aload F dX3_order_19 rfl ?_
  refine e_iload_n F dX3_order_21 rfl ?_
  refine e_callVN F u_X0_hasShare (by rfl) (c_X0_hasShare hD1 (h := h) (by omega) (by omega)) (by first | assumption | exact e_up_s | (rw [e_up_n (by first | assumption | omega)]; first | assumption | exact e_up_s | (rw [e_up_n (by first | assumption | omega)]; first | assumption | exact e_up_s | (rw [e_up_n (by first | assumption | omega)]; first | assumption | exact e_up_s))) | exact hD.1 | exact hD1.1 | exact hD2.1 | exact gD.1 | exact gD1.1 | exact gD2.1 | exact gQ.1 | exact hQ.1 | exact gS.1 | exact hS.1 | exact zD.1) rfl rfl w_mn_RX3_119 dX3_order_22 (by rfl) (Nat.le_of_ble_eq_true rfl) (by decide) (by omega) (fun _ _ _ h _ => False.elim h) (fun r_22 w_22 n_22 h_22 hn_22 => ?_)
  obtain ⟨rfl, ew_22, en_22⟩ := h_22
  rw [ew_22, en_22]
  refine e_if_eq F 37 dX3_order_25 (by decide) (b01_r _) (fun c_25 => ?_) (fun c_25 => ?_)
  ·
    rw [b01_0] at c_25
    refine e_bipush F dX3_order_37 (by decide) ?_
    refine e_iret F rfl (by omega) ?_ dX3_order_39
    refine ⟨⟨hi1, hi2, hrh⟩, ?_, rfl, hC0, FR.rf⟩
    rw [if_neg (show ¬ ((D i.toNat).A h ≠ -1 ∧ (D j.toNat).A h ≠ -1) by omega)]
  ·
    rw [b01_0, Classical.not_not] at c_25
    refine e_aload F dX3_order_28 rfl ?_
    refine e_iload_n F dX3_order_30 rfl ?_
    refine e_callVN F u_X0_hasShare (by rfl) (c_X0_hasShare hD2 (h := h) (by omega) (by omega)) (by first | assumption | exact e_up_s | (rw [e_up_n (by first | assumption | omega)]; first | assumption | exact e_up_s | (rw [e_up_n (by first | assumption | omega)]; first | assumption | exact e_up_s | (rw [e_up_n (by first | assumption | omega)]; first | assumption | exact e_up_s))) | exact hD.1 | exact hD1.1 | exact hD2.1 | exact gD.1 | exact gD1.1 | exact gD2.1 | exact gQ.1 | exact hQ.1 | exact gS.1 | exact hS.1 | exact zD.1) rfl rfl w_mn_RX3_119 dX3_order_31 (by rfl) (Nat.le_of_ble_eq_true rfl) (by decide) (by omega) (fun _ _ _ h _ => False.elim h) (fun r_31 w_31 n_31 h_31 hn_31 => ?_)
    obtain ⟨rfl, ew_31, en_31⟩ := h_31
    rw [ew_31, en_31]
    refine e_if_ne F 40 dX3_order_34 (by decide) (b01_r _) (fun c_34 => ?_) (fun c_34 => ?_)
    ·
      rw [ne_eq, b01_0, Classical.not_not] at c_34
      refine e_aload F dX3_order_40 rfl ?_
      refine e_iload_n F dX3_order_42 rfl ?_
      refine e_callVN F u_X0_shareAt (by rfl) (c_X0_shareAt hD1 (h := h) (by omega) (by omega)) (by first | assumption | exact e_up_s | (rw [e_up_n (by first | assumption | omega)]; first | assumption | exact e_up_s | (rw [e_up_n (by first | assumption | omega)]; first | assumption | exact e_up_s | (rw [e_up_n (by first | assumption | omega)]; first | assumption | exact e_up_s))) | exact hD.1 | exact hD1.1 | exact hD2.1 | exact gD.1 | exact gD1.1 | exact gD2.1 | exact gQ.1 | exact hQ.1 | exact gS.1 | exact hS.1 | exact zD.1) rfl rfl w_mn_RX3_123 dX3_order_43 (by rfl) (Nat.le_of_ble_eq_true rfl) (by decide) (by omega) (fun _ _ _ h _ => False.elim h) (fun r_43 w_43 n_43 h_43 hn_43 => ?_)
      obtain ⟨rfl, ew_43, en_43⟩ := h_43
      rw [ew_43, en_43]
      have ra := hD1.2.2.2.2.2.2.1 h (by omega) (by omega)
      have rb := hD2.2.2.2.2.2.2.1 h (by omega) (by omega)
      refine e_istore F dX3_order_46 (by decide) ?_
      refine e_aload F dX3_order_48 rfl ?_
      refine e_iload_n F dX3_order_50 rfl ?_
      refine e_callVN F u_X0_shareAt (by rfl) (c_X0_shareAt hD2 (h := h) (by omega) (by omega)) (by first | assumption | exact e_up_s | (rw [e_up_n (by first | assumption | omega)]; first | assumption | exact e_up_s | (rw [e_up_n (by first | assumption | omega)]; first | assumption | exact e_up_s | (rw [e_up_n (by first | assumption | omega)]; first | assumption | exact e_up_s))) | exact hD.1 | exact hD1.1 | exact hD2.1 | exact gD.1 | exact gD1.1 | exact gD2.1 | exact gQ.1 | exact hQ.1 | exact gS.1 | exact hS.1 | exact zD.1) rfl rfl w_mn_RX3_123 dX3_order_51 (by rfl) (Nat.le_of_ble_eq_true rfl) (by decide) (by omega) (fun _ _ _ h _ => False.elim h) (fun r_51 w_51 n_51 h_51 hn_51 => ?_)
      obtain ⟨rfl, ew_51, en_51⟩ := h_51
      rw [ew_51, en_51]
      refine e_istore F dX3_order_54 (by decide) ?_
      refine e_iload F dX3_order_56 rfl ?_
      refine e_iload F dX3_order_58 rfl ?_
      refine e_icmp_ge F 67 dX3_order_60 (by decide) (⟨by omega, by omega⟩) (⟨by omega, by omega⟩) (fun c_60 => ?_) (fun c_60 => ?_)
      · refine e_iload F dX3_order_67 rfl ?_
        refine e_iload F dX3_order_69 rfl ?_
        refine e_icmp_le F 78 dX3_order_71 (by decide) (⟨by omega, by omega⟩) (⟨by omega, by omega⟩) (fun c_71 => ?_) (fun c_71 => ?_)
        · refine e_iconst F dX3_order_78 ?_
          refine e_iret F rfl (by omega) ?_ dX3_order_79
          refine ⟨⟨hi1, hi2, hrh⟩, ?_, rfl, hC0, FR.rf⟩
          rw [if_pos ⟨c_25, c_34⟩]
          first | rw [if_pos (show (D i.toNat).A h < (D j.toNat).A h by omega)] | rw [if_neg (show ¬ (D i.toNat).A h < (D j.toNat).A h by omega), if_pos (show (D j.toNat).A h < (D i.toNat).A h by omega)] | rw [if_neg (show ¬ (D i.toNat).A h < (D j.toNat).A h by omega), if_neg (show ¬ (D j.toNat).A h < (D i.toNat).A h by omega)]
        · refine e_iconst F dX3_order_74 ?_
          refine e_goto F 79 dX3_order_75 (by decide) ?_
          refine e_iret F rfl (by omega) ?_ dX3_order_79
          refine ⟨⟨hi1, hi2, hrh⟩, ?_, rfl, hC0, FR.rf⟩
          rw [if_pos ⟨c_25, c_34⟩]
          first | rw [if_pos (show (D i.toNat).A h < (D j.toNat).A h by omega)] | rw [if_neg (show ¬ (D i.toNat).A h < (D j.toNat).A h by omega), if_pos (show (D j.toNat).A h < (D i.toNat).A h by omega)] | rw [if_neg (show ¬ (D i.toNat).A h < (D j.toNat).A h by omega), if_neg (show ¬ (D j.toNat).A h < (D i.toNat).A h by omega)]
      · refine e_iconst F dX3_order_63 ?_
        refine e_goto F 79 dX3_order_64 (by decide) ?_
        refine e_iret F rfl (by omega) ?_ dX3_order_79
        refine ⟨⟨hi1, hi2, hrh⟩, ?_, rfl, hC0, FR.rf⟩
        rw [if_pos ⟨c_25, c_34⟩]
        first | rw [if_pos (show (D i.toNat).A h < (D j.toNat).A h by omega)] | rw [if_neg (show ¬ (D i.toNat).A h < (D j.toNat).A h by omega), if_pos (show (D j.toNat).A h < (D i.toNat).A h by omega)] | rw [if_neg (show ¬ (D i.toNat).A h < (D j.toNat).A h by omega), if_neg (show ¬ (D j.toNat).A h < (D i.toNat).A h by omega)]
    ·
      rw [b01_0] at c_34
      refine e_bipush F dX3_order_37 (by decide) ?_
      refine e_iret F rfl (by omega) ?_ dX3_order_39
      refine ⟨⟨hi1, hi2, hrh⟩, ?_, rfl, hC0, FR.rf⟩
      rw [if_neg (show ¬ ((D i.toNat).A h ≠ -1 ∧ (D j.toNat).A h ≠ -1) by omega)]
end
