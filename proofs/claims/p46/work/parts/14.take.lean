/-! Deal.take: another one, or itself -/
set_option maxHeartbeats 4000000 in
set_option maxRecDepth 100000 in
theorem c_X0_take {K : e_K} {l : Launch} {w : e_W} {n : Nat} {d o : Nat} {fl dg sc fl2 dg2 sc2 : Int} {A B A2 B2 : Int → Int} (hD : DL w d fl dg sc A B) (hO : DL w o fl2 dg2 sc2 A2 B2) (hdis : o + 3 ≤ d ∨ d + 3 ≤ o) : e_Met K l yX0_take (Cond.code yX0_take cX0_take 3 none :: e_TB) (1) (0) [.ref d, .ref o] w n (fun r w' n' => r = none ∧ n' = n ∧ DL w' d fl2 dg2 sc2 A2 B2 ∧ DF w w' d) (e_px0) := by
  refine e_ofV rfl (Nat.le_of_ble_eq_true rfl) ?_
  intro P9 E9 S9 M9 A9 B9 T9 C9 F hnm
  have lq : ∀ (N : Nat) (i : Int) (wl : e_W) (g : Int → Int), (7 - i).toNat < N → (0 ≤ i ∧ i ≤ 7 ∧ wl d = some (DO d fl2 dg2 sc2) ∧ PA wl (d + 1) 8 1 8 A2 ∧ wl (d + 2) = some (e_ia 7 g) ∧ (∀ j, 0 ≤ j → j < i → g j = if 0 ≤ j ∧ j < sc2 then B2 j else -1) ∧ DL wl o fl2 dg2 sc2 A2 B2 ∧ DF w wl d) → e_V K P9 l E9 (1) (0) S9 M9 A9 B9 T9 C9 3 (fun r w' n' => r = none ∧ n' = n ∧ DL w' d fl2 dg2 sc2 A2 B2 ∧ DF w w' d) (e_px0) 54 [(0, .ref d), (1, .ref o), (2, .int (eI i))] [] wl n (0) := by
    intro N
    induction N with
    | zero => intro i wl g hN; exact absurd hN (Nat.not_lt_zero _)
    | succ N ih =>
      intro i wl g hN ⟨h1, h2, g0, ⟨f, gf, gfA⟩, gg, ggB, hO, hDF⟩
      obtain ⟨k0, ⟨f2, kf, kfA⟩, ⟨g2, kg, kgB⟩, hfl2, hdg2, hsc2, hA2, hB2⟩ := hO
      have hO9 : DL wl o fl2 dg2 sc2 A2 B2 := ⟨k0, ⟨f2, kf, kfA⟩, ⟨g2, kg, kgB⟩, hfl2, hdg2, hsc2, hA2, hB2⟩
      refine e_iload_n F dX0_take_54 rfl ?_
      refine e_aload_n F dX0_take_55 rfl ?_
      refine e_get (ci := 0) (fi := 4) (q := (RX0, TX0, 5)) F (by first | assumption | exact e_up_s | (rw [e_up_n (by first | assumption | omega)]; first | assumption | exact e_up_s | (rw [e_up_n (by first | assumption | omega)]; first | assumption | exact e_up_s | (rw [e_up_n (by first | assumption | omega)]; first | assumption | exact e_up_s))) | exact hD.1 | exact hD1.1 | exact hD2.1 | exact gD.1 | exact gD1.1 | exact gD2.1 | exact gQ.1 | exact hQ.1 | exact gS.1 | exact hS.1 | exact zD.1) rfl (by decide) w_fl_RX0_15 (by rfl) dX0_take_56 ?_
      refine e_alenI F (by first | assumption | exact e_up_s | (rw [e_up_n (by first | assumption | omega)]; first | assumption | exact e_up_s | (rw [e_up_n (by first | assumption | omega)]; first | assumption | exact e_up_s | (rw [e_up_n (by first | assumption | omega)]; first | assumption | exact e_up_s))) | exact hD.1 | exact hD1.1 | exact hD2.1 | exact gD.1 | exact gD1.1 | exact gD2.1 | exact gQ.1 | exact hQ.1 | exact gS.1 | exact hS.1 | exact zD.1) dX0_take_59 ?_
      refine e_icmp_ge F 80 dX0_take_60 (by decide) (⟨by omega, by omega⟩) (⟨by omega, by omega⟩) (fun c_60 => ?_) (fun c_60 => ?_)
      · refine e_vret F rfl (by omega) ?_ dX0_take_80
        refine ⟨rfl, rfl, ⟨g0, ⟨f, gf, gfA⟩, ⟨g, gg, fun j j0 j1 => ?_⟩, hfl2, hdg2, hsc2, hA2, hB2⟩, hDF⟩
        rw [ggB j j0 (by omega), if_pos ⟨j0, j1⟩]
      · refine e_aload_n F dX0_take_63 rfl ?_
        refine e_get (ci := 0) (fi := 4) (q := (RX0, TX0, 5)) F (by first | assumption | exact e_up_s | (rw [e_up_n (by first | assumption | omega)]; first | assumption | exact e_up_s | (rw [e_up_n (by first | assumption | omega)]; first | assumption | exact e_up_s | (rw [e_up_n (by first | assumption | omega)]; first | assumption | exact e_up_s))) | exact hD.1 | exact hD1.1 | exact hD2.1 | exact gD.1 | exact gD1.1 | exact gD2.1 | exact gQ.1 | exact hQ.1 | exact gS.1 | exact hS.1 | exact zD.1) rfl (by decide) w_fl_RX0_15 (by rfl) dX0_take_64 ?_
        refine e_iload_n F dX0_take_67 rfl ?_
        refine e_aload_n F dX0_take_68 rfl ?_
        refine e_iload_n F dX0_take_69 rfl ?_
        refine e_callVV F u_X0_sealAt (by rfl) (c_X0_sealAt hO9 ⟨by omega, by omega⟩) k0 rfl rfl w_ml_RX0_36 dX0_take_70 (by rfl) (Nat.le_of_ble_eq_true rfl) (by decide) (by omega) (fun _ _ _ h _ => False.elim h) (fun r_70 w_70 n_70 h_70 hn_70 => ?_)
        obtain ⟨rfl, ew_70, en_70⟩ := h_70
        rw [ew_70, en_70]
        refine e_iast F (by first | assumption | exact e_up_s | (rw [e_up_n (by first | assumption | omega)]; first | assumption | exact e_up_s | (rw [e_up_n (by first | assumption | omega)]; first | assumption | exact e_up_s | (rw [e_up_n (by first | assumption | omega)]; first | assumption | exact e_up_s))) | exact hD.1 | exact hD1.1 | exact hD2.1 | exact gD.1 | exact gD1.1 | exact gD2.1 | exact gQ.1 | exact hQ.1 | exact gS.1 | exact hS.1 | exact zD.1) (by omega) (by omega) (by first | decide | omega) dX0_take_73 ?_
        refine e_iinc F dX0_take_74 rfl (by decide) ?_
        refine e_goto F 54 dX0_take_77 (by decide) ?_
        refine e_go (ih (i + 1) (e_up wl (d + 2) (e_ia 7 (e_fu g i (if 0 ≤ i ∧ i < sc2 then B2 i else -1)))) (e_fu g i (if 0 ≤ i ∧ i < sc2 then B2 i else -1)) (by omega) ⟨by omega, by omega, by rw [e_up_n (by omega)]; exact g0, ⟨f, by rw [e_up_n (by omega)]; exact gf, gfA⟩, e_up_s, fun j j0 j1 => ?_, ⟨by rw [e_up_n (by omega)]; exact k0, ⟨f2, by rw [e_up_n (by omega)]; exact kf, kfA⟩, ⟨g2, by rw [e_up_n (by omega)]; exact kg, kgB⟩, hfl2, hdg2, hsc2, hA2, hB2⟩, fun q q1 q2 q3 => by rw [e_up_n q3]; exact hDF q q1 q2 q3⟩) (And.intro rfl (And.intro rfl (And.intro rfl trivial)))
        unfold e_fu
        split
        · rename_i q; rw [q]
        · exact ggB j j0 (by omega)
  have lp : ∀ (N : Nat) (i : Int) (wl : e_W) (f : Int → Int), (8 - i).toNat < N → (1 ≤ i ∧ i ≤ 8 ∧ wl d = some (DO d fl2 dg2 sc2) ∧ wl (d + 1) = some (e_ia 8 f) ∧ (∀ j, 1 ≤ j → j < i → f j = A2 j) ∧ (∃ g, wl (d + 2) = some (e_ia 7 g)) ∧ DL wl o fl2 dg2 sc2 A2 B2 ∧ DF w wl d) → e_V K P9 l E9 (1) (0) S9 M9 A9 B9 T9 C9 3 (fun r w' n' => r = none ∧ n' = n ∧ DL w' d fl2 dg2 sc2 A2 B2 ∧ DF w w' d) (e_px0) 26 [(0, .ref d), (1, .ref o), (2, .int (eI i))] [] wl n (0) := by
    intro N
    induction N with
    | zero => intro i wl f hN; exact absurd hN (Nat.not_lt_zero _)
    | succ N ih =>
      intro i wl f hN ⟨h1, h2, g0, gf, gfA, ⟨g, gg⟩, hO, hDF⟩
      obtain ⟨k0, ⟨f2, kf, kfA⟩, ⟨g2, kg, kgB⟩, hfl2, hdg2, hsc2, hA2, hB2⟩ := hO
      have hO9 : DL wl o fl2 dg2 sc2 A2 B2 := ⟨k0, ⟨f2, kf, kfA⟩, ⟨g2, kg, kgB⟩, hfl2, hdg2, hsc2, hA2, hB2⟩
      refine e_iload_n F dX0_take_26 rfl ?_
      refine e_aload_n F dX0_take_27 rfl ?_
      refine e_get (ci := 0) (fi := 3) (q := (RX0, TX0, 5)) F (by first | assumption | exact e_up_s | (rw [e_up_n (by first | assumption | omega)]; first | assumption | exact e_up_s | (rw [e_up_n (by first | assumption | omega)]; first | assumption | exact e_up_s | (rw [e_up_n (by first | assumption | omega)]; first | assumption | exact e_up_s))) | exact hD.1 | exact hD1.1 | exact hD2.1 | exact gD.1 | exact gD1.1 | exact gD2.1 | exact gQ.1 | exact hQ.1 | exact gS.1 | exact hS.1 | exact zD.1) rfl (by decide) w_fl_RX0_9 (by rfl) dX0_take_28 ?_
      refine e_alenI F (by first | assumption | exact e_up_s | (rw [e_up_n (by first | assumption | omega)]; first | assumption | exact e_up_s | (rw [e_up_n (by first | assumption | omega)]; first | assumption | exact e_up_s | (rw [e_up_n (by first | assumption | omega)]; first | assumption | exact e_up_s))) | exact hD.1 | exact hD1.1 | exact hD2.1 | exact gD.1 | exact gD1.1 | exact gD2.1 | exact gQ.1 | exact hQ.1 | exact gS.1 | exact hS.1 | exact zD.1) dX0_take_31 ?_
      refine e_icmp_ge F 52 dX0_take_32 (by decide) (⟨by omega, by omega⟩) (⟨by omega, by omega⟩) (fun c_32 => ?_) (fun c_32 => ?_)
      · refine e_iconst F dX0_take_52 ?_
        refine e_istore_n F dX0_take_53 (by decide) ?_
        exact e_go (lq 8 0 wl g (by omega) ⟨by omega, by omega, g0, ⟨f, gf, fun j j0 j1 => gfA j j0 (by omega)⟩, gg, fun j j0 j1 => by omega, hO9, hDF⟩) (And.intro rfl (And.intro rfl (And.intro rfl trivial)))
      · refine e_aload_n F dX0_take_35 rfl ?_
        refine e_get (ci := 0) (fi := 3) (q := (RX0, TX0, 5)) F (by first | assumption | exact e_up_s | (rw [e_up_n (by first | assumption | omega)]; first | assumption | exact e_up_s | (rw [e_up_n (by first | assumption | omega)]; first | assumption | exact e_up_s | (rw [e_up_n (by first | assumption | omega)]; first | assumption | exact e_up_s))) | exact hD.1 | exact hD1.1 | exact hD2.1 | exact gD.1 | exact gD1.1 | exact gD2.1 | exact gQ.1 | exact hQ.1 | exact gS.1 | exact hS.1 | exact zD.1) rfl (by decide) w_fl_RX0_9 (by rfl) dX0_take_36 ?_
        refine e_iload_n F dX0_take_39 rfl ?_
        refine e_aload_n F dX0_take_40 rfl ?_
        refine e_iload_n F dX0_take_41 rfl ?_
        refine e_callVV F u_X0_shareAt (by rfl) (c_X0_shareAt hO9 (by omega) (by omega)) k0 rfl rfl w_ml_RX0_32 dX0_take_42 (by rfl) (Nat.le_of_ble_eq_true rfl) (by decide) (by omega) (fun _ _ _ h _ => False.elim h) (fun r_42 w_42 n_42 h_42 hn_42 => ?_)
        obtain ⟨rfl, ew_42, en_42⟩ := h_42
        rw [ew_42, en_42]
        refine e_iast F (by first | assumption | exact e_up_s | (rw [e_up_n (by first | assumption | omega)]; first | assumption | exact e_up_s | (rw [e_up_n (by first | assumption | omega)]; first | assumption | exact e_up_s | (rw [e_up_n (by first | assumption | omega)]; first | assumption | exact e_up_s))) | exact hD.1 | exact hD1.1 | exact hD2.1 | exact gD.1 | exact gD1.1 | exact gD2.1 | exact gQ.1 | exact hQ.1 | exact gS.1 | exact hS.1 | exact zD.1) (by omega) (by omega) (by first | decide | omega) dX0_take_45 ?_
        refine e_iinc F dX0_take_46 rfl (by decide) ?_
        refine e_goto F 26 dX0_take_49 (by decide) ?_
        refine e_go (ih (i + 1) (e_up wl (d + 1) (e_ia 8 (e_fu f i (A2 i)))) (e_fu f i (A2 i)) (by omega) ⟨by omega, by omega, by rw [e_up_n (by omega)]; exact g0, e_up_s, fun j j0 j1 => ?_, ⟨g, by rw [e_up_n (by omega)]; exact gg⟩, ⟨by rw [e_up_n (by omega)]; exact k0, ⟨f2, by rw [e_up_n (by omega)]; exact kf, kfA⟩, ⟨g2, by rw [e_up_n (by omega)]; exact kg, kgB⟩, hfl2, hdg2, hsc2, hA2, hB2⟩, fun q q1 q2 q3 => by rw [e_up_n q2]; exact hDF q q1 q2 q3⟩) (And.intro rfl (And.intro rfl (And.intro rfl trivial)))
        unfold e_fu
        split
        · rename_i q; rw [q]
        · exact gfA j j0 (by omega)
  have hD0 := hD
  obtain ⟨h0, ⟨f, hf, hfA⟩, ⟨g, hg, hgB⟩, hfl, hdg, hsc, hA, hB⟩ := hD
  obtain ⟨k0, ⟨f2, kf, kfA⟩, ⟨g2, kg, kgB⟩, hfl2, hdg2, hsc2, hA2, hB2⟩ := hO
  have hod : o ≠ d := by omega
  refine e_aload_n F dX0_take_0 rfl ?_
  refine e_aload_n F dX0_take_1 rfl ?_
  refine e_get (ci := 0) (fi := 0) (q := (RX0, TX0, 5)) F (by first | assumption | exact e_up_s | (rw [e_up_n (by first | assumption | omega)]; first | assumption | exact e_up_s | (rw [e_up_n (by first | assumption | omega)]; first | assumption | exact e_up_s | (rw [e_up_n (by first | assumption | omega)]; first | assumption | exact e_up_s))) | exact hD.1 | exact hD1.1 | exact hD2.1 | exact gD.1 | exact gD1.1 | exact gD2.1 | exact gQ.1 | exact hQ.1 | exact gS.1 | exact hS.1 | exact zD.1) rfl (by decide) w_fl_RX0_21 (by rfl) dX0_take_2 ?_
  refine e_set (host := "") (ci := 0) (fi := 0) (q := (RX0, TX0, 5)) F (by first | assumption | exact e_up_s | (rw [e_up_n (by first | assumption | omega)]; first | assumption | exact e_up_s | (rw [e_up_n (by first | assumption | omega)]; first | assumption | exact e_up_s | (rw [e_up_n (by first | assumption | omega)]; first | assumption | exact e_up_s))) | exact hD.1 | exact hD1.1 | exact hD2.1 | exact gD.1 | exact gD1.1 | exact gD2.1 | exact gQ.1 | exact hQ.1 | exact gS.1 | exact hS.1 | exact zD.1) rfl (by decide) w_fl_RX0_21 rfl (by rcases hfl2 with h | h <;> rw [h] <;> rfl) (by rcases hfl2 with h | h <;> rw [h] <;> rfl) (Nat.le_of_ble_eq_true rfl) dX0_take_5 ?_
  refine e_aload_n F dX0_take_8 rfl ?_
  refine e_aload_n F dX0_take_9 rfl ?_
  refine e_get (ci := 0) (fi := 1) (q := (RX0, TX0, 5)) F (by first | assumption | exact e_up_s | (rw [e_up_n (by first | assumption | omega)]; first | assumption | exact e_up_s | (rw [e_up_n (by first | assumption | omega)]; first | assumption | exact e_up_s | (rw [e_up_n (by first | assumption | omega)]; first | assumption | exact e_up_s))) | exact hD.1 | exact hD1.1 | exact hD2.1 | exact gD.1 | exact gD1.1 | exact gD2.1 | exact gQ.1 | exact hQ.1 | exact gS.1 | exact hS.1 | exact zD.1) rfl (by decide) w_fl_RX0_25 (by rfl) dX0_take_10 ?_
  refine e_set (host := "") (ci := 0) (fi := 1) (q := (RX0, TX0, 5)) F (by first | assumption | exact e_up_s | (rw [e_up_n (by first | assumption | omega)]; first | assumption | exact e_up_s | (rw [e_up_n (by first | assumption | omega)]; first | assumption | exact e_up_s | (rw [e_up_n (by first | assumption | omega)]; first | assumption | exact e_up_s))) | exact hD.1 | exact hD1.1 | exact hD2.1 | exact gD.1 | exact gD1.1 | exact gD2.1 | exact gQ.1 | exact hQ.1 | exact gS.1 | exact hS.1 | exact zD.1) rfl (by decide) w_fl_RX0_25 rfl (by rfl) (by rfl) (Nat.le_of_ble_eq_true rfl) dX0_take_13 ?_
  refine e_aload_n F dX0_take_16 rfl ?_
  refine e_aload_n F dX0_take_17 rfl ?_
  refine e_get (ci := 0) (fi := 2) (q := (RX0, TX0, 5)) F (by first | assumption | exact e_up_s | (rw [e_up_n (by first | assumption | omega)]; first | assumption | exact e_up_s | (rw [e_up_n (by first | assumption | omega)]; first | assumption | exact e_up_s | (rw [e_up_n (by first | assumption | omega)]; first | assumption | exact e_up_s))) | exact hD.1 | exact hD1.1 | exact hD2.1 | exact gD.1 | exact gD1.1 | exact gD2.1 | exact gQ.1 | exact hQ.1 | exact gS.1 | exact hS.1 | exact zD.1) rfl (by decide) w_fl_RX0_29 (by rfl) dX0_take_18 ?_
  refine e_set (host := "") (ci := 0) (fi := 2) (q := (RX0, TX0, 5)) F (by first | assumption | exact e_up_s | (rw [e_up_n (by first | assumption | omega)]; first | assumption | exact e_up_s | (rw [e_up_n (by first | assumption | omega)]; first | assumption | exact e_up_s | (rw [e_up_n (by first | assumption | omega)]; first | assumption | exact e_up_s))) | exact hD.1 | exact hD1.1 | exact hD2.1 | exact gD.1 | exact gD1.1 | exact gD2.1 | exact gQ.1 | exact hQ.1 | exact gS.1 | exact hS.1 | exact zD.1) rfl (by decide) w_fl_RX0_29 rfl (by rfl) (by rfl) (Nat.le_of_ble_eq_true rfl) dX0_take_21 ?_
  refine e_iconst F dX0_take_24 ?_
  refine e_istore_n F dX0_take_25 (by decide) ?_
  have hn1 : d + 1 ≠ d := by omega
  have hn2 : d + 2 ≠ d := by omega
  have ho1 : o + 1 ≠ d := by omega
  have ho2 : o + 2 ≠ d := by omega
  exact e_go (lp 8 1 _ f (by omega) ⟨by omega, by omega, e_up_s, by simp only [e_up, if_neg hn1]; exact hf, fun j _ _ => by omega, ⟨g, by simp only [e_up, if_neg hn2]; exact hg⟩, ⟨by simp only [e_up, if_neg hod]; exact k0, ⟨f2, by simp only [e_up, if_neg ho1]; exact kf, kfA⟩, ⟨g2, by simp only [e_up, if_neg ho2]; exact kg, kgB⟩, hfl2, hdg2, hsc2, hA2, hB2⟩, fun q q1 _ _ => by simp only [e_up, if_neg q1]⟩) (And.intro rfl (And.intro rfl (And.intro rfl trivial)))
set_option maxHeartbeats 4000000 in
set_option maxRecDepth 100000 in
theorem c_X0_takeS {K : e_K} {l : Launch} {w : e_W} {n : Nat} {d : Nat} {fl dg sc : Int} {A B : Int → Int} (hD : DL w d fl dg sc A B) : e_Met K l yX0_take (Cond.code yX0_take cX0_take 3 none :: e_TB) (1) (0) [.ref d, .ref d] w n (fun r w' n' => r = none ∧ n' = n ∧ DL w' d fl dg sc A B ∧ DF w w' d) (e_px0) := by
  refine e_ofV rfl (Nat.le_of_ble_eq_true rfl) ?_
  intro P9 E9 S9 M9 A9 B9 T9 C9 F hnm
  have lq : ∀ (N : Nat) (i : Int) (wl : e_W), (7 - i).toNat < N → (0 ≤ i ∧ i ≤ 7 ∧ DL wl d fl dg sc A B ∧ DF w wl d) → e_V K P9 l E9 (1) (0) S9 M9 A9 B9 T9 C9 3 (fun r w' n' => r = none ∧ n' = n ∧ DL w' d fl dg sc A B ∧ DF w w' d) (e_px0) 54 [(0, .ref d), (1, .ref d), (2, .int (eI i))] [] wl n (0) := by
    intro N
    induction N with
    | zero => intro i wl hN; exact absurd hN (Nat.not_lt_zero _)
    | succ N ih =>
      intro i wl hN ⟨h1, h2, hD, hDF⟩
      have hD0 := hD
      obtain ⟨h0, ⟨f, hf, hfA⟩, ⟨g, hg, hgB⟩, hfl, hdg, hsc, hA, hB⟩ := hD
      refine e_iload_n F dX0_take_54 rfl ?_
      refine e_aload_n F dX0_take_55 rfl ?_
      refine e_get (ci := 0) (fi := 4) (q := (RX0, TX0, 5)) F (by first | assumption | exact e_up_s | (rw [e_up_n (by first | assumption | omega)]; first | assumption | exact e_up_s | (rw [e_up_n (by first | assumption | omega)]; first | assumption | exact e_up_s | (rw [e_up_n (by first | assumption | omega)]; first | assumption | exact e_up_s))) | exact hD.1 | exact hD1.1 | exact hD2.1 | exact gD.1 | exact gD1.1 | exact gD2.1 | exact gQ.1 | exact hQ.1 | exact gS.1 | exact hS.1 | exact zD.1) rfl (by decide) w_fl_RX0_15 (by rfl) dX0_take_56 ?_
      refine e_alenI F (by first | assumption | exact e_up_s | (rw [e_up_n (by first | assumption | omega)]; first | assumption | exact e_up_s | (rw [e_up_n (by first | assumption | omega)]; first | assumption | exact e_up_s | (rw [e_up_n (by first | assumption | omega)]; first | assumption | exact e_up_s))) | exact hD.1 | exact hD1.1 | exact hD2.1 | exact gD.1 | exact gD1.1 | exact gD2.1 | exact gQ.1 | exact hQ.1 | exact gS.1 | exact hS.1 | exact zD.1) dX0_take_59 ?_
      refine e_icmp_ge F 80 dX0_take_60 (by decide) (⟨by omega, by omega⟩) (⟨by omega, by omega⟩) (fun c_60 => ?_) (fun c_60 => ?_)
      · refine e_vret F rfl (by omega) ?_ dX0_take_80
        exact ⟨rfl, rfl, hD0, hDF⟩
      · refine e_aload_n F dX0_take_63 rfl ?_
        refine e_get (ci := 0) (fi := 4) (q := (RX0, TX0, 5)) F (by first | assumption | exact e_up_s | (rw [e_up_n (by first | assumption | omega)]; first | assumption | exact e_up_s | (rw [e_up_n (by first | assumption | omega)]; first | assumption | exact e_up_s | (rw [e_up_n (by first | assumption | omega)]; first | assumption | exact e_up_s))) | exact hD.1 | exact hD1.1 | exact hD2.1 | exact gD.1 | exact gD1.1 | exact gD2.1 | exact gQ.1 | exact hQ.1 | exact gS.1 | exact hS.1 | exact zD.1) rfl (by decide) w_fl_RX0_15 (by rfl) dX0_take_64 ?_
        refine e_iload_n F dX0_take_67 rfl ?_
        refine e_aload_n F dX0_take_68 rfl ?_
        refine e_iload_n F dX0_take_69 rfl ?_
        refine e_callVV F u_X0_sealAt (by rfl) (c_X0_sealAt hD0 ⟨by omega, by omega⟩) h0 rfl rfl w_ml_RX0_36 dX0_take_70 (by rfl) (Nat.le_of_ble_eq_true rfl) (by decide) (by omega) (fun _ _ _ h _ => False.elim h) (fun r_70 w_70 n_70 h_70 hn_70 => ?_)
        obtain ⟨rfl, ew_70, en_70⟩ := h_70
        rw [ew_70, en_70]
        refine e_iast F (by first | assumption | exact e_up_s | (rw [e_up_n (by first | assumption | omega)]; first | assumption | exact e_up_s | (rw [e_up_n (by first | assumption | omega)]; first | assumption | exact e_up_s | (rw [e_up_n (by first | assumption | omega)]; first | assumption | exact e_up_s))) | exact hD.1 | exact hD1.1 | exact hD2.1 | exact gD.1 | exact gD1.1 | exact gD2.1 | exact gQ.1 | exact hQ.1 | exact gS.1 | exact hS.1 | exact zD.1) (by omega) (by omega) (by first | decide | omega) dX0_take_73 ?_
        refine e_iinc F dX0_take_74 rfl (by decide) ?_
        refine e_goto F 54 dX0_take_77 (by decide) ?_
        refine e_go (ih (i + 1) (e_up wl (d + 2) (e_ia 7 (e_fu g i (if 0 ≤ i ∧ i < sc then B i else -1)))) (by omega) ⟨by omega, by omega, ⟨by rw [e_up_n (by omega)]; exact h0, ⟨f, by rw [e_up_n (by omega)]; exact hf, hfA⟩, ⟨_, e_up_s, fun j j0 j1 => ?_⟩, hfl, hdg, hsc, hA, hB⟩, fun q q1 q2 q3 => by rw [e_up_n q3]; exact hDF q q1 q2 q3⟩) (And.intro rfl (And.intro rfl (And.intro rfl trivial)))
        unfold e_fu
        split
        · rename_i q; rw [← q, if_pos ⟨j0, j1⟩]
        · exact hgB j j0 j1
  have lp : ∀ (N : Nat) (i : Int) (wl : e_W), (8 - i).toNat < N → (1 ≤ i ∧ i ≤ 8 ∧ DL wl d fl dg sc A B ∧ DF w wl d) → e_V K P9 l E9 (1) (0) S9 M9 A9 B9 T9 C9 3 (fun r w' n' => r = none ∧ n' = n ∧ DL w' d fl dg sc A B ∧ DF w w' d) (e_px0) 26 [(0, .ref d), (1, .ref d), (2, .int (eI i))] [] wl n (0) := by
    intro N
    induction N with
    | zero => intro i wl hN; exact absurd hN (Nat.not_lt_zero _)
    | succ N ih =>
      intro i wl hN ⟨h1, h2, hD, hDF⟩
      have hD0 := hD
      obtain ⟨h0, ⟨f, hf, hfA⟩, ⟨g, hg, hgB⟩, hfl, hdg, hsc, hA, hB⟩ := hD
      refine e_iload_n F dX0_take_26 rfl ?_
      refine e_aload_n F dX0_take_27 rfl ?_
      refine e_get (ci := 0) (fi := 3) (q := (RX0, TX0, 5)) F (by first | assumption | exact e_up_s | (rw [e_up_n (by first | assumption | omega)]; first | assumption | exact e_up_s | (rw [e_up_n (by first | assumption | omega)]; first | assumption | exact e_up_s | (rw [e_up_n (by first | assumption | omega)]; first | assumption | exact e_up_s))) | exact hD.1 | exact hD1.1 | exact hD2.1 | exact gD.1 | exact gD1.1 | exact gD2.1 | exact gQ.1 | exact hQ.1 | exact gS.1 | exact hS.1 | exact zD.1) rfl (by decide) w_fl_RX0_9 (by rfl) dX0_take_28 ?_
      refine e_alenI F (by first | assumption | exact e_up_s | (rw [e_up_n (by first | assumption | omega)]; first | assumption | exact e_up_s | (rw [e_up_n (by first | assumption | omega)]; first | assumption | exact e_up_s | (rw [e_up_n (by first | assumption | omega)]; first | assumption | exact e_up_s))) | exact hD.1 | exact hD1.1 | exact hD2.1 | exact gD.1 | exact gD1.1 | exact gD2.1 | exact gQ.1 | exact hQ.1 | exact gS.1 | exact hS.1 | exact zD.1) dX0_take_31 ?_
      refine e_icmp_ge F 52 dX0_take_32 (by decide) (⟨by omega, by omega⟩) (⟨by omega, by omega⟩) (fun c_32 => ?_) (fun c_32 => ?_)
      · refine e_iconst F dX0_take_52 ?_
        refine e_istore_n F dX0_take_53 (by decide) ?_
        exact e_go (lq 8 0 wl (by omega) ⟨by omega, by omega, hD0, hDF⟩) (And.intro rfl (And.intro rfl (And.intro rfl trivial)))
      · refine e_aload_n F dX0_take_35 rfl ?_
        refine e_get (ci := 0) (fi := 3) (q := (RX0, TX0, 5)) F (by first | assumption | exact e_up_s | (rw [e_up_n (by first | assumption | omega)]; first | assumption | exact e_up_s | (rw [e_up_n (by first | assumption | omega)]; first | assumption | exact e_up_s | (rw [e_up_n (by first | assumption | omega)]; first | assumption | exact e_up_s))) | exact hD.1 | exact hD1.1 | exact hD2.1 | exact gD.1 | exact gD1.1 | exact gD2.1 | exact gQ.1 | exact hQ.1 | exact gS.1 | exact hS.1 | exact zD.1) rfl (by decide) w_fl_RX0_9 (by rfl) dX0_take_36 ?_
        refine e_iload_n F dX0_take_39 rfl ?_
        refine e_aload_n F dX0_take_40 rfl ?_
        refine e_iload_n F dX0_take_41 rfl ?_
        refine e_callVV F u_X0_shareAt (by rfl) (c_X0_shareAt hD0 (by omega) (by omega)) h0 rfl rfl w_ml_RX0_32 dX0_take_42 (by rfl) (Nat.le_of_ble_eq_true rfl) (by decide) (by omega) (fun _ _ _ h _ => False.elim h) (fun r_42 w_42 n_42 h_42 hn_42 => ?_)
        obtain ⟨rfl, ew_42, en_42⟩ := h_42
        rw [ew_42, en_42]
        refine e_iast F (by first | assumption | exact e_up_s | (rw [e_up_n (by first | assumption | omega)]; first | assumption | exact e_up_s | (rw [e_up_n (by first | assumption | omega)]; first | assumption | exact e_up_s | (rw [e_up_n (by first | assumption | omega)]; first | assumption | exact e_up_s))) | exact hD.1 | exact hD1.1 | exact hD2.1 | exact gD.1 | exact gD1.1 | exact gD2.1 | exact gQ.1 | exact hQ.1 | exact gS.1 | exact hS.1 | exact zD.1) (by omega) (by omega) (by first | decide | omega) dX0_take_45 ?_
        refine e_iinc F dX0_take_46 rfl (by decide) ?_
        refine e_goto F 26 dX0_take_49 (by decide) ?_
        refine e_go (ih (i + 1) (e_up wl (d + 1) (e_ia 8 (e_fu f i (A i)))) (by omega) ⟨by omega, by omega, ⟨by rw [e_up_n (by omega)]; exact h0, ⟨_, e_up_s, fun j j0 j1 => ?_⟩, ⟨g, by rw [e_up_n (by omega)]; exact hg, hgB⟩, hfl, hdg, hsc, hA, hB⟩, fun q q1 q2 q3 => by rw [e_up_n q2]; exact hDF q q1 q2 q3⟩) (And.intro rfl (And.intro rfl (And.intro rfl trivial)))
        unfold e_fu
        split
        · rename_i q; rw [q]
        · exact hfA j j0 j1
  have hD0 := hD
  obtain ⟨h0, ⟨f, hf, hfA⟩, ⟨g, hg, hgB⟩, hfl, hdg, hsc, hA, hB⟩ := hD
  refine e_aload_n F dX0_take_0 rfl ?_
  refine e_aload_n F dX0_take_1 rfl ?_
  refine e_get (ci := 0) (fi := 0) (q := (RX0, TX0, 5)) F (by first | assumption | exact e_up_s | (rw [e_up_n (by first | assumption | omega)]; first | assumption | exact e_up_s | (rw [e_up_n (by first | assumption | omega)]; first | assumption | exact e_up_s | (rw [e_up_n (by first | assumption | omega)]; first | assumption | exact e_up_s))) | exact hD.1 | exact hD1.1 | exact hD2.1 | exact gD.1 | exact gD1.1 | exact gD2.1 | exact gQ.1 | exact hQ.1 | exact gS.1 | exact hS.1 | exact zD.1) rfl (by decide) w_fl_RX0_21 (by rfl) dX0_take_2 ?_
  refine e_set (host := "") (ci := 0) (fi := 0) (q := (RX0, TX0, 5)) F (by first | assumption | exact e_up_s | (rw [e_up_n (by first | assumption | omega)]; first | assumption | exact e_up_s | (rw [e_up_n (by first | assumption | omega)]; first | assumption | exact e_up_s | (rw [e_up_n (by first | assumption | omega)]; first | assumption | exact e_up_s))) | exact hD.1 | exact hD1.1 | exact hD2.1 | exact gD.1 | exact gD1.1 | exact gD2.1 | exact gQ.1 | exact hQ.1 | exact gS.1 | exact hS.1 | exact zD.1) rfl (by decide) w_fl_RX0_21 rfl (by rcases hfl with h | h <;> rw [h] <;> rfl) (by rcases hfl with h | h <;> rw [h] <;> rfl) (Nat.le_of_ble_eq_true rfl) dX0_take_5 ?_
  refine e_aload_n F dX0_take_8 rfl ?_
  refine e_aload_n F dX0_take_9 rfl ?_
  refine e_get (ci := 0) (fi := 1) (q := (RX0, TX0, 5)) F (by first | assumption | exact e_up_s | (rw [e_up_n (by first | assumption | omega)]; first | assumption | exact e_up_s | (rw [e_up_n (by first | assumption | omega)]; first | assumption | exact e_up_s | (rw [e_up_n (by first | assumption | omega)]; first | assumption | exact e_up_s))) | exact hD.1 | exact hD1.1 | exact hD2.1 | exact gD.1 | exact gD1.1 | exact gD2.1 | exact gQ.1 | exact hQ.1 | exact gS.1 | exact hS.1 | exact zD.1) rfl (by decide) w_fl_RX0_25 (by rfl) dX0_take_10 ?_
  refine e_set (host := "") (ci := 0) (fi := 1) (q := (RX0, TX0, 5)) F (by first | assumption | exact e_up_s | (rw [e_up_n (by first | assumption | omega)]; first | assumption | exact e_up_s | (rw [e_up_n (by first | assumption | omega)]; first | assumption | exact e_up_s | (rw [e_up_n (by first | assumption | omega)]; first | assumption | exact e_up_s))) | exact hD.1 | exact hD1.1 | exact hD2.1 | exact gD.1 | exact gD1.1 | exact gD2.1 | exact gQ.1 | exact hQ.1 | exact gS.1 | exact hS.1 | exact zD.1) rfl (by decide) w_fl_RX0_25 rfl (by rfl) (by rfl) (Nat.le_of_ble_eq_true rfl) dX0_take_13 ?_
  refine e_aload_n F dX0_take_16 rfl ?_
  refine e_aload_n F dX0_take_17 rfl ?_
  refine e_get (ci := 0) (fi := 2) (q := (RX0, TX0, 5)) F (by first | assumption | exact e_up_s | (rw [e_up_n (by first | assumption | omega)]; first | assumption | exact e_up_s | (rw [e_up_n (by first | assumption | omega)]; first | assumption | exact e_up_s | (rw [e_up_n (by first | assumption | omega)]; first | assumption | exact e_up_s))) | exact hD.1 | exact hD1.1 | exact hD2.1 | exact gD.1 | exact gD1.1 | exact gD2.1 | exact gQ.1 | exact hQ.1 | exact gS.1 | exact hS.1 | exact zD.1) rfl (by decide) w_fl_RX0_29 (by rfl) dX0_take_18 ?_
  refine e_set (host := "") (ci := 0) (fi := 2) (q := (RX0, TX0, 5)) F (by first | assumption | exact e_up_s | (rw [e_up_n (by first | assumption | omega)]; first | assumption | exact e_up_s | (rw [e_up_n (by first | assumption | omega)]; first | assumption | exact e_up_s | (rw [e_up_n (by first | assumption | omega)]; first | assumption | exact e_up_s))) | exact hD.1 | exact hD1.1 | exact hD2.1 | exact gD.1 | exact gD1.1 | exact gD2.1 | exact gQ.1 | exact hQ.1 | exact gS.1 | exact hS.1 | exact zD.1) rfl (by decide) w_fl_RX0_29 rfl (by rfl) (by rfl) (Nat.le_of_ble_eq_true rfl) dX0_take_21 ?_
  refine e_iconst F dX0_take_24 ?_
  refine e_istore_n F dX0_take_25 (by decide) ?_
  have hn1 : d + 1 ≠ d := by omega
  have hn2 : d + 2 ≠ d := by omega
  exact e_go (lp 8 1 _ (by omega) ⟨by omega, by omega, ⟨e_up_s, ⟨f, by simp only [e_up, if_neg hn1]; exact hf, hfA⟩, ⟨g, by simp only [e_up, if_neg hn2]; exact hg, hgB⟩, hfl, hdg, hsc, hA, hB⟩, fun q q1 _ _ => by simp only [e_up, if_neg q1]⟩) (And.intro rfl (And.intro rfl (And.intro rfl trivial)))
