/-! the reference: the poly through a set -/
def trT (wh : Nat) (A M9 N9 : Int → Int) (h : Int) : Int := (A h - hv (pr wh) h M9 7 7) % pr wh * iv wh (hv (pr wh) h N9 8 8) % pr wh
def trK (wh : Nat) (set : Int) (A : Int → Int) : Nat → (Int → Int) × (Int → Int)
  | 0 => (fun _ => 0, fun k => if k = 0 then 1 else 0)
  | k + 1 => if hs set ((k : Int) + 1) then (fun c => ((trK wh set A k).1 c + trT wh A (trK wh set A k).1 (trK wh set A k).2 ((k : Int) + 1) * (trK wh set A k).2 c) % pr wh, tmS (pr wh) ((k : Int) + 1) (trK wh set A k).2) else trK wh set A k
theorem trK_rg {wh : Nat} (hwh : wh < 7) (set : Int) (A : Int → Int) (k : Nat) (c : Int) : (0 ≤ (trK wh set A k).1 c ∧ (trK wh set A k).1 c < pr wh) ∧ (0 ≤ (trK wh set A k).2 c ∧ (trK wh set A k).2 c < pr wh) := by
  have hp := pr_rg wh hwh
  induction k generalizing c with
  | zero => unfold trK; dsimp only; split <;> omega
  | succ k ih =>
    unfold trK
    split
    · exact ⟨⟨Int.emod_nonneg _ (by omega), Int.emod_lt_of_pos _ (by omega)⟩, ⟨Int.emod_nonneg _ (by omega), Int.emod_lt_of_pos _ (by omega)⟩⟩
    · exact ih c
theorem trK_congr {wh : Nat} {set : Int} {A A2 : Int → Int} (k : Nat) (h : ∀ j : Int, 1 ≤ j → j ≤ k → A j = A2 j) : trK wh set A k = trK wh set A2 k := by
  induction k with
  | zero => rfl
  | succ k ih =>
    have e := ih (fun j h1 h2 => h j h1 (by omega))
    unfold trK
    rw [e]
    unfold trT
    rw [h ((k : Int) + 1) (by omega) (by omega)]
def atV (wh : Nat) (set : Int) (A : Int → Int) (x : Int) : Int := hv (pr wh) (x % pr wh) (trK wh set A (ho wh).toNat).1 7 7
theorem trT_rg {wh : Nat} (hwh : wh < 7) {A M9 N9 : Int → Int} {h : Int} : 0 ≤ trT wh A M9 N9 h ∧ trT wh A M9 N9 h < pr wh := emod_rg _ hwh
set_option maxHeartbeats 4000000 in
set_option maxRecDepth 100000 in
theorem c_X5_through {K : e_K} {l : Launch} {w : e_W} {n : Nat} {y wh : Nat} {t kn : Int} (hY : w y = some (MO y t wh kn)) (hwh : wh < 7) {a NA : Nat} {f : Int → Int} (ha : w a = some (e_ia NA f)) (hNA : (NA : Int) = ho wh + 1) (hf : ∀ j : Int, 0 ≤ j → j < NA → -1 ≤ f j ∧ f j < pr wh) {set : Int} (hs0 : 0 ≤ set) (hs1 : set < 128) : e_Met K l yX5_through (Cond.code yX5_through cX5_through 8 (Option.some (.array .int)) :: e_TB) (3) (2) [.ref y, .ref a, .int (eI set)] w n (fun r w' n' => r = some (.ref n) ∧ (∃ g, w' n = some (e_ia 7 g) ∧ ∀ j : Int, 0 ≤ j → j < 7 → g j = (trK wh set f (ho wh).toNat).1 j) ∧ KB w w' n ∧ n' = n + 2) (e_px0) := by
  refine e_ofV rfl (Nat.le_of_ble_eq_true rfl) ?_
  intro P9 E9 S9 M9 A9 B9 T9 C9 F hnm
  have hp := pr_rg wh hwh
  have hho := ho_rg wh hwh
  refine e_dom ?_
  intro hdom
  have hyn := hdom _ _ hY
  have han := hdom _ _ ha
  have lp : ∀ (N k : Nat) (wl : e_W) (g1 g2 : Int → Int), 8 - k < N → ((k : Int) ≤ ho wh ∧ wl n = some (e_ia 7 g1) ∧ wl (n + 1) = some (e_ia 8 g2) ∧ (∀ j : Int, 0 ≤ j → j < 7 → g1 j = (trK wh set f k).1 j) ∧ (∀ j : Int, 0 ≤ j → j < 8 → g2 j = (trK wh set f k).2 j) ∧ KB w wl n) → e_V K P9 l E9 (3) (2) S9 M9 A9 B9 T9 C9 8 (fun r w' n' => r = some (.ref n) ∧ (∃ g, w' n = some (e_ia 7 g) ∧ ∀ j : Int, 0 ≤ j → j < 7 → g j = (trK wh set f (ho wh).toNat).1 j) ∧ KB w w' n ∧ n' = n + 2) (e_px0) 19 [(0, .ref y), (1, .ref a), (2, .int (eI set)), (3, .ref n), (4, .ref (n + 1)), (5, .int (eI ((k : Int) + 1)))] [] wl (n + 1 + 1) ((0 + 1 + 1)) := by
    intro N
    induction N with
    | zero => intro k wl g1 g2 hN; exact absurd hN (Nat.not_lt_zero _)
    | succ N ih =>
      intro k wl g1 g2 hN ⟨hk, gn, gn1, ge1, ge2, gK⟩
      have gY : wl y = some (MO y t wh kn) := (gK y (by omega)).trans hY
      have ga : wl a = some (e_ia NA f) := (gK a (by omega)).trans ha
      have hr := fun c => trK_rg hwh set f k c
      have l2 : (k : Int) < ho wh → hs set ((k : Int) + 1) → ∀ (N2 c : Nat) (w2 : e_W) (g3 g4 : Int → Int), c < N2 → (c ≤ 8 ∧ w2 n = some (e_ia 7 g3) ∧ w2 (n + 1) = some (e_ia 8 g4) ∧ (∀ j : Int, 0 ≤ j → j < 7 → g3 j = ((trK wh set f k).1 j + (trT wh f (trK wh set f k).1 (trK wh set f k).2 ((k : Int) + 1)) * (trK wh set f k).2 j) % pr wh) ∧ (∀ j : Int, 0 ≤ j → j < 8 → g4 j = if (c : Int) ≤ j then tmS (pr wh) ((k : Int) + 1) (trK wh set f k).2 j else (trK wh set f k).2 j) ∧ KB w w2 n) → e_V K P9 l E9 (3) (2) S9 M9 A9 B9 T9 C9 8 (fun r w' n' => r = some (.ref n) ∧ (∃ g, w' n = some (e_ia 7 g) ∧ ∀ j : Int, 0 ≤ j → j < 7 → g j = (trK wh set f (ho wh).toNat).1 j) ∧ KB w w' n ∧ n' = n + 2) (e_px0) 123 [(0, .ref y), (1, .ref a), (2, .int (eI set)), (3, .ref n), (4, .ref (n + 1)), (5, .int (eI ((k : Int) + 1))), (6, .int (eI (trT wh f (trK wh set f k).1 (trK wh set f k).2 ((k : Int) + 1)))), (7, .int (eI ((c : Int) - 1)))] [] w2 (n + 1 + 1) ((0 + 1 + 1)) := by
        intro hlt hset N2
        induction N2 with
        | zero => intro c w2 g3 g4 hN; exact absurd hN (Nat.not_lt_zero _)
        | succ N2 ih2 =>
          intro c0 w2 g3 g4 hN2 ⟨hc, gn2, gn3, ge3, ge4, gK2⟩
          have gY2 : w2 y = some (MO y t wh kn) := (gK2 y (by omega)).trans hY
          cases c0 with
          | zero =>
            refine e_iload F dX5_through_123 rfl ?_
            refine e_if_lt F 171 dX5_through_125 (by decide) (⟨by omega, by omega⟩) (fun c_125 => ?_) (fun c_125 => ?_)
            · refine e_iinc F dX5_through_171 rfl (by decide) ?_
              refine e_goto F 19 dX5_through_174 (by decide) ?_
              have e9 : trK wh set f (k + 1) = (fun c => ((trK wh set f k).1 c + (trT wh f (trK wh set f k).1 (trK wh set f k).2 ((k : Int) + 1)) * (trK wh set f k).2 c) % pr wh, tmS (pr wh) ((k : Int) + 1) (trK wh set f k).2) := if_pos hset
              refine e_go (ih (k + 1) w2 g3 g4 (by omega) ⟨by omega, gn2, gn3, fun j j0 j1 => by rw [e9]; exact ge3 j j0 j1, fun j j0 j1 => by rw [e9, ge4 j j0 j1, if_pos (by omega)], gK2⟩) ?_
              exact (And.intro rfl (And.intro rfl (And.intro rfl (And.intro rfl (And.intro rfl (And.intro rfl (trivial)))))))
            · exact absurd c_125 (by omega)
          | succ c =>
            have e9 : ((c + 1 : Nat) : Int) - 1 = (c : Int) := by omega
            rw [e9]
            have hk2 := (hr (c : Int)).2
            have hk3 := (hr ((c : Int) - 1)).2
            have gc : g4 (c : Int) = (trK wh set f k).2 (c : Int) := by rw [ge4 _ (by omega) (by omega), if_neg (by omega)]
            have gc1 : 0 < (c : Int) → g4 ((c : Int) - 1) = (trK wh set f k).2 ((c : Int) - 1) := fun q => by rw [ge4 _ (by omega) (by omega), if_neg (by omega)]
            have hm0 : 0 ≤ ((k : Int) + 1) * (trK wh set f k).2 (c : Int) ∧ ((k : Int) + 1) * (trK wh set f k).2 (c : Int) ≤ 8 * 1000003 := ⟨Int.mul_nonneg (by omega) (by omega), Int.mul_le_mul (by omega) (by omega) (by omega) (by omega)⟩
            refine e_iload F dX5_through_123 rfl ?_
            refine e_if_lt F 171 dX5_through_125 (by decide) (⟨by omega, by omega⟩) (fun c_125 => ?_) (fun c_125 => ?_)
            · exact absurd c_125 (by omega)
            · refine e_aload F dX5_through_128 rfl ?_
              refine e_iload F dX5_through_130 rfl ?_
              refine e_aload_n F dX5_through_132 rfl ?_
              refine e_iload F dX5_through_133 rfl ?_
              refine e_if_le F 148 dX5_through_135 (by decide) (⟨by omega, by omega⟩) (fun c_135 => ?_) (fun c_135 => ?_)
              · refine e_iconst F dX5_through_148 ?_
                refine e_i2l F dX5_through_149 (⟨by first | (rw [gc1 (by omega)]; omega) | omega, by first | (rw [gc1 (by omega)]; omega) | omega⟩) ?_
                refine e_iload F dX5_through_150 rfl ?_
                refine e_i2l F dX5_through_152 (⟨by omega, by omega⟩) ?_
                refine e_aload F dX5_through_153 rfl ?_
                refine e_iload F dX5_through_155 rfl ?_
                refine e_iald F gn3 (by omega) (by omega) (by first | decide | omega) dX5_through_157 ?_
                refine e_i2l F dX5_through_158 (⟨by rw [gc]; omega, by rw [gc]; omega⟩) ?_
                rw [gc]
                refine e_lmul F dX5_through_159 ?_
                refine e_lsub F dX5_through_160 ?_
                refine e_callVV F u_X5_mod (by rfl) (c_X5_mod gY2 hwh (by first | (rw [gc1 (by omega)]; constructor <;> omega) | (constructor <;> omega))) gY2 rfl rfl w_ml_RX5_55 dX5_through_161 (by rfl) (Nat.le_of_ble_eq_true rfl) (by decide) (by omega) (fun _ _ _ h _ => False.elim h) (fun r_161 w_161 n_161 h_161 hn_161 => ?_)
                obtain ⟨rfl, ew_161, en_161⟩ := h_161
                rw [ew_161, en_161]
                refine e_iast F gn3 (by omega) (by omega) (by first | decide | omega) dX5_through_164 ?_
                refine e_iinc F dX5_through_165 rfl (by decide) ?_
                refine e_goto F 123 dX5_through_168 (by decide) ?_
                refine e_go (ih2 c _ g3 _ (by omega) ⟨by omega, by rw [e_up_n (by omega)]; exact gn2, e_up_s, ge3, fun j j0 j1 => ?_, fun j hj => by rw [e_up_n (by omega)]; exact gK2 j hj⟩) ?_
                · unfold e_fu
                  by_cases e8 : j = (c : Int)
                  · rw [if_pos e8, if_pos (by omega), e8]
                    unfold tmS
                    first | rw [if_pos (show 0 < (c : Int) by omega), gc1 (by omega)] | rw [if_neg (show ¬ 0 < (c : Int) by omega)]
                  · rw [if_neg e8, ge4 j j0 j1]
                    by_cases e7 : (c : Int) ≤ j
                    · rw [if_pos e7, if_pos (by omega)]
                    · rw [if_neg e7, if_neg (by omega)]
                · rw [show (c : Int) - 1 = (c : Int) + -1 by omega]
                  exact (And.intro rfl (And.intro rfl (And.intro rfl (And.intro rfl (And.intro rfl (And.intro rfl (And.intro rfl (And.intro rfl (trivial)))))))))
              · refine e_aload F dX5_through_138 rfl ?_
                refine e_iload F dX5_through_140 rfl ?_
                refine e_iconst F dX5_through_142 ?_
                refine e_isub F dX5_through_143 ?_
                refine e_iald F gn3 (by omega) (by omega) (by first | decide | omega) dX5_through_144 ?_
                refine e_goto F 149 dX5_through_145 (by decide) ?_
                refine e_i2l F dX5_through_149 (⟨by first | (rw [gc1 (by omega)]; omega) | omega, by first | (rw [gc1 (by omega)]; omega) | omega⟩) ?_
                refine e_iload F dX5_through_150 rfl ?_
                refine e_i2l F dX5_through_152 (⟨by omega, by omega⟩) ?_
                refine e_aload F dX5_through_153 rfl ?_
                refine e_iload F dX5_through_155 rfl ?_
                refine e_iald F gn3 (by omega) (by omega) (by first | decide | omega) dX5_through_157 ?_
                refine e_i2l F dX5_through_158 (⟨by rw [gc]; omega, by rw [gc]; omega⟩) ?_
                rw [gc]
                refine e_lmul F dX5_through_159 ?_
                refine e_lsub F dX5_through_160 ?_
                refine e_callVV F u_X5_mod (by rfl) (c_X5_mod gY2 hwh (by first | (rw [gc1 (by omega)]; constructor <;> omega) | (constructor <;> omega))) gY2 rfl rfl w_ml_RX5_55 dX5_through_161 (by rfl) (Nat.le_of_ble_eq_true rfl) (by decide) (by omega) (fun _ _ _ h _ => False.elim h) (fun r_161 w_161 n_161 h_161 hn_161 => ?_)
                obtain ⟨rfl, ew_161, en_161⟩ := h_161
                rw [ew_161, en_161]
                refine e_iast F gn3 (by omega) (by omega) (by first | decide | omega) dX5_through_164 ?_
                refine e_iinc F dX5_through_165 rfl (by decide) ?_
                refine e_goto F 123 dX5_through_168 (by decide) ?_
                refine e_go (ih2 c _ g3 _ (by omega) ⟨by omega, by rw [e_up_n (by omega)]; exact gn2, e_up_s, ge3, fun j j0 j1 => ?_, fun j hj => by rw [e_up_n (by omega)]; exact gK2 j hj⟩) ?_
                · unfold e_fu
                  by_cases e8 : j = (c : Int)
                  · rw [if_pos e8, if_pos (by omega), e8]
                    unfold tmS
                    first | rw [if_pos (show 0 < (c : Int) by omega), gc1 (by omega)] | rw [if_neg (show ¬ 0 < (c : Int) by omega)]
                  · rw [if_neg e8, ge4 j j0 j1]
                    by_cases e7 : (c : Int) ≤ j
                    · rw [if_pos e7, if_pos (by omega)]
                    · rw [if_neg e7, if_neg (by omega)]
                · rw [show (c : Int) - 1 = (c : Int) + -1 by omega]
                  exact (And.intro rfl (And.intro rfl (And.intro rfl (And.intro rfl (And.intro rfl (And.intro rfl (And.intro rfl (And.intro rfl (trivial)))))))))
      have l1 : (k : Int) < ho wh → hs set ((k : Int) + 1) → ∀ (N2 c : Nat) (w2 : e_W) (g3 : Int → Int), 8 - c < N2 → (c ≤ 7 ∧ w2 n = some (e_ia 7 g3) ∧ w2 (n + 1) = some (e_ia 8 g2) ∧ (∀ j : Int, 0 ≤ j → j < 7 → g3 j = if j < (c : Int) then ((trK wh set f k).1 j + (trT wh f (trK wh set f k).1 (trK wh set f k).2 ((k : Int) + 1)) * (trK wh set f k).2 j) % pr wh else (trK wh set f k).1 j) ∧ KB w w2 n) → e_V K P9 l E9 (3) (2) S9 M9 A9 B9 T9 C9 8 (fun r w' n' => r = some (.ref n) ∧ (∃ g, w' n = some (e_ia 7 g) ∧ ∀ j : Int, 0 ≤ j → j < 7 → g j = (trK wh set f (ho wh).toNat).1 j) ∧ KB w w' n ∧ n' = n + 2) (e_px0) 82 [(0, .ref y), (1, .ref a), (2, .int (eI set)), (3, .ref n), (4, .ref (n + 1)), (5, .int (eI ((k : Int) + 1))), (6, .int (eI (trT wh f (trK wh set f k).1 (trK wh set f k).2 ((k : Int) + 1)))), (7, .int (eI (c : Int)))] [] w2 (n + 1 + 1) ((0 + 1 + 1)) := by
        intro hlt hset N2
        induction N2 with
        | zero => intro c w2 g3 hN; exact absurd hN (Nat.not_lt_zero _)
        | succ N2 ih2 =>
          intro c w2 g3 hN2 ⟨hc, gn2, gn3, ge3, gK2⟩
          have gY2 : w2 y = some (MO y t wh kn) := (gK2 y (by omega)).trans hY
          have hk1 := (hr (c : Int)).1
          have hk2 := (hr (c : Int)).2
          have hT : 0 ≤ (trT wh f (trK wh set f k).1 (trK wh set f k).2 ((k : Int) + 1)) ∧ (trT wh f (trK wh set f k).1 (trK wh set f k).2 ((k : Int) + 1)) < pr wh := trT_rg hwh
          have hm := mul_rg (m := 1000003) (a := (trT wh f (trK wh set f k).1 (trK wh set f k).2 ((k : Int) + 1))) (b := (trK wh set f k).2 (c : Int)) hT.1 (by omega) hk2.1 (by omega) (by omega)
          have hm2 : (trT wh f (trK wh set f k).1 (trK wh set f k).2 ((k : Int) + 1)) * (trK wh set f k).2 (c : Int) ≤ 1000003 * 1000003 := Int.mul_le_mul (by omega) (by omega) (by omega) (by omega)
          refine e_iload F dX5_through_82 rfl ?_
          refine e_bipush F dX5_through_84 (by decide) ?_
          refine e_icmp_gt F 119 dX5_through_86 (by decide) (⟨by omega, by omega⟩) (⟨by omega, by omega⟩) (fun c_86 => ?_) (fun c_86 => ?_)
          · refine e_bipush F dX5_through_119 (by decide) ?_
            refine e_istore F dX5_through_121 (by decide) ?_
            obtain rfl : c = 7 := by omega
            exact e_go (l2 hlt hset 9 8 w2 g3 g2 (by omega) ⟨by omega, gn2, gn3, fun j j0 j1 => by rw [ge3 j j0 j1, if_pos (by omega)], fun j j0 j1 => by rw [if_neg (by omega)]; exact ge2 j j0 j1, gK2⟩) (And.intro rfl (And.intro rfl (And.intro rfl (And.intro rfl (And.intro rfl (And.intro rfl (And.intro rfl (And.intro rfl (trivial)))))))))
          · refine e_aload_n F dX5_through_89 rfl ?_
            refine e_iload F dX5_through_90 rfl ?_
            refine e_aload_n F dX5_through_92 rfl ?_
            refine e_aload_n F dX5_through_93 rfl ?_
            refine e_iload F dX5_through_94 rfl ?_
            refine e_iald F gn2 (by omega) (by omega) (by first | decide | omega) dX5_through_96 ?_
            have gc : g3 (c : Int) = (trK wh set f k).1 (c : Int) := by rw [ge3 _ (by omega) (by omega), if_neg (by omega)]
            have gd : g2 (c : Int) = (trK wh set f k).2 (c : Int) := ge2 _ (by omega) (by omega)
            refine e_i2l F dX5_through_97 (⟨by rw [gc]; omega, by rw [gc]; omega⟩) ?_
            refine e_iload F dX5_through_98 rfl ?_
            refine e_i2l F dX5_through_100 (⟨by omega, by omega⟩) ?_
            refine e_aload F dX5_through_101 rfl ?_
            refine e_iload F dX5_through_103 rfl ?_
            refine e_iald F gn3 (by omega) (by omega) (by first | decide | omega) dX5_through_105 ?_
            refine e_i2l F dX5_through_106 (⟨by rw [gd]; omega, by rw [gd]; omega⟩) ?_
            rw [gd]
            refine e_lmul F dX5_through_107 ?_
            rw [gc]
            refine e_ladd F dX5_through_108 ?_
            refine e_callVV F u_X5_mod (by rfl) (c_X5_mod gY2 hwh (by constructor <;> omega)) gY2 rfl rfl w_ml_RX5_55 dX5_through_109 (by rfl) (Nat.le_of_ble_eq_true rfl) (by decide) (by omega) (fun _ _ _ h _ => False.elim h) (fun r_109 w_109 n_109 h_109 hn_109 => ?_)
            obtain ⟨rfl, ew_109, en_109⟩ := h_109
            rw [ew_109, en_109]
            refine e_iast F gn2 (by omega) (by omega) (by first | decide | omega) dX5_through_112 ?_
            refine e_iinc F dX5_through_113 rfl (by decide) ?_
            refine e_goto F 82 dX5_through_116 (by decide) ?_
            refine e_go (ih2 (c + 1) _ _ (by omega) ⟨by omega, e_up_s, by rw [e_up_n (by omega)]; exact gn3, fun j j0 j1 => ?_, fun j hj => by rw [e_up_n (by omega)]; exact gK2 j hj⟩) ?_
            · unfold e_fu
              by_cases e8 : j = (c : Int)
              · rw [if_pos e8, if_pos (by omega), e8]
              · rw [if_neg e8, ge3 j j0 j1]
                by_cases e7 : j < (c : Int)
                · rw [if_pos e7, if_pos (by omega)]
                · rw [if_neg e7, if_neg (by omega)]
            · exact (And.intro rfl (And.intro rfl (And.intro rfl (And.intro rfl (And.intro rfl (And.intro rfl (And.intro rfl (And.intro rfl (trivial)))))))))
      refine e_iload F dX5_through_19 rfl ?_
      refine e_aload_n F dX5_through_21 rfl ?_
      refine e_callVV F u_X5_holders (by rfl) (c_X5_holders gY hwh) gY rfl rfl w_ml_RX5_52 dX5_through_22 (by rfl) (Nat.le_of_ble_eq_true rfl) (by decide) (by omega) (fun _ _ _ h _ => False.elim h) (fun r_22 w_22 n_22 h_22 hn_22 => ?_)
      obtain ⟨rfl, ew_22, en_22⟩ := h_22
      rw [ew_22, en_22]
      refine e_icmp_gt F 177 dX5_through_25 (by decide) (⟨by omega, by omega⟩) (⟨by omega, by omega⟩) (fun c_25 => ?_) (fun c_25 => ?_)
      ·
        obtain rfl : k = (ho wh).toNat := by omega
        refine e_aload_n F dX5_through_177 rfl ?_
        refine e_aret F rfl (Or.inr ⟨_, rfl⟩) (Or.inr ⟨_, rfl⟩) (by omega) ?_ dX5_through_178
        exact ⟨rfl, ⟨g1, gn, ge1⟩, gK, rfl⟩
      · refine e_iload_n F dX5_through_28 rfl ?_
        refine e_iload F dX5_through_29 rfl ?_
        refine e_callSS F u_X5_has (by rfl) (c_X5_has hs0 (by omega) (h := (k : Int) + 1) (by omega) (by omega)) w_ml_RX5_87 dX5_through_31 (by rfl) (Nat.le_of_ble_eq_true rfl) (by decide) (by omega) (fun _ _ _ h _ => False.elim h) (fun r_31 w_31 n_31 h_31 hn_31 => ?_)
        obtain ⟨rfl, ew_31, en_31⟩ := h_31
        rw [ew_31, en_31]
        refine e_if_ne F 40 dX5_through_34 (by decide) (b01_r _) (fun c_34 => ?_) (fun c_34 => ?_)
        ·
          rw [ne_eq, b01_0, Classical.not_not] at c_34
          refine e_aload_n F dX5_through_40 rfl ?_
          refine e_aload_n F dX5_through_41 rfl ?_
          refine e_aload_n F dX5_through_42 rfl ?_
          refine e_iload F dX5_through_43 rfl ?_
          refine e_iald F ga (by omega) (by omega) (by first | decide | omega) dX5_through_45 ?_
          have hfk := hf ((k : Int) + 1) (by omega) (by omega)
          refine e_i2l F dX5_through_46 (⟨by omega, by omega⟩) ?_
          refine e_aload_n F dX5_through_47 rfl ?_
          refine e_aload_n F dX5_through_48 rfl ?_
          refine e_iload F dX5_through_49 rfl ?_
          refine e_callVV F u_X5_value (by rfl) (c_X5_value gY hwh (Z := 7) (x := (k : Int) + 1) gn (by decide) (fun j j0 j1 => by rw [ge1 j j0 j1]; exact (hr j).1) (by omega) (by omega)) gY rfl rfl w_ml_RX5_91 dX5_through_51 (by rfl) (Nat.le_of_ble_eq_true rfl) (by decide) (by omega) (fun _ _ _ h _ => False.elim h) (fun r_51 w_51 n_51 h_51 hn_51 => ?_)
          obtain ⟨rfl, ew_51, en_51⟩ := h_51
          have e51 : hv (pr wh) ((k : Int) + 1) g1 ((7 : Nat) : Int) 7 = hv (pr wh) ((k : Int) + 1) (trK wh set f k).1 7 7 := hv_congr 7 (by decide) (fun j j0 j1 => ge1 j j0 j1)
          rw [ew_51, en_51, e51]
          have hv51 := hv_rg (x := (k : Int) + 1) (P := (trK wh set f k).1) (N := 7) (show 0 < pr wh by omega) 7
          refine e_i2l F dX5_through_54 (⟨by omega, by omega⟩) ?_
          refine e_lsub F dX5_through_55 ?_
          refine e_callVV F u_X5_mod (by rfl) (c_X5_mod gY hwh (by constructor <;> omega)) gY rfl rfl w_ml_RX5_55 dX5_through_56 (by rfl) (Nat.le_of_ble_eq_true rfl) (by decide) (by omega) (fun _ _ _ h _ => False.elim h) (fun r_56 w_56 n_56 h_56 hn_56 => ?_)
          obtain ⟨rfl, ew_56, en_56⟩ := h_56
          rw [ew_56, en_56]
          have hm56 := emod_rg (f ((k : Int) + 1) - hv (pr wh) ((k : Int) + 1) (trK wh set f k).1 7 7) hwh
          refine e_i2l F dX5_through_59 (⟨by omega, by omega⟩) ?_
          refine e_aload_n F dX5_through_60 rfl ?_
          refine e_aload_n F dX5_through_61 rfl ?_
          refine e_aload F dX5_through_62 rfl ?_
          refine e_iload F dX5_through_64 rfl ?_
          refine e_callVV F u_X5_value (by rfl) (c_X5_value gY hwh (Z := 8) (x := (k : Int) + 1) gn1 (by decide) (fun j j0 j1 => by rw [ge2 j j0 j1]; exact (hr j).2) (by omega) (by omega)) gY rfl rfl w_ml_RX5_91 dX5_through_66 (by rfl) (Nat.le_of_ble_eq_true rfl) (by decide) (by omega) (fun _ _ _ h _ => False.elim h) (fun r_66 w_66 n_66 h_66 hn_66 => ?_)
          obtain ⟨rfl, ew_66, en_66⟩ := h_66
          have e66 : hv (pr wh) ((k : Int) + 1) g2 ((8 : Nat) : Int) 8 = hv (pr wh) ((k : Int) + 1) (trK wh set f k).2 8 8 := hv_congr 8 (by decide) (fun j j0 j1 => ge2 j j0 j1)
          rw [ew_66, en_66, e66]
          have hv66 := hv_rg (x := (k : Int) + 1) (P := (trK wh set f k).2) (N := 8) (show 0 < pr wh by omega) 8
          refine e_callVV F u_X5_inverse (by rfl) (c_X5_inverse gY hwh hv66.1 hv66.2) gY rfl rfl w_ml_RX5_76 dX5_through_69 (by rfl) (Nat.le_of_ble_eq_true rfl) (by decide) (by omega) (fun _ _ _ h _ => False.elim h) (fun r_69 w_69 n_69 h_69 hn_69 => ?_)
          obtain ⟨rfl, ew_69, en_69⟩ := h_69
          rw [ew_69, en_69]
          have hi69 := iv_rg (v := hv (pr wh) ((k : Int) + 1) (trK wh set f k).2 8 8) hwh
          refine e_i2l F dX5_through_72 (⟨by omega, by omega⟩) ?_
          refine e_lmul F dX5_through_73 ?_
          refine e_callVV F u_X5_mod (by rfl) (c_X5_mod gY hwh (mul_rg (m := 1000003) hm56.1 (by omega) hi69.1 (by omega) (by omega)).2) gY rfl rfl w_ml_RX5_55 dX5_through_74 (by rfl) (Nat.le_of_ble_eq_true rfl) (by decide) (by omega) (fun _ _ _ h _ => False.elim h) (fun r_74 w_74 n_74 h_74 hn_74 => ?_)
          obtain ⟨rfl, ew_74, en_74⟩ := h_74
          rw [ew_74, en_74]
          refine e_istore F dX5_through_77 (by decide) ?_
          refine e_iconst F dX5_through_79 ?_
          refine e_istore F dX5_through_80 (by decide) ?_
          refine e_go (l1 (by omega) c_34 9 0 wl g1 (by omega) ⟨by omega, gn, gn1, fun j j0 j1 => by rw [if_neg (by omega)]; exact ge1 j j0 j1, gK⟩) ?_
          exact (And.intro rfl (And.intro rfl (And.intro rfl (And.intro rfl (And.intro rfl (And.intro rfl (And.intro rfl (And.intro rfl (trivial)))))))))
        ·
          rw [b01_0] at c_34
          refine e_goto F 171 dX5_through_37 (by decide) ?_
          refine e_iinc F dX5_through_171 rfl (by decide) ?_
          refine e_goto F 19 dX5_through_174 (by decide) ?_
          have e9 : trK wh set f (k + 1) = trK wh set f k := if_neg c_34
          refine e_go (ih (k + 1) wl g1 g2 (by omega) ⟨by omega, gn, gn1, fun j j0 j1 => by rw [e9]; exact ge1 j j0 j1, fun j j0 j1 => by rw [e9]; exact ge2 j j0 j1, gK⟩) ?_
          exact (And.intro rfl (And.intro rfl (And.intro rfl (And.intro rfl (And.intro rfl (And.intro rfl (trivial)))))))
  refine e_bipush F dX5_through_0 (by decide) ?_
  refine e_newI F (N := 7) (by first | rfl | omega) (by decide) (by omega) w_ac_int dX5_through_2 ?_
  refine e_astore_n F dX5_through_4 (by decide) ?_
  refine e_bipush F dX5_through_5 (by decide) ?_
  refine e_newI F (N := 8) (by first | rfl | omega) (by decide) (by omega) w_ac_int dX5_through_7 ?_
  refine e_astore F dX5_through_9 (by decide) ?_
  refine e_aload F dX5_through_11 rfl ?_
  refine e_iconst F dX5_through_13 ?_
  refine e_iconst F dX5_through_14 ?_
  refine e_iast F e_up_s (by omega) (by omega) (by first | decide | omega) dX5_through_15 ?_
  refine e_iconst F dX5_through_16 ?_
  refine e_istore F dX5_through_17 (by decide) ?_
  refine e_go (lp 9 0 _ (fun _ => 0) (e_fu (fun _ => 0) 0 1) (by omega) ⟨by omega, by rw [e_up_n (by omega), e_up_n (by omega)]; exact e_up_s, e_up_s, fun j j0 j1 => rfl, fun j j0 j1 => rfl, fun j hj => by rw [e_up_n (by omega), e_up_n (by omega), e_up_n (by omega)]⟩) ?_
  exact (And.intro rfl (And.intro rfl (And.intro rfl (And.intro rfl (And.intro rfl (And.intro rfl (trivial)))))))
set_option maxHeartbeats 4000000 in
set_option maxRecDepth 100000 in
theorem c_X5_at {K : e_K} {l : Launch} {w : e_W} {n : Nat} {y wh : Nat} {t kn : Int} (hY : w y = some (MO y t wh kn)) (hwh : wh < 7) {a NA : Nat} {f : Int → Int} (ha : w a = some (e_ia NA f)) (hNA : (NA : Int) = ho wh + 1) (hf : ∀ j : Int, 0 ≤ j → j < NA → -1 ≤ f j ∧ f j < pr wh) {set : Int} (hs0 : 0 ≤ set) (hs1 : set < 128) {x : Int} (hx : e_r x) : e_Met K l yX5_at (Cond.code yX5_at cX5_at 4 (Option.some .int) :: e_TB) (4) (2) [.ref y, .ref a, .int (eI set), .int (eI x)] w n (fun r w' n' => r = some (.int (eI (atV wh set f x))) ∧ KB w w' n) (e_px0) := by
  refine e_ofV rfl (Nat.le_of_ble_eq_true rfl) ?_
  intro P9 E9 S9 M9 A9 B9 T9 C9 F hnm
  have hp := pr_rg wh hwh
  have hho := ho_rg wh hwh
  refine e_dom ?_
  intro hdom
  have hyn := hdom _ _ hY
  have hxm := emod_rg x hwh
  have hr := fun c => trK_rg hwh set f (ho wh).toNat c
  refine e_aload_n F dX5_at_0 rfl ?_
  refine e_aload_n F dX5_at_1 rfl ?_
  refine e_aload_n F dX5_at_2 rfl ?_
  refine e_iload_n F dX5_at_3 rfl ?_
  refine e_callVV F u_X5_through (by rfl) (c_X5_through hY hwh ha hNA hf hs0 hs1) hY rfl rfl w_ml_RX5_95 dX5_at_4 (by rfl) (Nat.le_of_ble_eq_true rfl) (by decide) (by omega) (fun _ _ _ h _ => False.elim h) (fun r_4 w_4 n_4 h_4 hn_4 => ?_)
  obtain ⟨rfl, ⟨g, hg, he⟩, gK, en_4⟩ := h_4
  rw [en_4]
  have gY : w_4 y = some (MO y t wh kn) := (gK y (by omega)).trans hY
  refine e_aload_n F dX5_at_7 rfl ?_
  refine e_iload_n F dX5_at_8 rfl ?_
  refine e_i2l F dX5_at_9 (hx) ?_
  refine e_callVV F u_X5_mod (by rfl) (c_X5_mod gY hwh (v := x) ⟨by omega, by omega⟩) gY rfl rfl w_ml_RX5_55 dX5_at_10 (by rfl) (Nat.le_of_ble_eq_true rfl) (by decide) (by omega) (fun _ _ _ h _ => False.elim h) (fun r_10 w_10 n_10 h_10 hn_10 => ?_)
  obtain ⟨rfl, ew_10, en_10⟩ := h_10
  rw [ew_10, en_10]
  refine e_callVV F u_X5_value (by rfl) (c_X5_value gY hwh (Z := 7) (x := x % pr wh) hg (by decide) (fun j j0 j1 => by rw [he j j0 j1]; exact (hr j).1) hxm.1 hxm.2) gY rfl rfl w_ml_RX5_91 dX5_at_13 (by rfl) (Nat.le_of_ble_eq_true rfl) (by decide) (by omega) (fun _ _ _ h _ => False.elim h) (fun r_13 w_13 n_13 h_13 hn_13 => ?_)
  obtain ⟨rfl, ew_13, en_13⟩ := h_13
  have e13 : hv (pr wh) (x % pr wh) g ((7 : Nat) : Int) 7 = atV wh set f x := hv_congr 7 (by decide) (fun j j0 j1 => he j j0 j1)
  rw [ew_13, en_13, e13]
  refine e_iret F rfl (by omega) ?_ dX5_at_16
  exact ⟨rfl, gK⟩
set_option maxHeartbeats 4000000 in
set_option maxRecDepth 100000 in
theorem c_X5_weightsAt {K : e_K} {l : Launch} {w : e_W} {n : Nat} {y wh : Nat} {t kn : Int} (hY : w y = some (MO y t wh kn)) (hwh : wh < 7) {set x : Int} (hs0 : 0 ≤ set) (hs1 : set < 128) (hx : e_r x) : e_Met K l yX5_weightsAt (Cond.code yX5_weightsAt cX5_weightsAt 5 (Option.some .int) :: e_TB) (5) (3) [.ref y, .int (eI set), .int (eI x)] w n (fun r w' n' => r = some (.int (eI (atV wh set (fun _ => 1) x))) ∧ KB w w' n) (e_px0) := by
  refine e_ofV rfl (Nat.le_of_ble_eq_true rfl) ?_
  intro P9 E9 S9 M9 A9 B9 T9 C9 F hnm
  have hp := pr_rg wh hwh
  have hho := ho_rg wh hwh
  refine e_dom ?_
  intro hdom
  have hyn := hdom _ _ hY
  have lp : ∀ (N k : Nat) (wl : e_W) (g : Int → Int), 8 - k < N → ((k : Int) ≤ ho wh ∧ wl n = some (e_ia ((ho wh).toNat + 1) g) ∧ (∀ j : Int, 0 ≤ j → j < ho wh + 1 → g j = if 1 ≤ j ∧ j ≤ (k : Int) then 1 else 0) ∧ KB w wl n) → e_V K P9 l E9 (5) (3) S9 M9 A9 B9 T9 C9 5 (fun r w' n' => r = some (.int (eI (atV wh set (fun _ => 1) x))) ∧ KB w w' n) (e_px0) 12 [(0, .ref y), (1, .int (eI set)), (2, .int (eI x)), (3, .ref n), (4, .int (eI ((k : Int) + 1)))] [] wl (n + 1) ((0 + 1)) := by
    intro N
    induction N with
    | zero => intro k wl g hN; exact absurd hN (Nat.not_lt_zero _)
    | succ N ih =>
      intro k wl g hN ⟨hk, gn, ge, gK⟩
      have gY : wl y = some (MO y t wh kn) := (gK y (by omega)).trans hY
      refine e_iload F dX5_weightsAt_12 rfl ?_
      refine e_aload_n F dX5_weightsAt_14 rfl ?_
      refine e_callVV F u_X5_holders (by rfl) (c_X5_holders gY hwh) gY rfl rfl w_ml_RX5_52 dX5_weightsAt_15 (by rfl) (Nat.le_of_ble_eq_true rfl) (by decide) (by omega) (fun _ _ _ h _ => False.elim h) (fun r_15 w_15 n_15 h_15 hn_15 => ?_)
      obtain ⟨rfl, ew_15, en_15⟩ := h_15
      rw [ew_15, en_15]
      refine e_icmp_gt F 32 dX5_weightsAt_18 (by decide) (⟨by omega, by omega⟩) (⟨by omega, by omega⟩) (fun c_18 => ?_) (fun c_18 => ?_)
      ·
        obtain rfl : k = (ho wh).toNat := by omega
        refine e_aload_n F dX5_weightsAt_32 rfl ?_
        refine e_aload_n F dX5_weightsAt_33 rfl ?_
        refine e_iload_n F dX5_weightsAt_34 rfl ?_
        refine e_iload_n F dX5_weightsAt_35 rfl ?_
        refine e_callVV F u_X5_at (by rfl) (c_X5_at gY hwh (a := n) (NA := ((ho wh).toNat + 1)) (f := g) gn (by omega) (fun j j0 j1 => by rw [ge j j0 (by omega)]; split <;> omega) hs0 hs1 hx) gY rfl rfl w_ml_RX5_106 dX5_weightsAt_36 (by rfl) (Nat.le_of_ble_eq_true rfl) (by decide) (by omega) (fun _ _ _ h _ => False.elim h) (fun r_36 w_36 n_36 h_36 hn_36 => ?_)
        obtain ⟨rfl, gK2⟩ := h_36
        refine e_iret F rfl (by omega) ?_ dX5_weightsAt_39
        have e9 : atV wh set g x = atV wh set (fun _ => 1) x := by
          unfold atV
          rw [trK_congr (A2 := fun _ => 1) (ho wh).toNat (fun j j0 j1 => by rw [ge j (by omega) (by omega), if_pos (by omega)])]
        exact ⟨by rw [e9], fun j hj => (gK2 j (by omega)).trans (gK j hj)⟩
      · refine e_aload_n F dX5_weightsAt_21 rfl ?_
        refine e_iload F dX5_weightsAt_22 rfl ?_
        refine e_iconst F dX5_weightsAt_24 ?_
        refine e_iast F (by first | assumption | exact e_up_s | (rw [e_up_n (by first | assumption | omega)]; first | assumption | exact e_up_s | (rw [e_up_n (by first | assumption | omega)]; first | assumption | exact e_up_s | (rw [e_up_n (by first | assumption | omega)]; first | assumption | exact e_up_s))) | exact hD.1 | exact hD1.1 | exact hD2.1 | exact gD.1 | exact gD1.1 | exact gD2.1 | exact gQ.1 | exact hQ.1 | exact gS.1 | exact hS.1 | exact zD.1) (by omega) (by omega) (by first | decide | omega) dX5_weightsAt_25 ?_
        refine e_iinc F dX5_weightsAt_26 rfl (by decide) ?_
        refine e_goto F 12 dX5_weightsAt_29 (by decide) ?_
        refine e_go (ih (k + 1) _ _ (by omega) ⟨by omega, e_up_s, fun j j0 j1 => ?_, fun j hj => by rw [e_up_n (by omega)]; exact gK j hj⟩) ?_
        · unfold e_fu
          by_cases e8 : j = (k : Int) + 1
          · rw [if_pos e8, if_pos (by omega)]
          · rw [if_neg e8, ge j j0 j1]
            by_cases e7 : 1 ≤ j ∧ j ≤ (k : Int)
            · rw [if_pos e7, if_pos (by omega)]
            · rw [if_neg e7, if_neg (by omega)]
        · exact (And.intro rfl (And.intro rfl (And.intro rfl (And.intro rfl (And.intro rfl (trivial))))))
  refine e_aload_n F dX5_weightsAt_0 rfl ?_
  refine e_callVV F u_X5_holders (by rfl) (c_X5_holders hY hwh) hY rfl rfl w_ml_RX5_52 dX5_weightsAt_1 (by rfl) (Nat.le_of_ble_eq_true rfl) (by decide) (by omega) (fun _ _ _ h _ => False.elim h) (fun r_1 w_1 n_1 h_1 hn_1 => ?_)
  obtain ⟨rfl, ew_1, en_1⟩ := h_1
  rw [ew_1, en_1]
  refine e_iconst F dX5_weightsAt_4 ?_
  refine e_iadd F dX5_weightsAt_5 ?_
  refine e_newI F (N := ((ho wh).toNat + 1)) (by omega) (by omega) (by omega) w_ac_int dX5_weightsAt_6 ?_
  refine e_astore_n F dX5_weightsAt_8 (by decide) ?_
  refine e_iconst F dX5_weightsAt_9 ?_
  refine e_istore F dX5_weightsAt_10 (by decide) ?_
  refine e_go (lp 9 0 _ (fun _ => 0) (by omega) ⟨by omega, e_up_s, fun j j0 j1 => by rw [if_neg (by omega)], fun j hj => e_up_n (by omega)⟩) ?_
  exact (And.intro rfl (And.intro rfl (And.intro rfl (And.intro rfl (And.intro rfl (trivial))))))
set_option maxHeartbeats 4000000 in
set_option maxRecDepth 100000 in
theorem c_X5_values {K : e_K} {l : Launch} {w : e_W} {n : Nat} {y wh : Nat} {t kn : Int} (hY : w y = some (MO y t wh kn)) (hwh : wh < 7) {a Z : Nat} {f : Int → Int} (ha : w a = some (e_ia Z f)) (hZ : Z ≤ 8) (hf : ∀ j : Int, 0 ≤ j → j < Z → 0 ≤ f j ∧ f j < pr wh) : e_Met K l yX5_values (Cond.code yX5_values cX5_values 4 (Option.some (.array .int)) :: e_TB) (2) (1) [.ref y, .ref a] w n (fun r w' n' => r = some (.ref n) ∧ (∃ g, w' n = some (e_ia ((ho wh).toNat + 1) g) ∧ g 0 = -1 ∧ ∀ j : Int, 1 ≤ j → j ≤ ho wh → g j = hv (pr wh) j f (Z : Int) Z) ∧ KB w w' n ∧ n' = n + 1) (e_px0) := by
  refine e_ofV rfl (Nat.le_of_ble_eq_true rfl) ?_
  intro P9 E9 S9 M9 A9 B9 T9 C9 F hnm
  have hp := pr_rg wh hwh
  have hho := ho_rg wh hwh
  refine e_dom ?_
  intro hdom
  have hyn := hdom _ _ hY
  have han := hdom _ _ ha
  have lp : ∀ (N k : Nat) (wl : e_W) (g : Int → Int), 8 - k < N → ((k : Int) ≤ ho wh ∧ wl n = some (e_ia ((ho wh).toNat + 1) g) ∧ (∀ j : Int, 0 ≤ j → j < ho wh + 1 → g j = if j = 0 then -1 else if j ≤ (k : Int) then hv (pr wh) j f (Z : Int) Z else 0) ∧ KB w wl n) → e_V K P9 l E9 (2) (1) S9 M9 A9 B9 T9 C9 4 (fun r w' n' => r = some (.ref n) ∧ (∃ g, w' n = some (e_ia ((ho wh).toNat + 1) g) ∧ g 0 = -1 ∧ ∀ j : Int, 1 ≤ j → j ≤ ho wh → g j = hv (pr wh) j f (Z : Int) Z) ∧ KB w w' n ∧ n' = n + 1) (e_px0) 15 [(0, .ref y), (1, .ref a), (2, .ref n), (3, .int (eI ((k : Int) + 1)))] [] wl (n + 1) ((0 + 1)) := by
    intro N
    induction N with
    | zero => intro k wl g hN; exact absurd hN (Nat.not_lt_zero _)
    | succ N ih =>
      intro k wl g hN ⟨hk, gn, ge, gK⟩
      have gY : wl y = some (MO y t wh kn) := (gK y (by omega)).trans hY
      have ga : wl a = some (e_ia Z f) := (gK a (by omega)).trans ha
      refine e_iload_n F dX5_values_15 rfl ?_
      refine e_aload_n F dX5_values_16 rfl ?_
      refine e_callVV F u_X5_holders (by rfl) (c_X5_holders gY hwh) gY rfl rfl w_ml_RX5_52 dX5_values_17 (by rfl) (Nat.le_of_ble_eq_true rfl) (by decide) (by omega) (fun _ _ _ h _ => False.elim h) (fun r_17 w_17 n_17 h_17 hn_17 => ?_)
      obtain ⟨rfl, ew_17, en_17⟩ := h_17
      rw [ew_17, en_17]
      refine e_icmp_gt F 38 dX5_values_20 (by decide) (⟨by omega, by omega⟩) (⟨by omega, by omega⟩) (fun c_20 => ?_) (fun c_20 => ?_)
      ·
        obtain rfl : k = (ho wh).toNat := by omega
        refine e_aload_n F dX5_values_38 rfl ?_
        refine e_aret F rfl (Or.inr ⟨_, rfl⟩) (Or.inr ⟨_, rfl⟩) (by omega) ?_ dX5_values_39
        exact ⟨rfl, ⟨g, gn, by rw [ge 0 (by omega) (by omega), if_pos rfl], fun j j0 j1 => by rw [ge j (by omega) (by omega), if_neg (by omega), if_pos (by omega)]⟩, gK, rfl⟩
      · refine e_aload_n F dX5_values_23 rfl ?_
        refine e_iload_n F dX5_values_24 rfl ?_
        refine e_aload_n F dX5_values_25 rfl ?_
        refine e_aload_n F dX5_values_26 rfl ?_
        refine e_iload_n F dX5_values_27 rfl ?_
        refine e_callVV F u_X5_value (by rfl) (c_X5_value gY hwh (x := (k : Int) + 1) ga hZ hf (by omega) (by omega)) gY rfl rfl w_ml_RX5_91 dX5_values_28 (by rfl) (Nat.le_of_ble_eq_true rfl) (by decide) (by omega) (fun _ _ _ h _ => False.elim h) (fun r_28 w_28 n_28 h_28 hn_28 => ?_)
        obtain ⟨rfl, ew_28, en_28⟩ := h_28
        rw [ew_28, en_28]
        refine e_iast F gn (by omega) (by omega) (by first | decide | omega) dX5_values_31 ?_
        refine e_iinc F dX5_values_32 rfl (by decide) ?_
        refine e_goto F 15 dX5_values_35 (by decide) ?_
        refine e_go (ih (k + 1) _ _ (by omega) ⟨by omega, e_up_s, fun j j0 j1 => ?_, fun j hj => by rw [e_up_n (by omega)]; exact gK j hj⟩) ?_
        · unfold e_fu
          by_cases e8 : j = (k : Int) + 1
          · rw [if_pos e8, if_neg (by omega), if_pos (by omega), e8]
          · rw [if_neg e8, ge j j0 j1]
            by_cases e7 : j = 0
            · rw [if_pos e7, if_pos e7]
            · rw [if_neg e7, if_neg e7]
              by_cases e6 : j ≤ (k : Int)
              · rw [if_pos e6, if_pos (by omega)]
              · rw [if_neg e6, if_neg (by omega)]
        · exact (And.intro rfl (And.intro rfl (And.intro rfl (And.intro rfl (trivial)))))
  refine e_aload_n F dX5_values_0 rfl ?_
  refine e_callVV F u_X5_holders (by rfl) (c_X5_holders hY hwh) hY rfl rfl w_ml_RX5_52 dX5_values_1 (by rfl) (Nat.le_of_ble_eq_true rfl) (by decide) (by omega) (fun _ _ _ h _ => False.elim h) (fun r_1 w_1 n_1 h_1 hn_1 => ?_)
  obtain ⟨rfl, ew_1, en_1⟩ := h_1
  rw [ew_1, en_1]
  refine e_iconst F dX5_values_4 ?_
  refine e_iadd F dX5_values_5 ?_
  refine e_newI F (N := ((ho wh).toNat + 1)) (by omega) (by omega) (by omega) w_ac_int dX5_values_6 ?_
  refine e_astore_n F dX5_values_8 (by decide) ?_
  refine e_aload_n F dX5_values_9 rfl ?_
  refine e_iconst F dX5_values_10 ?_
  refine e_iconst F dX5_values_11 ?_
  refine e_iast F e_up_s (by omega) (by omega) (by first | decide | omega) dX5_values_12 ?_
  refine e_iconst F dX5_values_13 ?_
  refine e_istore_n F dX5_values_14 (by decide) ?_
  refine e_go (lp 9 0 _ (e_fu (fun _ => 0) 0 (-1)) (by omega) ⟨by omega, e_up_s, fun j j0 j1 => ?_, fun j hj => by rw [e_up_n (by omega), e_up_n (by omega)]⟩) ?_
  · unfold e_fu
    by_cases e8 : j = 0
    · rw [if_pos e8, if_pos e8]
    · rw [if_neg e8, if_neg e8, if_neg (by omega)]
  · exact (And.intro rfl (And.intro rfl (And.intro rfl (And.intro rfl (trivial)))))
set_option maxHeartbeats 4000000 in
set_option maxRecDepth 100000 in
theorem c_X5_poly {K : e_K} {l : Launch} {w : e_W} {n : Nat} {y wh : Nat} {t kn : Int} (hY : w y = some (MO y t wh kn)) (hwh : wh < 7) {g9 a9 b9 c9 d9 : Int} (h0 : 0 ≤ g9) (h1 : g9 ≤ 6) (ha9 : e_r a9) (hb9 : e_r b9) (hc9 : e_r c9) (hd9 : e_r d9) : e_Met K l yX5_poly (Cond.code yX5_poly cX5_poly 9 (Option.some (.array .int)) :: e_TB) (2) (2) [.ref y, .int (eI g9), .int (eI a9), .int (eI b9), .int (eI c9), .int (eI d9)] w n (fun r w' n' => r = some (.ref (n + 1)) ∧ (∃ g, w' (n + 1) = some (e_ia (g9.toNat + 1) g) ∧ ∀ j : Int, 0 ≤ j → j ≤ g9 → g j = bcm (pr wh) g9 a9 b9 c9 d9 j) ∧ KB w w' n ∧ n' = n + 2) (e_px0) := by
  refine e_ofV rfl (Nat.le_of_ble_eq_true rfl) ?_
  intro P9 E9 S9 M9 A9 B9 T9 C9 F hnm
  have hp := pr_rg wh hwh
  have hho := ho_rg wh hwh
  refine e_dom ?_
  intro hdom
  have hyn := hdom _ _ hY
  have lp : ∀ (N k : Nat) (wl : e_W) (g : Int → Int), 8 - k < N → ((k : Int) ≤ g9 + 1 ∧ k ≤ 4 ∧ wl n = some (e_ia 4 (e_fu (e_fu (e_fu (e_fu (fun _ => 0) 0 a9) 1 b9) 2 c9) 3 d9)) ∧ wl (n + 1) = some (e_ia (g9.toNat + 1) g) ∧ (∀ j : Int, 0 ≤ j → j < g9 + 1 → g j = if j < (k : Int) then bcm (pr wh) g9 a9 b9 c9 d9 j else 0) ∧ KB w wl n) → e_V K P9 l E9 (2) (2) S9 M9 A9 B9 T9 C9 9 (fun r w' n' => r = some (.ref (n + 1)) ∧ (∃ g, w' (n + 1) = some (e_ia (g9.toNat + 1) g) ∧ ∀ j : Int, 0 ≤ j → j ≤ g9 → g j = bcm (pr wh) g9 a9 b9 c9 d9 j) ∧ KB w w' n ∧ n' = n + 2) (e_px0) 33 [(0, .ref y), (1, .int (eI g9)), (6, .ref n), (7, .ref (n + 1)), (8, .int (eI (k : Int)))] [] wl (n + 1 + 1) ((0 + 1 + 1)) := by
    intro N
    induction N with
    | zero => intro k wl g hN; exact absurd hN (Nat.not_lt_zero _)
    | succ N ih =>
      intro k wl g hN ⟨hk, hk4, gt, gn, ge, gK⟩
      have gY : wl y = some (MO y t wh kn) := (gK y (by omega)).trans hY
      refine e_iload F dX5_poly_33 rfl ?_
      refine e_iload_n F dX5_poly_35 rfl ?_
      refine e_icmp_gt F 66 dX5_poly_36 (by decide) (⟨by omega, by omega⟩) (⟨by omega, by omega⟩) (fun c_36 => ?_) (fun c_36 => ?_)
      · refine e_aload F dX5_poly_66 rfl ?_
        refine e_aret F rfl (Or.inr ⟨_, rfl⟩) (Or.inr ⟨_, rfl⟩) (by omega) ?_ dX5_poly_68
        refine ⟨rfl, ⟨g, gn, fun j j0 j1 => ?_⟩, gK, rfl⟩
        rw [ge j j0 (by omega)]
        by_cases e6 : j < (k : Int)
        · rw [if_pos e6]
        · rw [if_neg e6]
          have h4 : k = 4 := by omega
          unfold bcm
          rw [if_neg (by omega), if_neg (by omega), if_neg (by omega), if_neg (by omega)]
      · refine e_iload F dX5_poly_39 rfl ?_
        refine e_iconst F dX5_poly_41 ?_
        refine e_icmp_ge F 66 dX5_poly_42 (by decide) (⟨by omega, by omega⟩) (⟨by omega, by omega⟩) (fun c_42 => ?_) (fun c_42 => ?_)
        · refine e_aload F dX5_poly_66 rfl ?_
          refine e_aret F rfl (Or.inr ⟨_, rfl⟩) (Or.inr ⟨_, rfl⟩) (by omega) ?_ dX5_poly_68
          refine ⟨rfl, ⟨g, gn, fun j j0 j1 => ?_⟩, gK, rfl⟩
          rw [ge j j0 (by omega)]
          by_cases e6 : j < (k : Int)
          · rw [if_pos e6]
          · rw [if_neg e6]
            have h4 : k = 4 := by omega
            unfold bcm
            rw [if_neg (by omega), if_neg (by omega), if_neg (by omega), if_neg (by omega)]
        · refine e_aload F dX5_poly_45 rfl ?_
          refine e_iload F dX5_poly_47 rfl ?_
          refine e_aload_n F dX5_poly_49 rfl ?_
          refine e_aload F dX5_poly_50 rfl ?_
          refine e_iload F dX5_poly_52 rfl ?_
          refine e_iald F gt (by omega) (by omega) (by first | decide | omega) dX5_poly_54 ?_
          have htk : e_r ((e_fu (e_fu (e_fu (e_fu (fun _ => 0) 0 a9) 1 b9) 2 c9) 3 d9) (k : Int)) ∧ (e_fu (e_fu (e_fu (e_fu (fun _ => 0) 0 a9) 1 b9) 2 c9) 3 d9) (k : Int) % pr wh = bcm (pr wh) g9 a9 b9 c9 d9 (k : Int) := by
            rcases (show k = 0 ∨ k = 1 ∨ k = 2 ∨ k = 3 by omega) with rfl | rfl | rfl | rfl
            · exact ⟨ha9, rfl⟩
            · exact ⟨hb9, (if_pos (show (1 : Int) ≤ g9 by omega)).symm⟩
            · exact ⟨hc9, (if_pos (show (2 : Int) ≤ g9 by omega)).symm⟩
            · exact ⟨hd9, (if_pos (show (3 : Int) ≤ g9 by omega)).symm⟩
          refine e_i2l F dX5_poly_55 (htk.1) ?_
          refine e_callVV F u_X5_mod (by rfl) (c_X5_mod gY hwh (by have := htk.1; constructor <;> omega)) gY rfl rfl w_ml_RX5_55 dX5_poly_56 (by rfl) (Nat.le_of_ble_eq_true rfl) (by decide) (by omega) (fun _ _ _ h _ => False.elim h) (fun r_56 w_56 n_56 h_56 hn_56 => ?_)
          obtain ⟨rfl, ew_56, en_56⟩ := h_56
          rw [ew_56, en_56, htk.2]
          refine e_iast F gn (by omega) (by omega) (by first | decide | omega) dX5_poly_59 ?_
          refine e_iinc F dX5_poly_60 rfl (by decide) ?_
          refine e_goto F 33 dX5_poly_63 (by decide) ?_
          refine e_go (ih (k + 1) _ _ (by omega) ⟨by omega, by omega, by rw [e_up_n (by omega)]; exact gt, e_up_s, fun j j0 j1 => ?_, fun j hj => by rw [e_up_n (by omega)]; exact gK j hj⟩) ?_
          · unfold e_fu
            by_cases e8 : j = (k : Int)
            · rw [if_pos e8, if_pos (by omega), e8]
            · rw [if_neg e8, ge j j0 j1]
              by_cases e7 : j < (k : Int)
              · rw [if_pos e7, if_pos (by omega)]
              · rw [if_neg e7, if_neg (by omega)]
          · exact (And.intro rfl (And.intro rfl (And.intro rfl (And.intro rfl (And.intro rfl (trivial))))))
  refine e_iconst F dX5_poly_0 ?_
  refine e_newI F (N := 4) (by first | rfl | omega) (by decide) (by omega) w_ac_int dX5_poly_1 ?_
  refine e_dup F dX5_poly_3 rfl ?_
  refine e_iconst F dX5_poly_4 ?_
  refine e_iload_n F dX5_poly_5 rfl ?_
  refine e_iast F e_up_s (by omega) (by omega) (by first | decide | omega) dX5_poly_6 ?_
  refine e_dup F dX5_poly_7 rfl ?_
  refine e_iconst F dX5_poly_8 ?_
  refine e_iload_n F dX5_poly_9 rfl ?_
  refine e_iast F e_up_s (by omega) (by omega) (by first | decide | omega) dX5_poly_10 ?_
  refine e_dup F dX5_poly_11 rfl ?_
  refine e_iconst F dX5_poly_12 ?_
  refine e_iload F dX5_poly_13 rfl ?_
  refine e_iast F e_up_s (by omega) (by omega) (by first | decide | omega) dX5_poly_15 ?_
  refine e_dup F dX5_poly_16 rfl ?_
  refine e_iconst F dX5_poly_17 ?_
  refine e_iload F dX5_poly_18 rfl ?_
  refine e_iast F e_up_s (by omega) (by omega) (by first | decide | omega) dX5_poly_20 ?_
  refine e_astore F dX5_poly_21 (by decide) ?_
  refine e_iload_n F dX5_poly_23 rfl ?_
  refine e_iconst F dX5_poly_24 ?_
  refine e_iadd F dX5_poly_25 ?_
  refine e_newI F (N := (g9.toNat + 1)) (by omega) (by omega) (by omega) w_ac_int dX5_poly_26 ?_
  refine e_astore F dX5_poly_28 (by decide) ?_
  refine e_iconst F dX5_poly_30 ?_
  refine e_istore F dX5_poly_31 (by decide) ?_
  refine e_go (lp 9 0 _ (fun _ => 0) (by omega) ⟨by omega, by omega, by rw [e_up_n (by omega)]; exact e_up_s, e_up_s, fun j j0 j1 => by rw [if_neg (by omega)], fun j hj => by rw [e_up_n (by omega), e_up_n (by omega), e_up_n (by omega), e_up_n (by omega), e_up_n (by omega), e_up_n (by omega)]⟩) ?_
  exact (And.intro rfl (And.intro rfl (And.intro rfl (And.intro rfl (And.intro rfl (trivial))))))
