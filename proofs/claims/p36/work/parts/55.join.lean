/-! the reference: plus, less, pour -/
set_option maxHeartbeats 4000000 in
set_option maxRecDepth 100000 in
theorem c_X5_of {K : e_K} {l : Launch} {w : e_W} {n : Nat} {a Z : Nat} {f : Int → Int} (ha : w a = some (e_ia Z f)) (hZ : Z ≤ 8) {k9 : Int} (h0 : 0 ≤ k9) (h1 : k9 ≤ 8) : e_Met K l yX5_of (Cond.code yX5_of cX5_of 2 (Option.some .int) :: e_TB) (0) (0) [.ref a, .int (eI k9)] w n (fun r w' n' => r = some (.int (eI (if k9 < (Z : Int) then f k9 else 0))) ∧ w' = w ∧ n' = n) (e_px0) := by
  refine e_ofV rfl (Nat.le_of_ble_eq_true rfl) ?_
  intro P9 E9 S9 M9 A9 B9 T9 C9 F hnm
  refine e_iload_n F dX5_of_0 rfl ?_
  refine e_aload_n F dX5_of_1 rfl ?_
  refine e_alenI F (by first | assumption | exact e_up_s | (rw [e_up_n (by first | assumption | omega)]; first | assumption | exact e_up_s | (rw [e_up_n (by first | assumption | omega)]; first | assumption | exact e_up_s | (rw [e_up_n (by first | assumption | omega)]; first | assumption | exact e_up_s))) | exact hD.1 | exact hD1.1 | exact hD2.1 | exact gD.1 | exact gD1.1 | exact gD2.1 | exact gQ.1 | exact hQ.1 | exact gS.1 | exact hS.1 | exact zD.1) dX5_of_2 ?_
  refine e_icmp_ge F 12 dX5_of_3 (by decide) (⟨by omega, by omega⟩) (⟨by omega, by omega⟩) (fun c_3 => ?_) (fun c_3 => ?_)
  · refine e_iconst F dX5_of_12 ?_
    refine e_iret F rfl (by omega) ?_ dX5_of_13
    refine ⟨?_, rfl, rfl⟩
    first | rw [if_pos (by omega)] | rw [if_neg (by omega)]
  · refine e_aload_n F dX5_of_6 rfl ?_
    refine e_iload_n F dX5_of_7 rfl ?_
    refine e_iald F ha (by omega) (by omega) (by first | decide | omega) dX5_of_8 ?_
    refine e_goto F 13 dX5_of_9 (by decide) ?_
    refine e_iret F rfl (by omega) ?_ dX5_of_13
    refine ⟨?_, rfl, rfl⟩
    first | rw [if_pos (by omega)] | rw [if_neg (by omega)]
theorem ofE_rg {wh : Nat} (hwh : wh < 7) {r : RD} (h : RV wh r) (hp : r.hp = 1) {k : Int} (hk : 0 ≤ k) : 0 ≤ ofE r k ∧ ofE r k < pr wh := by
  have := pr_rg wh hwh
  unfold ofE
  split
  · exact h.2.1 hp k hk (by assumption)
  · omega
set_option maxHeartbeats 4000000 in
set_option maxRecDepth 100000 in
theorem c_X5_joined {K : e_K} {l : Launch} {w : e_W} {n : Nat} {y wh : Nat} {t kn : Int} {R : Nat → RD} (hM : MW w y wh kn t R) {i j t9 : Nat} (hi : i < 6) (hj : j < 6) (ht : t9 < 6) {s9 : Int} (hs : s9 = 1 ∨ s9 = -1) : e_Met K l yX5_joined (Cond.code yX5_joined cX5_joined 9 (Option.some .int) :: e_TB) (4) (2) [.ref y, .int (eI (i : Int)), .int (eI (j : Int)), .int (eI (t9 : Int)), .int (eI s9)] w n (fun r w' n' => FM w w' y n ∧ r = some (.int (eI (if (R i).dg = -1 ∨ (R j).dg = -1 then (-9, R) else (bc (st7 (joR wh s9 (R i) (R j)).A), updR R t9 (joR wh s9 (R i) (R j)))).1)) ∧ MW w' y wh kn t (if (R i).dg = -1 ∨ (R j).dg = -1 then (-9, R) else (bc (st7 (joR wh s9 (R i) (R j)).A), updR R t9 (joR wh s9 (R i) (R j)))).2) (e_px0) := by
  refine e_ofV rfl (Nat.le_of_ble_eq_true rfl) ?_
  intro P9 E9 S9 M9 A9 B9 T9 C9 F hnm
  obtain ⟨hY, hwh, ⟨G, hG, hGe⟩, ⟨SS, PP, hS, hP, hMD⟩, hRV⟩ := id hM
  have hp := pr_rg wh hwh
  have hho := ho_rg wh hwh
  refine e_dom ?_
  intro hdom
  have hyn := hdom _ _ hY
  have hgn := hdom _ _ hG
  have hsn := hdom _ _ hS
  have hpn := hdom _ _ hP
  have hGi := hGe i hi
  have hGj := hGe j hj
  have hdi := MD.dg (hMD i hi)
  have hdj := MD.dg (hMD j hj)
  refine e_aload_n F dX5_joined_0 rfl ?_
  refine e_iload_n F dX5_joined_1 rfl ?_
  refine e_callVV F u_X5_isEmpty (by rfl) (c_X5_isEmpty hM (i := i) hi) hY rfl rfl w_ml_RX5_113 dX5_joined_2 (by rfl) (Nat.le_of_ble_eq_true rfl) (by decide) (by omega) (fun _ _ _ h _ => False.elim h) (fun r_2 w_2 n_2 h_2 hn_2 => ?_)
  obtain ⟨rfl, ew_2, en_2⟩ := h_2
  rw [ew_2, en_2]
  refine e_if_ne F 16 dX5_joined_5 (by decide) (b01_r _) (fun c_5 => ?_) (fun c_5 => ?_)
  ·
    rw [ne_eq, b01_0, Classical.not_not] at c_5
    refine e_bipush F dX5_joined_16 (by decide) ?_
    refine e_iret F rfl (by omega) ?_ dX5_joined_18
    rw [if_pos (show (R i).dg = -1 ∨ (R j).dg = -1 by omega)]
    exact ⟨fun _ _ _ => rfl, rfl, hM⟩
  ·
    rw [b01_0] at c_5
    refine e_aload_n F dX5_joined_8 rfl ?_
    refine e_iload_n F dX5_joined_9 rfl ?_
    refine e_callVV F u_X5_isEmpty (by rfl) (c_X5_isEmpty hM (i := j) hj) hY rfl rfl w_ml_RX5_113 dX5_joined_10 (by rfl) (Nat.le_of_ble_eq_true rfl) (by decide) (by omega) (fun _ _ _ h _ => False.elim h) (fun r_10 w_10 n_10 h_10 hn_10 => ?_)
    obtain ⟨rfl, ew_10, en_10⟩ := h_10
    rw [ew_10, en_10]
    refine e_if_eq F 19 dX5_joined_13 (by decide) (b01_r _) (fun c_13 => ?_) (fun c_13 => ?_)
    ·
      rw [b01_0] at c_13
      have hne1 := c_5
      have hne2 := c_13
      obtain ⟨a, f, hSa, hya, hwa, hfr, hfA⟩ := MD.row (hMD i hi) hne1
      obtain ⟨b, g, hSb, hyb, hwb, hgr, hgA⟩ := MD.row (hMD j hj) hne2
      have han := hdom _ _ hwa
      have hbn := hdom _ _ hwb
      refine e_aload_n F dX5_joined_19 rfl ?_
      refine e_get (ci := 5) (fi := 3) (q := (RX5, TX5, 6)) F hY rfl (by decide) w_fl_RX5_13 (by rfl) dX5_joined_20 ?_
      refine e_iload_n F dX5_joined_23 rfl ?_
      refine e_iald F hG (by omega) (by omega) (by first | decide | omega) dX5_joined_24 ?_
      rw [hGi]
      refine e_aload_n F dX5_joined_25 rfl ?_
      refine e_get (ci := 5) (fi := 3) (q := (RX5, TX5, 6)) F hY rfl (by decide) w_fl_RX5_13 (by rfl) dX5_joined_26 ?_
      refine e_iload_n F dX5_joined_29 rfl ?_
      refine e_iald F hG (by omega) (by omega) (by first | decide | omega) dX5_joined_30 ?_
      rw [hGj]
      refine e_mmax F ⟨by omega, by omega⟩ ⟨by omega, by omega⟩ w_ml_RX5_148 w_sm_J9_max_7cf53 w_in_RJ9 w_co_J9_max_7cf53 dX5_joined_31 (Nat.le_of_ble_eq_true rfl) (by decide) (by omega) ?_
      refine e_istore F dX5_joined_34 (by decide) ?_
      refine e_aload_n F dX5_joined_36 rfl ?_
      refine e_callVV F u_X5_holders (by rfl) (c_X5_holders hY hwh) hY rfl rfl w_ml_RX5_52 dX5_joined_37 (by rfl) (Nat.le_of_ble_eq_true rfl) (by decide) (by omega) (fun _ _ _ h _ => False.elim h) (fun r_37 w_37 n_37 h_37 hn_37 => ?_)
      obtain ⟨rfl, ew_37, en_37⟩ := h_37
      rw [ew_37, en_37]
      refine e_iconst F dX5_joined_40 ?_
      refine e_iadd F dX5_joined_41 ?_
      refine e_newI F (N := ((ho wh).toNat + 1)) (by omega) (by omega) (by omega) w_ac_int dX5_joined_42 ?_
      refine e_astore F dX5_joined_44 (by decide) ?_
      refine e_iconst F dX5_joined_46 ?_
      refine e_istore F dX5_joined_47 (by decide) ?_
      have l1 : ∀ (N : Nat) (c : Nat) (wl : e_W) (f1 : Int → Int) (nl : Nat), 9 - c < N → ((c : Int) ≤ ho wh + 1 ∧ wl n = some (e_ia ((ho wh).toNat + 1) f1) ∧ (∀ u : Int, 0 ≤ u → u < ((((ho wh).toNat + 1) : Nat) : Int) → -1 ≤ f1 u ∧ f1 u < pr wh) ∧ (∀ u : Int, 1 ≤ u → u < (c : Int) → f1 u = (joR wh s9 (R i) (R j)).A u) ∧ (∀ q, q ≠ n → wl q = w q) ∧ n < nl) → e_V K P9 l E9 (4) (2) S9 M9 A9 B9 T9 C9 9 (fun r w' n' => FM w w' y n ∧ r = some (.int (eI (if (R i).dg = -1 ∨ (R j).dg = -1 then (-9, R) else (bc (st7 (joR wh s9 (R i) (R j)).A), updR R t9 (joR wh s9 (R i) (R j)))).1)) ∧ MW w' y wh kn t (if (R i).dg = -1 ∨ (R j).dg = -1 then (-9, R) else (bc (st7 (joR wh s9 (R i) (R j)).A), updR R t9 (joR wh s9 (R i) (R j)))).2) (e_px0) 49 [(0, .ref y), (1, .int (eI (i : Int))), (2, .int (eI (j : Int))), (3, .int (eI (t9 : Int))), (4, .int (eI s9)), (5, .int (eI (if (R i).dg < (R j).dg then (R j).dg else (R i).dg))), (6, .ref n), (7, .int (eI (c : Int)))] [] wl nl (1) := by
        intro N
        induction N with
        | zero => intro c wl f1 nl hN; exact absurd hN (Nat.not_lt_zero _)
        | succ N ih =>
          intro c wl f1 nl hN ⟨hc, gn0, gr1, ge1, gf, gnl⟩
          have e9 : (joR wh s9 (R i) (R j)).dg = (if (R i).dg < (R j).dg then (R j).dg else (R i).dg) := rfl
          have gY2 : wl y = some (MO y t wh kn) := (gf y (by omega)).trans hY
          have gS2 : wl (y + 2) = some (e_ra 6 SS) := (gf _ (by omega)).trans hS
          have gP2 : wl (y + 3) = some (e_ra 6 PP) := (gf _ (by omega)).trans hP
          have ha2 : wl a = some (e_ia ((ho wh).toNat + 1) f) := (gf _ (by omega)).trans hwa
          have hb2 : wl b = some (e_ia ((ho wh).toNat + 1) g) := (gf _ (by omega)).trans hwb
          have gM2 : MW wl y wh kn t R := hM.to (fun q e q1 => by rw [gf q (by have := hdom q e q1; omega)]; exact q1)
          refine e_iload F dX5_joined_49 rfl ?_
          refine e_aload F dX5_joined_51 rfl ?_
          refine e_alenI F gn0 dX5_joined_53 ?_
          refine e_icmp_ge F 126 dX5_joined_54 (by decide) (⟨by omega, by omega⟩) (⟨by omega, by omega⟩) (fun c_54 => ?_) (fun c_54 => ?_)
          ·
            obtain rfl : c = (ho wh).toNat + 1 := by omega
            refine e_dom ?_
            intro gdm
            rcases MD.pw (hMD i hi) with ⟨hp0, hPn⟩ | ⟨hp1, ⟨pa, pf, hPb, hypa, hwpa, hpfr, hpfE⟩, hd0⟩
            ·
              refine e_aload_n F dX5_joined_126 rfl ?_
              refine e_get (ci := 5) (fi := 5) (q := (RX5, TX5, 6)) F gY2 rfl (by decide) w_fl_RX5_22 (by rfl) dX5_joined_127 ?_
              refine e_iload_n F dX5_joined_130 rfl ?_
              refine e_aaldn F gP2 (by omega) (by omega) (by decide) (hPn) dX5_joined_131 ?_
              refine e_ifnullN F 144 dX5_joined_132 (by decide) ?_
              refine e_null F dX5_joined_144 ?_
              refine e_goto F 154 dX5_joined_145 (by decide) ?_
              refine e_astoreN F dX5_joined_154 (by decide) ?_
              refine e_iconst F dX5_joined_156 ?_
              refine e_istore F dX5_joined_157 (by decide) ?_
              refine e_aloadN F dX5_joined_159 rfl ?_
              refine e_ifnullN F 214 dX5_joined_161 (by decide) ?_
              refine e_aload_n F dX5_joined_214 rfl ?_
              refine e_iload_n F dX5_joined_215 rfl ?_
              refine e_iload F dX5_joined_216 rfl ?_
              refine e_aload F dX5_joined_218 rfl ?_
              refine e_aloadN F dX5_joined_220 rfl ?_
              refine e_callVV F u_X5_lay (by rfl) (c_X5_layRN gM2 ht (r := (joR wh s9 (R i) (R j))) (row_MD (joR_dg wh s9 (by omega) (by omega)) (by omega) gn0 gr1 (fun u j0 j1 => ge1 u j0 (by omega)) (Or.inl ⟨if_neg (by omega), rfl⟩)) (joR_RV hwh (hRV i hi) (by omega) (by omega))) gM2.1 rfl rfl w_ml_RX5_140 dX5_joined_222 (by rfl) (Nat.le_of_ble_eq_true rfl) (by decide) (by omega) (fun _ _ _ h _ => False.elim h) (fun r_222 w_222 n_222 h_222 hn_222 => ?_)
              obtain ⟨rfl, en_222, gM3, gF3⟩ := h_222
              refine e_iret F rfl (by omega) ?_ dX5_joined_225
              rw [if_neg (show ¬ ((R i).dg = -1 ∨ (R j).dg = -1) by omega)]
              exact ⟨FM.tr (n1 := nl) (fun q q1 q2 => gf q (by omega)) (by omega) gF3, rfl, gM3⟩
            · have hpan := hdom _ _ hwpa
              rcases MD.pw (hMD j hj) with ⟨hq0, hQn⟩ | ⟨hq1, ⟨pb, pg, hQb, hypb, hwpb, hpgr, hpgE⟩, hd1⟩
              ·
                refine e_aload_n F dX5_joined_126 rfl ?_
                refine e_get (ci := 5) (fi := 5) (q := (RX5, TX5, 6)) F gY2 rfl (by decide) w_fl_RX5_22 (by rfl) dX5_joined_127 ?_
                refine e_iload_n F dX5_joined_130 rfl ?_
                refine e_aaldr F gP2 (by omega) (by omega) (by decide) (hPb) dX5_joined_131 ?_
                refine e_ifnull F dX5_joined_132 ?_
                refine e_aload_n F dX5_joined_135 rfl ?_
                refine e_get (ci := 5) (fi := 5) (q := (RX5, TX5, 6)) F gY2 rfl (by decide) w_fl_RX5_22 (by rfl) dX5_joined_136 ?_
                refine e_iload_n F dX5_joined_139 rfl ?_
                refine e_aaldn F gP2 (by omega) (by omega) (by decide) (hQn) dX5_joined_140 ?_
                refine e_ifnonnullN F dX5_joined_141 ?_
                refine e_null F dX5_joined_144 ?_
                refine e_goto F 154 dX5_joined_145 (by decide) ?_
                refine e_astoreN F dX5_joined_154 (by decide) ?_
                refine e_iconst F dX5_joined_156 ?_
                refine e_istore F dX5_joined_157 (by decide) ?_
                refine e_aloadN F dX5_joined_159 rfl ?_
                refine e_ifnullN F 214 dX5_joined_161 (by decide) ?_
                refine e_aload_n F dX5_joined_214 rfl ?_
                refine e_iload_n F dX5_joined_215 rfl ?_
                refine e_iload F dX5_joined_216 rfl ?_
                refine e_aload F dX5_joined_218 rfl ?_
                refine e_aloadN F dX5_joined_220 rfl ?_
                refine e_callVV F u_X5_lay (by rfl) (c_X5_layRN gM2 ht (r := (joR wh s9 (R i) (R j))) (row_MD (joR_dg wh s9 (by omega) (by omega)) (by omega) gn0 gr1 (fun u j0 j1 => ge1 u j0 (by omega)) (Or.inl ⟨if_neg (by omega), rfl⟩)) (joR_RV hwh (hRV i hi) (by omega) (by omega))) gM2.1 rfl rfl w_ml_RX5_140 dX5_joined_222 (by rfl) (Nat.le_of_ble_eq_true rfl) (by decide) (by omega) (fun _ _ _ h _ => False.elim h) (fun r_222 w_222 n_222 h_222 hn_222 => ?_)
                obtain ⟨rfl, en_222, gM3, gF3⟩ := h_222
                refine e_iret F rfl (by omega) ?_ dX5_joined_225
                rw [if_neg (show ¬ ((R i).dg = -1 ∨ (R j).dg = -1) by omega)]
                exact ⟨FM.tr (n1 := nl) (fun q q1 q2 => gf q (by omega)) (by omega) gF3, rfl, gM3⟩
              · have hpbn := hdom _ _ hwpb
                have l2 : ∀ (N : Nat) (c2 : Nat) (w2 : e_W) (g1 : Int → Int) (nm : Nat), 8 - c2 < N → ((c2 : Int) ≤ (if (R i).dg < (R j).dg then (R j).dg else (R i).dg) + 1 ∧ w2 nl = some (e_ia ((if (R i).dg < (R j).dg then (R j).dg else (R i).dg).toNat + 1) g1) ∧ (∀ u : Int, 0 ≤ u → u < (c2 : Int) → g1 u = (joR wh s9 (R i) (R j)).E u) ∧ (∀ q, q ≠ nl → w2 q = wl q) ∧ nl < nm) → e_V K P9 l E9 (4) (2) S9 M9 A9 B9 T9 C9 9 (fun r w' n' => FM w w' y n ∧ r = some (.int (eI (if (R i).dg = -1 ∨ (R j).dg = -1 then (-9, R) else (bc (st7 (joR wh s9 (R i) (R j)).A), updR R t9 (joR wh s9 (R i) (R j)))).1)) ∧ MW w' y wh kn t (if (R i).dg = -1 ∨ (R j).dg = -1 then (-9, R) else (bc (st7 (joR wh s9 (R i) (R j)).A), updR R t9 (joR wh s9 (R i) (R j)))).2) (e_px0) 159 [(0, .ref y), (1, .int (eI (i : Int))), (2, .int (eI (j : Int))), (3, .int (eI (t9 : Int))), (4, .int (eI s9)), (5, .int (eI (if (R i).dg < (R j).dg then (R j).dg else (R i).dg))), (6, .ref n), (7, .ref nl), (8, .int (eI (c2 : Int)))] [] w2 nm (2) := by
                  intro N
                  induction N with
                  | zero => intro c2 w2 g1 nm hN; exact absurd hN (Nat.not_lt_zero _)
                  | succ N ih =>
                    intro c2 w2 g1 nm hN ⟨hc2, un2, ges, gf2, gnm⟩
                    have uY : w2 y = some (MO y t wh kn) := (gf2 y (by omega)).trans gY2
                    have uP : w2 (y + 3) = some (e_ra 6 PP) := (gf2 _ (by omega)).trans gP2
                    have ua : w2 pa = some (e_ia ((R i).dg.toNat + 1) pf) := (gf2 _ (by omega)).trans ((gf _ (by omega)).trans hwpa)
                    have ub : w2 pb = some (e_ia ((R j).dg.toNat + 1) pg) := (gf2 _ (by omega)).trans ((gf _ (by omega)).trans hwpb)
                    have un : w2 n = some (e_ia ((ho wh).toNat + 1) f1) := (gf2 _ (by omega)).trans gn0
                    have uM : MW w2 y wh kn t R := gM2.to (fun q e q1 => by rw [gf2 q (by intro z; subst z; have := gdm q e q1; omega)]; exact q1)
                    have hcc : 0 ≤ (if (R i).dg < (R j).dg then (R j).dg else (R i).dg) ∧ (if (R i).dg < (R j).dg then (R j).dg else (R i).dg) ≤ 6 := by split <;> omega
                    refine e_aload F dX5_joined_159 rfl ?_
                    refine e_ifnull F dX5_joined_161 ?_
                    refine e_iload F dX5_joined_164 rfl ?_
                    refine e_iload F dX5_joined_166 rfl ?_
                    refine e_icmp_gt F 214 dX5_joined_168 (by decide) (⟨by omega, by omega⟩) (⟨by omega, by omega⟩) (fun c_168 => ?_) (fun c_168 => ?_)
                    · refine e_aload_n F dX5_joined_214 rfl ?_
                      refine e_iload_n F dX5_joined_215 rfl ?_
                      refine e_iload F dX5_joined_216 rfl ?_
                      refine e_aload F dX5_joined_218 rfl ?_
                      refine e_aload F dX5_joined_220 rfl ?_
                      refine e_callVV F u_X5_lay (by rfl) (c_X5_layRR uM ht (r := (joR wh s9 (R i) (R j))) (row_MD (joR_dg wh s9 (by omega) (by omega)) (by omega) un gr1 (fun u j0 j1 => ge1 u j0 (by omega)) (Or.inr ⟨if_pos ⟨hp1, hq1⟩, nl, g1, rfl, by omega, un2, fun u j0 j1 => by rw [ges u j0 (by omega)]; have := emod_rg (ofE (R i) u + s9 * ofE (R j) u) hwh; show -1 ≤ (ofE (R i) u + s9 * ofE (R j) u) % pr wh ∧ (ofE (R i) u + s9 * ofE (R j) u) % pr wh < pr wh; exact ⟨by omega, this.2⟩, fun u j0 j1 => ges u j0 (by omega)⟩)) (joR_RV hwh (hRV i hi) (by omega) (by omega))) uM.1 rfl rfl w_ml_RX5_140 dX5_joined_222 (by rfl) (Nat.le_of_ble_eq_true rfl) (by decide) (by omega) (fun _ _ _ h _ => False.elim h) (fun r_222 w_222 n_222 h_222 hn_222 => ?_)
                      obtain ⟨rfl, en_222, gM3, gF3⟩ := h_222
                      refine e_iret F rfl (by omega) ?_ dX5_joined_225
                      rw [if_neg (show ¬ ((R i).dg = -1 ∨ (R j).dg = -1) by omega)]
                      exact ⟨FM.tr (n1 := nm) (fun q q1 q2 => (gf2 q (by omega)).trans (gf q (by omega))) (by omega) gF3, rfl, gM3⟩
                    ·
                      have E1 : (if (c2 : Int) < (((R i).dg.toNat + 1 : Nat) : Int) then pf (c2 : Int) else 0) = ofE (R i) (c2 : Int) := by
                        unfold ofE
                        by_cases q : (c2 : Int) ≤ (R i).dg
                        · rw [if_pos (by omega), if_pos q]; exact hpfE _ (by omega) (by omega)
                        · rw [if_neg (by omega), if_neg q]
                      have E2 : (if (c2 : Int) < (((R j).dg.toNat + 1 : Nat) : Int) then pg (c2 : Int) else 0) = ofE (R j) (c2 : Int) := by
                        unfold ofE
                        by_cases q : (c2 : Int) ≤ (R j).dg
                        · rw [if_pos (by omega), if_pos q]; exact hpgE _ (by omega) (by omega)
                        · rw [if_neg (by omega), if_neg q]
                      have O1 := ofE_rg hwh (hRV i hi) hp1 (k := (c2 : Int)) (by omega)
                      have O2 := ofE_rg hwh (hRV j hj) hq1 (k := (c2 : Int)) (by omega)
                      have O3 : -1000003 ≤ s9 * ofE (R j) (c2 : Int) ∧ s9 * ofE (R j) (c2 : Int) ≤ 1000003 := by rcases hs with z | z <;> rw [z] <;> omega
                      refine e_aload F dX5_joined_171 rfl ?_
                      refine e_iload F dX5_joined_173 rfl ?_
                      refine e_aload_n F dX5_joined_175 rfl ?_
                      refine e_aload_n F dX5_joined_176 rfl ?_
                      refine e_get (ci := 5) (fi := 5) (q := (RX5, TX5, 6)) F uY rfl (by decide) w_fl_RX5_22 (by rfl) dX5_joined_177 ?_
                      refine e_iload_n F dX5_joined_180 rfl ?_
                      refine e_aaldr F uP (by omega) (by omega) (by decide) (hPb) dX5_joined_181 ?_
                      refine e_iload F dX5_joined_182 rfl ?_
                      refine e_callSS F u_X5_of (by rfl) (c_X5_of ua (by omega) (k9 := (c2 : Int)) (by omega) (by omega)) w_ml_RX5_151 dX5_joined_184 (by rfl) (Nat.le_of_ble_eq_true rfl) (by decide) (by omega) (fun _ _ _ h _ => False.elim h) (fun r_184 w_184 n_184 h_184 hn_184 => ?_)
                      obtain ⟨rfl, ew_184, en_184⟩ := h_184
                      rw [ew_184, en_184, E1]
                      refine e_i2l F dX5_joined_187 (⟨by omega, by omega⟩) ?_
                      refine e_iload F dX5_joined_188 rfl ?_
                      refine e_aload_n F dX5_joined_190 rfl ?_
                      refine e_get (ci := 5) (fi := 5) (q := (RX5, TX5, 6)) F uY rfl (by decide) w_fl_RX5_22 (by rfl) dX5_joined_191 ?_
                      refine e_iload_n F dX5_joined_194 rfl ?_
                      refine e_aaldr F uP (by omega) (by omega) (by decide) (hQb) dX5_joined_195 ?_
                      refine e_iload F dX5_joined_196 rfl ?_
                      refine e_callSS F u_X5_of (by rfl) (c_X5_of ub (by omega) (k9 := (c2 : Int)) (by omega) (by omega)) w_ml_RX5_151 dX5_joined_198 (by rfl) (Nat.le_of_ble_eq_true rfl) (by decide) (by omega) (fun _ _ _ h _ => False.elim h) (fun r_198 w_198 n_198 h_198 hn_198 => ?_)
                      obtain ⟨rfl, ew_198, en_198⟩ := h_198
                      rw [ew_198, en_198, E2]
                      refine e_imul F dX5_joined_201 ?_
                      refine e_i2l F dX5_joined_202 (⟨by omega, by omega⟩) ?_
                      refine e_ladd F dX5_joined_203 ?_
                      refine e_callVV F u_X5_mod (by rfl) (c_X5_mod uY hwh (by constructor <;> omega)) uY rfl rfl w_ml_RX5_55 dX5_joined_204 (by rfl) (Nat.le_of_ble_eq_true rfl) (by decide) (by omega) (fun _ _ _ h _ => False.elim h) (fun r_204 w_204 n_204 h_204 hn_204 => ?_)
                      obtain ⟨rfl, ew_204, en_204⟩ := h_204
                      rw [ew_204, en_204]
                      refine e_iast F un2 (by omega) (by omega) (by first | decide | omega) dX5_joined_207 ?_
                      refine e_iinc F dX5_joined_208 rfl (by decide) ?_
                      refine e_goto F 159 dX5_joined_211 (by decide) ?_
                      refine e_go (ih (c2 + 1) _ _ nm (by omega) ⟨by omega, e_up_s, fun j j0 j1 => ?_, fun q q1 => by rw [e_up_n q1]; exact gf2 q q1, gnm⟩) ?_
                      · unfold e_fu
                        by_cases e8 : j = (c2 : Int)
                        · rw [if_pos e8, e8]; rfl
                        · rw [if_neg e8]; exact ges j j0 (by omega)
                      · exact (And.intro rfl (And.intro rfl (And.intro rfl (And.intro rfl (And.intro rfl (And.intro rfl (And.intro rfl (And.intro rfl (And.intro rfl (trivial))))))))))
                refine e_aload_n F dX5_joined_126 rfl ?_
                refine e_get (ci := 5) (fi := 5) (q := (RX5, TX5, 6)) F gY2 rfl (by decide) w_fl_RX5_22 (by rfl) dX5_joined_127 ?_
                refine e_iload_n F dX5_joined_130 rfl ?_
                refine e_aaldr F gP2 (by omega) (by omega) (by decide) (hPb) dX5_joined_131 ?_
                refine e_ifnull F dX5_joined_132 ?_
                refine e_aload_n F dX5_joined_135 rfl ?_
                refine e_get (ci := 5) (fi := 5) (q := (RX5, TX5, 6)) F gY2 rfl (by decide) w_fl_RX5_22 (by rfl) dX5_joined_136 ?_
                refine e_iload_n F dX5_joined_139 rfl ?_
                refine e_aaldr F gP2 (by omega) (by omega) (by decide) (hQb) dX5_joined_140 ?_
                refine e_ifnonnull F 148 dX5_joined_141 (by decide) ?_
                refine e_iload F dX5_joined_148 rfl ?_
                refine e_iconst F dX5_joined_150 ?_
                refine e_iadd F dX5_joined_151 ?_
                refine e_newI F (N := ((if (R i).dg < (R j).dg then (R j).dg else (R i).dg).toNat + 1)) (by split <;> omega) (by split <;> omega) (by omega) w_ac_int dX5_joined_152 ?_
                refine e_astore F dX5_joined_154 (by decide) ?_
                refine e_iconst F dX5_joined_156 ?_
                refine e_istore F dX5_joined_157 (by decide) ?_
                exact e_go (l2 9 0 _ (fun _ => 0) _ (by omega) ⟨by split <;> omega, e_up_s, fun j j0 j1 => by omega, fun q q1 => e_up_n q1, by omega⟩) (And.intro rfl (And.intro rfl (And.intro rfl (And.intro rfl (And.intro rfl (And.intro rfl (And.intro rfl (And.intro rfl (And.intro rfl (trivial))))))))))
          ·
            have hfr9 := hfr (c : Int) (by omega) (by omega)
            have hgr9 := hgr (c : Int) (by omega) (by omega)
            have ea : 1 ≤ c → f (c : Int) = (R i).A (c : Int) := fun q => hfA _ (by omega) (by omega)
            have eb : 1 ≤ c → g (c : Int) = (R j).A (c : Int) := fun q => hgA _ (by omega) (by omega)
            refine e_aload F dX5_joined_57 rfl ?_
            refine e_iload F dX5_joined_59 rfl ?_
            refine e_aload_n F dX5_joined_61 rfl ?_
            refine e_get (ci := 5) (fi := 4) (q := (RX5, TX5, 6)) F gY2 rfl (by decide) w_fl_RX5_18 (by rfl) dX5_joined_62 ?_
            refine e_iload_n F dX5_joined_65 rfl ?_
            refine e_aaldr F gS2 (by omega) (by omega) (by decide) (hSa) dX5_joined_66 ?_
            refine e_iload F dX5_joined_67 rfl ?_
            refine e_iald F ha2 (by omega) (by omega) (by first | decide | omega) dX5_joined_69 ?_
            refine e_iconst F dX5_joined_70 ?_
            refine e_icmp_eq F 87 dX5_joined_71 (by decide) (⟨by omega, by omega⟩) (⟨by omega, by omega⟩) (fun c_71 => ?_) (fun c_71 => ?_)
            · refine e_iconst F dX5_joined_87 ?_
              refine e_goto F 119 dX5_joined_88 (by decide) ?_
              refine e_iast F gn0 (by omega) (by omega) (by first | decide | omega) dX5_joined_119 ?_
              refine e_iinc F dX5_joined_120 rfl (by decide) ?_
              refine e_goto F 49 dX5_joined_123 (by decide) ?_
              first
              | (refine e_go (ih (c + 1) _ _ nl (by omega) ⟨by omega, e_up_s, fun j j0 j1 => ?_, fun j j0 j1 => ?_, fun q q1 => by rw [e_up_n q1]; exact gf q q1, gnl⟩) ?_
                 · unfold e_fu
                   split
                   · omega
                   · exact gr1 j j0 j1
                 · unfold e_fu
                   by_cases e8 : j = (c : Int)
                   · have ec : 1 ≤ c := by omega
                     have eac := ea ec
                     have ebc := eb ec
                     rw [if_pos e8, e8]
                     show _ = if (R i).A (c : Int) = -1 ∨ (R _).A (c : Int) = -1 then -1 else ((R i).A (c : Int) + s9 * (R _).A (c : Int)) % pr wh
                     rw [← eac, ← ebc, if_neg (show ¬ (f (c : Int) = -1 ∨ g (c : Int) = -1) by omega)]
                   · rw [if_neg e8]
                     exact ge1 j j0 (by omega)
                 · exact (And.intro rfl (And.intro rfl (And.intro rfl (And.intro rfl (And.intro rfl (And.intro rfl (And.intro rfl (And.intro rfl (trivial))))))))))
              | (refine e_go (ih (c + 1) _ _ nl (by omega) ⟨by omega, e_up_s, fun j j0 j1 => ?_, fun j j0 j1 => ?_, fun q q1 => by rw [e_up_n q1]; exact gf q q1, gnl⟩) ?_
                 · unfold e_fu
                   split
                   · omega
                   · exact gr1 j j0 j1
                 · unfold e_fu
                   by_cases e8 : j = (c : Int)
                   · have ec : 1 ≤ c := by omega
                     have eac := ea ec
                     have ebc := eb ec
                     rw [if_pos e8, e8]
                     show _ = if (R i).A (c : Int) = -1 ∨ (R _).A (c : Int) = -1 then -1 else ((R i).A (c : Int) + s9 * (R _).A (c : Int)) % pr wh
                     rw [← eac, ← ebc, if_pos (show f (c : Int) = -1 ∨ g (c : Int) = -1 by omega)]
                   · rw [if_neg e8]
                     exact ge1 j j0 (by omega)
                 · exact (And.intro rfl (And.intro rfl (And.intro rfl (And.intro rfl (And.intro rfl (And.intro rfl (And.intro rfl (And.intro rfl (trivial))))))))))
            · refine e_aload_n F dX5_joined_74 rfl ?_
              refine e_get (ci := 5) (fi := 4) (q := (RX5, TX5, 6)) F gY2 rfl (by decide) w_fl_RX5_18 (by rfl) dX5_joined_75 ?_
              refine e_iload_n F dX5_joined_78 rfl ?_
              refine e_aaldr F gS2 (by omega) (by omega) (by decide) (hSb) dX5_joined_79 ?_
              refine e_iload F dX5_joined_80 rfl ?_
              refine e_iald F hb2 (by omega) (by omega) (by first | decide | omega) dX5_joined_82 ?_
              refine e_iconst F dX5_joined_83 ?_
              refine e_icmp_ne F 91 dX5_joined_84 (by decide) (⟨by omega, by omega⟩) (⟨by omega, by omega⟩) (fun c_84 => ?_) (fun c_84 => ?_)
              ·
                have hsg : -1000003 ≤ s9 * g (c : Int) ∧ s9 * g (c : Int) ≤ 1000003 := by rcases hs with z | z <;> rw [z] <;> omega
                have hmv := emod_rg (f (c : Int) + s9 * g (c : Int)) hwh
                refine e_aload_n F dX5_joined_91 rfl ?_
                refine e_aload_n F dX5_joined_92 rfl ?_
                refine e_get (ci := 5) (fi := 4) (q := (RX5, TX5, 6)) F gY2 rfl (by decide) w_fl_RX5_18 (by rfl) dX5_joined_93 ?_
                refine e_iload_n F dX5_joined_96 rfl ?_
                refine e_aaldr F gS2 (by omega) (by omega) (by decide) (hSa) dX5_joined_97 ?_
                refine e_iload F dX5_joined_98 rfl ?_
                refine e_iald F ha2 (by omega) (by omega) (by first | decide | omega) dX5_joined_100 ?_
                refine e_i2l F dX5_joined_101 (⟨by omega, by omega⟩) ?_
                refine e_iload F dX5_joined_102 rfl ?_
                refine e_aload_n F dX5_joined_104 rfl ?_
                refine e_get (ci := 5) (fi := 4) (q := (RX5, TX5, 6)) F gY2 rfl (by decide) w_fl_RX5_18 (by rfl) dX5_joined_105 ?_
                refine e_iload_n F dX5_joined_108 rfl ?_
                refine e_aaldr F gS2 (by omega) (by omega) (by decide) (hSb) dX5_joined_109 ?_
                refine e_iload F dX5_joined_110 rfl ?_
                refine e_iald F hb2 (by omega) (by omega) (by first | decide | omega) dX5_joined_112 ?_
                refine e_imul F dX5_joined_113 ?_
                refine e_i2l F dX5_joined_114 (⟨by omega, by omega⟩) ?_
                refine e_ladd F dX5_joined_115 ?_
                refine e_callVV F u_X5_mod (by rfl) (c_X5_mod gY2 hwh (by constructor <;> omega)) gY2 rfl rfl w_ml_RX5_55 dX5_joined_116 (by rfl) (Nat.le_of_ble_eq_true rfl) (by decide) (by omega) (fun _ _ _ h _ => False.elim h) (fun r_116 w_116 n_116 h_116 hn_116 => ?_)
                obtain ⟨rfl, ew_116, en_116⟩ := h_116
                rw [ew_116, en_116]
                refine e_iast F gn0 (by omega) (by omega) (by first | decide | omega) dX5_joined_119 ?_
                refine e_iinc F dX5_joined_120 rfl (by decide) ?_
                refine e_goto F 49 dX5_joined_123 (by decide) ?_
                first
                | (refine e_go (ih (c + 1) _ _ nl (by omega) ⟨by omega, e_up_s, fun j j0 j1 => ?_, fun j j0 j1 => ?_, fun q q1 => by rw [e_up_n q1]; exact gf q q1, gnl⟩) ?_
                   · unfold e_fu
                     split
                     · omega
                     · exact gr1 j j0 j1
                   · unfold e_fu
                     by_cases e8 : j = (c : Int)
                     · have ec : 1 ≤ c := by omega
                       have eac := ea ec
                       have ebc := eb ec
                       rw [if_pos e8, e8]
                       show _ = if (R i).A (c : Int) = -1 ∨ (R _).A (c : Int) = -1 then -1 else ((R i).A (c : Int) + s9 * (R _).A (c : Int)) % pr wh
                       rw [← eac, ← ebc, if_neg (show ¬ (f (c : Int) = -1 ∨ g (c : Int) = -1) by omega)]
                     · rw [if_neg e8]
                       exact ge1 j j0 (by omega)
                   · exact (And.intro rfl (And.intro rfl (And.intro rfl (And.intro rfl (And.intro rfl (And.intro rfl (And.intro rfl (And.intro rfl (trivial))))))))))
                | (refine e_go (ih (c + 1) _ _ nl (by omega) ⟨by omega, e_up_s, fun j j0 j1 => ?_, fun j j0 j1 => ?_, fun q q1 => by rw [e_up_n q1]; exact gf q q1, gnl⟩) ?_
                   · unfold e_fu
                     split
                     · omega
                     · exact gr1 j j0 j1
                   · unfold e_fu
                     by_cases e8 : j = (c : Int)
                     · have ec : 1 ≤ c := by omega
                       have eac := ea ec
                       have ebc := eb ec
                       rw [if_pos e8, e8]
                       show _ = if (R i).A (c : Int) = -1 ∨ (R _).A (c : Int) = -1 then -1 else ((R i).A (c : Int) + s9 * (R _).A (c : Int)) % pr wh
                       rw [← eac, ← ebc, if_pos (show f (c : Int) = -1 ∨ g (c : Int) = -1 by omega)]
                     · rw [if_neg e8]
                       exact ge1 j j0 (by omega)
                   · exact (And.intro rfl (And.intro rfl (And.intro rfl (And.intro rfl (And.intro rfl (And.intro rfl (And.intro rfl (And.intro rfl (trivial))))))))))
              · refine e_iconst F dX5_joined_87 ?_
                refine e_goto F 119 dX5_joined_88 (by decide) ?_
                refine e_iast F gn0 (by omega) (by omega) (by first | decide | omega) dX5_joined_119 ?_
                refine e_iinc F dX5_joined_120 rfl (by decide) ?_
                refine e_goto F 49 dX5_joined_123 (by decide) ?_
                first
                | (refine e_go (ih (c + 1) _ _ nl (by omega) ⟨by omega, e_up_s, fun j j0 j1 => ?_, fun j j0 j1 => ?_, fun q q1 => by rw [e_up_n q1]; exact gf q q1, gnl⟩) ?_
                   · unfold e_fu
                     split
                     · omega
                     · exact gr1 j j0 j1
                   · unfold e_fu
                     by_cases e8 : j = (c : Int)
                     · have ec : 1 ≤ c := by omega
                       have eac := ea ec
                       have ebc := eb ec
                       rw [if_pos e8, e8]
                       show _ = if (R i).A (c : Int) = -1 ∨ (R _).A (c : Int) = -1 then -1 else ((R i).A (c : Int) + s9 * (R _).A (c : Int)) % pr wh
                       rw [← eac, ← ebc, if_neg (show ¬ (f (c : Int) = -1 ∨ g (c : Int) = -1) by omega)]
                     · rw [if_neg e8]
                       exact ge1 j j0 (by omega)
                   · exact (And.intro rfl (And.intro rfl (And.intro rfl (And.intro rfl (And.intro rfl (And.intro rfl (And.intro rfl (And.intro rfl (trivial))))))))))
                | (refine e_go (ih (c + 1) _ _ nl (by omega) ⟨by omega, e_up_s, fun j j0 j1 => ?_, fun j j0 j1 => ?_, fun q q1 => by rw [e_up_n q1]; exact gf q q1, gnl⟩) ?_
                   · unfold e_fu
                     split
                     · omega
                     · exact gr1 j j0 j1
                   · unfold e_fu
                     by_cases e8 : j = (c : Int)
                     · have ec : 1 ≤ c := by omega
                       have eac := ea ec
                       have ebc := eb ec
                       rw [if_pos e8, e8]
                       show _ = if (R i).A (c : Int) = -1 ∨ (R _).A (c : Int) = -1 then -1 else ((R i).A (c : Int) + s9 * (R _).A (c : Int)) % pr wh
                       rw [← eac, ← ebc, if_pos (show f (c : Int) = -1 ∨ g (c : Int) = -1 by omega)]
                     · rw [if_neg e8]
                       exact ge1 j j0 (by omega)
                   · exact (And.intro rfl (And.intro rfl (And.intro rfl (And.intro rfl (And.intro rfl (And.intro rfl (And.intro rfl (And.intro rfl (trivial))))))))))
      exact e_go (l1 10 0 _ (fun _ => 0) _ (by omega) ⟨by omega, e_up_s, fun j _ _ => by omega, fun j j0 j1 => by omega, fun q q1 => e_up_n q1, by omega⟩) (And.intro rfl (And.intro rfl (And.intro rfl (And.intro rfl (And.intro rfl (And.intro rfl (And.intro rfl (And.intro rfl (trivial)))))))))
    ·
      rw [b01_0, Classical.not_not] at c_13
      refine e_bipush F dX5_joined_16 (by decide) ?_
      refine e_iret F rfl (by omega) ?_ dX5_joined_18
      rw [if_pos (show (R i).dg = -1 ∨ (R j).dg = -1 by omega)]
      exact ⟨fun _ _ _ => rfl, rfl, hM⟩
set_option maxHeartbeats 4000000 in
set_option maxRecDepth 100000 in
theorem c_X5_plus {K : e_K} {l : Launch} {w : e_W} {n : Nat} {y wh : Nat} {t kn : Int} {R : Nat → RD} (hM : MW w y wh kn t R) {i9 : Int} (hi9 : e_r i9) {j9 : Int} (hj9 : e_r j9) {t9 : Int} (ht9 : e_r t9) : e_Met K l yX5_plus (Cond.code yX5_plus cX5_plus 4 (Option.some .int) :: e_TB) (5) (2) [.ref y, .int (eI i9), .int (eI j9), .int (eI t9)] w n (fun r w' n' => FM w w' y n ∧ ((¬ ((0 ≤ i9 ∧ i9 < 6) ∧ (0 ≤ j9 ∧ j9 < 6) ∧ (0 ≤ t9 ∧ t9 < 6)) ∧ r = some (.int (eI 0)) ∧ MW w' y wh kn 1 R) ∨ (((0 ≤ i9 ∧ i9 < 6) ∧ (0 ≤ j9 ∧ j9 < 6) ∧ (0 ≤ t9 ∧ t9 < 6)) ∧ r = some (.int (eI ((if (R i9.toNat).dg = -1 ∨ (R j9.toNat).dg = -1 then (-9, R) else (bc (st7 (joR wh 1 (R i9.toNat) (R j9.toNat)).A), updR R t9.toNat (joR wh 1 (R i9.toNat) (R j9.toNat)))).1))) ∧ MW w' y wh (kn) 0 ((if (R i9.toNat).dg = -1 ∨ (R j9.toNat).dg = -1 then (-9, R) else (bc (st7 (joR wh 1 (R i9.toNat) (R j9.toNat)).A), updR R t9.toNat (joR wh 1 (R i9.toNat) (R j9.toNat)))).2)))) (e_px0) := by
  refine e_ofV rfl (Nat.le_of_ble_eq_true rfl) ?_
  intro P9 E9 S9 M9 A9 B9 T9 C9 F hnm
  have hwh := hM.2.1
  have hY := hM.1
  have hp := pr_rg wh hwh
  have hho := ho_rg wh hwh
  have hf9 := fl_rg wh hwh
  refine e_aload_n F dX5_plus_0 rfl ?_
  refine e_aload_n F dX5_plus_1 rfl ?_
  refine e_iload_n F dX5_plus_2 rfl ?_
  refine e_iload_n F dX5_plus_3 rfl ?_
  refine e_iload_n F dX5_plus_4 rfl ?_
  refine e_callVV F u_X5_areNoDeals (by rfl) (c_X5_areNoDeals hi9 hj9 ht9) hY rfl rfl w_ml_RX5_154 dX5_plus_5 (by rfl) (Nat.le_of_ble_eq_true rfl) (by decide) (by omega) (fun _ _ _ h _ => False.elim h) (fun r_5 w_5 n_5 h_5 hn_5 => ?_)
  obtain ⟨rfl, ew_5, en_5⟩ := h_5
  rw [ew_5, en_5]
  refine e_iconst F dX5_plus_8 ?_
  refine e_callVV F u_X5_start (by rfl) (c_X5_start hY (b01_or _) (by decide) (by decide)) hY rfl rfl w_ml_RX5_69 dX5_plus_9 (by rfl) (Nat.le_of_ble_eq_true rfl) (by decide) (by omega) (fun _ _ _ h _ => False.elim h) (fun r_9 w_9 n_9 h_9 hn_9 => ?_)
  obtain ⟨rfl, en_9, ew_9⟩ := h_9
  rw [en_9, ew_9, st1]
  refine e_if_eq F 19 dX5_plus_12 (by decide) (b01_r _) (fun c_12 => ?_) (fun c_12 => ?_)
  ·
    rw [b01_0, Classical.not_not] at c_12
    rw [if_pos c_12]
    have gM := hM.th (t2 := 0) (kn2 := kn)
    have h_i := c_12
    obtain ⟨kt9, rfl⟩ : ∃ k : Nat, t9 = (k : Int) := ⟨t9.toNat, by omega⟩
    have hkt9 : kt9 < 6 := by omega
    rw [show ((kt9 : Nat) : Int).toNat = kt9 from rfl]
    obtain ⟨kj9, rfl⟩ : ∃ k : Nat, j9 = (k : Int) := ⟨j9.toNat, by omega⟩
    have hkj9 : kj9 < 6 := by omega
    rw [show ((kj9 : Nat) : Int).toNat = kj9 from rfl]
    obtain ⟨ki9, rfl⟩ : ∃ k : Nat, i9 = (k : Int) := ⟨i9.toNat, by omega⟩
    have hki9 : ki9 < 6 := by omega
    rw [show ((ki9 : Nat) : Int).toNat = ki9 from rfl]
    refine e_aload_n F dX5_plus_19 rfl ?_
    refine e_iload_n F dX5_plus_20 rfl ?_
    refine e_iload_n F dX5_plus_21 rfl ?_
    refine e_iload_n F dX5_plus_22 rfl ?_
    refine e_iconst F dX5_plus_23 ?_
    refine e_callVV F u_X5_joined (by rfl) (c_X5_joined gM hki9 hkj9 hkt9 (s9 := 1) (by decide)) gM.1 rfl rfl w_ml_RX5_157 dX5_plus_24 (by rfl) (Nat.le_of_ble_eq_true rfl) (by decide) (by omega) (fun _ _ _ h _ => False.elim h) (fun r_24 w_24 n_24 h_24 hn_24 => ?_)
    obtain ⟨gF3, rfl, gM3⟩ := h_24
    refine e_iret F rfl (by omega) ?_ dX5_plus_27
    first
    | exact ⟨FM.th, Or.inl ⟨c_12, rfl, hM.th⟩⟩
    | exact ⟨FM.th.tr (Nat.le_refl _) gF3, Or.inr ⟨h_i, rfl, gM3⟩⟩
  ·
    rw [b01_0, Classical.not_not] at c_12
    rw [if_neg c_12]
    refine e_iconst F dX5_plus_15 ?_
    refine e_goto F 27 dX5_plus_16 (by decide) ?_
    refine e_iret F rfl (by omega) ?_ dX5_plus_27
    first
    | exact ⟨FM.th, Or.inl ⟨c_12, rfl, hM.th⟩⟩
    | exact ⟨FM.th.tr (Nat.le_refl _) gF3, Or.inr ⟨h_i, rfl, gM3⟩⟩
set_option maxHeartbeats 4000000 in
set_option maxRecDepth 100000 in
theorem c_X5_less {K : e_K} {l : Launch} {w : e_W} {n : Nat} {y wh : Nat} {t kn : Int} {R : Nat → RD} (hM : MW w y wh kn t R) {i9 : Int} (hi9 : e_r i9) {j9 : Int} (hj9 : e_r j9) {t9 : Int} (ht9 : e_r t9) : e_Met K l yX5_less (Cond.code yX5_less cX5_less 4 (Option.some .int) :: e_TB) (5) (2) [.ref y, .int (eI i9), .int (eI j9), .int (eI t9)] w n (fun r w' n' => FM w w' y n ∧ ((¬ ((0 ≤ i9 ∧ i9 < 6) ∧ (0 ≤ j9 ∧ j9 < 6) ∧ (0 ≤ t9 ∧ t9 < 6)) ∧ r = some (.int (eI 0)) ∧ MW w' y wh kn 1 R) ∨ (((0 ≤ i9 ∧ i9 < 6) ∧ (0 ≤ j9 ∧ j9 < 6) ∧ (0 ≤ t9 ∧ t9 < 6)) ∧ r = some (.int (eI ((if (R i9.toNat).dg = -1 ∨ (R j9.toNat).dg = -1 then (-9, R) else (bc (st7 (joR wh (-1) (R i9.toNat) (R j9.toNat)).A), updR R t9.toNat (joR wh (-1) (R i9.toNat) (R j9.toNat)))).1))) ∧ MW w' y wh (kn) 0 ((if (R i9.toNat).dg = -1 ∨ (R j9.toNat).dg = -1 then (-9, R) else (bc (st7 (joR wh (-1) (R i9.toNat) (R j9.toNat)).A), updR R t9.toNat (joR wh (-1) (R i9.toNat) (R j9.toNat)))).2)))) (e_px0) := by
  refine e_ofV rfl (Nat.le_of_ble_eq_true rfl) ?_
  intro P9 E9 S9 M9 A9 B9 T9 C9 F hnm
  have hwh := hM.2.1
  have hY := hM.1
  have hp := pr_rg wh hwh
  have hho := ho_rg wh hwh
  have hf9 := fl_rg wh hwh
  refine e_aload_n F dX5_less_0 rfl ?_
  refine e_aload_n F dX5_less_1 rfl ?_
  refine e_iload_n F dX5_less_2 rfl ?_
  refine e_iload_n F dX5_less_3 rfl ?_
  refine e_iload_n F dX5_less_4 rfl ?_
  refine e_callVV F u_X5_areNoDeals (by rfl) (c_X5_areNoDeals hi9 hj9 ht9) hY rfl rfl w_ml_RX5_154 dX5_less_5 (by rfl) (Nat.le_of_ble_eq_true rfl) (by decide) (by omega) (fun _ _ _ h _ => False.elim h) (fun r_5 w_5 n_5 h_5 hn_5 => ?_)
  obtain ⟨rfl, ew_5, en_5⟩ := h_5
  rw [ew_5, en_5]
  refine e_iconst F dX5_less_8 ?_
  refine e_callVV F u_X5_start (by rfl) (c_X5_start hY (b01_or _) (by decide) (by decide)) hY rfl rfl w_ml_RX5_69 dX5_less_9 (by rfl) (Nat.le_of_ble_eq_true rfl) (by decide) (by omega) (fun _ _ _ h _ => False.elim h) (fun r_9 w_9 n_9 h_9 hn_9 => ?_)
  obtain ⟨rfl, en_9, ew_9⟩ := h_9
  rw [en_9, ew_9, st1]
  refine e_if_eq F 19 dX5_less_12 (by decide) (b01_r _) (fun c_12 => ?_) (fun c_12 => ?_)
  ·
    rw [b01_0, Classical.not_not] at c_12
    rw [if_pos c_12]
    have gM := hM.th (t2 := 0) (kn2 := kn)
    have h_i := c_12
    obtain ⟨kt9, rfl⟩ : ∃ k : Nat, t9 = (k : Int) := ⟨t9.toNat, by omega⟩
    have hkt9 : kt9 < 6 := by omega
    rw [show ((kt9 : Nat) : Int).toNat = kt9 from rfl]
    obtain ⟨kj9, rfl⟩ : ∃ k : Nat, j9 = (k : Int) := ⟨j9.toNat, by omega⟩
    have hkj9 : kj9 < 6 := by omega
    rw [show ((kj9 : Nat) : Int).toNat = kj9 from rfl]
    obtain ⟨ki9, rfl⟩ : ∃ k : Nat, i9 = (k : Int) := ⟨i9.toNat, by omega⟩
    have hki9 : ki9 < 6 := by omega
    rw [show ((ki9 : Nat) : Int).toNat = ki9 from rfl]
    refine e_aload_n F dX5_less_19 rfl ?_
    refine e_iload_n F dX5_less_20 rfl ?_
    refine e_iload_n F dX5_less_21 rfl ?_
    refine e_iload_n F dX5_less_22 rfl ?_
    refine e_iconst F dX5_less_23 ?_
    refine e_callVV F u_X5_joined (by rfl) (c_X5_joined gM hki9 hkj9 hkt9 (s9 := (-1)) (by decide)) gM.1 rfl rfl w_ml_RX5_157 dX5_less_24 (by rfl) (Nat.le_of_ble_eq_true rfl) (by decide) (by omega) (fun _ _ _ h _ => False.elim h) (fun r_24 w_24 n_24 h_24 hn_24 => ?_)
    obtain ⟨gF3, rfl, gM3⟩ := h_24
    refine e_iret F rfl (by omega) ?_ dX5_less_27
    first
    | exact ⟨FM.th, Or.inl ⟨c_12, rfl, hM.th⟩⟩
    | exact ⟨FM.th.tr (Nat.le_refl _) gF3, Or.inr ⟨h_i, rfl, gM3⟩⟩
  ·
    rw [b01_0, Classical.not_not] at c_12
    rw [if_neg c_12]
    refine e_iconst F dX5_less_15 ?_
    refine e_goto F 27 dX5_less_16 (by decide) ?_
    refine e_iret F rfl (by omega) ?_ dX5_less_27
    first
    | exact ⟨FM.th, Or.inl ⟨c_12, rfl, hM.th⟩⟩
    | exact ⟨FM.th.tr (Nat.le_refl _) gF3, Or.inr ⟨h_i, rfl, gM3⟩⟩
