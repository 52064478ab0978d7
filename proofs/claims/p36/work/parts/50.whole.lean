/-! the reference: is it whole; the checksum -/
theorem e_and1 {b : Int} (hb : b = 0 ∨ b = 1) : eI b &&& eI 1 = eI b := by rcases hb with h | h <;> rw [h] <;> decide
theorem e_and0 {b : Int} (hb : b = 0 ∨ b = 1) : eI b &&& eI 0 = eI 0 := by rcases hb with h | h <;> rw [h] <;> decide
def mg1 (wh : Nat) (r : RD) (b : Int) (k : Nat) : Int := itF (fun c => mdV wh r c) b k
def mg2 (wh : Nat) (r : RD) (b : Int) (k : Nat) : Int := itF (fun h => r.A ((h : Int) + 1)) (mg1 wh r b 4) k
def mg3 (wh : Nat) (r : RD) (b : Int) (k : Nat) : Int := itF (fun c => stV wh r c) (mg2 wh r b (ho wh).toNat) k
def mgI (wh : Nat) (kn : Int) (R : Nat → RD) : Nat → Int
  | 0 => itF (fun c => hoR wh kn R c) 7977 7
  | i + 1 => mg3 wh (R i) (mgI wh kn R i) 4
def mgV (wh : Nat) (kn : Int) (R : Nat → RD) : Int := mgI wh kn R 6 * 31 + b01 (whV wh R)
set_option maxHeartbeats 4000000 in
set_option maxRecDepth 100000 in
theorem c_X5_isWhole {K : e_K} {l : Launch} {w : e_W} {n : Nat} {y wh : Nat} {t kn : Int} {R : Nat → RD} (hM : MW w y wh kn t R) : e_Met K l yX5_isWhole (Cond.code yX5_isWhole cX5_isWhole 4 (Option.some .boolean) :: e_TB) (6) (5) [.ref y] w n (fun r w' n' => r = some (.int (eI (b01 (whV wh R)))) ∧ KB w w' n) (e_px0) := by
  refine e_ofV rfl (Nat.le_of_ble_eq_true rfl) ?_
  intro P9 E9 S9 M9 A9 B9 T9 C9 F hnm
  obtain ⟨hY, hwh, ⟨G, hG, hGe⟩, ⟨SS, PP, hS, hP, hMD⟩, hRV⟩ := id hM
  have hp := pr_rg wh hwh
  have hho := ho_rg wh hwh
  refine e_dom ?_
  intro hdom
  have hyn := hdom _ _ hY
  have hf9 := fl_rg wh hwh
  have hg9 := gr_rg wh hwh
  have hW : (b01 (atV wh (fl wh) (fun _ => 1) 0 = 1)) = 0 ∨ (b01 (atV wh (fl wh) (fun _ => 1) 0 = 1)) = 1 := b01_or _
  have hWr : e_r (b01 (atV wh (fl wh) (fun _ => 1) 0 = 1)) := b01_r _
  have l2 : ∀ (N k nl : Nat) (wl : e_W), 8 - k < N → (k ≤ 6 ∧ fwK wh R 6 = fwK wh R (6 - k) ∧ KB w wl n ∧ n ≤ nl) → e_V K P9 l E9 (6) (5) S9 M9 A9 B9 T9 C9 4 (fun r w' n' => r = some (.int (eI (b01 (whV wh R)))) ∧ KB w w' n) (e_px0) 173 [(0, .ref y), (1, .int (eI (b01 (atV wh (fl wh) (fun _ => 1) 0 = 1)))), (2, .int (eI (k : Int)))] [] wl nl (3) := by
    intro N
    induction N with
    | zero => intro k nl wl hN; exact absurd hN (Nat.not_lt_zero _)
    | succ N ih =>
      intro k nl wl hN ⟨hk, hf, gK, gn⟩
      have gM := hM.kb hdom gK
      obtain ⟨gY, _, ⟨G2, gG, gGe⟩, ⟨S2, P2, gS, gP, gMD⟩, _⟩ := id gM
      by_cases hk6 : k = 6
      ·
        refine e_iload_n F dX5_isWhole_173 rfl ?_
        refine e_bipush F dX5_isWhole_174 (by decide) ?_
        refine e_icmp_ge F 212 dX5_isWhole_176 (by decide) (⟨by omega, by omega⟩) (⟨by omega, by omega⟩) (fun c_176 => ?_) (fun c_176 => ?_)
        · refine e_iload_n F dX5_isWhole_212 rfl ?_
          refine e_zret F rfl (by omega) (hW) ?_ dX5_isWhole_213
          refine ⟨?_, gK⟩
          have e8 : fwK wh R 6 = true := by rw [hf, hk6]; rfl
          rcases hW with q | q
          · rw [q, b01_f (show ¬ whV wh R from fun z => by have := b01_0.mp q; exact this z.1)]
          · rw [q, b01_t (show whV wh R from And.intro (b01_1.mp q) e8)]
        · exact absurd c_176 (by omega)
      have e7 : 6 - k = (5 - k) + 1 := by omega
      have e6 : fwK wh R ((5 - k) + 1) = if (R (5 - (5 - k))).hp = 1 then decide (fsV wh (R (5 - (5 - k)))) else fwK wh R (5 - k) := rfl
      rw [show 5 - (5 - k) = k by omega] at e6
      rcases MD.pw (gMD k (by omega)) with ⟨hp0, hPn⟩ | ⟨hp1, ⟨b, g, hPb, hyb, hwb, hgr, hgE⟩, hd0⟩
      ·
        refine e_iload_n F dX5_isWhole_173 rfl ?_
        refine e_bipush F dX5_isWhole_174 (by decide) ?_
        refine e_icmp_ge F 212 dX5_isWhole_176 (by decide) (⟨by omega, by omega⟩) (⟨by omega, by omega⟩) (fun c_176 => ?_) (fun c_176 => ?_)
        · exact absurd c_176 (by omega)
        · refine e_aload_n F dX5_isWhole_179 rfl ?_
          refine e_get (ci := 5) (fi := 5) (q := (RX5, TX5, 6)) F gY rfl (by decide) w_fl_RX5_22 (by rfl) dX5_isWhole_180 ?_
          refine e_iload_n F dX5_isWhole_183 rfl ?_
          refine e_aaldn F gP (by omega) (by omega) (by decide) (hPn) dX5_isWhole_184 ?_
          refine e_ifnullN F 206 dX5_isWhole_185 (by decide) ?_
          refine e_iinc F dX5_isWhole_206 rfl (by decide) ?_
          refine e_goto F 173 dX5_isWhole_209 (by decide) ?_
          exact e_go (ih (k + 1) nl wl (by omega) ⟨by omega, by rw [hf, e7, e6, if_neg (by omega)]; congr 1; omega, gK, gn⟩) (And.intro rfl (And.intro rfl (And.intro rfl (trivial))))
      ·
        refine e_iload_n F dX5_isWhole_173 rfl ?_
        refine e_bipush F dX5_isWhole_174 (by decide) ?_
        refine e_icmp_ge F 212 dX5_isWhole_176 (by decide) (⟨by omega, by omega⟩) (⟨by omega, by omega⟩) (fun c_176 => ?_) (fun c_176 => ?_)
        · exact absurd c_176 (by omega)
        · refine e_aload_n F dX5_isWhole_179 rfl ?_
          refine e_get (ci := 5) (fi := 5) (q := (RX5, TX5, 6)) F gY rfl (by decide) w_fl_RX5_22 (by rfl) dX5_isWhole_180 ?_
          refine e_iload_n F dX5_isWhole_183 rfl ?_
          refine e_aaldr F gP (by omega) (by omega) (by decide) (hPb) dX5_isWhole_184 ?_
          refine e_ifnull F dX5_isWhole_185 ?_
          refine e_iload_n F dX5_isWhole_188 rfl ?_
          refine e_if_eq F 204 dX5_isWhole_189 (by decide) (hWr) (fun c_189 => ?_) (fun c_189 => ?_)
          · refine e_iconst F dX5_isWhole_204 ?_
            refine e_zret F rfl (by omega) (by omega) ?_ dX5_isWhole_205
            first
            | (refine ⟨?_, fun j hj => (gK2 j (by omega)).trans (gK j hj)⟩
               have e5 : fwK wh R 6 = decide (fsV wh (R k)) := by rw [hf, e7, e6, if_pos hp1]
               have e4 : atV wh (fl wh) (fun _ => 1) 0 = 1 := b01_1.mp (by omega)
               by_cases e3 : fsV wh (R k)
               · first | (rw [b01_t (show whV wh R from And.intro e4 (by rw [e5, decide_eq_true e3]))]; done) | exact absurd e3 c_197
               · first | (rw [b01_f (show ¬ whV wh R from fun z => by have := z.2; rw [e5, decide_eq_false e3] at this; exact absurd this (by decide))]; done) | exact absurd c_197 e3)
            | (refine ⟨?_, gK⟩
               rw [b01_f (show ¬ whV wh R from fun z => by have := b01_0.mp c_189; exact this z.1)])
          · refine e_aload_n F dX5_isWhole_192 rfl ?_
            refine e_iload_n F dX5_isWhole_193 rfl ?_
            refine e_callVV F u_X5_isFirstSealed (by rfl) (c_X5_isFirstSealed gM (i := k) (by omega) hp1) gY rfl rfl w_ml_RX5_219 dX5_isWhole_194 (by rfl) (Nat.le_of_ble_eq_true rfl) (by decide) (by omega) (fun _ _ _ h _ => False.elim h) (fun r_194 w_194 n_194 h_194 hn_194 => ?_)
            obtain ⟨rfl, gK2⟩ := h_194
            refine e_if_eq F 204 dX5_isWhole_197 (by decide) (b01_r _) (fun c_197 => ?_) (fun c_197 => ?_)
            ·
              rw [b01_0] at c_197
              refine e_iconst F dX5_isWhole_204 ?_
              refine e_zret F rfl (by omega) (by omega) ?_ dX5_isWhole_205
              first
              | (refine ⟨?_, fun j hj => (gK2 j (by omega)).trans (gK j hj)⟩
                 have e5 : fwK wh R 6 = decide (fsV wh (R k)) := by rw [hf, e7, e6, if_pos hp1]
                 have e4 : atV wh (fl wh) (fun _ => 1) 0 = 1 := b01_1.mp (by omega)
                 by_cases e3 : fsV wh (R k)
                 · first | (rw [b01_t (show whV wh R from And.intro e4 (by rw [e5, decide_eq_true e3]))]; done) | exact absurd e3 c_197
                 · first | (rw [b01_f (show ¬ whV wh R from fun z => by have := z.2; rw [e5, decide_eq_false e3] at this; exact absurd this (by decide))]; done) | exact absurd c_197 e3)
              | (refine ⟨?_, gK⟩
                 rw [b01_f (show ¬ whV wh R from fun z => by have := b01_0.mp c_189; exact this z.1)])
            ·
              rw [b01_0, Classical.not_not] at c_197
              refine e_iconst F dX5_isWhole_200 ?_
              refine e_goto F 205 dX5_isWhole_201 (by decide) ?_
              refine e_zret F rfl (by omega) (by omega) ?_ dX5_isWhole_205
              first
              | (refine ⟨?_, fun j hj => (gK2 j (by omega)).trans (gK j hj)⟩
                 have e5 : fwK wh R 6 = decide (fsV wh (R k)) := by rw [hf, e7, e6, if_pos hp1]
                 have e4 : atV wh (fl wh) (fun _ => 1) 0 = 1 := b01_1.mp (by omega)
                 by_cases e3 : fsV wh (R k)
                 · first | (rw [b01_t (show whV wh R from And.intro e4 (by rw [e5, decide_eq_true e3]))]; done) | exact absurd e3 c_197
                 · first | (rw [b01_f (show ¬ whV wh R from fun z => by have := z.2; rw [e5, decide_eq_false e3] at this; exact absurd this (by decide))]; done) | exact absurd c_197 e3)
              | (refine ⟨?_, gK⟩
                 rw [b01_f (show ¬ whV wh R from fun z => by have := b01_0.mp c_189; exact this z.1)])
  have l1 : ∀ (N k nl : Nat) (wl : e_W), 8 - k < N → (k ≤ 6 ∧ KB w wl n ∧ n ≤ nl) → e_V K P9 l E9 (6) (5) S9 M9 A9 B9 T9 C9 4 (fun r w' n' => r = some (.int (eI (b01 (whV wh R)))) ∧ KB w w' n) (e_px0) 25 [(0, .ref y), (1, .int (eI (b01 (atV wh (fl wh) (fun _ => 1) 0 = 1)))), (2, .int (eI (k : Int)))] [] wl nl (3) := by
    intro N
    induction N with
    | zero => intro k nl wl hN; exact absurd hN (Nat.not_lt_zero _)
    | succ N ih =>
      intro k nl wl hN ⟨hk, gK, gn⟩
      have gM := hM.kb hdom gK
      obtain ⟨gY, _, ⟨G2, gG, gGe⟩, ⟨S2, P2, gS, gP, gMD⟩, gRV⟩ := id gM
      by_cases hk6 : k = 6
      ·
        refine e_iload_n F dX5_isWhole_25 rfl ?_
        refine e_bipush F dX5_isWhole_26 (by decide) ?_
        refine e_icmp_ge F 171 dX5_isWhole_28 (by decide) (⟨by omega, by omega⟩) (⟨by omega, by omega⟩) (fun c_28 => ?_) (fun c_28 => ?_)
        · refine e_iconst F dX5_isWhole_171 ?_
          refine e_istore_n F dX5_isWhole_172 (by decide) ?_
          exact e_go (l2 9 0 nl wl (by omega) ⟨by omega, rfl, gK, gn⟩) (And.intro rfl (And.intro rfl (And.intro rfl (trivial))))
        · exact absurd c_28 (by omega)
      have hk9 : k < 6 := by omega
      have hRk := gRV k hk9
      have hdk := MD.dg (gMD k hk9)
      have hGk := gGe k hk9
      rcases MD.pw (gMD k hk9) with ⟨hp0, hPn⟩ | ⟨hp1, ⟨b, g, hPb, hyb, hwb, hgr, hgE⟩, hd0⟩
      ·
        have l33 : ∀ (N h : Nat), 9 - h < N → ((h : Int) ≤ ho wh) → e_V K P9 l E9 (6) (5) S9 M9 A9 B9 T9 C9 4 (fun r w' n' => r = some (.int (eI (b01 (whV wh R)))) ∧ KB w w' n) (e_px0) 33 [(0, .ref y), (1, .int (eI (b01 (atV wh (fl wh) (fun _ => 1) 0 = 1)))), (2, .int (eI (k : Int))), (3, .int (eI ((h : Int) + 1)))] [] wl nl (3) := by
          intro N
          induction N with
          | zero => intro h hN; exact absurd hN (Nat.not_lt_zero _)
          | succ N ih2 =>
            intro h hN hh
            refine e_iload_n F dX5_isWhole_33 rfl ?_
            refine e_aload_n F dX5_isWhole_34 rfl ?_
            refine e_callVV F u_X5_holders (by rfl) (c_X5_holders gY hwh) gY rfl rfl w_ml_RX5_52 dX5_isWhole_35 (by rfl) (Nat.le_of_ble_eq_true rfl) (by decide) (by omega) (fun _ _ _ h _ => False.elim h) (fun r_35 w_35 n_35 h_35 hn_35 => ?_)
            obtain ⟨rfl, ew_35, en_35⟩ := h_35
            rw [ew_35, en_35]
            refine e_icmp_gt F 84 dX5_isWhole_38 (by decide) (⟨by omega, by omega⟩) (⟨by omega, by omega⟩) (fun c_38 => ?_) (fun c_38 => ?_)
            · refine e_iload_n F dX5_isWhole_84 rfl ?_
              refine e_aload_n F dX5_isWhole_85 rfl ?_
              refine e_get (ci := 5) (fi := 5) (q := (RX5, TX5, 6)) F gY rfl (by decide) w_fl_RX5_22 (by rfl) dX5_isWhole_86 ?_
              refine e_iload_n F dX5_isWhole_89 rfl ?_
              refine e_aaldn F gP (by omega) (by omega) (by decide) (hPn) dX5_isWhole_90 ?_
              refine e_ifnullN F 112 dX5_isWhole_91 (by decide) ?_
              refine e_iconst F dX5_isWhole_112 ?_
              refine e_goto F 117 dX5_isWhole_113 (by decide) ?_
              refine e_iand F dX5_isWhole_117 (e_and1 hW) ?_
              refine e_istore_n F dX5_isWhole_118 (by decide) ?_
              refine e_iconst F dX5_isWhole_119 ?_
              refine e_istore_n F dX5_isWhole_120 (by decide) ?_
              refine e_aload_n F dX5_isWhole_121 rfl ?_
              refine e_get (ci := 5) (fi := 5) (q := (RX5, TX5, 6)) F gY rfl (by decide) w_fl_RX5_22 (by rfl) dX5_isWhole_122 ?_
              refine e_iload_n F dX5_isWhole_125 rfl ?_
              refine e_aaldn F gP (by omega) (by omega) (by decide) (hPn) dX5_isWhole_126 ?_
              refine e_ifnullN F 165 dX5_isWhole_127 (by decide) ?_
              refine e_iinc F dX5_isWhole_165 rfl (by decide) ?_
              refine e_goto F 25 dX5_isWhole_168 (by decide) ?_
              exact e_go (ih (k + 1) nl wl (by omega) ⟨by omega, gK, gn⟩) (And.intro rfl (And.intro rfl (And.intro rfl (trivial))))
            ·
              have hA9 := hRk.1 ((h : Int) + 1) (by omega) (by omega)
              refine e_iload_n F dX5_isWhole_41 rfl ?_
              refine e_aload_n F dX5_isWhole_42 rfl ?_
              refine e_iload_n F dX5_isWhole_43 rfl ?_
              refine e_iload_n F dX5_isWhole_44 rfl ?_
              refine e_callVV F u_X5_shareOf (by rfl) (c_X5_shareOf gM hk9 (h := (h : Int) + 1) (by omega) (by omega)) gY rfl rfl w_ml_RX5_180 dX5_isWhole_45 (by rfl) (Nat.le_of_ble_eq_true rfl) (by decide) (by omega) (fun _ _ _ h _ => False.elim h) (fun r_45 w_45 n_45 h_45 hn_45 => ?_)
              obtain ⟨rfl, ew_45, en_45⟩ := h_45
              rw [ew_45, en_45]
              refine e_iconst F dX5_isWhole_48 ?_
              refine e_icmp_eq F 71 dX5_isWhole_49 (by decide) (⟨by omega, by omega⟩) (⟨by omega, by omega⟩) (fun c_49 => ?_) (fun c_49 => ?_)
              · refine e_iconst F dX5_isWhole_71 ?_
                refine e_goto F 76 dX5_isWhole_72 (by decide) ?_
                refine e_iand F dX5_isWhole_76 (e_and1 hW) ?_
                refine e_istore_n F dX5_isWhole_77 (by decide) ?_
                refine e_iinc F dX5_isWhole_78 rfl (by decide) ?_
                refine e_goto F 33 dX5_isWhole_81 (by decide) ?_
                exact e_go (ih2 (h + 1) (by omega) (by omega)) (And.intro rfl (And.intro rfl (And.intro rfl (And.intro rfl (trivial)))))
              · refine e_aload_n F dX5_isWhole_52 rfl ?_
                refine e_iload_n F dX5_isWhole_53 rfl ?_
                refine e_iload_n F dX5_isWhole_54 rfl ?_
                refine e_callVV F u_X5_shareOf (by rfl) (c_X5_shareOf gM hk9 (h := (h : Int) + 1) (by omega) (by omega)) gY rfl rfl w_ml_RX5_180 dX5_isWhole_55 (by rfl) (Nat.le_of_ble_eq_true rfl) (by decide) (by omega) (fun _ _ _ h _ => False.elim h) (fun r_55 w_55 n_55 h_55 hn_55 => ?_)
                obtain ⟨rfl, ew_55, en_55⟩ := h_55
                rw [ew_55, en_55]
                refine e_iconst F dX5_isWhole_58 ?_
                refine e_aload_n F dX5_isWhole_59 rfl ?_
                refine e_callVV F u_X5_p (by rfl) (c_X5_p gY hwh) gY rfl rfl w_ml_RX5_38 dX5_isWhole_60 (by rfl) (Nat.le_of_ble_eq_true rfl) (by decide) (by omega) (fun _ _ _ h _ => False.elim h) (fun r_60 w_60 n_60 h_60 hn_60 => ?_)
                obtain ⟨rfl, ew_60, en_60⟩ := h_60
                rw [ew_60, en_60]
                refine e_iconst F dX5_isWhole_63 ?_
                refine e_isub F dX5_isWhole_64 ?_
                refine e_callSS F u_X5_isIn (by rfl) (c_X5_isIn (v := (R k).A ((h : Int) + 1)) (a := 0) (b := pr wh - 1) ⟨by omega, by omega⟩ (by decide) ⟨by omega, by omega⟩) w_ml_RX5_48 dX5_isWhole_65 (by rfl) (Nat.le_of_ble_eq_true rfl) (by decide) (by omega) (fun _ _ _ h _ => False.elim h) (fun r_65 w_65 n_65 h_65 hn_65 => ?_)
                obtain ⟨rfl, ew_65, en_65⟩ := h_65
                rw [ew_65, en_65]
                refine e_if_eq F 75 dX5_isWhole_68 (by decide) (b01_r _) (fun c_68 => ?_) (fun c_68 => ?_)
                · exact absurd (b01_0.mp c_68) (fun q => q ⟨by omega, by omega⟩)
                · refine e_iconst F dX5_isWhole_71 ?_
                  refine e_goto F 76 dX5_isWhole_72 (by decide) ?_
                  refine e_iand F dX5_isWhole_76 (e_and1 hW) ?_
                  refine e_istore_n F dX5_isWhole_77 (by decide) ?_
                  refine e_iinc F dX5_isWhole_78 rfl (by decide) ?_
                  refine e_goto F 33 dX5_isWhole_81 (by decide) ?_
                  exact e_go (ih2 (h + 1) (by omega) (by omega)) (And.intro rfl (And.intro rfl (And.intro rfl (And.intro rfl (trivial)))))
        refine e_iload_n F dX5_isWhole_25 rfl ?_
        refine e_bipush F dX5_isWhole_26 (by decide) ?_
        refine e_icmp_ge F 171 dX5_isWhole_28 (by decide) (⟨by omega, by omega⟩) (⟨by omega, by omega⟩) (fun c_28 => ?_) (fun c_28 => ?_)
        · exact absurd c_28 (by omega)
        · refine e_iconst F dX5_isWhole_31 ?_
          refine e_istore_n F dX5_isWhole_32 (by decide) ?_
          exact e_go (l33 10 0 (by omega) (by omega)) (And.intro rfl (And.intro rfl (And.intro rfl (And.intro rfl (trivial)))))
      ·
        have l121 : ∀ (N h : Nat), 9 - h < N → ((h : Int) ≤ (R k).dg + 1) → e_V K P9 l E9 (6) (5) S9 M9 A9 B9 T9 C9 4 (fun r w' n' => r = some (.int (eI (b01 (whV wh R)))) ∧ KB w w' n) (e_px0) 121 [(0, .ref y), (1, .int (eI (b01 (atV wh (fl wh) (fun _ => 1) 0 = 1)))), (2, .int (eI (k : Int))), (3, .int (eI (h : Int)))] [] wl nl (3) := by
          intro N
          induction N with
          | zero => intro h hN; exact absurd hN (Nat.not_lt_zero _)
          | succ N ih2 =>
            intro h hN hh
            refine e_aload_n F dX5_isWhole_121 rfl ?_
            refine e_get (ci := 5) (fi := 5) (q := (RX5, TX5, 6)) F gY rfl (by decide) w_fl_RX5_22 (by rfl) dX5_isWhole_122 ?_
            refine e_iload_n F dX5_isWhole_125 rfl ?_
            refine e_aaldr F gP (by omega) (by omega) (by decide) (hPb) dX5_isWhole_126 ?_
            refine e_ifnull F dX5_isWhole_127 ?_
            refine e_iload_n F dX5_isWhole_130 rfl ?_
            refine e_aload_n F dX5_isWhole_131 rfl ?_
            refine e_get (ci := 5) (fi := 3) (q := (RX5, TX5, 6)) F gY rfl (by decide) w_fl_RX5_13 (by rfl) dX5_isWhole_132 ?_
            refine e_iload_n F dX5_isWhole_135 rfl ?_
            refine e_iald F gG (by omega) (by omega) (by first | decide | omega) dX5_isWhole_136 ?_
            rw [hGk]
            refine e_icmp_gt F 165 dX5_isWhole_137 (by decide) (⟨by omega, by omega⟩) (⟨by omega, by omega⟩) (fun c_137 => ?_) (fun c_137 => ?_)
            · refine e_iinc F dX5_isWhole_165 rfl (by decide) ?_
              refine e_goto F 25 dX5_isWhole_168 (by decide) ?_
              exact e_go (ih (k + 1) nl wl (by omega) ⟨by omega, gK, gn⟩) (And.intro rfl (And.intro rfl (And.intro rfl (trivial))))
            ·
              have hsv := stV_rg hwh (R k) (h : Int)
              refine e_iload_n F dX5_isWhole_140 rfl ?_
              refine e_aload_n F dX5_isWhole_141 rfl ?_
              refine e_iload_n F dX5_isWhole_142 rfl ?_
              refine e_iload_n F dX5_isWhole_143 rfl ?_
              refine e_callVV F u_X5_sealTold (by rfl) (c_X5_sealTold gM hk9 (k9 := (h : Int)) (by omega) (by omega)) gY rfl rfl w_ml_RX5_194 dX5_isWhole_144 (by rfl) (Nat.le_of_ble_eq_true rfl) (by decide) (by omega) (fun _ _ _ h _ => False.elim h) (fun r_144 w_144 n_144 h_144 hn_144 => ?_)
              obtain ⟨rfl, ew_144, en_144⟩ := h_144
              rw [ew_144, en_144]
              refine e_iconst F dX5_isWhole_147 ?_
              refine e_aload_n F dX5_isWhole_148 rfl ?_
              refine e_callVV F u_X5_q (by rfl) (c_X5_q gY hwh) gY rfl rfl w_ml_RX5_62 dX5_isWhole_149 (by rfl) (Nat.le_of_ble_eq_true rfl) (by decide) (by omega) (fun _ _ _ h _ => False.elim h) (fun r_149 w_149 n_149 h_149 hn_149 => ?_)
              obtain ⟨rfl, ew_149, en_149⟩ := h_149
              rw [ew_149, en_149]
              refine e_iconst F dX5_isWhole_152 ?_
              refine e_isub F dX5_isWhole_153 ?_
              refine e_callSS F u_X5_isIn (by rfl) (c_X5_isIn (v := stV wh (R k) (h : Int)) (a := 1) (b := gr wh - 1) ⟨by omega, by omega⟩ (by decide) ⟨by omega, by omega⟩) w_ml_RX5_48 dX5_isWhole_154 (by rfl) (Nat.le_of_ble_eq_true rfl) (by decide) (by omega) (fun _ _ _ h _ => False.elim h) (fun r_154 w_154 n_154 h_154 hn_154 => ?_)
              obtain ⟨rfl, ew_154, en_154⟩ := h_154
              rw [ew_154, en_154, b01_t (show 1 ≤ stV wh (R k) (h : Int) ∧ stV wh (R k) (h : Int) ≤ gr wh - 1 from ⟨hsv.2.2 hp1 (by omega), by omega⟩)]
              refine e_iand F dX5_isWhole_157 (e_and1 hW) ?_
              refine e_istore_n F dX5_isWhole_158 (by decide) ?_
              refine e_iinc F dX5_isWhole_159 rfl (by decide) ?_
              refine e_goto F 121 dX5_isWhole_162 (by decide) ?_
              exact e_go (ih2 (h + 1) (by omega) (by omega)) (And.intro rfl (And.intro rfl (And.intro rfl (And.intro rfl (trivial)))))
        have l33 : ∀ (N h : Nat), 9 - h < N → ((h : Int) ≤ ho wh) → e_V K P9 l E9 (6) (5) S9 M9 A9 B9 T9 C9 4 (fun r w' n' => r = some (.int (eI (b01 (whV wh R)))) ∧ KB w w' n) (e_px0) 33 [(0, .ref y), (1, .int (eI (b01 (atV wh (fl wh) (fun _ => 1) 0 = 1)))), (2, .int (eI (k : Int))), (3, .int (eI ((h : Int) + 1)))] [] wl nl (3) := by
          intro N
          induction N with
          | zero => intro h hN; exact absurd hN (Nat.not_lt_zero _)
          | succ N ih2 =>
            intro h hN hh
            refine e_iload_n F dX5_isWhole_33 rfl ?_
            refine e_aload_n F dX5_isWhole_34 rfl ?_
            refine e_callVV F u_X5_holders (by rfl) (c_X5_holders gY hwh) gY rfl rfl w_ml_RX5_52 dX5_isWhole_35 (by rfl) (Nat.le_of_ble_eq_true rfl) (by decide) (by omega) (fun _ _ _ h _ => False.elim h) (fun r_35 w_35 n_35 h_35 hn_35 => ?_)
            obtain ⟨rfl, ew_35, en_35⟩ := h_35
            rw [ew_35, en_35]
            refine e_icmp_gt F 84 dX5_isWhole_38 (by decide) (⟨by omega, by omega⟩) (⟨by omega, by omega⟩) (fun c_38 => ?_) (fun c_38 => ?_)
            · refine e_iload_n F dX5_isWhole_84 rfl ?_
              refine e_aload_n F dX5_isWhole_85 rfl ?_
              refine e_get (ci := 5) (fi := 5) (q := (RX5, TX5, 6)) F gY rfl (by decide) w_fl_RX5_22 (by rfl) dX5_isWhole_86 ?_
              refine e_iload_n F dX5_isWhole_89 rfl ?_
              refine e_aaldr F gP (by omega) (by omega) (by decide) (hPb) dX5_isWhole_90 ?_
              refine e_ifnull F dX5_isWhole_91 ?_
              refine e_aload_n F dX5_isWhole_94 rfl ?_
              refine e_get (ci := 5) (fi := 5) (q := (RX5, TX5, 6)) F gY rfl (by decide) w_fl_RX5_22 (by rfl) dX5_isWhole_95 ?_
              refine e_iload_n F dX5_isWhole_98 rfl ?_
              refine e_aaldr F gP (by omega) (by omega) (by decide) (hPb) dX5_isWhole_99 ?_
              refine e_alenI F hwb dX5_isWhole_100 ?_
              refine e_aload_n F dX5_isWhole_101 rfl ?_
              refine e_get (ci := 5) (fi := 3) (q := (RX5, TX5, 6)) F gY rfl (by decide) w_fl_RX5_13 (by rfl) dX5_isWhole_102 ?_
              refine e_iload_n F dX5_isWhole_105 rfl ?_
              refine e_iald F gG (by omega) (by omega) (by first | decide | omega) dX5_isWhole_106 ?_
              rw [hGk]
              refine e_iconst F dX5_isWhole_107 ?_
              refine e_iadd F dX5_isWhole_108 ?_
              refine e_icmp_ne F 116 dX5_isWhole_109 (by decide) (⟨by omega, by omega⟩) (⟨by omega, by omega⟩) (fun c_109 => ?_) (fun c_109 => ?_)
              · exact absurd c_109 (by omega)
              · refine e_iconst F dX5_isWhole_112 ?_
                refine e_goto F 117 dX5_isWhole_113 (by decide) ?_
                refine e_iand F dX5_isWhole_117 (e_and1 hW) ?_
                refine e_istore_n F dX5_isWhole_118 (by decide) ?_
                refine e_iconst F dX5_isWhole_119 ?_
                refine e_istore_n F dX5_isWhole_120 (by decide) ?_
                exact e_go (l121 10 0 (by omega) (by omega)) (And.intro rfl (And.intro rfl (And.intro rfl (And.intro rfl (trivial)))))
            ·
              have hA9 := hRk.1 ((h : Int) + 1) (by omega) (by omega)
              refine e_iload_n F dX5_isWhole_41 rfl ?_
              refine e_aload_n F dX5_isWhole_42 rfl ?_
              refine e_iload_n F dX5_isWhole_43 rfl ?_
              refine e_iload_n F dX5_isWhole_44 rfl ?_
              refine e_callVV F u_X5_shareOf (by rfl) (c_X5_shareOf gM hk9 (h := (h : Int) + 1) (by omega) (by omega)) gY rfl rfl w_ml_RX5_180 dX5_isWhole_45 (by rfl) (Nat.le_of_ble_eq_true rfl) (by decide) (by omega) (fun _ _ _ h _ => False.elim h) (fun r_45 w_45 n_45 h_45 hn_45 => ?_)
              obtain ⟨rfl, ew_45, en_45⟩ := h_45
              rw [ew_45, en_45]
              refine e_iconst F dX5_isWhole_48 ?_
              refine e_icmp_eq F 71 dX5_isWhole_49 (by decide) (⟨by omega, by omega⟩) (⟨by omega, by omega⟩) (fun c_49 => ?_) (fun c_49 => ?_)
              · refine e_iconst F dX5_isWhole_71 ?_
                refine e_goto F 76 dX5_isWhole_72 (by decide) ?_
                refine e_iand F dX5_isWhole_76 (e_and1 hW) ?_
                refine e_istore_n F dX5_isWhole_77 (by decide) ?_
                refine e_iinc F dX5_isWhole_78 rfl (by decide) ?_
                refine e_goto F 33 dX5_isWhole_81 (by decide) ?_
                exact e_go (ih2 (h + 1) (by omega) (by omega)) (And.intro rfl (And.intro rfl (And.intro rfl (And.intro rfl (trivial)))))
              · refine e_aload_n F dX5_isWhole_52 rfl ?_
                refine e_iload_n F dX5_isWhole_53 rfl ?_
                refine e_iload_n F dX5_isWhole_54 rfl ?_
                refine e_callVV F u_X5_shareOf (by rfl) (c_X5_shareOf gM hk9 (h := (h : Int) + 1) (by omega) (by omega)) gY rfl rfl w_ml_RX5_180 dX5_isWhole_55 (by rfl) (Nat.le_of_ble_eq_true rfl) (by decide) (by omega) (fun _ _ _ h _ => False.elim h) (fun r_55 w_55 n_55 h_55 hn_55 => ?_)
                obtain ⟨rfl, ew_55, en_55⟩ := h_55
                rw [ew_55, en_55]
                refine e_iconst F dX5_isWhole_58 ?_
                refine e_aload_n F dX5_isWhole_59 rfl ?_
                refine e_callVV F u_X5_p (by rfl) (c_X5_p gY hwh) gY rfl rfl w_ml_RX5_38 dX5_isWhole_60 (by rfl) (Nat.le_of_ble_eq_true rfl) (by decide) (by omega) (fun _ _ _ h _ => False.elim h) (fun r_60 w_60 n_60 h_60 hn_60 => ?_)
                obtain ⟨rfl, ew_60, en_60⟩ := h_60
                rw [ew_60, en_60]
                refine e_iconst F dX5_isWhole_63 ?_
                refine e_isub F dX5_isWhole_64 ?_
                refine e_callSS F u_X5_isIn (by rfl) (c_X5_isIn (v := (R k).A ((h : Int) + 1)) (a := 0) (b := pr wh - 1) ⟨by omega, by omega⟩ (by decide) ⟨by omega, by omega⟩) w_ml_RX5_48 dX5_isWhole_65 (by rfl) (Nat.le_of_ble_eq_true rfl) (by decide) (by omega) (fun _ _ _ h _ => False.elim h) (fun r_65 w_65 n_65 h_65 hn_65 => ?_)
                obtain ⟨rfl, ew_65, en_65⟩ := h_65
                rw [ew_65, en_65]
                refine e_if_eq F 75 dX5_isWhole_68 (by decide) (b01_r _) (fun c_68 => ?_) (fun c_68 => ?_)
                · exact absurd (b01_0.mp c_68) (fun q => q ⟨by omega, by omega⟩)
                · refine e_iconst F dX5_isWhole_71 ?_
                  refine e_goto F 76 dX5_isWhole_72 (by decide) ?_
                  refine e_iand F dX5_isWhole_76 (e_and1 hW) ?_
                  refine e_istore_n F dX5_isWhole_77 (by decide) ?_
                  refine e_iinc F dX5_isWhole_78 rfl (by decide) ?_
                  refine e_goto F 33 dX5_isWhole_81 (by decide) ?_
                  exact e_go (ih2 (h + 1) (by omega) (by omega)) (And.intro rfl (And.intro rfl (And.intro rfl (And.intro rfl (trivial)))))
        refine e_iload_n F dX5_isWhole_25 rfl ?_
        refine e_bipush F dX5_isWhole_26 (by decide) ?_
        refine e_icmp_ge F 171 dX5_isWhole_28 (by decide) (⟨by omega, by omega⟩) (⟨by omega, by omega⟩) (fun c_28 => ?_) (fun c_28 => ?_)
        · exact absurd c_28 (by omega)
        · refine e_iconst F dX5_isWhole_31 ?_
          refine e_istore_n F dX5_isWhole_32 (by decide) ?_
          exact e_go (l33 10 0 (by omega) (by omega)) (And.intro rfl (And.intro rfl (And.intro rfl (And.intro rfl (trivial)))))
  refine e_aload_n F dX5_isWhole_0 rfl ?_
  refine e_iconst F dX5_isWhole_1 ?_
  refine e_aload_n F dX5_isWhole_2 rfl ?_
  refine e_callVV F u_X5_holders (by rfl) (c_X5_holders hY hwh) hY rfl rfl w_ml_RX5_52 dX5_isWhole_3 (by rfl) (Nat.le_of_ble_eq_true rfl) (by decide) (by omega) (fun _ _ _ h _ => False.elim h) (fun r_3 w_3 n_3 h_3 hn_3 => ?_)
  obtain ⟨rfl, ew_3, en_3⟩ := h_3
  rw [ew_3, en_3]
  refine e_ishl F dX5_isWhole_6 (by have := eI_shl1 (ho wh).toNat (by omega); rwa [Int.toNat_of_nonneg (by omega)] at this) ?_
  refine e_iconst F dX5_isWhole_7 ?_
  refine e_isub F dX5_isWhole_8 ?_
  refine e_iconst F dX5_isWhole_9 ?_
  refine e_callVV F u_X5_weightsAt (by rfl) (c_X5_weightsAt hY hwh (set := fl wh) (x := 0) (by omega) (by omega) (by decide)) hY rfl rfl w_ml_RX5_110 dX5_isWhole_10 (by rfl) (Nat.le_of_ble_eq_true rfl) (by decide) (by omega) (fun _ _ _ h _ => False.elim h) (fun r_10 w_10 n_10 h_10 hn_10 => ?_)
  obtain ⟨rfl, gK⟩ := h_10
  have har := atV_rg hwh (fl wh) (fun _ => 1) 0
  refine e_iconst F dX5_isWhole_13 ?_
  refine e_icmp_ne F 21 dX5_isWhole_14 (by decide) (⟨by omega, by omega⟩) (⟨by omega, by omega⟩) (fun c_14 => ?_) (fun c_14 => ?_)
  · refine e_iconst F dX5_isWhole_21 ?_
    refine e_istore_n F dX5_isWhole_22 (by decide) ?_
    refine e_iconst F dX5_isWhole_23 ?_
    refine e_istore_n F dX5_isWhole_24 (by decide) ?_
    first
    | (have e9 : (b01 (atV wh (fl wh) (fun _ => 1) 0 = 1)) = 1 := b01_t c_14
       have l9 := l1 9 0 n_10 w_10 (by omega) ⟨by omega, gK, by omega⟩
       rw [e9] at l9
       exact e_go l9 (And.intro rfl (And.intro rfl (And.intro rfl (trivial)))))
    | (have e9 : (b01 (atV wh (fl wh) (fun _ => 1) 0 = 1)) = 0 := b01_f c_14
       have l9 := l1 9 0 n_10 w_10 (by omega) ⟨by omega, gK, by omega⟩
       rw [e9] at l9
       exact e_go l9 (And.intro rfl (And.intro rfl (And.intro rfl (trivial)))))
  · refine e_iconst F dX5_isWhole_17 ?_
    refine e_goto F 22 dX5_isWhole_18 (by decide) ?_
    refine e_istore_n F dX5_isWhole_22 (by decide) ?_
    refine e_iconst F dX5_isWhole_23 ?_
    refine e_istore_n F dX5_isWhole_24 (by decide) ?_
    first
    | (have e9 : (b01 (atV wh (fl wh) (fun _ => 1) 0 = 1)) = 1 := b01_t c_14
       have l9 := l1 9 0 n_10 w_10 (by omega) ⟨by omega, gK, by omega⟩
       rw [e9] at l9
       exact e_go l9 (And.intro rfl (And.intro rfl (And.intro rfl (trivial)))))
    | (have e9 : (b01 (atV wh (fl wh) (fun _ => 1) 0 = 1)) = 0 := b01_f c_14
       have l9 := l1 9 0 n_10 w_10 (by omega) ⟨by omega, gK, by omega⟩
       rw [e9] at l9
       exact e_go l9 (And.intro rfl (And.intro rfl (And.intro rfl (trivial)))))
set_option maxHeartbeats 4000000 in
set_option maxRecDepth 100000 in
theorem c_X5_isSound {K : e_K} {l : Launch} {w : e_W} {n : Nat} {y wh : Nat} {t kn : Int} {R : Nat → RD} (hM : MW w y wh kn t R) : e_Met K l yX5_isSound (Cond.code yX5_isSound cX5_isSound 1 (Option.some .boolean) :: e_TB) (7) (5) [.ref y] w n (fun r w' n' => r = some (.int (eI (b01 (whV wh R)))) ∧ MW w' y wh kn 0 R ∧ FM w w' y n) (e_px0) := by
  refine e_ofV rfl (Nat.le_of_ble_eq_true rfl) ?_
  intro P9 E9 S9 M9 A9 B9 T9 C9 F hnm
  refine e_dom ?_
  intro hdom
  have hyn := hdom _ _ hM.1
  refine e_aload_n F dX5_isSound_0 rfl ?_
  refine e_iconst F dX5_isSound_1 ?_
  refine e_set (host := "") (ci := 5) (fi := 0) (q := (RX5, TX5, 6)) F hM.1 rfl (by decide) w_fl_RX5_25 rfl (by rfl) (by rfl) (Nat.le_of_ble_eq_true rfl) dX5_isSound_2 ?_
  refine e_aload_n F dX5_isSound_5 rfl ?_
  have gM := hM.th (t2 := 0) (kn2 := kn)
  change e_V _ _ _ _ _ _ _ _ _ _ _ _ _ _ _ _ _ _ (e_up w y (MO y 0 wh kn)) _ _
  refine e_dom ?_
  intro hdom2
  refine e_callVV F u_X5_isWhole (by rfl) (c_X5_isWhole gM) gM.1 rfl rfl w_ml_RX5_222 dX5_isSound_6 (by rfl) (Nat.le_of_ble_eq_true rfl) (by decide) (by omega) (fun _ _ _ h _ => False.elim h) (fun r_6 w_6 n_6 h_6 hn_6 => ?_)
  obtain ⟨rfl, gK⟩ := h_6
  refine e_zret F rfl (by omega) (b01_or _) ?_ dX5_isSound_9
  exact ⟨rfl, gM.kb hdom2 gK, FM.th.kb (Nat.le_refl _) gK⟩
set_option maxHeartbeats 4000000 in
set_option maxRecDepth 100000 in
theorem c_X5_add {K : e_K} {l : Launch} {w : e_W} {n : Nat} {a b : Int} : e_Met K l yX5_add (Cond.code yX5_add cX5_add 4 (Option.some .long) :: e_TB) (0) (0) [.long (eJ a), .long (eJ b)] w n (fun r w' n' => r = some (.long (eJ (a * 31 + b))) ∧ w' = w ∧ n' = n) (e_px0) := by
  refine e_ofV rfl (Nat.le_of_ble_eq_true rfl) ?_
  intro P9 E9 S9 M9 A9 B9 T9 C9 F hnm
  refine e_lload_n F dX5_add_0 rfl ?_
  refine e_ldc2 F dX5_add_1 w_kl_RX5_226 ?_
  refine e_lmul F dX5_add_4 ?_
  refine e_lload_n F dX5_add_5 rfl ?_
  refine e_ladd F dX5_add_6 ?_
  refine e_lret F rfl (by omega) ?_ dX5_add_7
  exact ⟨rfl, rfl, rfl⟩
theorem hoR_rg {wh : Nat} (hwh : wh < 7) {kn : Int} (hkn : e_r kn) {R : Nat → RD} (c : Int) : e_r (hoR wh kn R c) := by
  have hp := pr_rg wh hwh
  have hg := gr_rg wh hwh
  have hb := bs_rg wh hwh
  have hho := ho_rg wh hwh
  have hfd := fdR_rg R 6
  unfold hoR
  have : (wh : Int) < 7 := by omega
  split
  · constructor <;> omega
  · split
    · constructor <;> omega
    · split
      · constructor <;> omega
      · split
        · constructor <;> omega
        · split
          · constructor <;> omega
          · split
            · constructor <;> omega
            · exact hkn
theorem mdV_rg {w : e_W} {y wh i : Nat} {kn t : Int} {R : Nat → RD} (hwh : wh < 7) (hM : MW w y wh kn t R) (hi : i < 6) {c : Int} (h0 : 0 ≤ c) (h1 : c ≤ 5) : -1 ≤ mdV wh (R i) c ∧ mdV wh (R i) c < 1000004 := by
  have hp := pr_rg wh hwh
  have hst := st7_rg (R i).A
  have hb := bc_rg hst.1 hst.2
  obtain ⟨S, P, -, -, hMD⟩ := hM.2.2.2.1
  have hdg := MD.dg (hMD i hi)
  have hhp := MD.hp (hMD i hi)
  have ha := atV_rg hwh (foV wh (R i)) (R i).A 0
  have h4 := b01_or ((R i).dg ≠ -1 ∧ agD wh (R i) (st7 (R i).A))
  unfold mdV
  split
  · omega
  · split
    · omega
    · split
      · omega
      · split
        · rcases hhp with q | q <;> omega
        · split
          · omega
          · split <;> omega
set_option maxHeartbeats 4000000 in
set_option maxRecDepth 100000 in
theorem c_X5_digest {K : e_K} {l : Launch} {w : e_W} {n : Nat} {y wh : Nat} {t kn : Int} {R : Nat → RD} (hM : MW w y wh kn t R) (hkn : e_r kn) : e_Met K l yX5_digest (Cond.code yX5_digest cX5_digest 5 (Option.some .long) :: e_TB) (7) (60) [.ref y] w n (fun r w' n' => r = some (.long (eJ (mgV wh kn R))) ∧ MW w' y wh kn 0 R ∧ FM w w' y n) (e_px0) := by
  refine e_ofV rfl (Nat.le_of_ble_eq_true rfl) ?_
  intro P9 E9 S9 M9 A9 B9 T9 C9 F hnm
  have hM0 := hM
  have hyn0 := hM.1
  refine e_dom ?_
  intro hdom0
  have hyn := hdom0 _ _ hM.1
  have gM0 := hM.th (t2 := 0) (kn2 := kn)
  have hwh := hM.2.1
  have hho := ho_rg wh hwh
  have lo : ∀ (M i nl : Nat) (wl : e_W), 6 - i < M → (i ≤ 6 ∧ (MW wl y wh kn 0 R ∧ KB (e_up w y (MO y 0 wh kn)) wl n ∧ n ≤ nl)) → e_V K P9 l E9 (7) (60) S9 M9 A9 B9 T9 C9 5 (fun r w' n' => r = some (.long (eJ (mgV wh kn R))) ∧ MW w' y wh kn 0 R ∧ FM w w' y n) (e_px0) 36 [(0, .ref y), (1, .long (eJ (mgI wh kn R i))), (3, .int (eI (i : Int)))] [] wl nl ((8 * i)) := by
    intro M
    induction M with
    | zero => intro i nl wl hM2; exact absurd hM2 (Nat.not_lt_zero _)
    | succ M ihM =>
      intro i nl0 wl0 hM2 ⟨hi, gMo, gKo, gno⟩
      by_cases h6 : i < 6
      ·
        have l3 : ∀ (N k nl : Nat) (wl : e_W), 8 - k < N → (k ≤ 4 ∧ (MW wl y wh kn 0 R ∧ KB (e_up w y (MO y 0 wh kn)) wl n ∧ n ≤ nl)) → e_V K P9 l E9 (7) (60) S9 M9 A9 B9 T9 C9 5 (fun r w' n' => r = some (.long (eJ (mgV wh kn R))) ∧ MW w' y wh kn 0 R ∧ FM w w' y n) (e_px0) 104 [(0, .ref y), (1, .long (eJ (mg3 wh (R i) (mgI wh kn R i) k))), (3, .int (eI (i : Int))), (4, .int (eI (k : Int)))] [] wl nl ((8 * i + 8)) := by
          intro N
          induction N with
          | zero => intro k nl wl hN; exact absurd hN (Nat.not_lt_zero _)
          | succ N ih =>
            intro k nl wl hN ⟨hk, gM, gK, gn⟩
            have gY := gM.1
            refine e_iload F dX5_digest_104 rfl ?_
            refine e_iconst F dX5_digest_106 ?_
            refine e_icmp_gt F 129 dX5_digest_107 (by decide) (⟨by omega, by omega⟩) (⟨by omega, by omega⟩) (fun c_107 => ?_) (fun c_107 => ?_)
            ·
              obtain rfl : k = 4 := by omega
              refine e_iinc F dX5_digest_129 rfl (by decide) ?_
              refine e_goto F 36 dX5_digest_132 (by decide) ?_
              exact e_wid (by omega) (e_go (ihM (i + 1) nl wl (by omega) ⟨by omega, gM, gK, gn⟩) (And.intro rfl (And.intro rfl (And.intro rfl (trivial)))))
            · refine e_lload_n F dX5_digest_110 rfl ?_
              refine e_aload_n F dX5_digest_111 rfl ?_
              refine e_iload_n F dX5_digest_112 rfl ?_
              refine e_iload F dX5_digest_113 rfl ?_
              refine e_callVV F u_X5_sealTold (by rfl) (c_X5_sealTold gM h6 (k9 := (k : Int)) (by omega) (by omega)) gY rfl rfl w_ml_RX5_194 dX5_digest_115 (by rfl) (Nat.le_of_ble_eq_true rfl) (by decide) (by omega) (fun _ _ _ h _ => False.elim h) (fun r_115 w_115 n_115 h_115 hn_115 => ?_)
              obtain ⟨rfl, ew_115, en_115⟩ := h_115
              rw [ew_115, en_115]
              have hsv := stV_rg hwh (R i) (k : Int)
              have hg9 := gr_rg wh hwh
              refine e_i2l F dX5_digest_118 (⟨by omega, by omega⟩) ?_
              refine e_callSS F u_X5_add (by rfl) (c_X5_add (a := mg3 wh (R i) (mgI wh kn R i) k) (b := stV wh (R i) (k : Int))) w_ml_RX5_230 dX5_digest_119 (by rfl) (Nat.le_of_ble_eq_true rfl) (by decide) (by omega) (fun _ _ _ h _ => False.elim h) (fun r_119 w_119 n_119 h_119 hn_119 => ?_)
              obtain ⟨rfl, ew_119, en_119⟩ := h_119
              rw [ew_119, en_119]
              refine e_lstore_n F dX5_digest_122 (by decide) ?_
              refine e_iinc F dX5_digest_123 rfl (by decide) ?_
              refine e_goto F 104 dX5_digest_126 (by decide) ?_
              refine e_wid (by omega) (e_go (ih (k + 1) nl wl (by omega) ⟨by omega, gM, gK, gn⟩) ?_)
              exact (And.intro rfl (And.intro rfl (And.intro rfl (And.intro rfl (trivial)))))
        have l2 : ∀ (N k nl : Nat) (wl : e_W), 8 - k < N → ((k : Int) ≤ ho wh ∧ (MW wl y wh kn 0 R ∧ KB (e_up w y (MO y 0 wh kn)) wl n ∧ n ≤ nl)) → e_V K P9 l E9 (7) (60) S9 M9 A9 B9 T9 C9 5 (fun r w' n' => r = some (.long (eJ (mgV wh kn R))) ∧ MW w' y wh kn 0 R ∧ FM w w' y n) (e_px0) 73 [(0, .ref y), (1, .long (eJ (mg2 wh (R i) (mgI wh kn R i) k))), (3, .int (eI (i : Int))), (4, .int (eI ((k : Int) + 1)))] [] wl nl ((8 * i + 8)) := by
          intro N
          induction N with
          | zero => intro k nl wl hN; exact absurd hN (Nat.not_lt_zero _)
          | succ N ih =>
            intro k nl wl hN ⟨hk, gM, gK, gn⟩
            have gY := gM.1
            refine e_iload F dX5_digest_73 rfl ?_
            refine e_aload_n F dX5_digest_75 rfl ?_
            refine e_callVV F u_X5_holders (by rfl) (c_X5_holders gY hwh) gY rfl rfl w_ml_RX5_52 dX5_digest_76 (by rfl) (Nat.le_of_ble_eq_true rfl) (by decide) (by omega) (fun _ _ _ h _ => False.elim h) (fun r_76 w_76 n_76 h_76 hn_76 => ?_)
            obtain ⟨rfl, ew_76, en_76⟩ := h_76
            rw [ew_76, en_76]
            refine e_icmp_gt F 101 dX5_digest_79 (by decide) (⟨by omega, by omega⟩) (⟨by omega, by omega⟩) (fun c_79 => ?_) (fun c_79 => ?_)
            ·
              obtain rfl : k = (ho wh).toNat := by omega
              refine e_iconst F dX5_digest_101 ?_
              refine e_istore F dX5_digest_102 (by decide) ?_
              exact e_go (l3 9 0 nl wl (by omega) ⟨by omega, gM, gK, gn⟩) (And.intro rfl (And.intro rfl (And.intro rfl (And.intro rfl (trivial)))))
            ·
              have hA9 := gM.rgA h6 (j := (k : Int) + 1) (by omega) (by omega)
              have hp := pr_rg wh hwh
              refine e_lload_n F dX5_digest_82 rfl ?_
              refine e_aload_n F dX5_digest_83 rfl ?_
              refine e_iload_n F dX5_digest_84 rfl ?_
              refine e_iload F dX5_digest_85 rfl ?_
              refine e_callVV F u_X5_shareOf (by rfl) (c_X5_shareOf gM h6 (h := (k : Int) + 1) (by omega) (by omega)) gY rfl rfl w_ml_RX5_180 dX5_digest_87 (by rfl) (Nat.le_of_ble_eq_true rfl) (by decide) (by omega) (fun _ _ _ h _ => False.elim h) (fun r_87 w_87 n_87 h_87 hn_87 => ?_)
              obtain ⟨rfl, ew_87, en_87⟩ := h_87
              rw [ew_87, en_87]
              refine e_i2l F dX5_digest_90 (⟨by omega, by omega⟩) ?_
              refine e_callSS F u_X5_add (by rfl) (c_X5_add (a := mg2 wh (R i) (mgI wh kn R i) k) (b := (R i).A ((k : Int) + 1))) w_ml_RX5_230 dX5_digest_91 (by rfl) (Nat.le_of_ble_eq_true rfl) (by decide) (by omega) (fun _ _ _ h _ => False.elim h) (fun r_91 w_91 n_91 h_91 hn_91 => ?_)
              obtain ⟨rfl, ew_91, en_91⟩ := h_91
              rw [ew_91, en_91]
              refine e_lstore_n F dX5_digest_94 (by decide) ?_
              refine e_iinc F dX5_digest_95 rfl (by decide) ?_
              refine e_goto F 73 dX5_digest_98 (by decide) ?_
              refine e_wid (by omega) (e_go (ih (k + 1) nl wl (by omega) ⟨by omega, gM, gK, gn⟩) ?_)
              exact (And.intro rfl (And.intro rfl (And.intro rfl (And.intro rfl (trivial)))))
        have l1 : ∀ (N k nl : Nat) (wl : e_W), 8 - k < N → (k ≤ 4 ∧ (MW wl y wh kn 0 R ∧ KB (e_up w y (MO y 0 wh kn)) wl n ∧ n ≤ nl)) → e_V K P9 l E9 (7) (60) S9 M9 A9 B9 T9 C9 5 (fun r w' n' => r = some (.long (eJ (mgV wh kn R))) ∧ MW w' y wh kn 0 R ∧ FM w w' y n) (e_px0) 45 [(0, .ref y), (1, .long (eJ (mg1 wh (R i) (mgI wh kn R i) k))), (3, .int (eI (i : Int))), (4, .int (eI (k : Int)))] [] wl nl ((8 * i + 2 * k)) := by
          intro N
          induction N with
          | zero => intro k nl wl hN; exact absurd hN (Nat.not_lt_zero _)
          | succ N ih =>
            intro k nl wl hN ⟨hk, gM, gK, gn⟩
            have gY := gM.1
            refine e_iload F dX5_digest_45 rfl ?_
            refine e_iconst F dX5_digest_47 ?_
            refine e_icmp_gt F 70 dX5_digest_48 (by decide) (⟨by omega, by omega⟩) (⟨by omega, by omega⟩) (fun c_48 => ?_) (fun c_48 => ?_)
            ·
              obtain rfl : k = 4 := by omega
              refine e_iconst F dX5_digest_70 ?_
              refine e_istore F dX5_digest_71 (by decide) ?_
              exact e_wid (by omega) (e_go (l2 9 0 nl wl (by omega) ⟨by omega, gM, gK, gn⟩) (And.intro rfl (And.intro rfl (And.intro rfl (And.intro rfl (trivial))))))
            · refine e_lload_n F dX5_digest_51 rfl ?_
              refine e_aload_n F dX5_digest_52 rfl ?_
              refine e_iload_n F dX5_digest_53 rfl ?_
              refine e_iload F dX5_digest_54 rfl ?_
              refine e_dom ?_
              intro hdm
              refine e_callVV F u_X5_dealTold (by rfl) (c_X5_dealTold gM h6 (c9 := (k : Int)) (by omega) (by omega)) gY rfl rfl w_ml_RX5_186 dX5_digest_56 (by rfl) (Nat.le_of_ble_eq_true rfl) (by decide) (by omega) (fun _ _ _ h _ => False.elim h) (fun r_56 w_56 n_56 h_56 hn_56 => ?_)
              obtain ⟨rfl, gK2⟩ := h_56
              have gM2 := gM.kb hdm gK2
              have hmr := mdV_rg hwh gM h6 (c := (k : Int)) (by omega) (by omega)
              have hp := pr_rg wh hwh
              refine e_i2l F dX5_digest_59 (⟨by omega, by omega⟩) ?_
              refine e_callSS F u_X5_add (by rfl) (c_X5_add (a := mg1 wh (R i) (mgI wh kn R i) k) (b := mdV wh (R i) (k : Int))) w_ml_RX5_230 dX5_digest_60 (by rfl) (Nat.le_of_ble_eq_true rfl) (by decide) (by omega) (fun _ _ _ h _ => False.elim h) (fun r_60 w_60 n_60 h_60 hn_60 => ?_)
              obtain ⟨rfl, ew_60, en_60⟩ := h_60
              rw [ew_60, en_60]
              refine e_lstore_n F dX5_digest_63 (by decide) ?_
              refine e_iinc F dX5_digest_64 rfl (by decide) ?_
              refine e_goto F 45 dX5_digest_67 (by decide) ?_
              refine e_wid (by omega) (e_go (ih (k + 1) n_56 w_56 (by omega) ⟨by omega, gM2, fun j hj => (gK2 j (by omega)).trans (gK j hj), by omega⟩) ?_)
              exact (And.intro rfl (And.intro rfl (And.intro rfl (And.intro rfl (trivial)))))
        refine e_iload_n F dX5_digest_36 rfl ?_
        refine e_bipush F dX5_digest_37 (by decide) ?_
        refine e_icmp_ge F 135 dX5_digest_39 (by decide) (⟨by omega, by omega⟩) (⟨by omega, by omega⟩) (fun c_39 => ?_) (fun c_39 => ?_)
        · exact absurd c_39 (by omega)
        · refine e_iconst F dX5_digest_42 ?_
          refine e_istore F dX5_digest_43 (by decide) ?_
          exact e_wid (by omega) (e_go (l1 9 0 nl0 wl0 (by omega) ⟨by omega, gMo, gKo, gno⟩) (And.intro rfl (And.intro rfl (And.intro rfl (And.intro rfl (trivial))))))
      · obtain rfl : i = 6 := by omega
        refine e_iload_n F dX5_digest_36 rfl ?_
        refine e_bipush F dX5_digest_37 (by decide) ?_
        refine e_icmp_ge F 135 dX5_digest_39 (by decide) (⟨by omega, by omega⟩) (⟨by omega, by omega⟩) (fun c_39 => ?_) (fun c_39 => ?_)
        · refine e_lload_n F dX5_digest_135 rfl ?_
          refine e_aload_n F dX5_digest_136 rfl ?_
          refine e_dom ?_
          intro hdm
          refine e_callVV F u_X5_isWhole (by rfl) (c_X5_isWhole gMo) gMo.1 rfl rfl w_ml_RX5_222 dX5_digest_137 (by rfl) (Nat.le_of_ble_eq_true rfl) (by decide) (by omega) (fun _ _ _ h _ => False.elim h) (fun r_137 w_137 n_137 h_137 hn_137 => ?_)
          obtain ⟨rfl, gK2⟩ := h_137
          refine e_callSS F u_X5_one (by rfl) (c_X5_one (b01_or _)) w_ml_RX5_80 dX5_digest_140 (by rfl) (Nat.le_of_ble_eq_true rfl) (by decide) (by omega) (fun _ _ _ h _ => False.elim h) (fun r_140 w_140 n_140 h_140 hn_140 => ?_)
          obtain ⟨rfl, ew_140, en_140⟩ := h_140
          rw [ew_140, en_140]
          refine e_i2l F dX5_digest_143 (b01_r _) ?_
          refine e_callSS F u_X5_add (by rfl) (c_X5_add (a := mgI wh kn R 6) (b := b01 (whV wh R))) w_ml_RX5_230 dX5_digest_144 (by rfl) (Nat.le_of_ble_eq_true rfl) (by decide) (by omega) (fun _ _ _ h _ => False.elim h) (fun r_144 w_144 n_144 h_144 hn_144 => ?_)
          obtain ⟨rfl, ew_144, en_144⟩ := h_144
          rw [ew_144, en_144]
          refine e_lret F rfl (by omega) ?_ dX5_digest_147
          exact ⟨rfl, gMo.kb hdm gK2, fun q q1 q2 => ((gK2 q (by omega)).trans (gKo q (by omega))).trans (FM.th q q1 q2)⟩
        · exact absurd c_39 (by omega)
  have lh : ∀ (N k nl : Nat) (wl : e_W), 8 - k < N → (k ≤ 7 ∧ (MW wl y wh kn 0 R ∧ KB (e_up w y (MO y 0 wh kn)) wl n ∧ n ≤ nl)) → e_V K P9 l E9 (7) (60) S9 M9 A9 B9 T9 C9 5 (fun r w' n' => r = some (.long (eJ (mgV wh kn R))) ∧ MW w' y wh kn 0 R ∧ FM w w' y n) (e_px0) 11 [(0, .ref y), (1, .long (eJ (itF (fun c => hoR wh kn R c) 7977 k))), (3, .int (eI (k : Int)))] [] wl nl ((0)) := by
    intro N
    induction N with
    | zero => intro k nl wl hN; exact absurd hN (Nat.not_lt_zero _)
    | succ N ih =>
      intro k nl wl hN ⟨hk, gM, gK, gn⟩
      have gY := gM.1
      refine e_iload_n F dX5_digest_11 rfl ?_
      refine e_bipush F dX5_digest_12 (by decide) ?_
      refine e_icmp_gt F 34 dX5_digest_14 (by decide) (⟨by omega, by omega⟩) (⟨by omega, by omega⟩) (fun c_14 => ?_) (fun c_14 => ?_)
      ·
        obtain rfl : k = 7 := by omega
        refine e_iconst F dX5_digest_34 ?_
        refine e_istore_n F dX5_digest_35 (by decide) ?_
        exact e_wid (by omega) (e_go (lo 7 0 nl wl (by omega) ⟨by omega, gM, gK, gn⟩) (And.intro rfl (And.intro rfl (And.intro rfl (trivial)))))
      · refine e_lload_n F dX5_digest_17 rfl ?_
        refine e_aload_n F dX5_digest_18 rfl ?_
        refine e_iload_n F dX5_digest_19 rfl ?_
        refine e_callVV F u_X5_houseTold (by rfl) (c_X5_houseTold gM (c9 := (k : Int)) ⟨by omega, by omega⟩) gY rfl rfl w_ml_RX5_216 dX5_digest_20 (by rfl) (Nat.le_of_ble_eq_true rfl) (by decide) (by omega) (fun _ _ _ h _ => False.elim h) (fun r_20 w_20 n_20 h_20 hn_20 => ?_)
        obtain ⟨rfl, ew_20, en_20⟩ := h_20
        rw [ew_20, en_20]
        have hhr := hoR_rg hwh hkn (R := R) (k : Int)
        refine e_i2l F dX5_digest_23 (hhr) ?_
        refine e_callSS F u_X5_add (by rfl) (c_X5_add (a := itF (fun c => hoR wh kn R c) 7977 k) (b := hoR wh kn R (k : Int))) w_ml_RX5_230 dX5_digest_24 (by rfl) (Nat.le_of_ble_eq_true rfl) (by decide) (by omega) (fun _ _ _ h _ => False.elim h) (fun r_24 w_24 n_24 h_24 hn_24 => ?_)
        obtain ⟨rfl, ew_24, en_24⟩ := h_24
        rw [ew_24, en_24]
        refine e_lstore_n F dX5_digest_27 (by decide) ?_
        refine e_iinc F dX5_digest_28 rfl (by decide) ?_
        refine e_goto F 11 dX5_digest_31 (by decide) ?_
        refine e_wid (by omega) (e_go (ih (k + 1) nl wl (by omega) ⟨by omega, gM, gK, gn⟩) ?_)
        exact (And.intro rfl (And.intro rfl (And.intro rfl (trivial))))
  refine e_aload_n F dX5_digest_0 rfl ?_
  refine e_iconst F dX5_digest_1 ?_
  refine e_set (host := "") (ci := 5) (fi := 0) (q := (RX5, TX5, 6)) F hM.1 rfl (by decide) w_fl_RX5_25 rfl (by rfl) (by rfl) (Nat.le_of_ble_eq_true rfl) dX5_digest_2 ?_
  refine e_ldc2 F dX5_digest_5 w_kl_RX5_228 ?_
  refine e_lstore_n F dX5_digest_8 (by decide) ?_
  refine e_iconst F dX5_digest_9 ?_
  refine e_istore_n F dX5_digest_10 (by decide) ?_
  exact e_go (lh 9 0 n _ (by omega) ⟨by omega, gM0, fun _ _ => rfl, Nat.le_refl _⟩) (And.intro rfl (And.intro rfl (And.intro rfl (trivial))))
