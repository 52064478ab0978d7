-- 50.whole.lean.txt
section
/-! the reference: is it whole; the checksum -/
theorem e_and1 {b : Int} (hb : b = 0 ∨ b = 1) : eI b &&& eI 1 = eI b := by rcases hb with h | h <;> rw [h] <;> decide
theorem e_and0 {b : Int} (hb : b = 0 ∨ b = 1) : eI b &&& eI 0 = eI 0 := by rcases hb with h | h <;> rw [h] <;> decide
def mg1 (wh : Nat) (r : RD) (b : Int) (k : Nat) : Int := itF (fun c => mdV wh r c) b k
def mg2 (wh : Nat) (r : RD) (b : Int) (k : Nat) : Int := itF (fun h => r.A ((h : Int) + 1)) (mg1 wh r b 4) k
def mg3 (wh : Nat) (r : RD) (b : Int) (k : Nat) : Int := itF (fun c => stV wh r c) (mg2 wh r b (ho wh).toNat) k
def mgI (wh : Nat) (kn : Int) (R : Nat → RD) : Nat → Int
  | 0 => itF (fun c => hoR wh kn R c) 7977 7
  | i + 1 => mg3 wh (R i) (mgI wh kn R i) 4
def mgV (wh : Nat) (kn : Int) (R : Nat → RD) : Int := mgI wh kn R 6 * 31 + b01 (whV wh R)
set_option maxHeartbeats 4000000 in
set_option maxRecDepth 100000 in
theorem c_X5_isWhole {K : e_K} {l : Launch} {w : e_W} {n : Nat} {y wh : Nat} {t kn : Int} {R : Nat → RD} (hM : MW w y wh kn t R) : e_Met K l yX5_isWhole (Cond.code yX5_isWhole cX5_isWhole 4 (Option.some .boolean) :: e_TB) (6) (5) [.ref y] w n (fun r w' n' => r = some (.int (eI (b01 (whV wh R)))) ∧ KB w w' n) (e_px0) := by
  refine e_ofV rfl (Nat.le_of_ble_eq_true rfl) ?_
  intro P9 E9 S9 M9 A9 B9 T9 C9 F hnm
  obtain ⟨hY, hwh, ⟨G, hG, hGe⟩, ⟨SS, PP, hS, hP, hMD⟩, hRV⟩ := id hM
  have hp := pr_rg wh hwh
  have hho := ho_rg wh hwh
  refine e_dom ?_
  intro hdom
  have hyn := hdom _ _ hY
  have hf9 := fl_rg wh hwh
  have hg9 := gr_rg wh hwh
  have hW : (b01 (atV wh (fl wh) (fun _ => 1) 0 = 1)) = 0 ∨ (b01 (atV wh (fl wh) (fun _ => 1) 0 = 1)) = 1 := b01_or _
  have hWr : e_r (b01 (atV wh (fl wh) (fun _ => 1) 0 = 1)) := b01_r _
  have l2 : ∀ (N k nl : Nat) (wl : e_W), 8 - k < N → (k ≤ 6 ∧ fwK wh R 6 = fwK wh R (6 - k) ∧ KB w wl n ∧ n ≤ nl) → e_V K P9 l E9 (6) (5) S9 M9 A9 B9 T9 C9 4 (fun r w' n' => r = some (.int (eI (b01 (whV wh R)))) ∧ KB w w' n) (e_px0) 173 [(0, .ref y), (1, .int (eI (b01 (atV wh (fl wh) (fun _ => 1) 0 = 1)))), (2, .int (eI (k : Int)))] [] wl nl (3) := by
    intro N
    induction N with
    | zero => intro k nl wl hN; exact absurd hN (Nat.not_lt_zero _)
    | succ N ih =>
      intro k nl wl hN ⟨hk, hf, gK, gn⟩
      have gM := hM.kb hdom gK
      obtain ⟨gY, _, ⟨G2, gG, gGe⟩, ⟨S2, P2, gS, gP, gMD⟩, _⟩ := id gM
      by_cases hk6 : k = 6
      ·
        refine e_iload_n F dX5_isWhole_173 rfl ?_
        refine e_bipush F dX5_isWhole_174 (by decide) ?_
        refine e_icmp_ge F 212 dX5_isWhole_176 (by decide) (⟨by omega, by omega⟩) (⟨by omega, by omega⟩) (fun c_176 => ?_) (fun c_176 => ?_)
        · refine e_iload_n F dX5_isWhole_212 rfl ?_
          refine e_zret F rfl (by omega) (hW) ?_ dX5_isWhole_213
          refine ⟨?_, gK⟩
          have e8 : fwK wh R 6 = true := by rw [hf, hk6]; rfl
          rcases hW with q | q
          · rw [q, b01_f (show ¬ whV wh R from fun z => by have := b01_0.mp q; exact this z.1)]
          · rw [q, b01_t (show whV wh R from And.intro (b01_1.mp q) e8)]
        · exact absurd c_176 (by omega)
      have e7 : 6 - k = (5 - k) + 1 := by omega
      have e6 : fwK wh R ((5 - k) + 1) = if (R (5 - (5 - k))).hp = 1 then decide (fsV wh (R (5 - (5 - k)))) else fwK wh R (5 - k) := rfl
      rw [show 5 - (5 - k) = k by omega] at e6
      rcases MD.pw (gMD k (by omega)) with ⟨hp0, hPn⟩ | ⟨hp1, ⟨b, g, hPb, hyb, hwb, hgr, hgE⟩, hd0⟩
      ·
        refine e_iload_n F dX5_isWhole_173 rfl ?_
        refine e_bipush F dX5_isWhole_174 (by decide) ?_
        refine e_icmp_ge F 212 dX5_isWhole_176 (by decide) (⟨by omega, by omega⟩) (⟨by omega, by omega⟩) (fun c_176 => ?_) (fun c_176 => ?_)
        · exact absurd c_176 (by omega)
        · refine e_aload_n F dX5_isWhole_179 rfl ?_
          refine e_get (ci := 5) (fi := 5) (q := (RX5, TX5, 6)) F gY rfl (by decide) w_fl_RX5_22 (by rfl) dX5_isWhole_180 ?_
          refine e_iload_n F dX5_isWhole_183 rfl ?_
          refine e_aaldn F gP (by omega) (by omega) (by decide) (hPn) dX5_isWhole_184 ?_
          refine e_ifnullN F 206 dX5_isWhole_185 (by decide) ?_
          refine e_iinc F dX5_isWhole_206 rfl (by decide) ?_
          refine e_goto F 173 dX5_isWhole_209 (by decide) ?_
          exact e_go (ih (k + 1) nl wl (by omega) ⟨by omega, by rw [hf, e7, e6, if_neg (by omega)]; congr 1; omega, gK, gn⟩) (And.intro rfl (And.intro rfl (And.intro rfl (trivial))))
      ·
        refine e_iload_n F dX5_isWhole_173 rfl ?_
        refine e_bipush F dX5_isWhole_174 (by decide) ?_
        refine e_icmp_ge F 212 dX5_isWhole_176 (by decide) (⟨by omega, by omega⟩) (⟨by omega, by omega⟩) (fun c_176 => ?_) (fun c_176 => ?_)
        · exact absurd c_176 (by omega)
        · refine e_aload_n F dX5_isWhole_179 rfl ?_
          refine e_get (ci := 5) (fi := 5) (q := (RX5, TX5, 6)) F gY rfl (by decide) w_fl_RX5_22 (by rfl) dX5_isWhole_180 ?_
          refine e_iload_n F dX5_isWhole_183 rfl ?_
          refine e_aaldr F gP (by omega) (by omega) (by decide) (hPb) dX5_isWhole_184 ?_
          refine e_ifnull F dX5_isWhole_185 ?_
          refine e_iload_n F dX5_isWhole_188 rfl ?_
          refine e_if_eq F 204 dX5_isWhole_189 (by decide) (hWr) (fun c_189 => ?_) (fun c_189 => ?_)
          · refine e_iconst F dX5_isWhole_204 ?_
            refine e_zret F rfl (by omega) (by omega) ?_ dX5_isWhole_205
            first
            | (refine ⟨?_, fun j hj => (gK2 j (by omega)).trans (gK j hj)⟩
               have e5 : fwK wh R 6 = decide (fsV wh (R k)) := by rw [hf, e7, e6, if_pos hp1]
               have e4 : atV wh (fl wh) (fun _ => 1) 0 = 1 := b01_1.mp (by omega)
               by_cases e3 : fsV wh (R k)
               · first | (rw [b01_t (show whV wh R from And.intro e4 (by rw [e5, decide_eq_true e3]))]; done) | exact absurd e3 c_197
               · first | (rw [b01_f (show ¬ whV wh R from fun z => by have := z.2; rw [e5, decide_eq_false e3] at this; exact absurd this (by decide))]; done) | exact absurd c_197 e3)
            | (refine ⟨?_, gK⟩
               rw [b01_f (show ¬ whV wh R from fun z => by have := b01_0.mp c_189; exact this z.1)])
          · refine e_aload_n F dX5_isWhole_192 rfl ?_
            refine e_iload_n F dX5_isWhole_193 rfl ?_
            refine e_callVV F u_X5_isFirstSealed (by rfl) (c_X5_isFirstSealed gM (i := k) (by omega) hp1) gY rfl rfl w_ml_RX5_219 dX5_isWhole_194 (by rfl) (Nat.le_of_ble_eq_true rfl) (by decide) (by omega) (fun _ _ _ h _ => False.elim h) (fun r_194 w_194 n_194 h_194 hn_194 => ?_)
            obtain ⟨rfl, gK2⟩ := h_194
            refine e_if_eq F 204 dX5_isWhole_197 (by decide) (b01_r _) (fun c_197 => ?_) (fun c_197 => ?_)
            ·
              rw [b01_0] at c_197
              refine e_iconst F dX5_isWhole_204 ?_
              refine e_zret F rfl (by omega) (by omega) ?_ dX5_isWhole_205
              first
              | (refine ⟨?_, fun j hj => (gK2 j (by omega)).trans (gK j hj)⟩
                 have e5 : fwK wh R 6 = decide (fsV wh (R k)) := by rw [hf, e7, e6, if_pos hp1]
                 have e4 : atV wh (fl wh) (fun _ => 1) 0 = 1 := b01_1.mp (by omega)
                 by_cases e3 : fsV wh (R k)
                 · first | (rw [b01_t (show whV wh R from And.intro e4 (by rw [e5, decide_eq_true e3]))]; done) | exact absurd e3 c_197
                 · first | (rw [b01_f (show ¬ whV wh R from fun z => by have := z.2; rw [e5, decide_eq_false e3] at this; exact absurd this (by decide))]; done) | exact absurd c_197 e3)
              | (refine ⟨?_, gK⟩
                 rw [b01_f (show ¬ whV wh R from fun z => by have := b01_0.mp c_189; exact this z.1)])
            ·
              rw [b01_0, Classical.not_not] at c_197
              refine e_iconst F dX5_isWhole_200 ?_
              refine e_goto F 205 dX5_isWhole_201 (by decide) ?_
              refine e_zret F rfl (by omega) (by omega) ?_ dX5_isWhole_205
              first
              | (refine ⟨?_, fun j hj => (gK2 j (by omega)).trans (gK j hj)⟩
                 have e5 : fwK wh R 6 = decide (fsV wh (R k)) := by rw [hf, e7, e6, if_pos hp1]
                 have e4 : atV wh (fl wh) (fun _ => 1) 0 = 1 := b01_1.mp (by omega)
                 by_cases e3 : fsV wh (R k)
                 · first | (rw [b01_t (show whV wh R from And.intro e4 (by rw [e5, decide_eq_true e3]))]; done) | exact absurd e3 c_197
                 · first | (rw [b01_f (show ¬ whV wh R from fun z => by have := z.2; rw [e5, decide_eq_false e3] at this; exact absurd this (by decide))]; done) | exact absurd c_197 e3)
              | (refine ⟨?_, gK⟩
                 rw [b01_f (show ¬ whV wh R from fun z => by have := b01_0.mp c_189; exact this z.1)])
  have l1 : ∀ (N k nl : Nat) (wl : e_W), 8 - k < N → (k ≤ 6 ∧ KB w wl n ∧ n ≤ nl) → e_V K P9 l E9 (6) (5) S9 M9 A9 B9 T9 C9 4 (fun r w' n' => r = some (.int (eI (b01 (whV wh R)))) ∧ KB w w' n) (e_px0) 25 [(0, .ref y), (1, .int (eI (b01 (atV wh (fl wh) (fun _ => 1) 0 = 1)))), (2, .int (eI (k : Int)))] [] wl nl (3) := by
    intro N
    induction N with
    | zero => intro k nl wl hN; exact absurd hN (Nat.not_lt_zero _)
    | succ N ih =>
      intro k nl wl hN ⟨hk, gK, gn⟩
      have gM := hM.kb hdom gK
      obtain ⟨gY, _, ⟨G2, gG, gGe⟩, ⟨S2, P2, gS, gP, gMD⟩, gRV⟩ := id gM
      by_cases hk6 : k = 6
      ·
        refine e_iload_n F dX5_isWhole_25 rfl ?_
        refine e_bipush F dX5_isWhole_26 (by decide) ?_
        refine e_icmp_ge F 171 dX5_isWhole_28 (by decide) (⟨by omega, by omega⟩) (⟨by omega, by omega⟩) (fun c_28 => ?_) (fun c_28 => ?_)
        · refine e_iconst F dX5_isWhole_171 ?_
          refine e_istore_n F dX5_isWhole_172 (by decide) ?_
          exact e_go (l2 9 0 nl wl (by omega) ⟨by omega, rfl, gK, gn⟩) (And.intro rfl (And.intro rfl (And.intro rfl (trivial))))
        · exact absurd c_28 (by omega)
      have hk9 : k < 6 := by omega
      have hRk := gRV k hk9
      have hdk := MD.dg (gMD k hk9)
      have hGk := gGe k hk9
      rcases MD.pw (gMD k hk9) with ⟨hp0, hPn⟩ | ⟨hp1, ⟨b, g, hPb, hyb, hwb, hgr, hgE⟩, hd0⟩
      ·
        have l33 : ∀ (N h : Nat), 9 - h < N → ((h : Int) ≤ ho wh) → e_V K P9 l E9 (6) (5) S9 M9 A9 B9 T9 C9 4 (fun r w' n' => r = some (.int (eI (b01 (whV wh R)))) ∧ KB w w' n) (e_px0) 33 [(0, .ref y), (1, .int (eI (b01 (atV wh (fl wh) (fun _ => 1) 0 = 1)))), (2, .int (eI (k : Int))), (3, .int (eI ((h : Int) + 1)))] [] wl nl (3) := by
          intro N
          induction N with
          | zero => intro h hN; exact absurd hN (Nat.not_lt_zero _)
          | succ N ih2 =>
            intro h hN hh
            refine e_iload_n F dX5_isWhole_33 rfl ?_
            refine e_aload_n F dX5_isWhole_34 rfl ?_
            refine e_callVV F u_X5_holders (by rfl) (c_X5_holders gY hwh) gY rfl rfl w_ml_RX5_52 dX5_isWhole_35 (by rfl) (Nat.le_of_ble_eq_true rfl) (by decide) (by omega) (fun _ _ _ h _ => False.elim h) (fun r_35 w_35 n_35 h_35 hn_35 => ?_)
            obtain ⟨rfl, ew_35, en_35⟩ := h_35
            rw [ew_35, en_35]
            refine e_icmp_gt F 84 dX5_isWhole_38 (by decide) (⟨by omega, by omega⟩) (⟨by omega, by omega⟩) (fun c_38 => ?_) (fun c_38 => ?_)
            · refine e_iload_n F dX5_isWhole_84 rfl ?_
              refine e_aload_n F dX5_isWhole_85 rfl ?_
              refine e_get (ci := 5) (fi := 5) (q := (RX5, TX5, 6)) F gY rfl (by decide) w_fl_RX5_22 (by rfl) dX5_isWhole_86 ?_
              refine e_iload_n F dX5_isWhole_89 rfl ?_
              refine e_aaldn F gP (by omega) (by omega) (by decide) (hPn) dX5_isWhole_90 ?_
              refine e_ifnullN F 112 dX5_isWhole_91 (by decide) ?_
              refine e_iconst F dX5_isWhole_112 ?_
              refine e_goto F 117 dX5_isWhole_113 (by decide) ?_
              refine e_iand F dX5_isWhole_117 (e_and1 hW) ?_
              refine e_istore_n F dX5_isWhole_118 (by decide) ?_
              refine e_iconst F dX5_isWhole_119 ?_
              refine e_istore_n F dX5_isWhole_120 (by decide) ?_
              refine e_aload_n F dX5_isWhole_121 rfl ?_
              refine e_get (ci := 5) (fi := 5) (q := (RX5, TX5, 6)) F gY rfl (by decide) w_fl_RX5_22 (by rfl) dX5_isWhole_122 ?_
              refine e_iload_n F dX5_isWhole_125 rfl ?_
              refine e_aaldn F gP (by omega) (by omega) (by decide) (hPn) dX5_isWhole_126 ?_
              refine e_ifnullN F 165 dX5_isWhole_127 (by decide) ?_
              refine e_iinc F dX5_isWhole_165 rfl (by decide) ?_
              refine e_goto F 25 dX5_isWhole_168 (by decide) ?_
              exact e_go (ih (k + 1) nl wl (by omega) ⟨by omega, gK, gn⟩) (And.intro rfl (And.intro rfl (And.intro rfl (trivial))))
            ·
              have hA9 := hRk.1 ((h : Int) + 1) (by omega) (by omega)
              refine e_iload_n F dX5_isWhole_41 rfl ?_
              refine e_aload_n F dX5_isWhole_42 rfl ?_
              refine e_iload_n F dX5_isWhole_43 rfl ?_
              refine e_iload_n F dX5_isWhole_44 rfl ?_
              refine e_callVV F u_X5_shareOf (by rfl) (c_X5_shareOf gM hk9 (h := (h : Int) + 1) (by omega) (by omega)) gY rfl rfl w_ml_RX5_180 dX5_isWhole_45 (by rfl) (Nat.le_of_ble_eq_true rfl) (by decide) (by omega) (fun _ _ _ h _ => False.elim h) (fun r_45 w_45 n_45 h_45 hn_45 => ?_)
              obtain ⟨rfl, ew_45, en_45⟩ := h_45
              rw [ew_45, en_45]
              refine e_iconst F dX5_isWhole_48 ?_
              refine e_icmp_eq F 71 dX5_isWhole_49 (by decide) (⟨by omega, by omega⟩) (⟨by omega, by omega⟩) (fun c_49 => ?_) (fun c_49 => ?_)
              · refine e_iconst F dX5_isWhole_71 ?_
                refine e_goto F 76 dX5_isWhole_72 (by decide) ?_
                refine e_iand F dX5_isWhole_76 (e_and1 hW) ?_
                refine e_istore_n F dX5_isWhole_77 (by decide) ?_
                refine e_iinc F dX5_isWhole_78 rfl (by decide) ?_
                refine e_goto F 33 dX5_isWhole_81 (by decide) ?_
                exact e_go (ih2 (h + 1) (by omega) (by omega)) (And.intro rfl (And.intro rfl (And.intro rfl (And.intro rfl (trivial)))))
              · refine e_aload_n F dX5_isWhole_52 rfl ?_
                refine e_iload_n F dX5_isWhole_53 rfl ?_
                refine e_iload_n F dX5_isWhole_54 rfl ?_
                refine e_callVV F u_X5_shareOf (by rfl) (c_X5_shareOf gM hk9 (h := (h : Int) + 1) (by omega) (by omega)) gY rfl rfl w_ml_RX5_180 dX5_isWhole_55 (by rfl) (Nat.le_of_ble_eq_true rfl) (by decide) (by omega) (fun _ _ _ h _ => False.elim h) (fun r_55 w_55 n_55 h_55 hn_55 => ?_)
                obtain ⟨rfl, ew_55, en_55⟩ := h_55
                rw [ew_55, en_55]
                refine e_iconst F dX5_isWhole_58 ?_
                refine e_aload_n F dX5_isWhole_59 rfl ?_
                refine e_callVV F u_X5_p (by rfl) (c_X5_p gY hwh) gY rfl rfl w_ml_RX5_38 dX5_isWhole_60 (by rfl) (Nat.le_of_ble_eq_true rfl) (by decide) (by omega) (fun _ _ _ h _ => False.elim h) (fun r_60 w_60 n_60 h_60 hn_60 => ?_)
                obtain ⟨rfl, ew_60, en_60⟩ := h_60
                rw [ew_60, en_60]
                refine e_iconst F dX5_isWhole_63 ?_
                refine e_isub F dX5_isWhole_64 ?_
                refine e_callSS F u_X5_isIn (by rfl) (c_X5_isIn (v := (R k).A ((h : Int) + 1)) (a := 0) (b := pr wh - 1) ⟨by omega, by omega⟩ (by decide) ⟨by omega, by omega⟩) w_ml_RX5_48 dX5_isWhole_65 (by rfl) (Nat.le_of_ble_eq_true rfl) (by decide) (by omega) (fun _ _ _ h _ => False.elim h) (fun r_65 w_65 n_65 h_65 hn_65 => ?_)
                obtain ⟨rfl, ew_65, en_65⟩ := h_65
                rw [ew_65, en_65]
                refine e_if_eq F 75 dX5_isWhole_68 (by decide) (b01_r _) (fun c_68 => ?_) (fun c_68 => ?_)
                · exact absurd (b01_0.mp c_68) (fun q => q ⟨by omega, by omega⟩)
                · refine e_iconst F dX5_isWhole_71 ?_
                  refine e_goto F 76 dX5_isWhole_72 (by decide) ?_
                  refine e_iand F dX5_isWhole_76 (e_and1 hW) ?_
                  refine e_istore_n F dX5_isWhole_77 (by decide) ?_
                  refine e_iinc F dX5_isWhole_78 rfl (by decide) ?_
                  refine e_goto F 33 dX5_isWhole_81 (by decide) ?_
                  exact e_go (ih2 (h + 1) (by omega) (by omega)) (And.intro rfl (And.intro rfl (And.intro rfl (And.intro rfl (trivial)))))
        refine e_iload_n F dX5_isWhole_25 rfl ?_
        refine e_bipush F dX5_isWhole_26 (by decide) ?_
        refine e_icmp_ge F 171 dX5_isWhole_28 (by decide) (⟨by omega, by omega⟩) (⟨by omega, by omega⟩) (fun c_28 => ?_) (fun c_28 => ?_)
        · exact absurd c_28 (by omega)
        · refine e_iconst F dX5_isWhole_31 ?_
          refine e_istore_n F dX5_isWhole_32 (by decide) ?_
          exact e_go (l33 10 0 (by omega) (by omega)) (And.intro rfl (And.intro rfl (And.intro rfl (And.intro rfl (trivial)))))
      ·
        have l121 : ∀ (N h : Nat), 9 - h < N → ((h : Int) ≤ (R k).dg + 1) → e_V K P9 l E9 (6) (5) S9 M9 A9 B9 T9 C9 4 (fun r w' n' => r = some (.int (eI (b01 (whV wh R)))) ∧ KB w w' n) (e_px0) 121 [(0, .ref y), (1, .int (eI (b01 (atV wh (fl wh) (fun _ => 1) 0 = 1)))), (2, .int (eI (k : Int))), (3, .int (eI (h : Int)))] [] wl nl (3) := by
          intro N
          induction N with
          | zero => intro h hN; exact absurd hN (Nat.not_lt_zero _)
          | succ N ih2 =>
            intro h hN hh
            refine e_aload_n F dX5_isWhole_121 rfl ?_
            refine e_get (ci := 5) (fi := 5) (q := (RX5, TX5, 6)) F gY rfl (by decide) w_fl_RX5_22 (by rfl) dX5_isWhole_122 ?_
            refine e_iload_n F dX5_isWhole_125 rfl ?_
            refine e_aaldr F gP (by omega) (by omega) (by decide) (hPb) dX5_isWhole_126 ?_
            refine e_ifnull F dX5_isWhole_127 ?_
            refine e_iload_n F dX5_isWhole_130 rfl ?_
            refine e_aload_n F dX5_isWhole_131 rfl ?_
            refine e_get (ci := 5) (fi := 3) (q := (RX5, TX5, 6)) F gY rfl (by decide) w_fl_RX5_13 (by rfl) dX5_isWhole_132 ?_
            refine e_iload_n F dX5_isWhole_135 rfl ?_
            refine e_iald F gG (by omega) (by omega) (by first | decide | omega) dX5_isWhole_136 ?_
            rw [hGk]
            refine e_icmp_gt F 165 dX5_isWhole_137 (by decide) (⟨by omega, by omega⟩) (⟨by omega, by omega⟩) (fun c_137 => ?_) (fun c_137 => ?_)
            · refine e_iinc F dX5_isWhole_165 rfl (by decide) ?_
              refine e_goto F 25 dX5_isWhole_168 (by decide) ?_
              exact e_go (ih (k + 1) nl wl (by omega) ⟨by omega, gK, gn⟩) (And.intro rfl (And.intro rfl (And.intro rfl (trivial))))
            ·
              have hsv := stV_rg hwh (R k) (h : Int)
              refine e_iload_n F dX5_isWhole_140 rfl ?_
              refine e_aload_n F dX5_isWhole_141 rfl ?_
              refine e_iload_n F dX5_isWhole_142 rfl ?_
              refine e_iload_n F dX5_isWhole_143 rfl ?_
              refine e_callVV F u_X5_sealTold (by rfl) (c_X5_sealTold gM hk9 (k9 := (h : Int)) (by omega) (by omega)) gY rfl rfl w_ml_RX5_194 dX5_isWhole_144 (by rfl) (Nat.le_of_ble_eq_true rfl) (by decide) (by omega) (fun _ _ _ h _ => False.elim h) (fun r_144 w_144 n_144 h_144 hn_144 => ?_)
              obtain ⟨rfl, ew_144, en_144⟩ := h_144
              rw [ew_144, en_144]
              refine e_iconst F dX5_isWhole_147 ?_
              refine e_aload_n F dX5_isWhole_148 rfl ?_
              refine e_callVV F u_X5_q (by rfl) (c_X5_q gY hwh) gY rfl rfl w_ml_RX5_62 dX5_isWhole_149 (by rfl) (Nat.le_of_ble_eq_true rfl) (by decide) (by omega) (fun _ _ _ h _ => False.elim h) (fun r_149 w_149 n_149 h_149 hn_149 => ?_)
              obtain ⟨rfl, ew_149, en_149⟩ := h_149
              rw [ew_149, en_149]
              refine e_iconst F dX5_isWhole_152 ?_
              refine e_isub F dX5_isWhole_153 ?_
              refine e_callSS F u_X5_isIn (by rfl) (c_X5_isIn (v := stV wh (R k) (h : Int)) (a := 1) (b := gr wh - 1) ⟨by omega, by omega⟩ (by decide) ⟨by omega, by omega⟩) w_ml_RX5_48 dX5_isWhole_154 (by rfl) (Nat.le_of_ble_eq_true rfl) (by decide) (by omega) (fun _ _ _ h _ => False.elim h) (fun r_154 w_154 n_154 h_154 hn_154 => ?_)
              obtain ⟨rfl, ew_154, en_154⟩ := h_154
              rw [ew_154, en_154, b01_t (show 1 ≤ stV wh (R k) (h : Int) ∧ stV wh (R k) (h : Int) ≤ gr wh - 1 from ⟨hsv.2.2 hp1 (by omega), by omega⟩)]
              refine e_iand F dX5_isWhole_157 (e_and1 hW) ?_
              refine e_istore_n F dX5_isWhole_158 (by decide) ?_
              refine e_iinc F dX5_isWhole_159 rfl (by decide) ?_
              refine e_goto F 121 dX5_isWhole_162 (by decide) ?_
              exact e_go (ih2 (h + 1) (by omega) (by omega)) (And.intro rfl (And.intro rfl (And.intro rfl (And.intro rfl (trivial)))))
        have l33 : ∀ (N h : Nat), 9 - h < N → ((h : Int) ≤ ho wh) → e_V K P9 l E9 (6) (5) S9 M9 A9 B9 T9 C9 4 (fun r w' n' => r = some (.int (eI (b01 (whV wh R)))) ∧ KB w w' n) (e_px0) 33 [(0, .ref y), (1, .int (eI (b01 (atV wh (fl wh) (fun _ => 1) 0 = 1)))), (2, .int (eI (k : Int))), (3, .int (eI ((h : Int) + 1)))] [] wl nl (3) := by
          intro N
          induction N with
          | zero => intro h hN; exact absurd hN (Nat.not_lt_zero _)
          | succ N ih2 =>
            intro h hN hh
            refine e_iload_n F dX5_isWhole_33 rfl ?_
            refine e_aload_n F dX5_isWhole_34 rfl ?_
            refine e_callVV F u_X5_holders (by rfl) (c_X5_holders gY hwh) gY rfl rfl w_ml_RX5_52 dX5_isWhole_35 (by rfl) (Nat.le_of_ble_eq_true rfl) (by decide) (by omega) (fun _ _ _ h _ => False.elim h) (fun r_35 w_35 n_35 h_35 hn_35 => ?_)
            obtain ⟨rfl, ew_35, en_35⟩ := h_35
            rw [ew_35, en_35]
            refine e_icmp_gt F 84 dX5_isWhole_38 (by decide) (⟨by omega, by omega⟩) (⟨by omega, by omega⟩) (fun c_38 => ?_) (fun c_38 => ?_)
            · refine e_iload_n F dX5_isWhole_84 rfl ?_
              refine e_aload_n F dX5_isWhole_85 rfl ?_
              refine e_get (ci := 5) (fi := 5) (q := (RX5, TX5, 6)) F gY rfl (by decide) w_fl_RX5_22 (by rfl) dX5_isWhole_86 ?_
              refine e_iload_n F dX5_isWhole_89 rfl ?_
              refine e_aaldr F gP (by omega) (by omega) (by decide) (hPb) dX5_isWhole_90 ?_
              refine e_ifnull F dX5_isWhole_91 ?_
              refine e_aload_n F dX5_isWhole_94 rfl ?_
              refine e_get (ci := 5) (fi := 5) (q := (RX5, TX5, 6)) F gY rfl (by decide) w_fl_RX5_22 (by rfl) dX5_isWhole_95 ?_
              refine e_iload_n F dX5_isWhole_98 rfl ?_
              refine e_aaldr F gP (by omega) (by omega) (by decide) (hPb) dX5_isWhole_99 ?_
              refine e_alenI F hwb dX5_isWhole_100 ?_
              refine e_aload_n F dX5_isWhole_101 rfl ?_
              refine e_get (ci := 5) (fi := 3) (q := (RX5, TX5, 6)) F gY rfl (by decide) w_fl_RX5_13 (by rfl) dX5_isWhole_102 ?_
              refine e_iload_n F dX5_isWhole_105 rfl ?_
              refine e_iald F gG (by omega) (by omega) (by first | decide | omega) dX5_isWhole_106 ?_
              rw [hGk]
              refine e_iconst F dX5_isWhole_107 ?_
              refine e_iadd F dX5_isWhole_108 ?_
              refine e_icmp_ne F 116 dX5_isWhole_109 (by decide) (⟨by omega, by omega⟩) (⟨by omega, by omega⟩) (fun c_109 => ?_) (fun c_109 => ?_)
              · exact absurd c_109 (by omega)
              · refine e_iconst F dX5_isWhole_112 ?_
                refine e_goto F 117 dX5_isWhole_113 (by decide) ?_
                refine e_iand F dX5_isWhole_117 (e_and1 hW) ?_
                refine e_istore_n F dX5_isWhole_118 (by decide) ?_
                refine e_iconst F dX5_isWhole_119 ?_
                refine e_istore_n F dX5_isWhole_120 (by decide) ?_
                exact e_go (l121 10 0 (by omega) (by omega)) (And.intro rfl (And.intro rfl (And.intro rfl (And.intro rfl (trivial)))))
            ·
              have hA9 := hRk.1 ((h : Int) + 1) (by omega) (by omega)
              refine e_iload_n F dX5_isWhole_41 rfl ?_
              refine e_aload_n F dX5_isWhole_42 rfl ?_
              refine e_iload_n F dX5_isWhole_43 rfl ?_
              refine e_iload_n F dX5_isWhole_44 rfl ?_
              refine e_callVV F u_X5_shareOf (by rfl) (c_X5_shareOf gM hk9 (h := (h : Int) + 1) (by omega) (by omega)) gY rfl rfl w_ml_RX5_180 dX5_isWhole_45 (by rfl) (Nat.le_of_ble_eq_true rfl) (by decide) (by omega) (fun _ _ _ h _ => False.elim h) (fun r_45 w_45 n_45 h_45 hn_45 => ?_)
              obtain ⟨rfl, ew_45, en_45⟩ := h_45
              rw [ew_45, en_45]
              refine e_iconst F dX5_isWhole_48 ?_
              refine e_icmp_eq F 71 dX5_isWhole_49 (by decide) (⟨by omega, by omega⟩) (⟨by omega, by omega⟩) (fun c_49 => ?_) (fun c_49 => ?_)
              · refine e_iconst F dX5_isWhole_71 ?_
                refine e_goto F 76 dX5_isWhole_72 (by decide) ?_
                refine e_iand F dX5_isWhole_76 (e_and1 hW) ?_
                refine e_istore_n F dX5_isWhole_77 (by decide) ?_
                refine e_iinc F dX5_isWhole_78 rfl (by decide) ?_
                refine e_goto F 33 dX5_isWhole_81 (by decide) ?_
                exact e_go (ih2 (h + 1) (by omega) (by omega)) (And.intro rfl (And.intro rfl (And.intro rfl (And.intro rfl (trivial)))))
              · refine e_aload_n F dX5_isWhole_52 rfl ?_
                refine e_iload_n F dX5_isWhole_53 rfl ?_
                refine e_iload_n F dX5_isWhole_54 rfl ?_
                refine e_callVV F u_X5_shareOf (by rfl) (c_X5_shareOf gM hk9 (h := (h : Int) + 1) (by omega) (by omega)) gY rfl rfl w_ml_RX5_180 dX5_isWhole_55 (by rfl) (Nat.le_of_ble_eq_true rfl) (by decide) (by omega) (fun _ _ _ h _ => False.elim h) (fun r_55 w_55 n_55 h_55 hn_55 => ?_)
                obtain ⟨rfl, ew_55, en_55⟩ := h_55
                rw [ew_55, en_55]
                refine e_iconst F dX5_isWhole_58 ?_
                refine e_aload_n F dX5_isWhole_59 rfl ?_
                refine e_callVV F u_X5_p (by rfl) (c_X5_p gY hwh) gY rfl rfl w_ml_RX5_38 dX5_isWhole_60 (by rfl) (Nat.le_of_ble_eq_true rfl) (by decide) (by omega) (fun _ _ _ h _ => False.elim h) (fun r_60 w_60 n_60 h_60 hn_60 => ?_)
                obtain ⟨rfl, ew_60, en_60⟩ := h_60
                rw [ew_60, en_60]
                refine e_iconst F dX5_isWhole_63 ?_
                refine e_isub F dX5_isWhole_64 ?_
                refine e_callSS F u_X5_isIn (by rfl) (c_X5_isIn (v := (R k).A ((h : Int) + 1)) (a := 0) (b := pr wh - 1) ⟨by omega, by omega⟩ (by decide) ⟨by omega, by omega⟩) w_ml_RX5_48 dX5_isWhole_65 (by rfl) (Nat.le_of_ble_eq_true rfl) (by decide) (by omega) (fun _ _ _ h _ => False.elim h) (fun r_65 w_65 n_65 h_65 hn_65 => ?_)
                obtain ⟨rfl, ew_65, en_65⟩ := h_65
                rw [ew_65, en_65]
                refine e_if_eq F 75 dX5_isWhole_68 (by decide) (b01_r _) (fun c_68 => ?_) (fun c_68 => ?_)
                · exact absurd (b01_0.mp c_68) (fun q => q ⟨by omega, by omega⟩)
                · refine e_iconst F dX5_isWhole_71 ?_
                  refine e_goto F 76 dX5_isWhole_72 (by decide) ?_
                  refine e_iand F dX5_isWhole_76 (e_and1 hW) ?_
                  refine e_istore_n F dX5_isWhole_77 (by decide) ?_
                  refine e_iinc F dX5_isWhole_78 rfl (by decide) ?_
                  refine e_goto F 33 dX5_isWhole_81 (by decide) ?_
                  exact e_go (ih2 (h + 1) (by omega) (by omega)) (And.intro rfl (And.intro rfl (And.intro rfl (And.intro rfl (trivial)))))
        refine e_iload_n F dX5_isWhole_25 rfl ?_
        refine e_bipush F dX5_isWhole_26 (by decide) ?_
        refine e_icmp_ge F 171 dX5_isWhole_28 (by decide) (⟨by omega, by omega⟩) (⟨by omega, by omega⟩) (fun c_28 => ?_) (fun c_28 => ?_)
        · exact absurd c_28 (by omega)
        · refine e_iconst F dX5_isWhole_31 ?_
          refine e_istore_n F dX5_isWhole_32 (by decide) ?_
          exact e_go (l33 10 0 (by omega) (by omega)) (And.intro rfl (And.intro rfl (And.intro rfl (And.intro rfl (trivial)))))
  refine e_aload_n F dX5_isWhole_0 rfl ?_
  refine e_iconst F dX5_isWhole_1 ?_
  refine e_aload_n F dX5_isWhole_2 rfl ?_
  refine e_callVV F u_X5_holders (by rfl) (c_X5_holders hY hwh) hY rfl rfl w_ml_RX5_52 dX5_isWhole_3 (by rfl) (Nat.le_of_ble_eq_true rfl) (by decide) (by omega) (fun _ _ _ h _ => False.elim h) (fun r_3 w_3 n_3 h_3 hn_3 => ?_)
  obtain ⟨rfl, ew_3, en_3⟩ := h_3
  rw [ew_3, en_3]
  refine e_ishl F dX5_isWhole_6 (by have := eI_shl1 (ho wh).toNat (by omega); rwa [Int.toNat_of_nonneg (by omega)] at this) ?_
  refine e_iconst F dX5_isWhole_7 ?_
  refine e_isub F dX5_isWhole_8 ?_
  refine e_iconst F dX5_isWhole_9 ?_
  refine e_callVV F u_X5_weightsAt (by rfl) (c_X5_weightsAt hY hwh (set := fl wh) (x := 0) (by omega) (by omega) (by decide)) hY rfl rfl w_ml_RX5_110 dX5_isWhole_10 (by rfl) (Nat.le_of_ble_eq_true rfl) (by decide) (by omega) (fun _ _ _ h _ => False.elim h) (fun r_10 w_10 n_10 h_10 hn_10 => ?_)
  obtain ⟨rfl, gK⟩ := h_10
  have har := atV_rg hwh (fl wh) (fun _ => 1) 0
  refine e_iconst F dX5_isWhole_13 ?_
  refine e_icmp_ne F 21 dX5_isWhole_14 (by decide) (⟨by omega, by omega⟩) (⟨by omega, by omega⟩) (fun c_14 => ?_) (fun c_14 => ?_)
  · refine e_iconst F dX5_isWhole_21 ?_
    refine e_istore_n F dX5_isWhole_22 (by decide) ?_
    refine e_iconst F dX5_isWhole_23 ?_
    refine e_istore_n F dX5_isWhole_24 (by decide) ?_
    first
    | (have e9 : (b01 (atV wh (fl wh) (fun _ => 1) 0 = 1)) = 1 := b01_t c_14
       have l9 := l1 9 0 n_10 w_10 (by omega) ⟨by omega, gK, by omega⟩
       rw [e9] at l9
       exact e_go l9 (And.intro rfl (And.intro rfl (And.intro rfl (trivial)))))
    | (have e9 : (b01 (atV wh (fl wh) (fun _ => 1) 0 = 1)) = 0 := b01_f c_14
       have l9 := l1 9 0 n_10 w_10 (by omega) ⟨by omega, gK, by omega⟩
       rw [e9] at l9
       exact e_go l9 (And.intro rfl (And.intro rfl (And.intro rfl (trivial)))))
  · refine e_iconst F dX5_isWhole_17 ?_
    refine e_goto F 22 dX5_isWhole_18 (by decide) ?_
    refine e_istore_n F dX5_isWhole_22 (by decide) ?_
    refine e_iconst F dX5_isWhole_23 ?_
    refine e_istore_n F dX5_isWhole_24 (by decide) ?_
    first
    | (have e9 : (b01 (atV wh (fl wh) (fun _ => 1) 0 = 1)) = 1 := b01_t c_14
       have l9 := l1 9 0 n_10 w_10 (by omega) ⟨by omega, gK, by omega⟩
       rw [e9] at l9
       exact e_go l9 (And.intro rfl (And.intro rfl (And.intro rfl (trivial)))))
    | (have e9 : (b01 (atV wh (fl wh) (fun _ => 1) 0 = 1)) = 0 := b01_f c_14
       have l9 := l1 9 0 n_10 w_10 (by omega) ⟨by omega, gK, by omega⟩
       rw [e9] at l9
       exact e_go l9 (And.intro rfl (And.intro rfl (And.intro rfl (trivial)))))
set_option maxHeartbeats 4000000 in
set_option maxRecDepth 100000 in
theorem c_X5_isSound {K : e_K} {l : Launch} {w : e_W} {n : Nat} {y wh : Nat} {t kn : Int} {R : Nat → RD} (hM : MW w y wh kn t R) : e_Met K l yX5_isSound (Cond.code yX5_isSound cX5_isSound 1 (Option.some .boolean) :: e_TB) (7) (5) [.ref y] w n (fun r w' n' => r = some (.int (eI (b01 (whV wh R)))) ∧ MW w' y wh kn 0 R ∧ FM w w' y n) (e_px0) := by
  refine e_ofV rfl (Nat.le_of_ble_eq_true rfl) ?_
  intro P9 E9 S9 M9 A9 B9 T9 C9 F hnm
  refine e_dom ?_
  intro hdom
  have hyn := hdom _ _ hM.1
  refine e_aload_n F dX5_isSound_0 rfl ?_
  refine e_iconst F dX5_isSound_1 ?_
  refine e_set (host := "") (ci := 5) (fi := 0) (q := (RX5, TX5, 6)) F hM.1 rfl (by decide) w_fl_RX5_25 rfl (by rfl) (by rfl) (Nat.le_of_ble_eq_true rfl) dX5_isSound_2 ?_
  refine e_aload_n F dX5_isSound_5 rfl ?_
  have gM := hM.th (t2 := 0) (kn2 := kn)
  change e_V _ _ _ _ _ _ _ _ _ _ _ _ _ _ _ _ _ _ (e_up w y (MO y 0 wh kn)) _ _
  refine e_dom ?_
  intro hdom2
  refine e_callVV F u_X5_isWhole (by rfl) (c_X5_isWhole gM) gM.1 rfl rfl w_ml_RX5_222 dX5_isSound_6 (by rfl) (Nat.le_of_ble_eq_true rfl) (by decide) (by omega) (fun _ _ _ h _ => False.elim h) (fun r_6 w_6 n_6 h_6 hn_6 => ?_)
  obtain ⟨rfl, gK⟩ := h_6
  refine e_zret F rfl (by omega) (b01_or _) ?_ dX5_isSound_9
  exact ⟨rfl, gM.kb hdom2 gK, FM.th.kb (Nat.le_refl _) gK⟩
set_option maxHeartbeats 4000000 in
set_option maxRecDepth 100000 in
theorem c_X5_add {K : e_K} {l : Launch} {w : e_W} {n : Nat} {a b : Int} : e_Met K l yX5_add (Cond.code yX5_add cX5_add 4 (Option.some .long) :: e_TB) (0) (0) [.long (eJ a), .long (eJ b)] w n (fun r w' n' => r = some (.long (eJ (a * 31 + b))) ∧ w' = w ∧ n' = n) (e_px0) := by
  refine e_ofV rfl (Nat.le_of_ble_eq_true rfl) ?_
  intro P9 E9 S9 M9 A9 B9 T9 C9 F hnm
  refine e_lload_n F dX5_add_0 rfl ?_
  refine e_ldc2 F dX5_add_1 w_kl_RX5_226 ?_
  refine e_lmul F dX5_add_4 ?_
  refine e_lload_n F dX5_add_5 rfl ?_
  refine e_ladd F dX5_add_6 ?_
  refine e_lret F rfl (by omega) ?_ dX5_add_7
  exact ⟨rfl, rfl, rfl⟩
theorem hoR_rg {wh : Nat} (hwh : wh < 7) {kn : Int} (hkn : e_r kn) {R : Nat → RD} (c : Int) : e_r (hoR wh kn R c) := by
  have hp := pr_rg wh hwh
  have hg := gr_rg wh hwh
  have hb := bs_rg wh hwh
  have hho := ho_rg wh hwh
  have hfd := fdR_rg R 6
  unfold hoR
  have : (wh : Int) < 7 := by omega
  split
  · constructor <;> omega
  · split
    · constructor <;> omega
    · split
      · constructor <;> omega
      · split
        · constructor <;> omega
        · split
          · constructor <;> omega
          · split
            · constructor <;> omega
            · exact hkn
theorem mdV_rg {w : e_W} {y wh i : Nat} {kn t : Int} {R : Nat → RD} (hwh : wh < 7) (hM : MW w y wh kn t R) (hi : i < 6) {c : Int} (h0 : 0 ≤ c) (h1 : c ≤ 5) : -1 ≤ mdV wh (R i) c ∧ mdV wh (R i) c < 1000004 := by
  have hp := pr_rg wh hwh
  have hst := st7_rg (R i).A
  have hb := bc_rg hst.1 hst.2
  obtain ⟨S, P, -, -, hMD⟩ := hM.2.2.2.1
  have hdg := MD.dg (hMD i hi)
  have hhp := MD.hp (hMD i hi)
  have ha := atV_rg hwh (foV wh (R i)) (R i).A 0
  have h4 := b01_or ((R i).dg ≠ -1 ∧ agD wh (R i) (st7 (R i).A))
  unfold mdV
  split
  · omega
  · split
    · omega
    · split
      · omega
      · split
        · rcases hhp with q | q <;> omega
        · split
          · omega
          · split <;> omega
set_option maxHeartbeats 4000000 in
set_option maxRecDepth 100000 in
theorem c_X5_digest {K : e_K} {l : Launch} {w : e_W} {n : Nat} {y wh : Nat} {t kn : Int} {R : Nat → RD} (hM : MW w y wh kn t R) (hkn : e_r kn) : e_Met K l yX5_digest (Cond.code yX5_digest cX5_digest 5 (Option.some .long) :: e_TB) (7) (60) [.ref y] w n (fun r w' n' => r = some (.long (eJ (mgV wh kn R))) ∧ MW w' y wh kn 0 R ∧ FM w w' y n) (e_px0) := by
  refine e_ofV rfl (Nat.le_of_ble_eq_true rfl) ?_
  intro P9 E9 S9 M9 A9 B9 T9 C9 F hnm
  have hM0 := hM
  have hyn0 := hM.1
  refine e_dom ?_
  intro hdom0
  have hyn := hdom0 _ _ hM.1
  have gM0 := hM.th (t2 := 0) (kn2 := kn)
  have hwh := hM.2.1
  have hho := ho_rg wh hwh
  have lo : ∀ (M i nl : Nat) (wl : e_W), 6 - i < M → (i ≤ 6 ∧ (MW wl y wh kn 0 R ∧ KB (e_up w y (MO y 0 wh kn)) wl n ∧ n ≤ nl)) → e_V K P9 l E9 (7) (60) S9 M9 A9 B9 T9 C9 5 (fun r w' n' => r = some (.long (eJ (mgV wh kn R))) ∧ MW w' y wh kn 0 R ∧ FM w w' y n) (e_px0) 36 [(0, .ref y), (1, .long (eJ (mgI wh kn R i))), (3, .int (eI (i : Int)))] [] wl nl ((8 * i)) := by
    intro M
    induction M with
    | zero => intro i nl wl hM2; exact absurd hM2 (Nat.not_lt_zero _)
    | succ M ihM =>
      intro i nl0 wl0 hM2 ⟨hi, gMo, gKo, gno⟩
      by_cases h6 : i < 6
      ·
        have l3 : ∀ (N k nl : Nat) (wl : e_W), 8 - k < N → (k ≤ 4 ∧ (MW wl y wh kn 0 R ∧ KB (e_up w y (MO y 0 wh kn)) wl n ∧ n ≤ nl)) → e_V K P9 l E9 (7) (60) S9 M9 A9 B9 T9 C9 5 (fun r w' n' => r = some (.long (eJ (mgV wh kn R))) ∧ MW w' y wh kn 0 R ∧ FM w w' y n) (e_px0) 104 [(0, .ref y), (1, .long (eJ (mg3 wh (R i) (mgI wh kn R i) k))), (3, .int (eI (i : Int))), (4, .int (eI (k : Int)))] [] wl nl ((8 * i + 8)) := by
          intro N
          induction N with
          | zero => intro k nl wl hN; exact absurd hN (Nat.not_lt_zero _)
          | succ N ih =>
            intro k nl wl hN ⟨hk, gM, gK, gn⟩
            have gY := gM.1
            refine e_iload F dX5_digest_104 rfl ?_
            refine e_iconst F dX5_digest_106 ?_
            refine e_icmp_gt F 129 dX5_digest_107 (by decide) (⟨by omega, by omega⟩) (⟨by omega, by omega⟩) (fun c_107 => ?_) (fun c_107 => ?_)
            ·
              obtain rfl : k = 4 := by omega
              refine e_iinc F dX5_digest_129 rfl (by decide) ?_
              refine e_goto F 36 dX5_digest_132 (by decide) ?_
              exact e_wid (by omega) (e_go (ihM (i + 1) nl wl (by omega) ⟨by omega, gM, gK, gn⟩) (And.intro rfl (And.intro rfl (And.intro rfl (trivial)))))
            · refine e_lload_n F dX5_digest_110 rfl ?_
              refine e_aload_n F dX5_digest_111 rfl ?_
              refine e_iload_n F dX5_digest_112 rfl ?_
              refine e_iload F dX5_digest_113 rfl ?_
              refine e_callVV F u_X5_sealTold (by rfl) (c_X5_sealTold gM h6 (k9 := (k : Int)) (by omega) (by omega)) gY rfl rfl w_ml_RX5_194 dX5_digest_115 (by rfl) (Nat.le_of_ble_eq_true rfl) (by decide) (by omega) (fun _ _ _ h _ => False.elim h) (fun r_115 w_115 n_115 h_115 hn_115 => ?_)
              obtain ⟨rfl, ew_115, en_115⟩ := h_115
              rw [ew_115, en_115]
              have hsv := stV_rg hwh (R i) (k : Int)
              have hg9 := gr_rg wh hwh
              refine e_i2l F dX5_digest_118 (⟨by omega, by omega⟩) ?_
              refine e_callSS F u_X5_add (by rfl) (c_X5_add (a := mg3 wh (R i) (mgI wh kn R i) k) (b := stV wh (R i) (k : Int))) w_ml_RX5_230 dX5_digest_119 (by rfl) (Nat.le_of_ble_eq_true rfl) (by decide) (by omega) (fun _ _ _ h _ => False.elim h) (fun r_119 w_119 n_119 h_119 hn_119 => ?_)
              obtain ⟨rfl, ew_119, en_119⟩ := h_119
              rw [ew_119, en_119]
              refine e_lstore_n F dX5_digest_122 (by decide) ?_
              refine e_iinc F dX5_digest_123 rfl (by decide) ?_
              refine e_goto F 104 dX5_digest_126 (by decide) ?_
              refine e_wid (by omega) (e_go (ih (k + 1) nl wl (by omega) ⟨by omega, gM, gK, gn⟩) ?_)
              exact (And.intro rfl (And.intro rfl (And.intro rfl (And.intro rfl (trivial)))))
        have l2 : ∀ (N k nl : Nat) (wl : e_W), 8 - k < N → ((k : Int) ≤ ho wh ∧ (MW wl y wh kn 0 R ∧ KB (e_up w y (MO y 0 wh kn)) wl n ∧ n ≤ nl)) → e_V K P9 l E9 (7) (60) S9 M9 A9 B9 T9 C9 5 (fun r w' n' => r = some (.long (eJ (mgV wh kn R))) ∧ MW w' y wh kn 0 R ∧ FM w w' y n) (e_px0) 73 [(0, .ref y), (1, .long (eJ (mg2 wh (R i) (mgI wh kn R i) k))), (3, .int (eI (i : Int))), (4, .int (eI ((k : Int) + 1)))] [] wl nl ((8 * i + 8)) := by
          intro N
          induction N with
          | zero => intro k nl wl hN; exact absurd hN (Nat.not_lt_zero _)
          | succ N ih =>
            intro k nl wl hN ⟨hk, gM, gK, gn⟩
            have gY := gM.1
            refine e_iload F dX5_digest_73 rfl ?_
            refine e_aload_n F dX5_digest_75 rfl ?_
            refine e_callVV F u_X5_holders (by rfl) (c_X5_holders gY hwh) gY rfl rfl w_ml_RX5_52 dX5_digest_76 (by rfl) (Nat.le_of_ble_eq_true rfl) (by decide) (by omega) (fun _ _ _ h _ => False.elim h) (fun r_76 w_76 n_76 h_76 hn_76 => ?_)
            obtain ⟨rfl, ew_76, en_76⟩ := h_76
            rw [ew_76, en_76]
            refine e_icmp_gt F 101 dX5_digest_79 (by decide) (⟨by omega, by omega⟩) (⟨by omega, by omega⟩) (fun c_79 => ?_) (fun c_79 => ?_)
            ·
              obtain rfl : k = (ho wh).toNat := by omega
              refine e_iconst F dX5_digest_101 ?_
              refine e_istore F dX5_digest_102 (by decide) ?_
              exact e_go (l3 9 0 nl wl (by omega) ⟨by omega, gM, gK, gn⟩) (And.intro rfl (And.intro rfl (And.intro rfl (And.intro rfl (trivial)))))
            ·
              have hA9 := gM.rgA h6 (j := (k : Int) + 1) (by omega) (by omega)
              have hp := pr_rg wh hwh
              refine e_lload_n F dX5_digest_82 rfl ?_
              refine e_aload_n F dX5_digest_83 rfl ?_
              refine e_iload_n F dX5_digest_84 rfl ?_
              refine e_iload F dX5_digest_85 rfl ?_
              refine e_callVV F u_X5_shareOf (by rfl) (c_X5_shareOf gM h6 (h := (k : Int) + 1) (by omega) (by omega)) gY rfl rfl w_ml_RX5_180 dX5_digest_87 (by rfl) (Nat.le_of_ble_eq_true rfl) (by decide) (by omega) (fun _ _ _ h _ => False.elim h) (fun r_87 w_87 n_87 h_87 hn_87 => ?_)
              obtain ⟨rfl, ew_87, en_87⟩ := h_87
              rw [ew_87, en_87]
              refine e_i2l F dX5_digest_90 (⟨by omega, by omega⟩) ?_
              refine e_callSS F u_X5_add (by rfl) (c_X5_add (a := mg2 wh (R i) (mgI wh kn R i) k) (b := (R i).A ((k : Int) + 1))) w_ml_RX5_230 dX5_digest_91 (by rfl) (Nat.le_of_ble_eq_true rfl) (by decide) (by omega) (fun _ _ _ h _ => False.elim h) (fun r_91 w_91 n_91 h_91 hn_91 => ?_)
              obtain ⟨rfl, ew_91, en_91⟩ := h_91
              rw [ew_91, en_91]
              refine e_lstore_n F dX5_digest_94 (by decide) ?_
              refine e_iinc F dX5_digest_95 rfl (by decide) ?_
              refine e_goto F 73 dX5_digest_98 (by decide) ?_
              refine e_wid (by omega) (e_go (ih (k + 1) nl wl (by omega) ⟨by omega, gM, gK, gn⟩) ?_)
              exact (And.intro rfl (And.intro rfl (And.intro rfl (And.intro rfl (trivial)))))
        have l1 : ∀ (N k nl : Nat) (wl : e_W), 8 - k < N → (k ≤ 4 ∧ (MW wl y wh kn 0 R ∧ KB (e_up w y (MO y 0 wh kn)) wl n ∧ n ≤ nl)) → e_V K P9 l E9 (7) (60) S9 M9 A9 B9 T9 C9 5 (fun r w' n' => r = some (.long (eJ (mgV wh kn R))) ∧ MW w' y wh kn 0 R ∧ FM w w' y n) (e_px0) 45 [(0, .ref y), (1, .long (eJ (mg1 wh (R i) (mgI wh kn R i) k))), (3, .int (eI (i : Int))), (4, .int (eI (k : Int)))] [] wl nl ((8 * i + 2 * k)) := by
          intro N
          induction N with
          | zero => intro k nl wl hN; exact absurd hN (Nat.not_lt_zero _)
          | succ N ih =>
            intro k nl wl hN ⟨hk, gM, gK, gn⟩
            have gY := gM.1
            refine e_iload F dX5_digest_45 rfl ?_
            refine e_iconst F dX5_digest_47 ?_
            refine e_icmp_gt F 70 dX5_digest_48 (by decide) (⟨by omega, by omega⟩) (⟨by omega, by omega⟩) (fun c_48 => ?_) (fun c_48 => ?_)
            ·
              obtain rfl : k = 4 := by omega
              refine e_iconst F dX5_digest_70 ?_
              refine e_istore F dX5_digest_71 (by decide) ?_
              exact e_wid (by omega) (e_go (l2 9 0 nl wl (by omega) ⟨by omega, gM, gK, gn⟩) (And.intro rfl (And.intro rfl (And.intro rfl (And.intro rfl (trivial))))))
            · refine e_lload_n F dX5_digest_51 rfl ?_
              refine e_aload_n F dX5_digest_52 rfl ?_
              refine e_iload_n F dX5_digest_53 rfl ?_
              refine e_iload F dX5_digest_54 rfl ?_
              refine e_dom ?_
              intro hdm
              refine e_callVV F u_X5_dealTold (by rfl) (c_X5_dealTold gM h6 (c9 := (k : Int)) (by omega) (by omega)) gY rfl rfl w_ml_RX5_186 dX5_digest_56 (by rfl) (Nat.le_of_ble_eq_true rfl) (by decide) (by omega) (fun _ _ _ h _ => False.elim h) (fun r_56 w_56 n_56 h_56 hn_56 => ?_)
              obtain ⟨rfl, gK2⟩ := h_56
              have gM2 := gM.kb hdm gK2
              have hmr := mdV_rg hwh gM h6 (c := (k : Int)) (by omega) (by omega)
              have hp := pr_rg wh hwh
              refine e_i2l F dX5_digest_59 (⟨by omega, by omega⟩) ?_
              refine e_callSS F u_X5_add (by rfl) (c_X5_add (a := mg1 wh (R i) (mgI wh kn R i) k) (b := mdV wh (R i) (k : Int))) w_ml_RX5_230 dX5_digest_60 (by rfl) (Nat.le_of_ble_eq_true rfl) (by decide) (by omega) (fun _ _ _ h _ => False.elim h) (fun r_60 w_60 n_60 h_60 hn_60 => ?_)
              obtain ⟨rfl, ew_60, en_60⟩ := h_60
              rw [ew_60, en_60]
              refine e_lstore_n F dX5_digest_63 (by decide) ?_
              refine e_iinc F dX5_digest_64 rfl (by decide) ?_
              refine e_goto F 45 dX5_digest_67 (by decide) ?_
              refine e_wid (by omega) (e_go (ih (k + 1) n_56 w_56 (by omega) ⟨by omega, gM2, fun j hj => (gK2 j (by omega)).trans (gK j hj), by omega⟩) ?_)
              exact (And.intro rfl (And.intro rfl (And.intro rfl (And.intro rfl (trivial)))))
        refine e_iload_n F dX5_digest_36 rfl ?_
        refine e_bipush F dX5_digest_37 (by decide) ?_
        refine e_icmp_ge F 135 dX5_digest_39 (by decide) (⟨by omega, by omega⟩) (⟨by omega, by omega⟩) (fun c_39 => ?_) (fun c_39 => ?_)
        · exact absurd c_39 (by omega)
        · refine e_iconst F dX5_digest_42 ?_
          refine e_istore F dX5_digest_43 (by decide) ?_
          exact e_wid (by omega) (e_go (l1 9 0 nl0 wl0 (by omega) ⟨by omega, gMo, gKo, gno⟩) (And.intro rfl (And.intro rfl (And.intro rfl (And.intro rfl (trivial))))))
      · obtain rfl : i = 6 := by omega
        refine e_iload_n F dX5_digest_36 rfl ?_
        refine e_bipush F dX5_digest_37 (by decide) ?_
        refine e_icmp_ge F 135 dX5_digest_39 (by decide) (⟨by omega, by omega⟩) (⟨by omega, by omega⟩) (fun c_39 => ?_) (fun c_39 => ?_)
        · refine e_lload_n F dX5_digest_135 rfl ?_
          refine e_aload_n F dX5_digest_136 rfl ?_
          refine e_dom ?_
          intro hdm
          refine e_callVV F u_X5_isWhole (by rfl) (c_X5_isWhole gMo) gMo.1 rfl rfl w_ml_RX5_222 dX5_digest_137 (by rfl) (Nat.le_of_ble_eq_true rfl) (by decide) (by omega) (fun _ _ _ h _ => False.elim h) (fun r_137 w_137 n_137 h_137 hn_137 => ?_)
          obtain ⟨rfl, gK2⟩ := h_137
          refine e_callSS F u_X5_one (by rfl) (c_X5_one (b01_or _)) w_ml_RX5_80 dX5_digest_140 (by rfl) (Nat.le_of_ble_eq_true rfl) (by decide) (by omega) (fun _ _ _ h _ => False.elim h) (fun r_140 w_140 n_140 h_140 hn_140 => ?_)
          obtain ⟨rfl, ew_140, en_140⟩ := h_140
          rw [ew_140, en_140]
          refine e_i2l F dX5_digest_143 (b01_r _) ?_
          refine e_callSS F u_X5_add (by rfl) (c_X5_add (a := mgI wh kn R 6) (b := b01 (whV wh R))) w_ml_RX5_230 dX5_digest_144 (by rfl) (Nat.le_of_ble_eq_true rfl) (by decide) (by omega) (fun _ _ _ h _ => False.elim h) (fun r_144 w_144 n_144 h_144 hn_144 => ?_)
          obtain ⟨rfl, ew_144, en_144⟩ := h_144
          rw [ew_144, en_144]
          refine e_lret F rfl (by omega) ?_ dX5_digest_147
          exact ⟨rfl, gMo.kb hdm gK2, fun q q1 q2 => ((gK2 q (by omega)).trans (gKo q (by omega))).trans (FM.th q q1 q2)⟩
        · exact absurd c_39 (by omega)
  have lh : ∀ (N k nl : Nat) (wl : e_W), 8 - k < N → (k ≤ 7 ∧ (MW wl y wh kn 0 R ∧ KB (e_up w y (MO y 0 wh kn)) wl n ∧ n ≤ nl)) → e_V K P9 l E9 (7) (60) S9 M9 A9 B9 T9 C9 5 (fun r w' n' => r = some (.long (eJ (mgV wh kn R))) ∧ MW w' y wh kn 0 R ∧ FM w w' y n) (e_px0) 11 [(0, .ref y), (1, .long (eJ (itF (fun c => hoR wh kn R c) 7977 k))), (3, .int (eI (k : Int)))] [] wl nl ((0)) := by
    intro N
    induction N with
    | zero => intro k nl wl hN; exact absurd hN (Nat.not_lt_zero _)
    | succ N ih =>
      intro k nl wl hN ⟨hk, gM, gK, gn⟩
      have gY := gM.1
      refine e_iload_n F dX5_digest_11 rfl ?_
      refine e_bipush F dX5_digest_12 (by decide) ?_
      refine e_icmp_gt F 34 dX5_digest_14 (by decide) (⟨by omega, by omega⟩) (⟨by omega, by omega⟩) (fun c_14 => ?_) (fun c_14 => ?_)
      ·
        obtain rfl : k = 7 := by omega
        refine e_iconst F dX5_digest_34 ?_
        refine e_istore_n F dX5_digest_35 (by decide) ?_
        exact e_wid (by omega) (e_go (lo 7 0 nl wl (by omega) ⟨by omega, gM, gK, gn⟩) (And.intro rfl (And.intro rfl (And.intro rfl (trivial)))))
      · refine e_lload_n F dX5_digest_17 rfl ?_
        refine e_aload_n F dX5_digest_18 rfl ?_
        refine e_iload_n F dX5_digest_19 rfl ?_
        refine e_callVV F u_X5_houseTold (by rfl) (c_X5_houseTold gM (c9 := (k : Int)) ⟨by omega, by omega⟩) gY rfl rfl w_ml_RX5_216 dX5_digest_20 (by rfl) (Nat.le_of_ble_eq_true rfl) (by decide) (by omega) (fun _ _ _ h _ => False.elim h) (fun r_20 w_20 n_20 h_20 hn_20 => ?_)
        obtain ⟨rfl, ew_20, en_20⟩ := h_20
        rw [ew_20, en_20]
        have hhr := hoR_rg hwh hkn (R := R) (k : Int)
        refine e_i2l F dX5_digest_23 (hhr) ?_
        refine e_callSS F u_X5_add (by rfl) (c_X5_add (a := itF (fun c => hoR wh kn R c) 7977 k) (b := hoR wh kn R (k : Int))) w_ml_RX5_230 dX5_digest_24 (by rfl) (Nat.le_of_ble_eq_true rfl) (by decide) (by omega) (fun _ _ _ h _ => False.elim h) (fun r_24 w_24 n_24 h_24 hn_24 => ?_)
        obtain ⟨rfl, ew_24, en_24⟩ := h_24
        rw [ew_24, en_24]
        refine e_lstore_n F dX5_digest_27 (by decide) ?_
        refine e_iinc F dX5_digest_28 rfl (by decide) ?_
        refine e_goto F 11 dX5_digest_31 (by decide) ?_
        refine e_wid (by omega) (e_go (ih (k + 1) nl wl (by omega) ⟨by omega, gM, gK, gn⟩) ?_)
        exact (And.intro rfl (And.intro rfl (And.intro rfl (trivial))))
  refine e_aload_n F dX5_digest_0 rfl ?_
  refine e_iconst F dX5_digest_1 ?_
  refine e_set (host := "") (ci := 5) (fi := 0) (q := (RX5, TX5, 6)) F hM.1 rfl (by decide) w_fl_RX5_25 rfl (by rfl) (by rfl) (Nat.le_of_ble_eq_true rfl) dX5_digest_2 ?_
  refine e_ldc2 F dX5_digest_5 w_kl_RX5_228 ?_
  refine e_lstore_n F dX5_digest_8 (by decide) ?_
  refine e_iconst F dX5_digest_9 ?_
  refine e_istore_n F dX5_digest_10 (by decide) ?_
  exact e_go (lh 9 0 n _ (by omega) ⟨by omega, gM0, fun _ _ => rfl, Nat.le_refl _⟩) (And.intro rfl (And.intro rfl (And.intro rfl (trivial))))
end
-- 51.pub.lean.txt
section
/-! the reference: public methods -/
def pwR (wh : Nat) (a e : Int) : Int := if a % pr wh = 0 then (if e < 0 then -9 else b01 (e = 0)) else e_pw (a % pr wh) (e % (pr wh - 1)).toNat (pr wh)
def rcp (wh : Nat) (a : Int) : Int := if a % pr wh = 0 then -9 else iv wh (a % pr wh)
abbrev thQ (wh : Nat) (r : RD) (set : Int) : Prop := thB set (st7 r.A) (ho wh).toNat = true ∧ r.dg ≠ -1
def orV (a b : Int) : Int := if a = -1 ∨ b = -1 then -9 else b01 (b < a) - b01 (a < b)
def moK (b : Int) (A : Int → Int) (M : Nat) : Nat → Int
  | 0 => 0
  | j + 1 => if A ((M : Int) - (j : Int)) ≠ -1 ∧ (moK b A M j = 0 ∨ (if b = 0 then A (moK b A M j) ≤ A ((M : Int) - (j : Int)) else A ((M : Int) - (j : Int)) ≤ A (moK b A M j))) then (M : Int) - (j : Int) else moK b A M j
theorem moK_rg (b : Int) (A : Int → Int) (M : Nat) (j : Nat) (h : j ≤ M) : moK b A M j = 0 ∨ (1 ≤ moK b A M j ∧ moK b A M j ≤ M ∧ A (moK b A M j) ≠ -1) := by
  induction j with
  | zero => exact Or.inl rfl
  | succ j ih =>
    have h2 := ih (by omega)
    have e : moK b A M (j + 1) = if A ((M : Int) - (j : Int)) ≠ -1 ∧ (moK b A M j = 0 ∨ (if b = 0 then A (moK b A M j) ≤ A ((M : Int) - (j : Int)) else A ((M : Int) - (j : Int)) ≤ A (moK b A M j))) then (M : Int) - (j : Int) else moK b A M j := rfl
    rw [e]
    by_cases q : A ((M : Int) - (j : Int)) ≠ -1 ∧ (moK b A M j = 0 ∨ (if b = 0 then A (moK b A M j) ≤ A ((M : Int) - (j : Int)) else A ((M : Int) - (j : Int)) ≤ A (moK b A M j)))
    · rw [if_pos q]; exact Or.inr ⟨by omega, by omega, q.1⟩
    · rw [if_neg q]; exact h2
def saB (r1 r2 : RD) : Nat → Bool
  | 0 => decide (r1.dg = r2.dg)
  | k + 1 => saB r1 r2 k && decide (r1.A ((k : Int) + 1) = r2.A ((k : Int) + 1))
theorem sl_mod {wh : Nat} (a : Int) : sl wh (a % pr wh) = sl wh a := by unfold sl; rw [Int.emod_emod_of_dvd _ (Int.dvd_refl _)]
set_option maxHeartbeats 4000000 in
set_option maxRecDepth 100000 in
theorem c_X5_rest {K : e_K} {l : Launch} {w : e_W} {n : Nat} {y wh : Nat} {t kn : Int} {R : Nat → RD} (hM : MW w y wh kn t R) {a9 : Int} (ha9 : e_r a9) : e_Met K l yX5_rest (Cond.code yX5_rest cX5_rest 2 (Option.some .int) :: e_TB) (2) (0) [.ref y, .int (eI a9)] w n (fun r w' n' => FM w w' y n ∧ r = some (.int (eI (a9 % pr wh))) ∧ MW w' y wh kn 0 R) (e_px0) := by
  refine e_ofV rfl (Nat.le_of_ble_eq_true rfl) ?_
  intro P9 E9 S9 M9 A9 B9 T9 C9 F hnm
  have hwh := hM.2.1
  have hY := hM.1
  have hp := pr_rg wh hwh
  have hho := ho_rg wh hwh
  have hf9 := fl_rg wh hwh
  refine e_aload_n F dX5_rest_0 rfl ?_
  refine e_iconst F dX5_rest_1 ?_
  refine e_set (host := "") (ci := 5) (fi := 0) (q := (RX5, TX5, 6)) F hM.1 rfl (by decide) w_fl_RX5_25 rfl (by rfl) (by rfl) (Nat.le_of_ble_eq_true rfl) dX5_rest_2 ?_
  have gM := hM.th (t2 := 0) (kn2 := kn)
  change e_V _ _ _ _ _ _ _ _ _ _ _ _ _ _ _ _ _ _ (e_up w y (MO y 0 wh kn)) _ _
  refine e_aload_n F dX5_rest_5 rfl ?_
  refine e_iload_n F dX5_rest_6 rfl ?_
  refine e_i2l F dX5_rest_7 (ha9) ?_
  refine e_callVV F u_X5_mod (by rfl) (c_X5_mod gM.1 hwh (v := a9) (by constructor <;> omega)) gM.1 rfl rfl w_ml_RX5_55 dX5_rest_8 (by rfl) (Nat.le_of_ble_eq_true rfl) (by decide) (by omega) (fun _ _ _ h _ => False.elim h) (fun r_8 w_8 n_8 h_8 hn_8 => ?_)
  obtain ⟨rfl, ew_8, en_8⟩ := h_8
  rw [ew_8, en_8]
  refine e_iret F rfl (by omega) ?_ dX5_rest_11
  exact ⟨FM.th, rfl, gM⟩
set_option maxHeartbeats 4000000 in
set_option maxRecDepth 100000 in
theorem c_X5_sealOf {K : e_K} {l : Launch} {w : e_W} {n : Nat} {y wh : Nat} {t kn : Int} {R : Nat → RD} (hM : MW w y wh kn t R) {a9 : Int} (ha9 : e_r a9) : e_Met K l yX5_sealOf (Cond.code yX5_sealOf cX5_sealOf 2 (Option.some .int) :: e_TB) (2) (0) [.ref y, .int (eI a9)] w n (fun r w' n' => FM w w' y n ∧ r = some (.int (eI (sl wh a9))) ∧ MW w' y wh kn 0 R) (e_px0) := by
  refine e_ofV rfl (Nat.le_of_ble_eq_true rfl) ?_
  intro P9 E9 S9 M9 A9 B9 T9 C9 F hnm
  have hwh := hM.2.1
  have hY := hM.1
  have hp := pr_rg wh hwh
  have hho := ho_rg wh hwh
  have hf9 := fl_rg wh hwh
  have hm := emod_rg a9 hwh
  refine e_aload_n F dX5_sealOf_0 rfl ?_
  refine e_iconst F dX5_sealOf_1 ?_
  refine e_set (host := "") (ci := 5) (fi := 0) (q := (RX5, TX5, 6)) F hM.1 rfl (by decide) w_fl_RX5_25 rfl (by rfl) (by rfl) (Nat.le_of_ble_eq_true rfl) dX5_sealOf_2 ?_
  have gM := hM.th (t2 := 0) (kn2 := kn)
  change e_V _ _ _ _ _ _ _ _ _ _ _ _ _ _ _ _ _ _ (e_up w y (MO y 0 wh kn)) _ _
  refine e_aload_n F dX5_sealOf_5 rfl ?_
  refine e_aload_n F dX5_sealOf_6 rfl ?_
  refine e_iload_n F dX5_sealOf_7 rfl ?_
  refine e_i2l F dX5_sealOf_8 (ha9) ?_
  refine e_callVV F u_X5_mod (by rfl) (c_X5_mod gM.1 hwh (v := a9) (by constructor <;> omega)) gM.1 rfl rfl w_ml_RX5_55 dX5_sealOf_9 (by rfl) (Nat.le_of_ble_eq_true rfl) (by decide) (by omega) (fun _ _ _ h _ => False.elim h) (fun r_9 w_9 n_9 h_9 hn_9 => ?_)
  obtain ⟨rfl, ew_9, en_9⟩ := h_9
  rw [ew_9, en_9]
  refine e_callVV F u_X5_sealBy (by rfl) (c_X5_sealBy gM.1 hwh hm.1 hm.2) gM.1 rfl rfl w_ml_RX5_84 dX5_sealOf_12 (by rfl) (Nat.le_of_ble_eq_true rfl) (by decide) (by omega) (fun _ _ _ h _ => False.elim h) (fun r_12 w_12 n_12 h_12 hn_12 => ?_)
  obtain ⟨rfl, ew_12, en_12⟩ := h_12
  rw [ew_12, en_12]
  refine e_iret F rfl (by omega) ?_ dX5_sealOf_15
  exact ⟨FM.th, by rw [sl_mod], gM⟩
set_option maxHeartbeats 4000000 in
set_option maxRecDepth 100000 in
theorem c_X5_reciprocal {K : e_K} {l : Launch} {w : e_W} {n : Nat} {y wh : Nat} {t kn : Int} {R : Nat → RD} (hM : MW w y wh kn t R) {a9 : Int} (ha9 : e_r a9) : e_Met K l yX5_reciprocal (Cond.code yX5_reciprocal cX5_reciprocal 2 (Option.some .int) :: e_TB) (3) (0) [.ref y, .int (eI a9)] w n (fun r w' n' => FM w w' y n ∧ r = some (.int (eI (rcp wh a9))) ∧ MW w' y wh kn 0 R) (e_px0) := by
  refine e_ofV rfl (Nat.le_of_ble_eq_true rfl) ?_
  intro P9 E9 S9 M9 A9 B9 T9 C9 F hnm
  have hwh := hM.2.1
  have hY := hM.1
  have hp := pr_rg wh hwh
  have hho := ho_rg wh hwh
  have hf9 := fl_rg wh hwh
  have hm := emod_rg a9 hwh
  refine e_aload_n F dX5_reciprocal_0 rfl ?_
  refine e_iconst F dX5_reciprocal_1 ?_
  refine e_set (host := "") (ci := 5) (fi := 0) (q := (RX5, TX5, 6)) F hM.1 rfl (by decide) w_fl_RX5_25 rfl (by rfl) (by rfl) (Nat.le_of_ble_eq_true rfl) dX5_reciprocal_2 ?_
  have gM := hM.th (t2 := 0) (kn2 := kn)
  change e_V _ _ _ _ _ _ _ _ _ _ _ _ _ _ _ _ _ _ (e_up w y (MO y 0 wh kn)) _ _
  refine e_aload_n F dX5_reciprocal_5 rfl ?_
  refine e_iload_n F dX5_reciprocal_6 rfl ?_
  refine e_i2l F dX5_reciprocal_7 (ha9) ?_
  refine e_callVV F u_X5_mod (by rfl) (c_X5_mod gM.1 hwh (v := a9) (by constructor <;> omega)) gM.1 rfl rfl w_ml_RX5_55 dX5_reciprocal_8 (by rfl) (Nat.le_of_ble_eq_true rfl) (by decide) (by omega) (fun _ _ _ h _ => False.elim h) (fun r_8 w_8 n_8 h_8 hn_8 => ?_)
  obtain ⟨rfl, ew_8, en_8⟩ := h_8
  rw [ew_8, en_8]
  refine e_if_ne F 19 dX5_reciprocal_11 (by decide) (⟨by omega, by omega⟩) (fun c_11 => ?_) (fun c_11 => ?_)
  · refine e_aload_n F dX5_reciprocal_19 rfl ?_
    refine e_aload_n F dX5_reciprocal_20 rfl ?_
    refine e_iload_n F dX5_reciprocal_21 rfl ?_
    refine e_i2l F dX5_reciprocal_22 (ha9) ?_
    refine e_callVV F u_X5_mod (by rfl) (c_X5_mod gM.1 hwh (v := a9) (by constructor <;> omega)) gM.1 rfl rfl w_ml_RX5_55 dX5_reciprocal_23 (by rfl) (Nat.le_of_ble_eq_true rfl) (by decide) (by omega) (fun _ _ _ h _ => False.elim h) (fun r_23 w_23 n_23 h_23 hn_23 => ?_)
    obtain ⟨rfl, ew_23, en_23⟩ := h_23
    rw [ew_23, en_23]
    refine e_callVV F u_X5_inverse (by rfl) (c_X5_inverse gM.1 hwh hm.1 hm.2) gM.1 rfl rfl w_ml_RX5_76 dX5_reciprocal_26 (by rfl) (Nat.le_of_ble_eq_true rfl) (by decide) (by omega) (fun _ _ _ h _ => False.elim h) (fun r_26 w_26 n_26 h_26 hn_26 => ?_)
    obtain ⟨rfl, ew_26, en_26⟩ := h_26
    rw [ew_26, en_26]
    refine e_iret F rfl (by omega) ?_ dX5_reciprocal_29
    refine ⟨FM.th, ?_, gM⟩
    unfold rcp
    first | rw [if_pos c_11] | rw [if_neg c_11]
  · refine e_bipush F dX5_reciprocal_14 (by decide) ?_
    refine e_goto F 29 dX5_reciprocal_16 (by decide) ?_
    refine e_iret F rfl (by omega) ?_ dX5_reciprocal_29
    refine ⟨FM.th, ?_, gM⟩
    unfold rcp
    first | rw [if_pos c_11] | rw [if_neg c_11]
set_option maxHeartbeats 4000000 in
set_option maxRecDepth 100000 in
theorem c_X5_power {K : e_K} {l : Launch} {w : e_W} {n : Nat} {y wh : Nat} {t kn : Int} {R : Nat → RD} (hM : MW w y wh kn t R) {a9 : Int} (ha9 : e_r a9) {e9 : Int} (he9 : e_r e9) : e_Met K l yX5_power (Cond.code yX5_power cX5_power 5 (Option.some .int) :: e_TB) (2) (0) [.ref y, .int (eI a9), .int (eI e9)] w n (fun r w' n' => FM w w' y n ∧ r = some (.int (eI (pwR wh a9 e9))) ∧ MW w' y wh kn 0 R) (e_px0) := by
  refine e_ofV rfl (Nat.le_of_ble_eq_true rfl) ?_
  intro P9 E9 S9 M9 A9 B9 T9 C9 F hnm
  have hwh := hM.2.1
  have hY := hM.1
  have hp := pr_rg wh hwh
  have hho := ho_rg wh hwh
  have hf9 := fl_rg wh hwh
  have hm := emod_rg a9 hwh
  refine e_aload_n F dX5_power_0 rfl ?_
  refine e_iconst F dX5_power_1 ?_
  refine e_set (host := "") (ci := 5) (fi := 0) (q := (RX5, TX5, 6)) F hM.1 rfl (by decide) w_fl_RX5_25 rfl (by rfl) (by rfl) (Nat.le_of_ble_eq_true rfl) dX5_power_2 ?_
  have gM := hM.th (t2 := 0) (kn2 := kn)
  change e_V _ _ _ _ _ _ _ _ _ _ _ _ _ _ _ _ _ _ (e_up w y (MO y 0 wh kn)) _ _
  refine e_aload_n F dX5_power_5 rfl ?_
  refine e_iload_n F dX5_power_6 rfl ?_
  refine e_i2l F dX5_power_7 (ha9) ?_
  refine e_callVV F u_X5_mod (by rfl) (c_X5_mod gM.1 hwh (v := a9) (by constructor <;> omega)) gM.1 rfl rfl w_ml_RX5_55 dX5_power_8 (by rfl) (Nat.le_of_ble_eq_true rfl) (by decide) (by omega) (fun _ _ _ h _ => False.elim h) (fun r_8 w_8 n_8 h_8 hn_8 => ?_)
  obtain ⟨rfl, ew_8, en_8⟩ := h_8
  rw [ew_8, en_8]
  refine e_istore_n F dX5_power_11 (by decide) ?_
  refine e_iload_n F dX5_power_12 rfl ?_
  refine e_if_ne F 38 dX5_power_13 (by decide) (⟨by omega, by omega⟩) (fun c_13 => ?_) (fun c_13 => ?_)
  · refine e_iload_n F dX5_power_38 rfl ?_
    refine e_aload_n F dX5_power_39 rfl ?_
    refine e_callVV F u_X5_p (by rfl) (c_X5_p gM.1 hwh) gM.1 rfl rfl w_ml_RX5_38 dX5_power_40 (by rfl) (Nat.le_of_ble_eq_true rfl) (by decide) (by omega) (fun _ _ _ h _ => False.elim h) (fun r_40 w_40 n_40 h_40 hn_40 => ?_)
    obtain ⟨rfl, ew_40, en_40⟩ := h_40
    rw [ew_40, en_40]
    refine e_iconst F dX5_power_43 ?_
    refine e_isub F dX5_power_44 ?_
    refine e_irem F dX5_power_45 (he9) (⟨by omega, by omega⟩) (by omega) ?_
    have hb := tmod_bounds (a := e9) (show 0 < pr wh - 1 by omega)
    have hm2 := emod_of_tmod (a := e9) (show 0 < pr wh - 1 by omega)
    have hm3 : 0 ≤ e9 % (pr wh - 1) ∧ e9 % (pr wh - 1) < pr wh - 1 := ⟨Int.emod_nonneg _ (by omega), Int.emod_lt_of_pos _ (by omega)⟩
    refine e_istore F dX5_power_46 (by decide) ?_
    refine e_iload_n F dX5_power_48 rfl ?_
    refine e_iload F dX5_power_49 rfl ?_
    refine e_if_ge F 66 dX5_power_51 (by decide) (⟨by omega, by omega⟩) (fun c_51 => ?_) (fun c_51 => ?_)
    ·
      rw [if_neg (by omega)] at hm2
      refine e_iload F dX5_power_66 rfl ?_
      refine e_aload_n F dX5_power_68 rfl ?_
      refine e_callVV F u_X5_p (by rfl) (c_X5_p gM.1 hwh) gM.1 rfl rfl w_ml_RX5_38 dX5_power_69 (by rfl) (Nat.le_of_ble_eq_true rfl) (by decide) (by omega) (fun _ _ _ h _ => False.elim h) (fun r_69 w_69 n_69 h_69 hn_69 => ?_)
      obtain ⟨rfl, ew_69, en_69⟩ := h_69
      rw [ew_69, en_69]
      have e7 : (e9.tmod (pr wh - 1) + pr wh - 1 = e9 % (pr wh - 1)) ∨ (e9.tmod (pr wh - 1) = e9 % (pr wh - 1)) := by omega
      first | rw [show e9.tmod (pr wh - 1) + pr wh - 1 = e9 % (pr wh - 1) by omega] | rw [show e9.tmod (pr wh - 1) = e9 % (pr wh - 1) by omega]
      refine e_callSS F u_X5_raised (by rfl) (c_X5_raised (b := a9 % pr wh) (k := e9 % (pr wh - 1)) (m := pr wh) hm.1 (by omega) (by omega) (by omega) hm3.1 (by omega)) w_ml_RX5_65 dX5_power_72 (by rfl) (Nat.le_of_ble_eq_true rfl) (by decide) (by omega) (fun _ _ _ h _ => False.elim h) (fun r_72 w_72 n_72 h_72 hn_72 => ?_)
      obtain ⟨rfl, ew_72, en_72⟩ := h_72
      rw [ew_72, en_72]
      refine e_iret F rfl (by omega) ?_ dX5_power_75
      refine ⟨FM.th, ?_, gM⟩
      unfold pwR
      rw [if_neg (show ¬ a9 % pr wh = 0 by omega)]
    ·
      rw [if_pos (by omega)] at hm2
      refine e_iload F dX5_power_54 rfl ?_
      refine e_aload_n F dX5_power_56 rfl ?_
      refine e_callVV F u_X5_p (by rfl) (c_X5_p gM.1 hwh) gM.1 rfl rfl w_ml_RX5_38 dX5_power_57 (by rfl) (Nat.le_of_ble_eq_true rfl) (by decide) (by omega) (fun _ _ _ h _ => False.elim h) (fun r_57 w_57 n_57 h_57 hn_57 => ?_)
      obtain ⟨rfl, ew_57, en_57⟩ := h_57
      rw [ew_57, en_57]
      refine e_iadd F dX5_power_60 ?_
      refine e_iconst F dX5_power_61 ?_
      refine e_isub F dX5_power_62 ?_
      refine e_goto F 68 dX5_power_63 (by decide) ?_
      refine e_aload_n F dX5_power_68 rfl ?_
      refine e_callVV F u_X5_p (by rfl) (c_X5_p gM.1 hwh) gM.1 rfl rfl w_ml_RX5_38 dX5_power_69 (by rfl) (Nat.le_of_ble_eq_true rfl) (by decide) (by omega) (fun _ _ _ h _ => False.elim h) (fun r_69 w_69 n_69 h_69 hn_69 => ?_)
      obtain ⟨rfl, ew_69, en_69⟩ := h_69
      rw [ew_69, en_69]
      have e7 : (e9.tmod (pr wh - 1) + pr wh - 1 = e9 % (pr wh - 1)) ∨ (e9.tmod (pr wh - 1) = e9 % (pr wh - 1)) := by omega
      first | rw [show e9.tmod (pr wh - 1) + pr wh - 1 = e9 % (pr wh - 1) by omega] | rw [show e9.tmod (pr wh - 1) = e9 % (pr wh - 1) by omega]
      refine e_callSS F u_X5_raised (by rfl) (c_X5_raised (b := a9 % pr wh) (k := e9 % (pr wh - 1)) (m := pr wh) hm.1 (by omega) (by omega) (by omega) hm3.1 (by omega)) w_ml_RX5_65 dX5_power_72 (by rfl) (Nat.le_of_ble_eq_true rfl) (by decide) (by omega) (fun _ _ _ h _ => False.elim h) (fun r_72 w_72 n_72 h_72 hn_72 => ?_)
      obtain ⟨rfl, ew_72, en_72⟩ := h_72
      rw [ew_72, en_72]
      refine e_iret F rfl (by omega) ?_ dX5_power_75
      refine ⟨FM.th, ?_, gM⟩
      unfold pwR
      rw [if_neg (show ¬ a9 % pr wh = 0 by omega)]
  · refine e_iload_n F dX5_power_16 rfl ?_
    refine e_if_ge F 25 dX5_power_17 (by decide) (he9) (fun c_17 => ?_) (fun c_17 => ?_)
    · refine e_iload_n F dX5_power_25 rfl ?_
      refine e_if_ne F 33 dX5_power_26 (by decide) (he9) (fun c_26 => ?_) (fun c_26 => ?_)
      · refine e_iconst F dX5_power_33 ?_
        refine e_callSS F u_X5_one (by rfl) (c_X5_one (b := _) (by first | exact Or.inl rfl | exact Or.inr rfl)) w_ml_RX5_80 dX5_power_34 (by rfl) (Nat.le_of_ble_eq_true rfl) (by decide) (by omega) (fun _ _ _ h _ => False.elim h) (fun r_34 w_34 n_34 h_34 hn_34 => ?_)
        obtain ⟨rfl, ew_34, en_34⟩ := h_34
        rw [ew_34, en_34]
        refine e_iret F rfl (by omega) ?_ dX5_power_37
        refine ⟨FM.th, ?_, gM⟩
        unfold pwR
        rw [if_pos (show a9 % pr wh = 0 by omega)]
        first | rw [if_pos (show e9 < 0 by omega)] | (rw [if_neg (show ¬ e9 < 0 by omega)]; first | rw [b01_t (show e9 = 0 by omega)] | rw [b01_f (show ¬ e9 = 0 by omega)])
      · refine e_iconst F dX5_power_29 ?_
        refine e_goto F 34 dX5_power_30 (by decide) ?_
        refine e_callSS F u_X5_one (by rfl) (c_X5_one (b := _) (by first | exact Or.inl rfl | exact Or.inr rfl)) w_ml_RX5_80 dX5_power_34 (by rfl) (Nat.le_of_ble_eq_true rfl) (by decide) (by omega) (fun _ _ _ h _ => False.elim h) (fun r_34 w_34 n_34 h_34 hn_34 => ?_)
        obtain ⟨rfl, ew_34, en_34⟩ := h_34
        rw [ew_34, en_34]
        refine e_iret F rfl (by omega) ?_ dX5_power_37
        refine ⟨FM.th, ?_, gM⟩
        unfold pwR
        rw [if_pos (show a9 % pr wh = 0 by omega)]
        first | rw [if_pos (show e9 < 0 by omega)] | (rw [if_neg (show ¬ e9 < 0 by omega)]; first | rw [b01_t (show e9 = 0 by omega)] | rw [b01_f (show ¬ e9 = 0 by omega)])
    · refine e_bipush F dX5_power_20 (by decide) ?_
      refine e_goto F 37 dX5_power_22 (by decide) ?_
      refine e_iret F rfl (by omega) ?_ dX5_power_37
      refine ⟨FM.th, ?_, gM⟩
      unfold pwR
      rw [if_pos (show a9 % pr wh = 0 by omega)]
      first | rw [if_pos (show e9 < 0 by omega)] | (rw [if_neg (show ¬ e9 < 0 by omega)]; first | rw [b01_t (show e9 = 0 by omega)] | rw [b01_f (show ¬ e9 = 0 by omega)])
set_option maxHeartbeats 4000000 in
set_option maxRecDepth 100000 in
theorem c_X5_knock {K : e_K} {l : Launch} {w : e_W} {n : Nat} {y wh : Nat} {t kn : Int} {R : Nat → RD} (hM : MW w y wh kn t R) : e_Met K l yX5_knock (Cond.code yX5_knock cX5_knock 1 (Option.some .int) :: e_TB) (0) (0) [.ref y] w n (fun r w' n' => FM w w' y n ∧ r = some (.int (eI (kn + 1))) ∧ MW w' y wh (kn + 1) 0 R) (e_px0) := by
  refine e_ofV rfl (Nat.le_of_ble_eq_true rfl) ?_
  intro P9 E9 S9 M9 A9 B9 T9 C9 F hnm
  have hwh := hM.2.1
  have hY := hM.1
  have hp := pr_rg wh hwh
  have hho := ho_rg wh hwh
  have hf9 := fl_rg wh hwh
  refine e_aload_n F dX5_knock_0 rfl ?_
  refine e_iconst F dX5_knock_1 ?_
  refine e_set (host := "") (ci := 5) (fi := 0) (q := (RX5, TX5, 6)) F hM.1 rfl (by decide) w_fl_RX5_25 rfl (by rfl) (by rfl) (Nat.le_of_ble_eq_true rfl) dX5_knock_2 ?_
  refine e_aload_n F dX5_knock_5 rfl ?_
  refine e_dup F dX5_knock_6 rfl ?_
  refine e_get (ci := 5) (fi := 2) (q := (RX5, TX5, 6)) F e_up_s rfl (by decide) w_fl_RX5_177 (by rfl) dX5_knock_7 ?_
  refine e_iconst F dX5_knock_10 ?_
  refine e_iadd F dX5_knock_11 ?_
  refine e_set (host := "") (ci := 5) (fi := 2) (q := (RX5, TX5, 6)) F e_up_s rfl (by decide) w_fl_RX5_177 rfl (by rfl) (by rfl) (Nat.le_of_ble_eq_true rfl) dX5_knock_12 ?_
  refine e_aload_n F dX5_knock_15 rfl ?_
  refine e_get (ci := 5) (fi := 2) (q := (RX5, TX5, 6)) F e_up_s rfl (by decide) w_fl_RX5_177 (by rfl) dX5_knock_16 ?_
  refine e_iret F rfl (by omega) ?_ dX5_knock_19
  exact ⟨fun q q1 q2 => by rw [e_up_n (by omega), e_up_n (by omega)], rfl, by rw [e_up_up]; exact hM.th⟩
set_option maxHeartbeats 4000000 in
set_option maxRecDepth 100000 in
theorem c_X5_reckon {K : e_K} {l : Launch} {w : e_W} {n : Nat} {y wh : Nat} {t kn : Int} {R : Nat → RD} (hM : MW w y wh kn t R) {a9 : Int} (ha9 : e_r a9) {b9 : Int} (hb9 : e_r b9) {c9 : Int} (hc9 : e_r c9) : e_Met K l yX5_reckon (Cond.code yX5_reckon cX5_reckon 4 (Option.some .int) :: e_TB) (3) (0) [.ref y, .int (eI a9), .int (eI b9), .int (eI c9)] w n (fun r w' n' => FM w w' y n ∧ ((¬ (0 ≤ c9 ∧ c9 ≤ 3) ∧ r = some (.int (eI 0)) ∧ MW w' y wh kn 1 R) ∨ ((0 ≤ c9 ∧ c9 ≤ 3) ∧ r = some (.int (eI (rcV wh a9 b9 c9))) ∧ MW w' y wh (kn) 0 (R)))) (e_px0) := by
  refine e_ofV rfl (Nat.le_of_ble_eq_true rfl) ?_
  intro P9 E9 S9 M9 A9 B9 T9 C9 F hnm
  have hwh := hM.2.1
  have hY := hM.1
  have hp := pr_rg wh hwh
  have hho := ho_rg wh hwh
  have hf9 := fl_rg wh hwh
  have hma := emod_rg a9 hwh
  have hmb := emod_rg b9 hwh
  refine e_aload_n F dX5_reckon_0 rfl ?_
  refine e_iload_n F dX5_reckon_1 rfl ?_
  refine e_iconst F dX5_reckon_2 ?_
  refine e_iconst F dX5_reckon_3 ?_
  refine e_callSS F u_X5_isIn (by rfl) (c_X5_isIn (v := c9) (a := 0) (b := 3) hc9 (by decide) (by decide)) w_ml_RX5_48 dX5_reckon_4 (by rfl) (Nat.le_of_ble_eq_true rfl) (by decide) (by omega) (fun _ _ _ h _ => False.elim h) (fun r_4 w_4 n_4 h_4 hn_4 => ?_)
  obtain ⟨rfl, ew_4, en_4⟩ := h_4
  rw [ew_4, en_4]
  refine e_if_ne F 14 dX5_reckon_7 (by decide) (b01_r _) (fun c_7 => ?_) (fun c_7 => ?_)
  ·
    rw [ne_eq, b01_0, Classical.not_not] at c_7
    refine e_iconst F dX5_reckon_14 ?_
    refine e_iconst F dX5_reckon_15 ?_
    refine e_callVV F u_X5_start (by rfl) (c_X5_start hY (by first | exact Or.inl rfl | exact Or.inr rfl) (by decide) (by decide)) hY rfl rfl w_ml_RX5_69 dX5_reckon_16 (by rfl) (Nat.le_of_ble_eq_true rfl) (by decide) (by omega) (fun _ _ _ h _ => False.elim h) (fun r_16 w_16 n_16 h_16 hn_16 => ?_)
    obtain ⟨rfl, en_16, ew_16⟩ := h_16
    rw [en_16, ew_16]
    first | rw [if_pos (show (1 : Int) = 1 from rfl)] | rw [if_neg (show ¬ ((0 : Int) = 1) by decide)]
    have gM := hM.th (t2 := 0) (kn2 := kn)
    refine e_if_eq F 24 dX5_reckon_19 (by decide) (by decide) (fun c_19 => ?_) (fun c_19 => ?_)
    · refine e_iload_n F dX5_reckon_24 rfl ?_
      refine e_if_ne F 38 dX5_reckon_25 (by decide) (⟨by omega, by omega⟩) (fun c_25 => ?_) (fun c_25 => ?_)
      · refine e_iload_n F dX5_reckon_38 rfl ?_
        refine e_iconst F dX5_reckon_39 ?_
        refine e_icmp_ne F 53 dX5_reckon_40 (by decide) (⟨by omega, by omega⟩) (⟨by omega, by omega⟩) (fun c_40 => ?_) (fun c_40 => ?_)
        · refine e_iload_n F dX5_reckon_53 rfl ?_
          refine e_iconst F dX5_reckon_54 ?_
          refine e_icmp_ne F 68 dX5_reckon_55 (by decide) (⟨by omega, by omega⟩) (⟨by omega, by omega⟩) (fun c_55 => ?_) (fun c_55 => ?_)
          · refine e_aload_n F dX5_reckon_68 rfl ?_
            refine e_iload_n F dX5_reckon_69 rfl ?_
            refine e_i2l F dX5_reckon_70 (hb9) ?_
            refine e_callVV F u_X5_mod (by rfl) (c_X5_mod gM.1 hwh (v := b9) (by constructor <;> omega)) gM.1 rfl rfl w_ml_RX5_55 dX5_reckon_71 (by rfl) (Nat.le_of_ble_eq_true rfl) (by decide) (by omega) (fun _ _ _ h _ => False.elim h) (fun r_71 w_71 n_71 h_71 hn_71 => ?_)
            obtain ⟨rfl, ew_71, en_71⟩ := h_71
            rw [ew_71, en_71]
            refine e_if_ne F 82 dX5_reckon_74 (by decide) (⟨by omega, by omega⟩) (fun c_74 => ?_) (fun c_74 => ?_)
            · refine e_aload_n F dX5_reckon_82 rfl ?_
              refine e_aload_n F dX5_reckon_83 rfl ?_
              refine e_iload_n F dX5_reckon_84 rfl ?_
              refine e_i2l F dX5_reckon_85 (ha9) ?_
              refine e_callVV F u_X5_mod (by rfl) (c_X5_mod gM.1 hwh (v := a9) (by constructor <;> omega)) gM.1 rfl rfl w_ml_RX5_55 dX5_reckon_86 (by rfl) (Nat.le_of_ble_eq_true rfl) (by decide) (by omega) (fun _ _ _ h _ => False.elim h) (fun r_86 w_86 n_86 h_86 hn_86 => ?_)
              obtain ⟨rfl, ew_86, en_86⟩ := h_86
              rw [ew_86, en_86]
              refine e_i2l F dX5_reckon_89 (⟨by omega, by omega⟩) ?_
              refine e_aload_n F dX5_reckon_90 rfl ?_
              refine e_aload_n F dX5_reckon_91 rfl ?_
              refine e_iload_n F dX5_reckon_92 rfl ?_
              refine e_i2l F dX5_reckon_93 (hb9) ?_
              refine e_callVV F u_X5_mod (by rfl) (c_X5_mod gM.1 hwh (v := b9) (by constructor <;> omega)) gM.1 rfl rfl w_ml_RX5_55 dX5_reckon_94 (by rfl) (Nat.le_of_ble_eq_true rfl) (by decide) (by omega) (fun _ _ _ h _ => False.elim h) (fun r_94 w_94 n_94 h_94 hn_94 => ?_)
              obtain ⟨rfl, ew_94, en_94⟩ := h_94
              rw [ew_94, en_94]
              refine e_callVV F u_X5_inverse (by rfl) (c_X5_inverse gM.1 hwh hmb.1 hmb.2) gM.1 rfl rfl w_ml_RX5_76 dX5_reckon_97 (by rfl) (Nat.le_of_ble_eq_true rfl) (by decide) (by omega) (fun _ _ _ h _ => False.elim h) (fun r_97 w_97 n_97 h_97 hn_97 => ?_)
              obtain ⟨rfl, ew_97, en_97⟩ := h_97
              rw [ew_97, en_97]
              have hiv := iv_rg (v := b9 % pr wh) hwh
              refine e_i2l F dX5_reckon_100 (⟨by omega, by omega⟩) ?_
              refine e_lmul F dX5_reckon_101 ?_
              refine e_callVV F u_X5_mod (by rfl) (c_X5_mod gM.1 hwh (mul_rg (m := 1000003) hma.1 (by omega) hiv.1 (by omega) (by omega)).2) gM.1 rfl rfl w_ml_RX5_55 dX5_reckon_102 (by rfl) (Nat.le_of_ble_eq_true rfl) (by decide) (by omega) (fun _ _ _ h _ => False.elim h) (fun r_102 w_102 n_102 h_102 hn_102 => ?_)
              obtain ⟨rfl, ew_102, en_102⟩ := h_102
              rw [ew_102, en_102]
              refine e_iret F rfl (by omega) ?_ dX5_reckon_105
              refine ⟨FM.th, Or.inr ⟨c_7, ?_, gM⟩⟩
              unfold rcV qv
              rw [if_neg (by omega), if_neg (by omega), if_neg (by omega)]
              first | rw [if_pos c_74] | rw [if_neg c_74]
            · refine e_bipush F dX5_reckon_77 (by decide) ?_
              refine e_goto F 105 dX5_reckon_79 (by decide) ?_
              refine e_iret F rfl (by omega) ?_ dX5_reckon_105
              refine ⟨FM.th, Or.inr ⟨c_7, ?_, gM⟩⟩
              unfold rcV qv
              rw [if_neg (by omega), if_neg (by omega), if_neg (by omega)]
              first | rw [if_pos c_74] | rw [if_neg c_74]
          · refine e_aload_n F dX5_reckon_58 rfl ?_
            refine e_iload_n F dX5_reckon_59 rfl ?_
            refine e_i2l F dX5_reckon_60 (ha9) ?_
            refine e_iload_n F dX5_reckon_61 rfl ?_
            refine e_i2l F dX5_reckon_62 (hb9) ?_
            refine e_lmul F dX5_reckon_63 ?_
            refine e_callVV F u_X5_mod (by rfl) (c_X5_mod gM.1 hwh (v := a9 * b9) (mulI_rg ha9 hb9)) gM.1 rfl rfl w_ml_RX5_55 dX5_reckon_64 (by rfl) (Nat.le_of_ble_eq_true rfl) (by decide) (by omega) (fun _ _ _ h _ => False.elim h) (fun r_64 w_64 n_64 h_64 hn_64 => ?_)
            obtain ⟨rfl, ew_64, en_64⟩ := h_64
            rw [ew_64, en_64]
            refine e_iret F rfl (by omega) ?_ dX5_reckon_67
            refine ⟨FM.th, Or.inr ⟨c_7, ?_, gM⟩⟩
            unfold rcV
            rw [if_neg (by omega), if_neg (by omega), if_pos (by omega)]
        · refine e_aload_n F dX5_reckon_43 rfl ?_
          refine e_iload_n F dX5_reckon_44 rfl ?_
          refine e_i2l F dX5_reckon_45 (ha9) ?_
          refine e_iload_n F dX5_reckon_46 rfl ?_
          refine e_i2l F dX5_reckon_47 (hb9) ?_
          refine e_lsub F dX5_reckon_48 ?_
          refine e_callVV F u_X5_mod (by rfl) (c_X5_mod gM.1 hwh (v := a9 - b9) (by constructor <;> omega)) gM.1 rfl rfl w_ml_RX5_55 dX5_reckon_49 (by rfl) (Nat.le_of_ble_eq_true rfl) (by decide) (by omega) (fun _ _ _ h _ => False.elim h) (fun r_49 w_49 n_49 h_49 hn_49 => ?_)
          obtain ⟨rfl, ew_49, en_49⟩ := h_49
          rw [ew_49, en_49]
          refine e_iret F rfl (by omega) ?_ dX5_reckon_52
          refine ⟨FM.th, Or.inr ⟨c_7, ?_, gM⟩⟩
          unfold rcV
          rw [if_neg (by omega), if_pos (by omega)]
      · refine e_aload_n F dX5_reckon_28 rfl ?_
        refine e_iload_n F dX5_reckon_29 rfl ?_
        refine e_i2l F dX5_reckon_30 (ha9) ?_
        refine e_iload_n F dX5_reckon_31 rfl ?_
        refine e_i2l F dX5_reckon_32 (hb9) ?_
        refine e_ladd F dX5_reckon_33 ?_
        refine e_callVV F u_X5_mod (by rfl) (c_X5_mod gM.1 hwh (v := a9 + b9) (by constructor <;> omega)) gM.1 rfl rfl w_ml_RX5_55 dX5_reckon_34 (by rfl) (Nat.le_of_ble_eq_true rfl) (by decide) (by omega) (fun _ _ _ h _ => False.elim h) (fun r_34 w_34 n_34 h_34 hn_34 => ?_)
        obtain ⟨rfl, ew_34, en_34⟩ := h_34
        rw [ew_34, en_34]
        refine e_iret F rfl (by omega) ?_ dX5_reckon_37
        refine ⟨FM.th, Or.inr ⟨c_7, ?_, gM⟩⟩
        unfold rcV
        rw [if_pos (by omega)]
    · exact absurd c_19 (by decide)
  ·
    rw [b01_0] at c_7
    refine e_iconst F dX5_reckon_10 ?_
    refine e_goto F 15 dX5_reckon_11 (by decide) ?_
    refine e_iconst F dX5_reckon_15 ?_
    refine e_callVV F u_X5_start (by rfl) (c_X5_start hY (by first | exact Or.inl rfl | exact Or.inr rfl) (by decide) (by decide)) hY rfl rfl w_ml_RX5_69 dX5_reckon_16 (by rfl) (Nat.le_of_ble_eq_true rfl) (by decide) (by omega) (fun _ _ _ h _ => False.elim h) (fun r_16 w_16 n_16 h_16 hn_16 => ?_)
    obtain ⟨rfl, en_16, ew_16⟩ := h_16
    rw [en_16, ew_16]
    first | rw [if_pos (show (1 : Int) = 1 from rfl)] | rw [if_neg (show ¬ ((0 : Int) = 1) by decide)]
    have gM := hM.th (t2 := 0) (kn2 := kn)
    refine e_if_eq F 24 dX5_reckon_19 (by decide) (by decide) (fun c_19 => ?_) (fun c_19 => ?_)
    · exact absurd c_19 (by decide)
    · refine e_iconst F dX5_reckon_22 ?_
      refine e_iret F rfl (by omega) ?_ dX5_reckon_23
      exact ⟨FM.th, Or.inl ⟨c_7, rfl, hM.th⟩⟩
set_option maxHeartbeats 4000000 in
set_option maxRecDepth 100000 in
theorem c_X5_weights {K : e_K} {l : Launch} {w : e_W} {n : Nat} {y wh : Nat} {t kn : Int} {R : Nat → RD} (hM : MW w y wh kn t R) {s9 : Int} (hs9 : e_r s9) {x9 : Int} (hx9 : e_r x9) : e_Met K l yX5_weights (Cond.code yX5_weights cX5_weights 3 (Option.some .int) :: e_TB) (6) (3) [.ref y, .int (eI s9), .int (eI x9)] w n (fun r w' n' => FM w w' y n ∧ ((¬ (1 ≤ s9 ∧ s9 ≤ fl wh) ∧ r = some (.int (eI 0)) ∧ MW w' y wh kn 1 R) ∨ ((1 ≤ s9 ∧ s9 ≤ fl wh) ∧ r = some (.int (eI (atV wh s9 (fun _ => 1) x9))) ∧ MW w' y wh (kn) 0 (R)))) (e_px0) := by
  refine e_ofV rfl (Nat.le_of_ble_eq_true rfl) ?_
  intro P9 E9 S9 M9 A9 B9 T9 C9 F hnm
  have hwh := hM.2.1
  have hY := hM.1
  have hp := pr_rg wh hwh
  have hho := ho_rg wh hwh
  have hf9 := fl_rg wh hwh
  refine e_aload_n F dX5_weights_0 rfl ?_
  refine e_aload_n F dX5_weights_1 rfl ?_
  refine e_iload_n F dX5_weights_2 rfl ?_
  refine e_callVV F u_X5_isNoSet (by rfl) (c_X5_isNoSet hY hwh hs9) hY rfl rfl w_ml_RX5_103 dX5_weights_3 (by rfl) (Nat.le_of_ble_eq_true rfl) (by decide) (by omega) (fun _ _ _ h _ => False.elim h) (fun r_3 w_3 n_3 h_3 hn_3 => ?_)
  obtain ⟨rfl, ew_3, en_3⟩ := h_3
  rw [ew_3, en_3]
  refine e_iconst F dX5_weights_6 ?_
  refine e_callVV F u_X5_start (by rfl) (c_X5_start hY (b01_or _) (by decide) (by decide)) hY rfl rfl w_ml_RX5_69 dX5_weights_7 (by rfl) (Nat.le_of_ble_eq_true rfl) (by decide) (by omega) (fun _ _ _ h _ => False.elim h) (fun r_7 w_7 n_7 h_7 hn_7 => ?_)
  obtain ⟨rfl, en_7, ew_7⟩ := h_7
  rw [en_7, ew_7, st1]
  refine e_if_eq F 17 dX5_weights_10 (by decide) (b01_r _) (fun c_10 => ?_) (fun c_10 => ?_)
  ·
    rw [b01_0, Classical.not_not] at c_10
    rw [if_pos c_10]
    have gM := hM.th (t2 := 0) (kn2 := kn)
    refine e_aload_n F dX5_weights_17 rfl ?_
    refine e_iload_n F dX5_weights_18 rfl ?_
    refine e_iload_n F dX5_weights_19 rfl ?_
    refine e_dom ?_
    intro hdm
    refine e_callVV F u_X5_weightsAt (by rfl) (c_X5_weightsAt gM.1 hwh (set := s9) (x := x9) (by omega) (by omega) hx9) gM.1 rfl rfl w_ml_RX5_110 dX5_weights_20 (by rfl) (Nat.le_of_ble_eq_true rfl) (by decide) (by omega) (fun _ _ _ h _ => False.elim h) (fun r_20 w_20 n_20 h_20 hn_20 => ?_)
    obtain ⟨rfl, gK⟩ := h_20
    refine e_iret F rfl (by omega) ?_ dX5_weights_23
    first
    | exact ⟨FM.th, Or.inl ⟨c_10, rfl, hM.th⟩⟩
    | exact ⟨FM.th.kb (Nat.le_refl _) gK, Or.inr ⟨c_10, rfl, gM.kb hdm gK⟩⟩
  ·
    rw [b01_0, Classical.not_not] at c_10
    rw [if_neg c_10]
    refine e_iconst F dX5_weights_13 ?_
    refine e_goto F 23 dX5_weights_14 (by decide) ?_
    refine e_iret F rfl (by omega) ?_ dX5_weights_23
    first
    | exact ⟨FM.th, Or.inl ⟨c_10, rfl, hM.th⟩⟩
    | exact ⟨FM.th.kb (Nat.le_refl _) gK, Or.inr ⟨c_10, rfl, gM.kb hdm gK⟩⟩
set_option maxHeartbeats 4000000 in
set_option maxRecDepth 100000 in
theorem c_X5_weight {K : e_K} {l : Launch} {w : e_W} {n : Nat} {y wh : Nat} {t kn : Int} {R : Nat → RD} (hM : MW w y wh kn t R) {s9 : Int} (hs9 : e_r s9) {h9 : Int} (hh9 : e_r h9) {x9 : Int} (hx9 : e_r x9) : e_Met K l yX5_weight (Cond.code yX5_weight cX5_weight 5 (Option.some .int) :: e_TB) (5) (3) [.ref y, .int (eI s9), .int (eI h9), .int (eI x9)] w n (fun r w' n' => FM w w' y n ∧ ((¬ (1 ≤ h9 ∧ h9 ≤ ho wh) ∧ r = some (.int (eI 0)) ∧ MW w' y wh kn 1 R) ∨ ((1 ≤ h9 ∧ h9 ≤ ho wh) ∧ ¬ (1 ≤ s9 ∧ s9 ≤ fl wh) ∧ r = some (.int (eI 0)) ∧ MW w' y wh kn 2 R) ∨ ((1 ≤ h9 ∧ h9 ≤ ho wh) ∧ (1 ≤ s9 ∧ s9 ≤ fl wh) ∧ r = some (.int (eI (if hs s9 h9 then atV wh s9 (fun j => if j = h9 then 1 else 0) x9 else -9))) ∧ MW w' y wh (kn) 0 (R)))) (e_px0) := by
  refine e_ofV rfl (Nat.le_of_ble_eq_true rfl) ?_
  intro P9 E9 S9 M9 A9 B9 T9 C9 F hnm
  have hwh := hM.2.1
  have hY := hM.1
  have hp := pr_rg wh hwh
  have hho := ho_rg wh hwh
  have hf9 := fl_rg wh hwh
  refine e_aload_n F dX5_weight_0 rfl ?_
  refine e_aload_n F dX5_weight_1 rfl ?_
  refine e_iload_n F dX5_weight_2 rfl ?_
  refine e_callVV F u_X5_isNoHolder (by rfl) (c_X5_isNoHolder hY hwh hh9) hY rfl rfl w_ml_RX5_99 dX5_weight_3 (by rfl) (Nat.le_of_ble_eq_true rfl) (by decide) (by omega) (fun _ _ _ h _ => False.elim h) (fun r_3 w_3 n_3 h_3 hn_3 => ?_)
  obtain ⟨rfl, ew_3, en_3⟩ := h_3
  rw [ew_3, en_3]
  refine e_iconst F dX5_weight_6 ?_
  refine e_callVV F u_X5_start (by rfl) (c_X5_start hY (b01_or _) (by decide) (by decide)) hY rfl rfl w_ml_RX5_69 dX5_weight_7 (by rfl) (Nat.le_of_ble_eq_true rfl) (by decide) (by omega) (fun _ _ _ h _ => False.elim h) (fun r_7 w_7 n_7 h_7 hn_7 => ?_)
  obtain ⟨rfl, en_7, ew_7⟩ := h_7
  rw [en_7, ew_7, st1]
  refine e_if_ne F 26 dX5_weight_10 (by decide) (b01_r _) (fun c_10 => ?_) (fun c_10 => ?_)
  ·
    rw [ne_eq, b01_0, Classical.not_not] at c_10
    rw [if_neg c_10]
    refine e_iconst F dX5_weight_26 ?_
    refine e_iret F rfl (by omega) ?_ dX5_weight_27
    first
    | exact ⟨FM.th, Or.inl ⟨c_10, rfl, hM.th⟩⟩
    | exact ⟨FM.th, Or.inr (Or.inl ⟨c_10, c_23, rfl, hM.th⟩)⟩
  ·
    rw [b01_0, Classical.not_not] at c_10
    rw [if_pos c_10]
    have gM := hM.th (t2 := 0) (kn2 := kn)
    refine e_aload_n F dX5_weight_13 rfl ?_
    refine e_aload_n F dX5_weight_14 rfl ?_
    refine e_iload_n F dX5_weight_15 rfl ?_
    refine e_callVV F u_X5_isNoSet (by rfl) (c_X5_isNoSet gM.1 hwh hs9) gM.1 rfl rfl w_ml_RX5_103 dX5_weight_16 (by rfl) (Nat.le_of_ble_eq_true rfl) (by decide) (by omega) (fun _ _ _ h _ => False.elim h) (fun r_16 w_16 n_16 h_16 hn_16 => ?_)
    obtain ⟨rfl, ew_16, en_16⟩ := h_16
    rw [ew_16, en_16]
    refine e_iconst F dX5_weight_19 ?_
    refine e_callVV F u_X5_refuse (by rfl) (c_X5_refuse (t := 0) (kn := kn) (wh := wh) (y := y) gM.1 (by decide) (by decide) (b01_or _) (by decide) (by decide)) gM.1 rfl rfl w_ml_RX5_28 dX5_weight_20 (by rfl) (Nat.le_of_ble_eq_true rfl) (by decide) (by omega) (fun _ _ _ h _ => False.elim h) (fun r_20 w_20 n_20 h_20 hn_20 => ?_)
    obtain ⟨rfl, en_20, ew_20⟩ := h_20
    rw [en_20, ew_20, e_up_up, rf2, rf3]
    refine e_if_eq F 28 dX5_weight_23 (by decide) (b01_r _) (fun c_23 => ?_) (fun c_23 => ?_)
    ·
      rw [b01_0, Classical.not_not] at c_23
      rw [if_pos c_23]
      refine e_iload_n F dX5_weight_28 rfl ?_
      refine e_iload_n F dX5_weight_29 rfl ?_
      refine e_callSS F u_X5_has (by rfl) (c_X5_has (s9 := s9) (h := h9) (by omega) (by omega) (by omega) (by omega)) w_ml_RX5_87 dX5_weight_30 (by rfl) (Nat.le_of_ble_eq_true rfl) (by decide) (by omega) (fun _ _ _ h _ => False.elim h) (fun r_30 w_30 n_30 h_30 hn_30 => ?_)
      obtain ⟨rfl, ew_30, en_30⟩ := h_30
      rw [ew_30, en_30]
      refine e_if_ne F 39 dX5_weight_33 (by decide) (b01_r _) (fun c_33 => ?_) (fun c_33 => ?_)
      ·
        rw [ne_eq, b01_0, Classical.not_not] at c_33
        refine e_dom ?_
        intro hdm0
        have hyn0 := hdm0 y _ gM.1
        refine e_aload_n F dX5_weight_39 rfl ?_
        refine e_callVV F u_X5_holders (by rfl) (c_X5_holders gM.1 hwh) gM.1 rfl rfl w_ml_RX5_52 dX5_weight_40 (by rfl) (Nat.le_of_ble_eq_true rfl) (by decide) (by omega) (fun _ _ _ h _ => False.elim h) (fun r_40 w_40 n_40 h_40 hn_40 => ?_)
        obtain ⟨rfl, ew_40, en_40⟩ := h_40
        rw [ew_40, en_40]
        refine e_iconst F dX5_weight_43 ?_
        refine e_iadd F dX5_weight_44 ?_
        refine e_newI F (N := ((ho wh).toNat + 1)) (by omega) (by omega) (by omega) w_ac_int dX5_weight_45 ?_
        refine e_astore F dX5_weight_47 (by decide) ?_
        refine e_aload F dX5_weight_49 rfl ?_
        refine e_iload_n F dX5_weight_51 rfl ?_
        refine e_iconst F dX5_weight_52 ?_
        refine e_dom ?_
        intro hdm
        have hyn := hdm y _ (by rw [e_up_n (by intro e; have := hdm0 y _ gM.1; omega)]; exact gM.1)
        refine e_iast F e_up_s (by omega) (by omega) (by first | decide | omega) dX5_weight_53 ?_
        refine e_aload_n F dX5_weight_54 rfl ?_
        refine e_aload F dX5_weight_55 rfl ?_
        refine e_iload_n F dX5_weight_57 rfl ?_
        refine e_iload_n F dX5_weight_58 rfl ?_
        have gY : e_up (e_up (e_up w y (MO y 0 wh kn)) n (e_ia ((ho wh).toNat + 1) (fun _ => 0))) n (e_ia ((ho wh).toNat + 1) (e_fu (fun _ => 0) h9 1)) y = some (MO y 0 wh kn) := by rw [e_up_n (by omega), e_up_n (by omega)]; exact gM.1
        refine e_callVV F u_X5_at (by rfl) (c_X5_at gY hwh (a := n) (NA := ((ho wh).toNat + 1)) (f := e_fu (fun _ => 0) h9 1) (set := s9) (x := x9) e_up_s (by omega) (fun j j0 j1 => by rw [show e_fu (fun _ => (0 : Int)) h9 1 j = if j = h9 then 1 else 0 from rfl]; split <;> omega) (by omega) (by omega) hx9) gY rfl rfl w_ml_RX5_106 dX5_weight_59 (by rfl) (Nat.le_of_ble_eq_true rfl) (by decide) (by omega) (fun _ _ _ h _ => False.elim h) (fun r_59 w_59 n_59 h_59 hn_59 => ?_)
        obtain ⟨rfl, gK⟩ := h_59
        have gK3 : KB (e_up w y (MO y 0 wh kn)) w_59 n := fun j hj => by rw [gK j (by omega), e_up_n (by omega), e_up_n (by omega)]
        have e59 : (e_fu (fun _ => 0) h9 1 : Int → Int) = (fun j => if j = h9 then 1 else 0) := rfl
        rw [e59]
        refine e_iret F rfl (by omega) ?_ dX5_weight_62
        exact ⟨FM.th.kb (Nat.le_refl _) gK3, Or.inr (Or.inr ⟨c_10, c_23, by rw [if_pos c_33], gM.kb hdm0 gK3⟩)⟩
      ·
        rw [b01_0] at c_33
        refine e_bipush F dX5_weight_36 (by decide) ?_
        refine e_iret F rfl (by omega) ?_ dX5_weight_38
        exact ⟨FM.th, Or.inr (Or.inr ⟨c_10, c_23, by rw [if_neg c_33], gM⟩)⟩
    ·
      rw [b01_0, Classical.not_not] at c_23
      rw [if_neg c_23]
      refine e_iconst F dX5_weight_26 ?_
      refine e_iret F rfl (by omega) ?_ dX5_weight_27
      first
      | exact ⟨FM.th, Or.inl ⟨c_10, rfl, hM.th⟩⟩
      | exact ⟨FM.th, Or.inr (Or.inl ⟨c_10, c_23, rfl, hM.th⟩)⟩
set_option maxHeartbeats 4000000 in
set_option maxRecDepth 100000 in
theorem c_X5_house {K : e_K} {l : Launch} {w : e_W} {n : Nat} {y wh : Nat} {t kn : Int} {R : Nat → RD} (hM : MW w y wh kn t R) {c9 : Int} (hc9 : e_r c9) : e_Met K l yX5_house (Cond.code yX5_house cX5_house 2 (Option.some .int) :: e_TB) (3) (0) [.ref y, .int (eI c9)] w n (fun r w' n' => FM w w' y n ∧ ((¬ (0 ≤ c9 ∧ c9 ≤ 6) ∧ r = some (.int (eI 0)) ∧ MW w' y wh kn 1 R) ∨ ((0 ≤ c9 ∧ c9 ≤ 6) ∧ r = some (.int (eI (hoR wh kn R c9))) ∧ MW w' y wh (kn) 0 (R)))) (e_px0) := by
  refine e_ofV rfl (Nat.le_of_ble_eq_true rfl) ?_
  intro P9 E9 S9 M9 A9 B9 T9 C9 F hnm
  have hwh := hM.2.1
  have hY := hM.1
  have hp := pr_rg wh hwh
  have hho := ho_rg wh hwh
  have hf9 := fl_rg wh hwh
  refine e_aload_n F dX5_house_0 rfl ?_
  refine e_iload_n F dX5_house_1 rfl ?_
  refine e_iconst F dX5_house_2 ?_
  refine e_bipush F dX5_house_3 (by decide) ?_
  refine e_callSS F u_X5_isIn (by rfl) (c_X5_isIn (v := c9) (a := 0) (b := 6) hc9 (by decide) (by decide)) w_ml_RX5_48 dX5_house_5 (by rfl) (Nat.le_of_ble_eq_true rfl) (by decide) (by omega) (fun _ _ _ h _ => False.elim h) (fun r_5 w_5 n_5 h_5 hn_5 => ?_)
  obtain ⟨rfl, ew_5, en_5⟩ := h_5
  rw [ew_5, en_5]
  refine e_if_ne F 15 dX5_house_8 (by decide) (b01_r _) (fun c_8 => ?_) (fun c_8 => ?_)
  ·
    rw [ne_eq, b01_0, Classical.not_not] at c_8
    refine e_iconst F dX5_house_15 ?_
    refine e_iconst F dX5_house_16 ?_
    refine e_callVV F u_X5_start (by rfl) (c_X5_start hY (by first | exact Or.inl rfl | exact Or.inr rfl) (by decide) (by decide)) hY rfl rfl w_ml_RX5_69 dX5_house_17 (by rfl) (Nat.le_of_ble_eq_true rfl) (by decide) (by omega) (fun _ _ _ h _ => False.elim h) (fun r_17 w_17 n_17 h_17 hn_17 => ?_)
    obtain ⟨rfl, en_17, ew_17⟩ := h_17
    rw [en_17, ew_17]
    first | rw [if_pos (show (1 : Int) = 1 from rfl)] | rw [if_neg (show ¬ ((0 : Int) = 1) by decide)]
    have gM := hM.th (t2 := 0) (kn2 := kn)
    refine e_if_eq F 27 dX5_house_20 (by decide) (by decide) (fun c_20 => ?_) (fun c_20 => ?_)
    · refine e_aload_n F dX5_house_27 rfl ?_
      refine e_iload_n F dX5_house_28 rfl ?_
      refine e_callVV F u_X5_houseTold (by rfl) (c_X5_houseTold gM hc9) gM.1 rfl rfl w_ml_RX5_216 dX5_house_29 (by rfl) (Nat.le_of_ble_eq_true rfl) (by decide) (by omega) (fun _ _ _ h _ => False.elim h) (fun r_29 w_29 n_29 h_29 hn_29 => ?_)
      obtain ⟨rfl, ew_29, en_29⟩ := h_29
      rw [ew_29, en_29]
      refine e_iret F rfl (by omega) ?_ dX5_house_32
      first
      | exact ⟨FM.th, Or.inl ⟨c_8, rfl, hM.th⟩⟩
      | exact ⟨FM.th, Or.inr ⟨c_8, rfl, gM⟩⟩
    · exact absurd c_20 (by decide)
  ·
    rw [b01_0] at c_8
    refine e_iconst F dX5_house_11 ?_
    refine e_goto F 16 dX5_house_12 (by decide) ?_
    refine e_iconst F dX5_house_16 ?_
    refine e_callVV F u_X5_start (by rfl) (c_X5_start hY (by first | exact Or.inl rfl | exact Or.inr rfl) (by decide) (by decide)) hY rfl rfl w_ml_RX5_69 dX5_house_17 (by rfl) (Nat.le_of_ble_eq_true rfl) (by decide) (by omega) (fun _ _ _ h _ => False.elim h) (fun r_17 w_17 n_17 h_17 hn_17 => ?_)
    obtain ⟨rfl, en_17, ew_17⟩ := h_17
    rw [en_17, ew_17]
    first | rw [if_pos (show (1 : Int) = 1 from rfl)] | rw [if_neg (show ¬ ((0 : Int) = 1) by decide)]
    have gM := hM.th (t2 := 0) (kn2 := kn)
    refine e_if_eq F 27 dX5_house_20 (by decide) (by decide) (fun c_20 => ?_) (fun c_20 => ?_)
    · exact absurd c_20 (by decide)
    · refine e_iconst F dX5_house_23 ?_
      refine e_goto F 32 dX5_house_24 (by decide) ?_
      refine e_iret F rfl (by omega) ?_ dX5_house_32
      first
      | exact ⟨FM.th, Or.inl ⟨c_8, rfl, hM.th⟩⟩
      | exact ⟨FM.th, Or.inr ⟨c_8, rfl, gM⟩⟩
set_option maxHeartbeats 4000000 in
set_option maxRecDepth 100000 in
theorem c_X5_share {K : e_K} {l : Launch} {w : e_W} {n : Nat} {y wh : Nat} {t kn : Int} {R : Nat → RD} (hM : MW w y wh kn t R) {i9 : Int} (hi9 : e_r i9) {h9 : Int} (hh9 : e_r h9) : e_Met K l yX5_share (Cond.code yX5_share cX5_share 3 (Option.some .int) :: e_TB) (3) (0) [.ref y, .int (eI i9), .int (eI h9)] w n (fun r w' n' => FM w w' y n ∧ ((¬ ((0 ≤ i9 ∧ i9 < 6) ∧ (1 ≤ h9 ∧ h9 ≤ ho wh)) ∧ r = some (.int (eI 0)) ∧ MW w' y wh kn 1 R) ∨ (((0 ≤ i9 ∧ i9 < 6) ∧ (1 ≤ h9 ∧ h9 ≤ ho wh)) ∧ r = some (.int (eI ((R i9.toNat).A h9))) ∧ MW w' y wh (kn) 0 (R)))) (e_px0) := by
  refine e_ofV rfl (Nat.le_of_ble_eq_true rfl) ?_
  intro P9 E9 S9 M9 A9 B9 T9 C9 F hnm
  have hwh := hM.2.1
  have hY := hM.1
  have hp := pr_rg wh hwh
  have hho := ho_rg wh hwh
  have hf9 := fl_rg wh hwh
  refine e_aload_n F dX5_share_0 rfl ?_
  refine e_iload_n F dX5_share_1 rfl ?_
  refine e_callSS F u_X5_isNoDeal (by rfl) (c_X5_isNoDeal hi9) w_ml_RX5_129 dX5_share_2 (by rfl) (Nat.le_of_ble_eq_true rfl) (by decide) (by omega) (fun _ _ _ h _ => False.elim h) (fun r_2 w_2 n_2 h_2 hn_2 => ?_)
  obtain ⟨rfl, ew_2, en_2⟩ := h_2
  rw [ew_2, en_2]
  refine e_if_ne F 16 dX5_share_5 (by decide) (b01_r _) (fun c_5 => ?_) (fun c_5 => ?_)
  ·
    rw [ne_eq, b01_0, Classical.not_not] at c_5
    refine e_iconst F dX5_share_16 ?_
    refine e_goto F 21 dX5_share_17 (by decide) ?_
    refine e_iconst F dX5_share_21 ?_
    refine e_callVV F u_X5_start (by rfl) (c_X5_start hY (by first | exact Or.inl rfl | exact Or.inr rfl) (by decide) (by decide)) hY rfl rfl w_ml_RX5_69 dX5_share_22 (by rfl) (Nat.le_of_ble_eq_true rfl) (by decide) (by omega) (fun _ _ _ h _ => False.elim h) (fun r_22 w_22 n_22 h_22 hn_22 => ?_)
    obtain ⟨rfl, en_22, ew_22⟩ := h_22
    rw [en_22, ew_22]
    first | rw [if_pos (show (1 : Int) = 1 from rfl)] | rw [if_neg (show ¬ ((0 : Int) = 1) by decide)]
    have gM := hM.th (t2 := 0) (kn2 := kn)
    refine e_if_eq F 32 dX5_share_25 (by decide) (by decide) (fun c_25 => ?_) (fun c_25 => ?_)
    · exact absurd c_25 (by decide)
    · refine e_iconst F dX5_share_28 ?_
      refine e_goto F 38 dX5_share_29 (by decide) ?_
      refine e_iret F rfl (by omega) ?_ dX5_share_38
      first
      | exact ⟨FM.th, Or.inl ⟨(fun q => by omega), rfl, hM.th⟩⟩
      | exact ⟨FM.th, Or.inr ⟨⟨by omega, by omega⟩, rfl, gM⟩⟩
  ·
    rw [b01_0, Classical.not_not] at c_5
    refine e_aload_n F dX5_share_8 rfl ?_
    refine e_iload_n F dX5_share_9 rfl ?_
    refine e_callVV F u_X5_isNoHolder (by rfl) (c_X5_isNoHolder hY hwh hh9) hY rfl rfl w_ml_RX5_99 dX5_share_10 (by rfl) (Nat.le_of_ble_eq_true rfl) (by decide) (by omega) (fun _ _ _ h _ => False.elim h) (fun r_10 w_10 n_10 h_10 hn_10 => ?_)
    obtain ⟨rfl, ew_10, en_10⟩ := h_10
    rw [ew_10, en_10]
    refine e_if_eq F 20 dX5_share_13 (by decide) (b01_r _) (fun c_13 => ?_) (fun c_13 => ?_)
    ·
      rw [b01_0, Classical.not_not] at c_13
      refine e_iconst F dX5_share_20 ?_
      refine e_iconst F dX5_share_21 ?_
      refine e_callVV F u_X5_start (by rfl) (c_X5_start hY (by first | exact Or.inl rfl | exact Or.inr rfl) (by decide) (by decide)) hY rfl rfl w_ml_RX5_69 dX5_share_22 (by rfl) (Nat.le_of_ble_eq_true rfl) (by decide) (by omega) (fun _ _ _ h _ => False.elim h) (fun r_22 w_22 n_22 h_22 hn_22 => ?_)
      obtain ⟨rfl, en_22, ew_22⟩ := h_22
      rw [en_22, ew_22]
      first | rw [if_pos (show (1 : Int) = 1 from rfl)] | rw [if_neg (show ¬ ((0 : Int) = 1) by decide)]
      have gM := hM.th (t2 := 0) (kn2 := kn)
      refine e_if_eq F 32 dX5_share_25 (by decide) (by decide) (fun c_25 => ?_) (fun c_25 => ?_)
      · refine e_aload_n F dX5_share_32 rfl ?_
        refine e_iload_n F dX5_share_33 rfl ?_
        refine e_iload_n F dX5_share_34 rfl ?_
        obtain ⟨ki9, rfl⟩ : ∃ k : Nat, i9 = (k : Int) := ⟨i9.toNat, by omega⟩
        have hki9 : ki9 < 6 := by omega
        refine e_callVV F u_X5_shareOf (by rfl) (c_X5_shareOf gM hki9 (h := h9) (by omega) (by omega)) gM.1 rfl rfl w_ml_RX5_180 dX5_share_35 (by rfl) (Nat.le_of_ble_eq_true rfl) (by decide) (by omega) (fun _ _ _ h _ => False.elim h) (fun r_35 w_35 n_35 h_35 hn_35 => ?_)
        obtain ⟨rfl, ew_35, en_35⟩ := h_35
        rw [ew_35, en_35]
        refine e_iret F rfl (by omega) ?_ dX5_share_38
        first
        | exact ⟨FM.th, Or.inl ⟨(fun q => by omega), rfl, hM.th⟩⟩
        | exact ⟨FM.th, Or.inr ⟨⟨by omega, by omega⟩, rfl, gM⟩⟩
      · exact absurd c_25 (by decide)
    ·
      rw [b01_0, Classical.not_not] at c_13
      refine e_iconst F dX5_share_16 ?_
      refine e_goto F 21 dX5_share_17 (by decide) ?_
      refine e_iconst F dX5_share_21 ?_
      refine e_callVV F u_X5_start (by rfl) (c_X5_start hY (by first | exact Or.inl rfl | exact Or.inr rfl) (by decide) (by decide)) hY rfl rfl w_ml_RX5_69 dX5_share_22 (by rfl) (Nat.le_of_ble_eq_true rfl) (by decide) (by omega) (fun _ _ _ h _ => False.elim h) (fun r_22 w_22 n_22 h_22 hn_22 => ?_)
      obtain ⟨rfl, en_22, ew_22⟩ := h_22
      rw [en_22, ew_22]
      first | rw [if_pos (show (1 : Int) = 1 from rfl)] | rw [if_neg (show ¬ ((0 : Int) = 1) by decide)]
      have gM := hM.th (t2 := 0) (kn2 := kn)
      refine e_if_eq F 32 dX5_share_25 (by decide) (by decide) (fun c_25 => ?_) (fun c_25 => ?_)
      · exact absurd c_25 (by decide)
      · refine e_iconst F dX5_share_28 ?_
        refine e_goto F 38 dX5_share_29 (by decide) ?_
        refine e_iret F rfl (by omega) ?_ dX5_share_38
        first
        | exact ⟨FM.th, Or.inl ⟨(fun q => by omega), rfl, hM.th⟩⟩
        | exact ⟨FM.th, Or.inr ⟨⟨by omega, by omega⟩, rfl, gM⟩⟩
set_option maxHeartbeats 4000000 in
set_option maxRecDepth 100000 in
theorem c_X5_wrong {K : e_K} {l : Launch} {w : e_W} {n : Nat} {y wh : Nat} {t kn : Int} {R : Nat → RD} (hM : MW w y wh kn t R) {i9 : Int} (hi9 : e_r i9) : e_Met K l yX5_wrong (Cond.code yX5_wrong cX5_wrong 2 (Option.some .int) :: e_TB) (7) (16) [.ref y, .int (eI i9)] w n (fun r w' n' => FM w w' y n ∧ ((¬ (0 ≤ i9 ∧ i9 < 6) ∧ r = some (.int (eI 0)) ∧ MW w' y wh kn 1 R) ∨ ((0 ≤ i9 ∧ i9 < 6) ∧ r = some (.int (eI (wrV wh (R i9.toNat)))) ∧ MW w' y wh (kn) 0 (R)))) (e_px0) := by
  refine e_ofV rfl (Nat.le_of_ble_eq_true rfl) ?_
  intro P9 E9 S9 M9 A9 B9 T9 C9 F hnm
  have hwh := hM.2.1
  have hY := hM.1
  have hp := pr_rg wh hwh
  have hho := ho_rg wh hwh
  have hf9 := fl_rg wh hwh
  refine e_aload_n F dX5_wrong_0 rfl ?_
  refine e_iload_n F dX5_wrong_1 rfl ?_
  refine e_callSS F u_X5_isNoDeal (by rfl) (c_X5_isNoDeal hi9) w_ml_RX5_129 dX5_wrong_2 (by rfl) (Nat.le_of_ble_eq_true rfl) (by decide) (by omega) (fun _ _ _ h _ => False.elim h) (fun r_2 w_2 n_2 h_2 hn_2 => ?_)
  obtain ⟨rfl, ew_2, en_2⟩ := h_2
  rw [ew_2, en_2]
  refine e_iconst F dX5_wrong_5 ?_
  refine e_callVV F u_X5_start (by rfl) (c_X5_start hY (b01_or _) (by decide) (by decide)) hY rfl rfl w_ml_RX5_69 dX5_wrong_6 (by rfl) (Nat.le_of_ble_eq_true rfl) (by decide) (by omega) (fun _ _ _ h _ => False.elim h) (fun r_6 w_6 n_6 h_6 hn_6 => ?_)
  obtain ⟨rfl, en_6, ew_6⟩ := h_6
  rw [en_6, ew_6, st1]
  refine e_if_eq F 16 dX5_wrong_9 (by decide) (b01_r _) (fun c_9 => ?_) (fun c_9 => ?_)
  ·
    rw [b01_0, Classical.not_not] at c_9
    rw [if_pos c_9]
    have gM := hM.th (t2 := 0) (kn2 := kn)
    refine e_aload_n F dX5_wrong_16 rfl ?_
    refine e_iload_n F dX5_wrong_17 rfl ?_
    obtain ⟨ki9, rfl⟩ : ∃ k : Nat, i9 = (k : Int) := ⟨i9.toNat, by omega⟩
    have hki9 : ki9 < 6 := by omega
    refine e_dom ?_
    intro hdm
    refine e_callVV F u_X5_wrongOf (by rfl) (c_X5_wrongOf gM hki9) gM.1 rfl rfl w_ml_RX5_174 dX5_wrong_18 (by rfl) (Nat.le_of_ble_eq_true rfl) (by decide) (by omega) (fun _ _ _ h _ => False.elim h) (fun r_18 w_18 n_18 h_18 hn_18 => ?_)
    obtain ⟨rfl, gK⟩ := h_18
    refine e_iret F rfl (by omega) ?_ dX5_wrong_21
    first
    | exact ⟨FM.th, Or.inl ⟨c_9, rfl, hM.th⟩⟩
    | exact ⟨FM.th.kb (Nat.le_refl _) gK, Or.inr ⟨(by omega), rfl, gM.kb hdm gK⟩⟩
  ·
    rw [b01_0, Classical.not_not] at c_9
    rw [if_neg c_9]
    refine e_iconst F dX5_wrong_12 ?_
    refine e_goto F 21 dX5_wrong_13 (by decide) ?_
    refine e_iret F rfl (by omega) ?_ dX5_wrong_21
    first
    | exact ⟨FM.th, Or.inl ⟨c_9, rfl, hM.th⟩⟩
    | exact ⟨FM.th.kb (Nat.le_refl _) gK, Or.inr ⟨(by omega), rfl, gM.kb hdm gK⟩⟩
set_option maxHeartbeats 4000000 in
set_option maxRecDepth 100000 in
theorem c_X5_suspects {K : e_K} {l : Launch} {w : e_W} {n : Nat} {y wh : Nat} {t kn : Int} {R : Nat → RD} (hM : MW w y wh kn t R) {i9 : Int} (hi9 : e_r i9) : e_Met K l yX5_suspects (Cond.code yX5_suspects cX5_suspects 2 (Option.some .int) :: e_TB) (7) (16) [.ref y, .int (eI i9)] w n (fun r w' n' => FM w w' y n ∧ ((¬ (0 ≤ i9 ∧ i9 < 6) ∧ r = some (.int (eI 0)) ∧ MW w' y wh kn 1 R) ∨ ((0 ≤ i9 ∧ i9 < 6) ∧ r = some (.int (eI (if (R i9.toNat).dg = -1 then -9 else suK wh (R i9.toNat) (ho wh).toNat))) ∧ MW w' y wh (kn) 0 (R)))) (e_px0) := by
  refine e_ofV rfl (Nat.le_of_ble_eq_true rfl) ?_
  intro P9 E9 S9 M9 A9 B9 T9 C9 F hnm
  have hwh := hM.2.1
  have hY := hM.1
  have hp := pr_rg wh hwh
  have hho := ho_rg wh hwh
  have hf9 := fl_rg wh hwh
  refine e_aload_n F dX5_suspects_0 rfl ?_
  refine e_iload_n F dX5_suspects_1 rfl ?_
  refine e_callSS F u_X5_isNoDeal (by rfl) (c_X5_isNoDeal hi9) w_ml_RX5_129 dX5_suspects_2 (by rfl) (Nat.le_of_ble_eq_true rfl) (by decide) (by omega) (fun _ _ _ h _ => False.elim h) (fun r_2 w_2 n_2 h_2 hn_2 => ?_)
  obtain ⟨rfl, ew_2, en_2⟩ := h_2
  rw [ew_2, en_2]
  refine e_iconst F dX5_suspects_5 ?_
  refine e_callVV F u_X5_start (by rfl) (c_X5_start hY (b01_or _) (by decide) (by decide)) hY rfl rfl w_ml_RX5_69 dX5_suspects_6 (by rfl) (Nat.le_of_ble_eq_true rfl) (by decide) (by omega) (fun _ _ _ h _ => False.elim h) (fun r_6 w_6 n_6 h_6 hn_6 => ?_)
  obtain ⟨rfl, en_6, ew_6⟩ := h_6
  rw [en_6, ew_6, st1]
  refine e_if_eq F 14 dX5_suspects_9 (by decide) (b01_r _) (fun c_9 => ?_) (fun c_9 => ?_)
  ·
    rw [b01_0, Classical.not_not] at c_9
    rw [if_pos c_9]
    have gM := hM.th (t2 := 0) (kn2 := kn)
    obtain ⟨ki9, rfl⟩ : ∃ k : Nat, i9 = (k : Int) := ⟨i9.toNat, by omega⟩
    have hki9 : ki9 < 6 := by omega
    refine e_dom ?_
    intro hdm
    refine e_aload_n F dX5_suspects_14 rfl ?_
    refine e_iload_n F dX5_suspects_15 rfl ?_
    refine e_callVV F u_X5_isEmpty (by rfl) (c_X5_isEmpty gM (i := ki9) hki9) gM.1 rfl rfl w_ml_RX5_113 dX5_suspects_16 (by rfl) (Nat.le_of_ble_eq_true rfl) (by decide) (by omega) (fun _ _ _ h _ => False.elim h) (fun r_16 w_16 n_16 h_16 hn_16 => ?_)
    obtain ⟨rfl, ew_16, en_16⟩ := h_16
    rw [ew_16, en_16]
    refine e_if_eq F 27 dX5_suspects_19 (by decide) (b01_r _) (fun c_19 => ?_) (fun c_19 => ?_)
    ·
      rw [b01_0] at c_19
      refine e_aload_n F dX5_suspects_27 rfl ?_
      refine e_iload_n F dX5_suspects_28 rfl ?_
      refine e_callVV F u_X5_suspectsOf (by rfl) (c_X5_suspectsOf gM hki9 c_19) gM.1 rfl rfl w_ml_RX5_171 dX5_suspects_29 (by rfl) (Nat.le_of_ble_eq_true rfl) (by decide) (by omega) (fun _ _ _ h _ => False.elim h) (fun r_29 w_29 n_29 h_29 hn_29 => ?_)
      obtain ⟨rfl, gK⟩ := h_29
      refine e_iret F rfl (by omega) ?_ dX5_suspects_32
      first
      | (refine ⟨FM.th.kb (Nat.le_refl _) gK, Or.inr ⟨by omega, ?_, gM.kb hdm gK⟩⟩
         rw [if_neg (show ¬ (R ((ki9 : Nat) : Int).toNat).dg = -1 from c_19)]
         rfl)
      | (refine ⟨FM.th, Or.inr ⟨by omega, ?_, gM⟩⟩
         rw [if_pos (show (R ((ki9 : Nat) : Int).toNat).dg = -1 from c_19)])
    ·
      rw [b01_0, Classical.not_not] at c_19
      refine e_bipush F dX5_suspects_22 (by decide) ?_
      refine e_goto F 32 dX5_suspects_24 (by decide) ?_
      refine e_iret F rfl (by omega) ?_ dX5_suspects_32
      first
      | (refine ⟨FM.th.kb (Nat.le_refl _) gK, Or.inr ⟨by omega, ?_, gM.kb hdm gK⟩⟩
         rw [if_neg (show ¬ (R ((ki9 : Nat) : Int).toNat).dg = -1 from c_19)]
         rfl)
      | (refine ⟨FM.th, Or.inr ⟨by omega, ?_, gM⟩⟩
         rw [if_pos (show (R ((ki9 : Nat) : Int).toNat).dg = -1 from c_19)])
  ·
    rw [b01_0, Classical.not_not] at c_9
    rw [if_neg c_9]
    refine e_iconst F dX5_suspects_12 ?_
    refine e_iret F rfl (by omega) ?_ dX5_suspects_13
    exact ⟨FM.th, Or.inl ⟨c_9, rfl, hM.th⟩⟩
end
-- 52.asks.lean.txt
section
/-! the reference: what is asked of deals -/
theorem noT_ok {wh : Nat} {i s9 : Int} (h : (0 ≤ i ∧ i < 6) ∧ (1 ≤ s9 ∧ s9 ≤ fl wh)) : noT wh i s9 = 0 := by
  unfold noT
  rw [if_neg (fun q => q h.1), if_neg (fun q => q h.2)]
theorem noT_1 {wh : Nat} {i s9 : Int} (h : ¬ (0 ≤ i ∧ i < 6)) : noT wh i s9 = 1 := by
  unfold noT
  rw [if_pos h]
theorem noT_2 {wh : Nat} {i s9 : Int} (h : 0 ≤ i ∧ i < 6) (h2 : ¬ (1 ≤ s9 ∧ s9 ≤ fl wh)) : noT wh i s9 = 2 := by
  unfold noT
  rw [if_neg (fun q => q h), if_pos h2]
set_option maxHeartbeats 4000000 in
set_option maxRecDepth 100000 in
theorem c_X5_told {K : e_K} {l : Launch} {w : e_W} {n : Nat} {y wh : Nat} {t kn : Int} {R : Nat → RD} (hM : MW w y wh kn t R) {i9 : Int} (hi9 : e_r i9) {a9 : Int} (ha9 : e_r a9) {x9 : Int} (hx9 : e_r x9) : e_Met K l yX5_told (Cond.code yX5_told cX5_told 4 (Option.some .int) :: e_TB) (5) (2) [.ref y, .int (eI i9), .int (eI a9), .int (eI x9)] w n (fun r w' n' => FM w w' y n ∧ ((¬ (0 ≤ i9 ∧ i9 < 6) ∧ r = some (.int (eI 0)) ∧ MW w' y wh kn 1 R) ∨ ((0 ≤ i9 ∧ i9 < 6) ∧ ¬ (1 ≤ a9 ∧ a9 ≤ fl wh) ∧ r = some (.int (eI 0)) ∧ MW w' y wh kn 2 R) ∨ ((0 ≤ i9 ∧ i9 < 6) ∧ (1 ≤ a9 ∧ a9 ≤ fl wh) ∧ r = some (.int (eI (if (thQ wh (R i9.toNat) a9) then atV wh a9 (R i9.toNat).A x9 else -9))) ∧ MW w' y wh (kn) 0 (R)))) (e_px0) := by
  refine e_ofV rfl (Nat.le_of_ble_eq_true rfl) ?_
  intro P9 E9 S9 M9 A9 B9 T9 C9 F hnm
  have hwh := hM.2.1
  have hY := hM.1
  have hp := pr_rg wh hwh
  have hho := ho_rg wh hwh
  have hf9 := fl_rg wh hwh
  refine e_aload_n F dX5_told_0 rfl ?_
  refine e_iload_n F dX5_told_1 rfl ?_
  refine e_iload_n F dX5_told_2 rfl ?_
  refine e_callVV F u_X5_isNo (by rfl) (c_X5_isNo hY hwh hi9 ha9) hY rfl rfl w_ml_RX5_189 dX5_told_3 (by rfl) (Nat.le_of_ble_eq_true rfl) (by decide) (by omega) (fun _ _ _ h _ => False.elim h) (fun r_3 w_3 n_3 h_3 hn_3 => ?_)
  obtain ⟨rfl, en_3, ew_3⟩ := h_3
  rw [en_3, ew_3]
  refine e_if_eq F 11 dX5_told_6 (by decide) (b01_r _) (fun c_6 => ?_) (fun c_6 => ?_)
  ·
    rw [b01_0, Classical.not_not] at c_6
    rw [noT_ok c_6]
    have gM := hM.th (t2 := 0) (kn2 := kn)
    obtain ⟨h_i, h_s⟩ := c_6
    obtain ⟨ki9, rfl⟩ : ∃ k : Nat, i9 = (k : Int) := ⟨i9.toNat, by omega⟩
    have hki9 : ki9 < 6 := by omega
    rw [show ((ki9 : Nat) : Int).toNat = ki9 from rfl]
    refine e_dom ?_
    intro hdm
    obtain ⟨gY, _, ⟨G, gG, gGe⟩, ⟨SS, PP, gS, gP, gMD⟩, gRV⟩ := id gM
    refine e_aload_n F dX5_told_11 rfl ?_
    refine e_iload_n F dX5_told_12 rfl ?_
    refine e_iload_n F dX5_told_13 rfl ?_
    refine e_callVV F u_X5_isThere (by rfl) (c_X5_isThere gM hki9 (set := a9) (by omega) (by omega)) gY rfl rfl w_ml_RX5_122 dX5_told_14 (by rfl) (Nat.le_of_ble_eq_true rfl) (by decide) (by omega) (fun _ _ _ h _ => False.elim h) (fun r_14 w_14 n_14 h_14 hn_14 => ?_)
    obtain ⟨rfl, ew_14, en_14⟩ := h_14
    rw [ew_14, en_14]
    refine e_if_eq F 35 dX5_told_17 (by decide) (b01_r _) (fun c_17 => ?_) (fun c_17 => ?_)
    ·
      rw [b01_0] at c_17
      refine e_bipush F dX5_told_35 (by decide) ?_
      refine e_iret F rfl (by omega) ?_ dX5_told_37
      first
      | (have q9 : thQ wh (R ki9) a9 := c_17
         rw [if_pos q9]
         exact ⟨FM.th.kb (Nat.le_refl _) gK, Or.inr (Or.inr ⟨h_i, h_s, rfl, gM.kb hdm gK⟩)⟩)
      | (have q9 : ¬ thQ wh (R ki9) a9 := c_17
         rw [if_neg q9]
         exact ⟨FM.th, Or.inr (Or.inr ⟨h_i, h_s, rfl, gM⟩)⟩)
    ·
      rw [b01_0, Classical.not_not] at c_17
      obtain ⟨a, f, hSa, hya, hwa, hfr, hfA⟩ := MD.row (gMD ki9 hki9) c_17.2
      refine e_aload_n F dX5_told_20 rfl ?_
      refine e_aload_n F dX5_told_21 rfl ?_
      refine e_get (ci := 5) (fi := 4) (q := (RX5, TX5, 6)) F gY rfl (by decide) w_fl_RX5_18 (by rfl) dX5_told_22 ?_
      refine e_iload_n F dX5_told_25 rfl ?_
      refine e_aaldr F gS (by omega) (by omega) (by decide) (hSa) dX5_told_26 ?_
      refine e_iload_n F dX5_told_27 rfl ?_
      refine e_iload_n F dX5_told_28 rfl ?_
      refine e_callVV F u_X5_at (by rfl) (c_X5_at gY hwh hwa (by omega) hfr (set := a9) (x := x9) (by omega) (by omega) hx9) gY rfl rfl w_ml_RX5_106 dX5_told_29 (by rfl) (Nat.le_of_ble_eq_true rfl) (by decide) (by omega) (fun _ _ _ h _ => False.elim h) (fun r_29 w_29 n_29 h_29 hn_29 => ?_)
      obtain ⟨rfl, gK⟩ := h_29
      have eT : atV wh a9 f x9 = atV wh a9 (R ki9).A x9 := by
        unfold atV
        rw [trK_congr (A2 := (R ki9).A) (ho wh).toNat (fun j j0 j1 => hfA j j0 (by omega))]
      rw [eT]
      refine e_goto F 37 dX5_told_32 (by decide) ?_
      refine e_iret F rfl (by omega) ?_ dX5_told_37
      first
      | (have q9 : thQ wh (R ki9) a9 := c_17
         rw [if_pos q9]
         exact ⟨FM.th.kb (Nat.le_refl _) gK, Or.inr (Or.inr ⟨h_i, h_s, rfl, gM.kb hdm gK⟩)⟩)
      | (have q9 : ¬ thQ wh (R ki9) a9 := c_17
         rw [if_neg q9]
         exact ⟨FM.th, Or.inr (Or.inr ⟨h_i, h_s, rfl, gM⟩)⟩)
  ·
    rw [b01_0, Classical.not_not] at c_6
    refine e_iconst F dX5_told_9 ?_
    refine e_iret F rfl (by omega) ?_ dX5_told_10
    by_cases q : 0 ≤ i9 ∧ i9 < 6
    · by_cases q2 : 1 ≤ a9 ∧ a9 ≤ fl wh
      · exact absurd (And.intro q q2) c_6
      · rw [noT_2 q q2]; exact ⟨FM.th, Or.inr (Or.inl ⟨q, q2, rfl, hM.th⟩)⟩
    · rw [noT_1 q]; exact ⟨FM.th, Or.inl ⟨q, rfl, hM.th⟩⟩
set_option maxHeartbeats 4000000 in
set_option maxRecDepth 100000 in
theorem c_X5_open {K : e_K} {l : Launch} {w : e_W} {n : Nat} {y wh : Nat} {t kn : Int} {R : Nat → RD} (hM : MW w y wh kn t R) {i9 : Int} (hi9 : e_r i9) {a9 : Int} (ha9 : e_r a9) : e_Met K l yX5_open (Cond.code yX5_open cX5_open 3 (Option.some .int) :: e_TB) (5) (2) [.ref y, .int (eI i9), .int (eI a9)] w n (fun r w' n' => FM w w' y n ∧ ((¬ (0 ≤ i9 ∧ i9 < 6) ∧ r = some (.int (eI 0)) ∧ MW w' y wh kn 1 R) ∨ ((0 ≤ i9 ∧ i9 < 6) ∧ ¬ (1 ≤ a9 ∧ a9 ≤ fl wh) ∧ r = some (.int (eI 0)) ∧ MW w' y wh kn 2 R) ∨ ((0 ≤ i9 ∧ i9 < 6) ∧ (1 ≤ a9 ∧ a9 ≤ fl wh) ∧ r = some (.int (eI (if (thQ wh (R i9.toNat) a9 ∧ (R i9.toNat).dg < bc a9) then atV wh a9 (R i9.toNat).A 0 else -9))) ∧ MW w' y wh (kn) 0 (R)))) (e_px0) := by
  refine e_ofV rfl (Nat.le_of_ble_eq_true rfl) ?_
  intro P9 E9 S9 M9 A9 B9 T9 C9 F hnm
  have hwh := hM.2.1
  have hY := hM.1
  have hp := pr_rg wh hwh
  have hho := ho_rg wh hwh
  have hf9 := fl_rg wh hwh
  refine e_aload_n F dX5_open_0 rfl ?_
  refine e_iload_n F dX5_open_1 rfl ?_
  refine e_iload_n F dX5_open_2 rfl ?_
  refine e_callVV F u_X5_isNo (by rfl) (c_X5_isNo hY hwh hi9 ha9) hY rfl rfl w_ml_RX5_189 dX5_open_3 (by rfl) (Nat.le_of_ble_eq_true rfl) (by decide) (by omega) (fun _ _ _ h _ => False.elim h) (fun r_3 w_3 n_3 h_3 hn_3 => ?_)
  obtain ⟨rfl, en_3, ew_3⟩ := h_3
  rw [en_3, ew_3]
  refine e_if_eq F 11 dX5_open_6 (by decide) (b01_r _) (fun c_6 => ?_) (fun c_6 => ?_)
  ·
    rw [b01_0, Classical.not_not] at c_6
    rw [noT_ok c_6]
    have gM := hM.th (t2 := 0) (kn2 := kn)
    obtain ⟨h_i, h_s⟩ := c_6
    obtain ⟨ki9, rfl⟩ : ∃ k : Nat, i9 = (k : Int) := ⟨i9.toNat, by omega⟩
    have hki9 : ki9 < 6 := by omega
    rw [show ((ki9 : Nat) : Int).toNat = ki9 from rfl]
    refine e_dom ?_
    intro hdm
    obtain ⟨gY, _, ⟨G, gG, gGe⟩, ⟨SS, PP, gS, gP, gMD⟩, gRV⟩ := id gM
    refine e_aload_n F dX5_open_11 rfl ?_
    refine e_iload_n F dX5_open_12 rfl ?_
    refine e_iload_n F dX5_open_13 rfl ?_
    refine e_callVV F u_X5_isEnough (by rfl) (c_X5_isEnough gM hki9 (set := a9) (by omega) (by omega)) gY rfl rfl w_ml_RX5_161 dX5_open_14 (by rfl) (Nat.le_of_ble_eq_true rfl) (by decide) (by omega) (fun _ _ _ h _ => False.elim h) (fun r_14 w_14 n_14 h_14 hn_14 => ?_)
    obtain ⟨rfl, ew_14, en_14⟩ := h_14
    rw [ew_14, en_14]
    refine e_if_eq F 35 dX5_open_17 (by decide) (b01_r _) (fun c_17 => ?_) (fun c_17 => ?_)
    ·
      rw [b01_0] at c_17
      refine e_bipush F dX5_open_35 (by decide) ?_
      refine e_iret F rfl (by omega) ?_ dX5_open_37
      first
      | (have q9 : (thQ wh (R ki9) a9 ∧ (R ki9).dg < bc a9) := c_17
         rw [if_pos q9]
         exact ⟨FM.th.kb (Nat.le_refl _) gK, Or.inr (Or.inr ⟨h_i, h_s, rfl, gM.kb hdm gK⟩)⟩)
      | (have q9 : ¬ (thQ wh (R ki9) a9 ∧ (R ki9).dg < bc a9) := c_17
         rw [if_neg q9]
         exact ⟨FM.th, Or.inr (Or.inr ⟨h_i, h_s, rfl, gM⟩)⟩)
    ·
      rw [b01_0, Classical.not_not] at c_17
      obtain ⟨a, f, hSa, hya, hwa, hfr, hfA⟩ := MD.row (gMD ki9 hki9) c_17.1.2
      refine e_aload_n F dX5_open_20 rfl ?_
      refine e_aload_n F dX5_open_21 rfl ?_
      refine e_get (ci := 5) (fi := 4) (q := (RX5, TX5, 6)) F gY rfl (by decide) w_fl_RX5_18 (by rfl) dX5_open_22 ?_
      refine e_iload_n F dX5_open_25 rfl ?_
      refine e_aaldr F gS (by omega) (by omega) (by decide) (hSa) dX5_open_26 ?_
      refine e_iload_n F dX5_open_27 rfl ?_
      refine e_iconst F dX5_open_28 ?_
      refine e_callVV F u_X5_at (by rfl) (c_X5_at gY hwh hwa (by omega) hfr (set := a9) (x := 0) (by omega) (by omega) (by decide)) gY rfl rfl w_ml_RX5_106 dX5_open_29 (by rfl) (Nat.le_of_ble_eq_true rfl) (by decide) (by omega) (fun _ _ _ h _ => False.elim h) (fun r_29 w_29 n_29 h_29 hn_29 => ?_)
      obtain ⟨rfl, gK⟩ := h_29
      have eT : atV wh a9 f 0 = atV wh a9 (R ki9).A 0 := by
        unfold atV
        rw [trK_congr (A2 := (R ki9).A) (ho wh).toNat (fun j j0 j1 => hfA j j0 (by omega))]
      rw [eT]
      refine e_goto F 37 dX5_open_32 (by decide) ?_
      refine e_iret F rfl (by omega) ?_ dX5_open_37
      first
      | (have q9 : (thQ wh (R ki9) a9 ∧ (R ki9).dg < bc a9) := c_17
         rw [if_pos q9]
         exact ⟨FM.th.kb (Nat.le_refl _) gK, Or.inr (Or.inr ⟨h_i, h_s, rfl, gM.kb hdm gK⟩)⟩)
      | (have q9 : ¬ (thQ wh (R ki9) a9 ∧ (R ki9).dg < bc a9) := c_17
         rw [if_neg q9]
         exact ⟨FM.th, Or.inr (Or.inr ⟨h_i, h_s, rfl, gM⟩)⟩)
  ·
    rw [b01_0, Classical.not_not] at c_6
    refine e_iconst F dX5_open_9 ?_
    refine e_iret F rfl (by omega) ?_ dX5_open_10
    by_cases q : 0 ≤ i9 ∧ i9 < 6
    · by_cases q2 : 1 ≤ a9 ∧ a9 ≤ fl wh
      · exact absurd (And.intro q q2) c_6
      · rw [noT_2 q q2]; exact ⟨FM.th, Or.inr (Or.inl ⟨q, q2, rfl, hM.th⟩)⟩
    · rw [noT_1 q]; exact ⟨FM.th, Or.inl ⟨q, rfl, hM.th⟩⟩
set_option maxHeartbeats 4000000 in
set_option maxRecDepth 100000 in
theorem c_X5_degreeBy {K : e_K} {l : Launch} {w : e_W} {n : Nat} {y wh : Nat} {t kn : Int} {R : Nat → RD} (hM : MW w y wh kn t R) {i9 : Int} (hi9 : e_r i9) {a9 : Int} (ha9 : e_r a9) : e_Met K l yX5_degreeBy (Cond.code yX5_degreeBy cX5_degreeBy 3 (Option.some .int) :: e_TB) (4) (2) [.ref y, .int (eI i9), .int (eI a9)] w n (fun r w' n' => FM w w' y n ∧ ((¬ (0 ≤ i9 ∧ i9 < 6) ∧ r = some (.int (eI 0)) ∧ MW w' y wh kn 1 R) ∨ ((0 ≤ i9 ∧ i9 < 6) ∧ ¬ (1 ≤ a9 ∧ a9 ≤ fl wh) ∧ r = some (.int (eI 0)) ∧ MW w' y wh kn 2 R) ∨ ((0 ≤ i9 ∧ i9 < 6) ∧ (1 ≤ a9 ∧ a9 ≤ fl wh) ∧ r = some (.int (eI (if (thQ wh (R i9.toNat) a9) then hiK (trK wh a9 (R i9.toNat).A (ho wh).toNat).1 7 else -9))) ∧ MW w' y wh (kn) 0 (R)))) (e_px0) := by
  refine e_ofV rfl (Nat.le_of_ble_eq_true rfl) ?_
  intro P9 E9 S9 M9 A9 B9 T9 C9 F hnm
  have hwh := hM.2.1
  have hY := hM.1
  have hp := pr_rg wh hwh
  have hho := ho_rg wh hwh
  have hf9 := fl_rg wh hwh
  refine e_aload_n F dX5_degreeBy_0 rfl ?_
  refine e_iload_n F dX5_degreeBy_1 rfl ?_
  refine e_iload_n F dX5_degreeBy_2 rfl ?_
  refine e_callVV F u_X5_isNo (by rfl) (c_X5_isNo hY hwh hi9 ha9) hY rfl rfl w_ml_RX5_189 dX5_degreeBy_3 (by rfl) (Nat.le_of_ble_eq_true rfl) (by decide) (by omega) (fun _ _ _ h _ => False.elim h) (fun r_3 w_3 n_3 h_3 hn_3 => ?_)
  obtain ⟨rfl, en_3, ew_3⟩ := h_3
  rw [en_3, ew_3]
  refine e_if_eq F 11 dX5_degreeBy_6 (by decide) (b01_r _) (fun c_6 => ?_) (fun c_6 => ?_)
  ·
    rw [b01_0, Classical.not_not] at c_6
    rw [noT_ok c_6]
    have gM := hM.th (t2 := 0) (kn2 := kn)
    obtain ⟨h_i, h_s⟩ := c_6
    obtain ⟨ki9, rfl⟩ : ∃ k : Nat, i9 = (k : Int) := ⟨i9.toNat, by omega⟩
    have hki9 : ki9 < 6 := by omega
    rw [show ((ki9 : Nat) : Int).toNat = ki9 from rfl]
    refine e_dom ?_
    intro hdm
    obtain ⟨gY, _, ⟨G, gG, gGe⟩, ⟨SS, PP, gS, gP, gMD⟩, gRV⟩ := id gM
    refine e_aload_n F dX5_degreeBy_11 rfl ?_
    refine e_iload_n F dX5_degreeBy_12 rfl ?_
    refine e_iload_n F dX5_degreeBy_13 rfl ?_
    refine e_callVV F u_X5_isThere (by rfl) (c_X5_isThere gM hki9 (set := a9) (by omega) (by omega)) gY rfl rfl w_ml_RX5_122 dX5_degreeBy_14 (by rfl) (Nat.le_of_ble_eq_true rfl) (by decide) (by omega) (fun _ _ _ h _ => False.elim h) (fun r_14 w_14 n_14 h_14 hn_14 => ?_)
    obtain ⟨rfl, ew_14, en_14⟩ := h_14
    rw [ew_14, en_14]
    refine e_if_eq F 37 dX5_degreeBy_17 (by decide) (b01_r _) (fun c_17 => ?_) (fun c_17 => ?_)
    ·
      rw [b01_0] at c_17
      refine e_bipush F dX5_degreeBy_37 (by decide) ?_
      refine e_iret F rfl (by omega) ?_ dX5_degreeBy_39
      first
      | (have q9 : thQ wh (R ki9) a9 := c_17
         rw [if_pos q9]
         exact ⟨FM.th.kb (Nat.le_refl _) gK, Or.inr (Or.inr ⟨h_i, h_s, rfl, gM.kb hdm gK⟩)⟩)
      | (have q9 : ¬ thQ wh (R ki9) a9 := c_17
         rw [if_neg q9]
         exact ⟨FM.th, Or.inr (Or.inr ⟨h_i, h_s, rfl, gM⟩)⟩)
    ·
      rw [b01_0, Classical.not_not] at c_17
      obtain ⟨a, f, hSa, hya, hwa, hfr, hfA⟩ := MD.row (gMD ki9 hki9) c_17.2
      refine e_aload_n F dX5_degreeBy_20 rfl ?_
      refine e_aload_n F dX5_degreeBy_21 rfl ?_
      refine e_get (ci := 5) (fi := 4) (q := (RX5, TX5, 6)) F gY rfl (by decide) w_fl_RX5_18 (by rfl) dX5_degreeBy_22 ?_
      refine e_iload_n F dX5_degreeBy_25 rfl ?_
      refine e_aaldr F gS (by omega) (by omega) (by decide) (hSa) dX5_degreeBy_26 ?_
      refine e_iload_n F dX5_degreeBy_27 rfl ?_
      refine e_callVV F u_X5_through (by rfl) (c_X5_through gY hwh hwa (by omega) hfr (set := a9) (by omega) (by omega)) gY rfl rfl w_ml_RX5_95 dX5_degreeBy_28 (by rfl) (Nat.le_of_ble_eq_true rfl) (by decide) (by omega) (fun _ _ _ h _ => False.elim h) (fun r_28 w_28 n_28 h_28 hn_28 => ?_)
      obtain ⟨rfl, ⟨g, hg, he⟩, gK, en_28⟩ := h_28
      rw [en_28]
      have eT : trK wh a9 f (ho wh).toNat = trK wh a9 (R ki9).A (ho wh).toNat := trK_congr _ (fun j j0 j1 => hfA j j0 (by omega))
      rw [eT] at he
      have hr := fun c => (trK_rg hwh a9 (R ki9).A (ho wh).toNat c).1
      refine e_callSS F u_X5_degreeOf (by rfl) (c_X5_degreeOf hg (fun j j0 j1 => by rw [he j j0 j1]; have := hr j; omega)) w_ml_RX5_125 dX5_degreeBy_31 (by rfl) (Nat.le_of_ble_eq_true rfl) (by decide) (by omega) (fun _ _ _ h _ => False.elim h) (fun r_31 w_31 n_31 h_31 hn_31 => ?_)
      obtain ⟨rfl, ew_31, en_31⟩ := h_31
      have e31 : hiK g 7 = hiK (trK wh a9 (R ki9).A (ho wh).toNat).1 7 := hiK_congr 7 (fun j j0 j1 => he j j0 (by omega))
      rw [ew_31, en_31, e31]
      refine e_goto F 39 dX5_degreeBy_34 (by decide) ?_
      refine e_iret F rfl (by omega) ?_ dX5_degreeBy_39
      first
      | (have q9 : thQ wh (R ki9) a9 := c_17
         rw [if_pos q9]
         exact ⟨FM.th.kb (Nat.le_refl _) gK, Or.inr (Or.inr ⟨h_i, h_s, rfl, gM.kb hdm gK⟩)⟩)
      | (have q9 : ¬ thQ wh (R ki9) a9 := c_17
         rw [if_neg q9]
         exact ⟨FM.th, Or.inr (Or.inr ⟨h_i, h_s, rfl, gM⟩)⟩)
  ·
    rw [b01_0, Classical.not_not] at c_6
    refine e_iconst F dX5_degreeBy_9 ?_
    refine e_iret F rfl (by omega) ?_ dX5_degreeBy_10
    by_cases q : 0 ≤ i9 ∧ i9 < 6
    · by_cases q2 : 1 ≤ a9 ∧ a9 ≤ fl wh
      · exact absurd (And.intro q q2) c_6
      · rw [noT_2 q q2]; exact ⟨FM.th, Or.inr (Or.inl ⟨q, q2, rfl, hM.th⟩)⟩
    · rw [noT_1 q]; exact ⟨FM.th, Or.inl ⟨q, rfl, hM.th⟩⟩
set_option maxHeartbeats 4000000 in
set_option maxRecDepth 100000 in
theorem c_X5_agrees {K : e_K} {l : Launch} {w : e_W} {n : Nat} {y wh : Nat} {t kn : Int} {R : Nat → RD} (hM : MW w y wh kn t R) {i9 : Int} (hi9 : e_r i9) {a9 : Int} (ha9 : e_r a9) : e_Met K l yX5_agrees (Cond.code yX5_agrees cX5_agrees 3 (Option.some .int) :: e_TB) (5) (2) [.ref y, .int (eI i9), .int (eI a9)] w n (fun r w' n' => FM w w' y n ∧ ((¬ (0 ≤ i9 ∧ i9 < 6) ∧ r = some (.int (eI 0)) ∧ MW w' y wh kn 1 R) ∨ ((0 ≤ i9 ∧ i9 < 6) ∧ ¬ (1 ≤ a9 ∧ a9 ≤ fl wh) ∧ r = some (.int (eI 0)) ∧ MW w' y wh kn 2 R) ∨ ((0 ≤ i9 ∧ i9 < 6) ∧ (1 ≤ a9 ∧ a9 ≤ fl wh) ∧ r = some (.int (eI (if (thQ wh (R i9.toNat) a9) then b01 (agD wh (R i9.toNat) a9) else -9))) ∧ MW w' y wh (kn) 0 (R)))) (e_px0) := by
  refine e_ofV rfl (Nat.le_of_ble_eq_true rfl) ?_
  intro P9 E9 S9 M9 A9 B9 T9 C9 F hnm
  have hwh := hM.2.1
  have hY := hM.1
  have hp := pr_rg wh hwh
  have hho := ho_rg wh hwh
  have hf9 := fl_rg wh hwh
  refine e_aload_n F dX5_agrees_0 rfl ?_
  refine e_iload_n F dX5_agrees_1 rfl ?_
  refine e_iload_n F dX5_agrees_2 rfl ?_
  refine e_callVV F u_X5_isNo (by rfl) (c_X5_isNo hY hwh hi9 ha9) hY rfl rfl w_ml_RX5_189 dX5_agrees_3 (by rfl) (Nat.le_of_ble_eq_true rfl) (by decide) (by omega) (fun _ _ _ h _ => False.elim h) (fun r_3 w_3 n_3 h_3 hn_3 => ?_)
  obtain ⟨rfl, en_3, ew_3⟩ := h_3
  rw [en_3, ew_3]
  refine e_if_eq F 11 dX5_agrees_6 (by decide) (b01_r _) (fun c_6 => ?_) (fun c_6 => ?_)
  ·
    rw [b01_0, Classical.not_not] at c_6
    rw [noT_ok c_6]
    have gM := hM.th (t2 := 0) (kn2 := kn)
    obtain ⟨h_i, h_s⟩ := c_6
    obtain ⟨ki9, rfl⟩ : ∃ k : Nat, i9 = (k : Int) := ⟨i9.toNat, by omega⟩
    have hki9 : ki9 < 6 := by omega
    rw [show ((ki9 : Nat) : Int).toNat = ki9 from rfl]
    refine e_dom ?_
    intro hdm
    obtain ⟨gY, _, ⟨G, gG, gGe⟩, ⟨SS, PP, gS, gP, gMD⟩, gRV⟩ := id gM
    refine e_aload_n F dX5_agrees_11 rfl ?_
    refine e_iload_n F dX5_agrees_12 rfl ?_
    refine e_iload_n F dX5_agrees_13 rfl ?_
    refine e_callVV F u_X5_isThere (by rfl) (c_X5_isThere gM hki9 (set := a9) (by omega) (by omega)) gY rfl rfl w_ml_RX5_122 dX5_agrees_14 (by rfl) (Nat.le_of_ble_eq_true rfl) (by decide) (by omega) (fun _ _ _ h _ => False.elim h) (fun r_14 w_14 n_14 h_14 hn_14 => ?_)
    obtain ⟨rfl, ew_14, en_14⟩ := h_14
    rw [ew_14, en_14]
    refine e_if_eq F 32 dX5_agrees_17 (by decide) (b01_r _) (fun c_17 => ?_) (fun c_17 => ?_)
    ·
      rw [b01_0] at c_17
      refine e_bipush F dX5_agrees_32 (by decide) ?_
      refine e_iret F rfl (by omega) ?_ dX5_agrees_34
      first
      | (have q9 : thQ wh (R ki9) a9 := c_17
         rw [if_pos q9]
         exact ⟨FM.th.kb (Nat.le_refl _) gK, Or.inr (Or.inr ⟨h_i, h_s, rfl, gM.kb hdm gK⟩)⟩)
      | (have q9 : ¬ thQ wh (R ki9) a9 := c_17
         rw [if_neg q9]
         exact ⟨FM.th, Or.inr (Or.inr ⟨h_i, h_s, rfl, gM⟩)⟩)
    ·
      rw [b01_0, Classical.not_not] at c_17
      refine e_aload_n F dX5_agrees_20 rfl ?_
      refine e_iload_n F dX5_agrees_21 rfl ?_
      refine e_iload_n F dX5_agrees_22 rfl ?_
      refine e_callVV F u_X5_isAgreed (by rfl) (c_X5_isAgreed gM hki9 (set := a9) (by omega) (by omega) c_17.2) gY rfl rfl w_ml_RX5_168 dX5_agrees_23 (by rfl) (Nat.le_of_ble_eq_true rfl) (by decide) (by omega) (fun _ _ _ h _ => False.elim h) (fun r_23 w_23 n_23 h_23 hn_23 => ?_)
      obtain ⟨rfl, gK⟩ := h_23
      refine e_callSS F u_X5_one (by rfl) (c_X5_one (b01_or _)) w_ml_RX5_80 dX5_agrees_26 (by rfl) (Nat.le_of_ble_eq_true rfl) (by decide) (by omega) (fun _ _ _ h _ => False.elim h) (fun r_26 w_26 n_26 h_26 hn_26 => ?_)
      obtain ⟨rfl, ew_26, en_26⟩ := h_26
      rw [ew_26, en_26]
      refine e_goto F 34 dX5_agrees_29 (by decide) ?_
      refine e_iret F rfl (by omega) ?_ dX5_agrees_34
      first
      | (have q9 : thQ wh (R ki9) a9 := c_17
         rw [if_pos q9]
         exact ⟨FM.th.kb (Nat.le_refl _) gK, Or.inr (Or.inr ⟨h_i, h_s, rfl, gM.kb hdm gK⟩)⟩)
      | (have q9 : ¬ thQ wh (R ki9) a9 := c_17
         rw [if_neg q9]
         exact ⟨FM.th, Or.inr (Or.inr ⟨h_i, h_s, rfl, gM⟩)⟩)
  ·
    rw [b01_0, Classical.not_not] at c_6
    refine e_iconst F dX5_agrees_9 ?_
    refine e_iret F rfl (by omega) ?_ dX5_agrees_10
    by_cases q : 0 ≤ i9 ∧ i9 < 6
    · by_cases q2 : 1 ≤ a9 ∧ a9 ≤ fl wh
      · exact absurd (And.intro q q2) c_6
      · rw [noT_2 q q2]; exact ⟨FM.th, Or.inr (Or.inl ⟨q, q2, rfl, hM.th⟩)⟩
    · rw [noT_1 q]; exact ⟨FM.th, Or.inl ⟨q, rfl, hM.th⟩⟩
set_option maxHeartbeats 4000000 in
set_option maxRecDepth 100000 in
theorem c_X5_coefficient {K : e_K} {l : Launch} {w : e_W} {n : Nat} {y wh : Nat} {t kn : Int} {R : Nat → RD} (hM : MW w y wh kn t R) {i9 : Int} (hi9 : e_r i9) {a9 : Int} (ha9 : e_r a9) {c9 : Int} (hc9 : e_r c9) : e_Met K l yX5_coefficient (Cond.code yX5_coefficient cX5_coefficient 4 (Option.some .int) :: e_TB) (4) (2) [.ref y, .int (eI i9), .int (eI a9), .int (eI c9)] w n (fun r w' n' => FM w w' y n ∧ ((¬ (0 ≤ i9 ∧ i9 < 6) ∧ r = some (.int (eI 0)) ∧ MW w' y wh kn 1 R) ∨ ((0 ≤ i9 ∧ i9 < 6) ∧ ¬ ((1 ≤ a9 ∧ a9 ≤ fl wh) ∧ (0 ≤ c9 ∧ c9 ≤ 6)) ∧ r = some (.int (eI 0)) ∧ MW w' y wh kn 2 R) ∨ ((0 ≤ i9 ∧ i9 < 6) ∧ ((1 ≤ a9 ∧ a9 ≤ fl wh) ∧ (0 ≤ c9 ∧ c9 ≤ 6)) ∧ r = some (.int (eI (if (thQ wh (R i9.toNat) a9) then (trK wh a9 (R i9.toNat).A (ho wh).toNat).1 c9 else -9))) ∧ MW w' y wh (kn) 0 (R)))) (e_px0) := by
  refine e_ofV rfl (Nat.le_of_ble_eq_true rfl) ?_
  intro P9 E9 S9 M9 A9 B9 T9 C9 F hnm
  have hwh := hM.2.1
  have hY := hM.1
  have hp := pr_rg wh hwh
  have hho := ho_rg wh hwh
  have hf9 := fl_rg wh hwh
  refine e_aload_n F dX5_coefficient_0 rfl ?_
  refine e_iload_n F dX5_coefficient_1 rfl ?_
  refine e_iload_n F dX5_coefficient_2 rfl ?_
  refine e_callVV F u_X5_isNo (by rfl) (c_X5_isNo hY hwh hi9 ha9) hY rfl rfl w_ml_RX5_189 dX5_coefficient_3 (by rfl) (Nat.le_of_ble_eq_true rfl) (by decide) (by omega) (fun _ _ _ h _ => False.elim h) (fun r_3 w_3 n_3 h_3 hn_3 => ?_)
  obtain ⟨rfl, en_3, ew_3⟩ := h_3
  rw [en_3, ew_3]
  refine e_if_ne F 32 dX5_coefficient_6 (by decide) (b01_r _) (fun c_6 => ?_) (fun c_6 => ?_)
  ·
    rw [ne_eq, b01_0, Classical.not_not] at c_6
    refine e_iconst F dX5_coefficient_32 ?_
    refine e_iret F rfl (by omega) ?_ dX5_coefficient_33
    first
    | exact ⟨FM.th, Or.inr (Or.inl ⟨h_i, fun q => c_17 q.2, rfl, hM.th⟩)⟩
    | (by_cases q : 0 ≤ i9 ∧ i9 < 6
       · by_cases q2 : 1 ≤ a9 ∧ a9 ≤ fl wh
         · exact absurd (And.intro q q2) c_6
         · rw [noT_2 q q2]; exact ⟨FM.th, Or.inr (Or.inl ⟨q, fun z => q2 z.1, rfl, hM.th⟩)⟩
       · rw [noT_1 q]; exact ⟨FM.th, Or.inl ⟨q, rfl, hM.th⟩⟩)
  ·
    rw [b01_0, Classical.not_not] at c_6
    rw [noT_ok c_6]
    have gM := hM.th (t2 := 0) (kn2 := kn)
    obtain ⟨h_i, h_s⟩ := c_6
    obtain ⟨ki9, rfl⟩ : ∃ k : Nat, i9 = (k : Int) := ⟨i9.toNat, by omega⟩
    have hki9 : ki9 < 6 := by omega
    rw [show ((ki9 : Nat) : Int).toNat = ki9 from rfl]
    refine e_dom ?_
    intro hdm
    obtain ⟨gY, _, ⟨G, gG, gGe⟩, ⟨SS, PP, gS, gP, gMD⟩, gRV⟩ := id gM
    refine e_aload_n F dX5_coefficient_9 rfl ?_
    refine e_iload_n F dX5_coefficient_10 rfl ?_
    refine e_iconst F dX5_coefficient_11 ?_
    refine e_bipush F dX5_coefficient_12 (by decide) ?_
    refine e_callSS F u_X5_isIn (by rfl) (c_X5_isIn (v := c9) (a := 0) (b := 6) hc9 (by decide) (by decide)) w_ml_RX5_48 dX5_coefficient_14 (by rfl) (Nat.le_of_ble_eq_true rfl) (by decide) (by omega) (fun _ _ _ h _ => False.elim h) (fun r_14 w_14 n_14 h_14 hn_14 => ?_)
    obtain ⟨rfl, ew_14, en_14⟩ := h_14
    rw [ew_14, en_14]
    refine e_if_ne F 24 dX5_coefficient_17 (by decide) (b01_r _) (fun c_17 => ?_) (fun c_17 => ?_)
    ·
      rw [ne_eq, b01_0, Classical.not_not] at c_17
      refine e_iconst F dX5_coefficient_24 ?_
      refine e_iconst F dX5_coefficient_25 ?_
      refine e_callVV F u_X5_refuse (by rfl) (c_X5_refuse gY (by decide) (by decide) (by first | exact Or.inl rfl | exact Or.inr rfl) (by decide) (by decide)) gY rfl rfl w_ml_RX5_28 dX5_coefficient_26 (by rfl) (Nat.le_of_ble_eq_true rfl) (by decide) (by omega) (fun _ _ _ h _ => False.elim h) (fun r_26 w_26 n_26 h_26 hn_26 => ?_)
      obtain ⟨rfl, en_26, ew_26⟩ := h_26
      rw [en_26, ew_26, e_up_up]
      first | (rw [if_pos (show (1 : Int) = 1 ∧ (0 : Int) = 0 by decide), b01_t (by decide)]) | (rw [if_neg (show ¬ ((0 : Int) = 1 ∧ (0 : Int) = 0) by decide), b01_f (by decide)])
      refine e_if_eq F 34 dX5_coefficient_29 (by decide) (by decide) (fun c_29 => ?_) (fun c_29 => ?_)
      · refine e_aload_n F dX5_coefficient_34 rfl ?_
        refine e_iload_n F dX5_coefficient_35 rfl ?_
        refine e_iload_n F dX5_coefficient_36 rfl ?_
        refine e_callVV F u_X5_isThere (by rfl) (c_X5_isThere gM hki9 (set := a9) (by omega) (by omega)) gY rfl rfl w_ml_RX5_122 dX5_coefficient_37 (by rfl) (Nat.le_of_ble_eq_true rfl) (by decide) (by omega) (fun _ _ _ h _ => False.elim h) (fun r_37 w_37 n_37 h_37 hn_37 => ?_)
        obtain ⟨rfl, ew_37, en_37⟩ := h_37
        rw [ew_37, en_37]
        refine e_if_eq F 59 dX5_coefficient_40 (by decide) (b01_r _) (fun c_40 => ?_) (fun c_40 => ?_)
        ·
          rw [b01_0] at c_40
          refine e_bipush F dX5_coefficient_59 (by decide) ?_
          refine e_iret F rfl (by omega) ?_ dX5_coefficient_61
          first
          | (have q9 : thQ wh (R ki9) a9 := c_40
             rw [if_pos q9]
             exact ⟨FM.th.kb (Nat.le_refl _) gK, Or.inr (Or.inr ⟨h_i, ⟨h_s, c_17⟩, rfl, gM.kb hdm gK⟩)⟩)
          | (have q9 : ¬ thQ wh (R ki9) a9 := c_40
             rw [if_neg q9]
             exact ⟨FM.th, Or.inr (Or.inr ⟨h_i, ⟨h_s, c_17⟩, rfl, gM⟩)⟩)
        ·
          rw [b01_0, Classical.not_not] at c_40
          obtain ⟨a, f, hSa, hya, hwa, hfr, hfA⟩ := MD.row (gMD ki9 hki9) c_40.2
          refine e_aload_n F dX5_coefficient_43 rfl ?_
          refine e_aload_n F dX5_coefficient_44 rfl ?_
          refine e_get (ci := 5) (fi := 4) (q := (RX5, TX5, 6)) F gY rfl (by decide) w_fl_RX5_18 (by rfl) dX5_coefficient_45 ?_
          refine e_iload_n F dX5_coefficient_48 rfl ?_
          refine e_aaldr F gS (by omega) (by omega) (by decide) (hSa) dX5_coefficient_49 ?_
          refine e_iload_n F dX5_coefficient_50 rfl ?_
          refine e_callVV F u_X5_through (by rfl) (c_X5_through gY hwh hwa (by omega) hfr (set := a9) (by omega) (by omega)) gY rfl rfl w_ml_RX5_95 dX5_coefficient_51 (by rfl) (Nat.le_of_ble_eq_true rfl) (by decide) (by omega) (fun _ _ _ h _ => False.elim h) (fun r_51 w_51 n_51 h_51 hn_51 => ?_)
          obtain ⟨rfl, ⟨g, hg, he⟩, gK, en_51⟩ := h_51
          rw [en_51]
          have eT : trK wh a9 f (ho wh).toNat = trK wh a9 (R ki9).A (ho wh).toNat := trK_congr _ (fun j j0 j1 => hfA j j0 (by omega))
          rw [eT] at he
          have hr := fun c => (trK_rg hwh a9 (R ki9).A (ho wh).toNat c).1
          refine e_iload_n F dX5_coefficient_54 rfl ?_
          refine e_iald F hg (by omega) (by omega) (by first | decide | omega) dX5_coefficient_55 ?_
          rw [he c9 (by omega) (by omega)]
          refine e_goto F 61 dX5_coefficient_56 (by decide) ?_
          refine e_iret F rfl (by omega) ?_ dX5_coefficient_61
          first
          | (have q9 : thQ wh (R ki9) a9 := c_40
             rw [if_pos q9]
             exact ⟨FM.th.kb (Nat.le_refl _) gK, Or.inr (Or.inr ⟨h_i, ⟨h_s, c_17⟩, rfl, gM.kb hdm gK⟩)⟩)
          | (have q9 : ¬ thQ wh (R ki9) a9 := c_40
             rw [if_neg q9]
             exact ⟨FM.th, Or.inr (Or.inr ⟨h_i, ⟨h_s, c_17⟩, rfl, gM⟩)⟩)
      · exact absurd c_29 (by decide)
    ·
      rw [b01_0] at c_17
      refine e_iconst F dX5_coefficient_20 ?_
      refine e_goto F 25 dX5_coefficient_21 (by decide) ?_
      refine e_iconst F dX5_coefficient_25 ?_
      refine e_callVV F u_X5_refuse (by rfl) (c_X5_refuse gY (by decide) (by decide) (by first | exact Or.inl rfl | exact Or.inr rfl) (by decide) (by decide)) gY rfl rfl w_ml_RX5_28 dX5_coefficient_26 (by rfl) (Nat.le_of_ble_eq_true rfl) (by decide) (by omega) (fun _ _ _ h _ => False.elim h) (fun r_26 w_26 n_26 h_26 hn_26 => ?_)
      obtain ⟨rfl, en_26, ew_26⟩ := h_26
      rw [en_26, ew_26, e_up_up]
      first | (rw [if_pos (show (1 : Int) = 1 ∧ (0 : Int) = 0 by decide), b01_t (by decide)]) | (rw [if_neg (show ¬ ((0 : Int) = 1 ∧ (0 : Int) = 0) by decide), b01_f (by decide)])
      refine e_if_eq F 34 dX5_coefficient_29 (by decide) (by decide) (fun c_29 => ?_) (fun c_29 => ?_)
      · exact absurd c_29 (by decide)
      · refine e_iconst F dX5_coefficient_32 ?_
        refine e_iret F rfl (by omega) ?_ dX5_coefficient_33
        first
        | exact ⟨FM.th, Or.inr (Or.inl ⟨h_i, fun q => c_17 q.2, rfl, hM.th⟩)⟩
        | (by_cases q : 0 ≤ i9 ∧ i9 < 6
           · by_cases q2 : 1 ≤ a9 ∧ a9 ≤ fl wh
             · exact absurd (And.intro q q2) c_6
             · rw [noT_2 q q2]; exact ⟨FM.th, Or.inr (Or.inl ⟨q, fun z => q2 z.1, rfl, hM.th⟩)⟩
           · rw [noT_1 q]; exact ⟨FM.th, Or.inl ⟨q, rfl, hM.th⟩⟩)
set_option maxHeartbeats 4000000 in
set_option maxRecDepth 100000 in
theorem c_X5_total {K : e_K} {l : Launch} {w : e_W} {n : Nat} {y wh : Nat} {t kn : Int} {R : Nat → RD} (hM : MW w y wh kn t R) {i9 : Int} (hi9 : e_r i9) {a9 : Int} (ha9 : e_r a9) : e_Met K l yX5_total (Cond.code yX5_total cX5_total 5 (Option.some .int) :: e_TB) (4) (0) [.ref y, .int (eI i9), .int (eI a9)] w n (fun r w' n' => FM w w' y n ∧ ((¬ (0 ≤ i9 ∧ i9 < 6) ∧ r = some (.int (eI 0)) ∧ MW w' y wh kn 1 R) ∨ ((0 ≤ i9 ∧ i9 < 6) ∧ ¬ (1 ≤ a9 ∧ a9 ≤ fl wh) ∧ r = some (.int (eI 0)) ∧ MW w' y wh kn 2 R) ∨ ((0 ≤ i9 ∧ i9 < 6) ∧ (1 ≤ a9 ∧ a9 ≤ fl wh) ∧ r = some (.int (eI (if (thQ wh (R i9.toNat) a9) then tsK a9 (R i9.toNat).A (ho wh).toNat else -9))) ∧ MW w' y wh (kn) 0 (R)))) (e_px0) := by
  refine e_ofV rfl (Nat.le_of_ble_eq_true rfl) ?_
  intro P9 E9 S9 M9 A9 B9 T9 C9 F hnm
  have hwh := hM.2.1
  have hY := hM.1
  have hp := pr_rg wh hwh
  have hho := ho_rg wh hwh
  have hf9 := fl_rg wh hwh
  refine e_aload_n F dX5_total_0 rfl ?_
  refine e_iload_n F dX5_total_1 rfl ?_
  refine e_iload_n F dX5_total_2 rfl ?_
  refine e_callVV F u_X5_isNo (by rfl) (c_X5_isNo hY hwh hi9 ha9) hY rfl rfl w_ml_RX5_189 dX5_total_3 (by rfl) (Nat.le_of_ble_eq_true rfl) (by decide) (by omega) (fun _ _ _ h _ => False.elim h) (fun r_3 w_3 n_3 h_3 hn_3 => ?_)
  obtain ⟨rfl, en_3, ew_3⟩ := h_3
  rw [en_3, ew_3]
  refine e_if_eq F 11 dX5_total_6 (by decide) (b01_r _) (fun c_6 => ?_) (fun c_6 => ?_)
  ·
    rw [b01_0, Classical.not_not] at c_6
    rw [noT_ok c_6]
    have gM := hM.th (t2 := 0) (kn2 := kn)
    obtain ⟨h_i, h_s⟩ := c_6
    obtain ⟨ki9, rfl⟩ : ∃ k : Nat, i9 = (k : Int) := ⟨i9.toNat, by omega⟩
    have hki9 : ki9 < 6 := by omega
    rw [show ((ki9 : Nat) : Int).toNat = ki9 from rfl]
    refine e_dom ?_
    intro hdm
    obtain ⟨gY, _, ⟨G, gG, gGe⟩, ⟨SS, PP, gS, gP, gMD⟩, gRV⟩ := id gM
    refine e_aload_n F dX5_total_11 rfl ?_
    refine e_iload_n F dX5_total_12 rfl ?_
    refine e_iload_n F dX5_total_13 rfl ?_
    refine e_callVV F u_X5_isThere (by rfl) (c_X5_isThere gM hki9 (set := a9) (by omega) (by omega)) gY rfl rfl w_ml_RX5_122 dX5_total_14 (by rfl) (Nat.le_of_ble_eq_true rfl) (by decide) (by omega) (fun _ _ _ h _ => False.elim h) (fun r_14 w_14 n_14 h_14 hn_14 => ?_)
    obtain ⟨rfl, ew_14, en_14⟩ := h_14
    rw [ew_14, en_14]
    refine e_if_ne F 23 dX5_total_17 (by decide) (b01_r _) (fun c_17 => ?_) (fun c_17 => ?_)
    ·
      rw [ne_eq, b01_0, Classical.not_not] at c_17
      obtain ⟨a, f, hSa, hya, hwa, hfr, hfA⟩ := MD.row (gMD ki9 hki9) c_17.2
      have lp : ∀ (N : Nat) (k : Nat), (8 - k) < N → (k : Int) ≤ ho wh → e_V K P9 l E9 (4) (0) S9 M9 A9 B9 T9 C9 5 (fun r w' n' => FM w w' y n ∧ ((¬ (0 ≤ ((ki9 : Nat) : Int) ∧ ((ki9 : Nat) : Int) < 6) ∧ r = some (.int (eI 0)) ∧ MW w' y wh kn 1 R) ∨ ((0 ≤ ((ki9 : Nat) : Int) ∧ ((ki9 : Nat) : Int) < 6) ∧ ¬ (1 ≤ a9 ∧ a9 ≤ fl wh) ∧ r = some (.int (eI 0)) ∧ MW w' y wh kn 2 R) ∨ ((0 ≤ ((ki9 : Nat) : Int) ∧ ((ki9 : Nat) : Int) < 6) ∧ (1 ≤ a9 ∧ a9 ≤ fl wh) ∧ r = some (.int (eI (if (thQ wh (R ki9) a9) then tsK a9 (R ki9).A (ho wh).toNat else -9))) ∧ MW w' y wh (kn) 0 (R)))) (e_px0) 28 [(0, .ref y), (1, .int (eI ((ki9 : Nat) : Int))), (2, .int (eI a9)), (3, .int (eI (tsK a9 (R ki9).A k))), (4, .int (eI ((k : Int) + 1)))] [] (e_up w y (MO y 0 wh kn)) n (0) := by
        intro N
        induction N with
        | zero => intro k hN; exact absurd hN (Nat.not_lt_zero _)
        | succ N ih =>
          intro k hN hk
          refine e_iload F dX5_total_28 rfl ?_
          refine e_aload_n F dX5_total_30 rfl ?_
          refine e_callVV F u_X5_holders (by rfl) (c_X5_holders gY hwh) gY rfl rfl w_ml_RX5_52 dX5_total_31 (by rfl) (Nat.le_of_ble_eq_true rfl) (by decide) (by omega) (fun _ _ _ h _ => False.elim h) (fun r_31 w_31 n_31 h_31 hn_31 => ?_)
          obtain ⟨rfl, ew_31, en_31⟩ := h_31
          rw [ew_31, en_31]
          refine e_icmp_gt F 68 dX5_total_34 (by decide) (⟨by omega, by omega⟩) (⟨by omega, by omega⟩) (fun c_34 => ?_) (fun c_34 => ?_)
          ·
            obtain rfl : k = (ho wh).toNat := by omega
            refine e_iload_n F dX5_total_68 rfl ?_
            refine e_iret F rfl (by omega) ?_ dX5_total_69
            rw [if_pos (show thQ wh (R ki9) a9 from c_17)]
            exact ⟨FM.th, Or.inr (Or.inr ⟨h_i, h_s, rfl, gM⟩)⟩
          · refine e_iload_n F dX5_total_37 rfl ?_
            refine e_iload_n F dX5_total_38 rfl ?_
            refine e_iload F dX5_total_39 rfl ?_
            refine e_callSS F u_X5_has (by rfl) (c_X5_has (s9 := a9) (by omega) (by omega) (h := (k : Int) + 1) (by omega) (by omega)) w_ml_RX5_87 dX5_total_41 (by rfl) (Nat.le_of_ble_eq_true rfl) (by decide) (by omega) (fun _ _ _ h _ => False.elim h) (fun r_41 w_41 n_41 h_41 hn_41 => ?_)
            obtain ⟨rfl, ew_41, en_41⟩ := h_41
            rw [ew_41, en_41]
            refine e_if_eq F 59 dX5_total_44 (by decide) (b01_r _) (fun c_44 => ?_) (fun c_44 => ?_)
            ·
              rw [b01_0] at c_44
              refine e_iconst F dX5_total_59 ?_
              refine e_iadd F dX5_total_60 ?_
              try rw [Int.add_zero]
              refine e_istore_n F dX5_total_61 (by decide) ?_
              refine e_iinc F dX5_total_62 rfl (by decide) ?_
              refine e_goto F 28 dX5_total_65 (by decide) ?_
              first
              | (have e9 : tsK a9 (R ki9).A (k + 1) = tsK a9 (R ki9).A k + (R ki9).A ((k : Int) + 1) := if_pos c_44
                 refine e_go (ih (k + 1) (by omega) (by omega)) ?_
                 rw [e9]
                 exact (And.intro rfl (And.intro rfl (And.intro rfl (And.intro rfl (And.intro rfl (trivial)))))))
              | (have e9 : tsK a9 (R ki9).A (k + 1) = tsK a9 (R ki9).A k := if_neg c_44
                 refine e_go (ih (k + 1) (by omega) (by omega)) ?_
                 rw [e9]
                 exact (And.intro rfl (And.intro rfl (And.intro rfl (And.intro rfl (And.intro rfl (trivial)))))))
            ·
              rw [b01_0, Classical.not_not] at c_44
              refine e_aload_n F dX5_total_47 rfl ?_
              refine e_get (ci := 5) (fi := 4) (q := (RX5, TX5, 6)) F gY rfl (by decide) w_fl_RX5_18 (by rfl) dX5_total_48 ?_
              refine e_iload_n F dX5_total_51 rfl ?_
              refine e_aaldr F gS (by omega) (by omega) (by decide) (hSa) dX5_total_52 ?_
              refine e_iload F dX5_total_53 rfl ?_
              refine e_iald F hwa (by omega) (by omega) (by first | decide | omega) dX5_total_55 ?_
              rw [hfA _ (by omega) (by omega)]
              refine e_goto F 60 dX5_total_56 (by decide) ?_
              refine e_iadd F dX5_total_60 ?_
              try rw [Int.add_zero]
              refine e_istore_n F dX5_total_61 (by decide) ?_
              refine e_iinc F dX5_total_62 rfl (by decide) ?_
              refine e_goto F 28 dX5_total_65 (by decide) ?_
              first
              | (have e9 : tsK a9 (R ki9).A (k + 1) = tsK a9 (R ki9).A k + (R ki9).A ((k : Int) + 1) := if_pos c_44
                 refine e_go (ih (k + 1) (by omega) (by omega)) ?_
                 rw [e9]
                 exact (And.intro rfl (And.intro rfl (And.intro rfl (And.intro rfl (And.intro rfl (trivial)))))))
              | (have e9 : tsK a9 (R ki9).A (k + 1) = tsK a9 (R ki9).A k := if_neg c_44
                 refine e_go (ih (k + 1) (by omega) (by omega)) ?_
                 rw [e9]
                 exact (And.intro rfl (And.intro rfl (And.intro rfl (And.intro rfl (And.intro rfl (trivial)))))))
      refine e_iconst F dX5_total_23 ?_
      refine e_istore_n F dX5_total_24 (by decide) ?_
      refine e_iconst F dX5_total_25 ?_
      refine e_istore F dX5_total_26 (by decide) ?_
      exact e_go (lp 9 0 (by omega) (by omega)) (And.intro rfl (And.intro rfl (And.intro rfl (And.intro rfl (And.intro rfl (trivial))))))
    ·
      rw [b01_0] at c_17
      refine e_bipush F dX5_total_20 (by decide) ?_
      refine e_iret F rfl (by omega) ?_ dX5_total_22
      exact ⟨FM.th, Or.inr (Or.inr ⟨h_i, h_s, by rw [if_neg (show ¬ thQ wh (R ki9) a9 from c_17)], gM⟩)⟩
  ·
    rw [b01_0, Classical.not_not] at c_6
    refine e_iconst F dX5_total_9 ?_
    refine e_iret F rfl (by omega) ?_ dX5_total_10
    by_cases q : 0 ≤ i9 ∧ i9 < 6
    · by_cases q2 : 1 ≤ a9 ∧ a9 ≤ fl wh
      · exact absurd (And.intro q q2) c_6
      · rw [noT_2 q q2]; exact ⟨FM.th, Or.inr (Or.inl ⟨q, q2, rfl, hM.th⟩)⟩
    · rw [noT_1 q]; exact ⟨FM.th, Or.inl ⟨q, rfl, hM.th⟩⟩
set_option maxHeartbeats 4000000 in
set_option maxRecDepth 100000 in
theorem c_X5_seal {K : e_K} {l : Launch} {w : e_W} {n : Nat} {y wh : Nat} {t kn : Int} {R : Nat → RD} (hM : MW w y wh kn t R) {i9 : Int} (hi9 : e_r i9) {c9 : Int} (hc9 : e_r c9) : e_Met K l yX5_seal (Cond.code yX5_seal cX5_seal 3 (Option.some .int) :: e_TB) (3) (0) [.ref y, .int (eI i9), .int (eI c9)] w n (fun r w' n' => FM w w' y n ∧ ((¬ (0 ≤ i9 ∧ i9 < 6) ∧ r = some (.int (eI 0)) ∧ MW w' y wh kn 1 R) ∨ ((0 ≤ i9 ∧ i9 < 6) ∧ ¬ (0 ≤ c9 ∧ c9 ≤ 6) ∧ r = some (.int (eI 0)) ∧ MW w' y wh kn 2 R) ∨ ((0 ≤ i9 ∧ i9 < 6) ∧ (0 ≤ c9 ∧ c9 ≤ 6) ∧ r = some (.int (eI (stV wh (R i9.toNat) c9))) ∧ MW w' y wh (kn) 0 (R)))) (e_px0) := by
  refine e_ofV rfl (Nat.le_of_ble_eq_true rfl) ?_
  intro P9 E9 S9 M9 A9 B9 T9 C9 F hnm
  have hwh := hM.2.1
  have hY := hM.1
  have hp := pr_rg wh hwh
  have hho := ho_rg wh hwh
  have hf9 := fl_rg wh hwh
  refine e_aload_n F dX5_seal_0 rfl ?_
  refine e_iload_n F dX5_seal_1 rfl ?_
  refine e_callSS F u_X5_isNoDeal (by rfl) (c_X5_isNoDeal hi9) w_ml_RX5_129 dX5_seal_2 (by rfl) (Nat.le_of_ble_eq_true rfl) (by decide) (by omega) (fun _ _ _ h _ => False.elim h) (fun r_2 w_2 n_2 h_2 hn_2 => ?_)
  obtain ⟨rfl, ew_2, en_2⟩ := h_2
  rw [ew_2, en_2]
  refine e_iconst F dX5_seal_5 ?_
  refine e_callVV F u_X5_start (by rfl) (c_X5_start hY (b01_or _) (by decide) (by decide)) hY rfl rfl w_ml_RX5_69 dX5_seal_6 (by rfl) (Nat.le_of_ble_eq_true rfl) (by decide) (by omega) (fun _ _ _ h _ => False.elim h) (fun r_6 w_6 n_6 h_6 hn_6 => ?_)
  obtain ⟨rfl, en_6, ew_6⟩ := h_6
  rw [en_6, ew_6, st1]
  refine e_if_ne F 35 dX5_seal_9 (by decide) (b01_r _) (fun c_9 => ?_) (fun c_9 => ?_)
  ·
    rw [ne_eq, b01_0, Classical.not_not] at c_9
    rw [if_neg c_9]
    refine e_iconst F dX5_seal_35 ?_
    refine e_goto F 45 dX5_seal_36 (by decide) ?_
    refine e_iret F rfl (by omega) ?_ dX5_seal_45
    first
    | exact ⟨FM.th, Or.inr (Or.inl ⟨h_i, c_20, rfl, hM.th⟩)⟩
    | exact ⟨FM.th, Or.inl ⟨c_9, rfl, hM.th⟩⟩
    | exact ⟨FM.th, Or.inr (Or.inr ⟨h_i, c_20, rfl, gM⟩)⟩
  ·
    rw [b01_0, Classical.not_not] at c_9
    rw [if_pos c_9]
    have gM := hM.th (t2 := 0) (kn2 := kn)
    have h_i := c_9
    obtain ⟨ki9, rfl⟩ : ∃ k : Nat, i9 = (k : Int) := ⟨i9.toNat, by omega⟩
    have hki9 : ki9 < 6 := by omega
    rw [show ((ki9 : Nat) : Int).toNat = ki9 from rfl]
    refine e_dom ?_
    intro hdm
    obtain ⟨gY, _, ⟨G, gG, gGe⟩, ⟨SS, PP, gS, gP, gMD⟩, gRV⟩ := id gM
    refine e_aload_n F dX5_seal_12 rfl ?_
    refine e_iload_n F dX5_seal_13 rfl ?_
    refine e_iconst F dX5_seal_14 ?_
    refine e_bipush F dX5_seal_15 (by decide) ?_
    refine e_callSS F u_X5_isIn (by rfl) (c_X5_isIn (v := c9) (a := 0) (b := 6) hc9 (by decide) (by decide)) w_ml_RX5_48 dX5_seal_17 (by rfl) (Nat.le_of_ble_eq_true rfl) (by decide) (by omega) (fun _ _ _ h _ => False.elim h) (fun r_17 w_17 n_17 h_17 hn_17 => ?_)
    obtain ⟨rfl, ew_17, en_17⟩ := h_17
    rw [ew_17, en_17]
    refine e_if_ne F 27 dX5_seal_20 (by decide) (b01_r _) (fun c_20 => ?_) (fun c_20 => ?_)
    ·
      rw [ne_eq, b01_0, Classical.not_not] at c_20
      refine e_iconst F dX5_seal_27 ?_
      refine e_iconst F dX5_seal_28 ?_
      refine e_callVV F u_X5_refuse (by rfl) (c_X5_refuse gY (by decide) (by decide) (by first | exact Or.inl rfl | exact Or.inr rfl) (by decide) (by decide)) gY rfl rfl w_ml_RX5_28 dX5_seal_29 (by rfl) (Nat.le_of_ble_eq_true rfl) (by decide) (by omega) (fun _ _ _ h _ => False.elim h) (fun r_29 w_29 n_29 h_29 hn_29 => ?_)
      obtain ⟨rfl, en_29, ew_29⟩ := h_29
      rw [en_29, ew_29, e_up_up]
      first | (rw [if_pos (show (1 : Int) = 1 ∧ (0 : Int) = 0 by decide), b01_t (by decide)]) | (rw [if_neg (show ¬ ((0 : Int) = 1 ∧ (0 : Int) = 0) by decide), b01_f (by decide)])
      refine e_if_eq F 39 dX5_seal_32 (by decide) (by decide) (fun c_32 => ?_) (fun c_32 => ?_)
      · refine e_aload_n F dX5_seal_39 rfl ?_
        refine e_iload_n F dX5_seal_40 rfl ?_
        refine e_iload_n F dX5_seal_41 rfl ?_
        refine e_callVV F u_X5_sealTold (by rfl) (c_X5_sealTold gM hki9 (k9 := c9) (by omega) (by omega)) gM.1 rfl rfl w_ml_RX5_194 dX5_seal_42 (by rfl) (Nat.le_of_ble_eq_true rfl) (by decide) (by omega) (fun _ _ _ h _ => False.elim h) (fun r_42 w_42 n_42 h_42 hn_42 => ?_)
        obtain ⟨rfl, ew_42, en_42⟩ := h_42
        rw [ew_42, en_42]
        refine e_iret F rfl (by omega) ?_ dX5_seal_45
        first
        | exact ⟨FM.th, Or.inr (Or.inl ⟨h_i, c_20, rfl, hM.th⟩)⟩
        | exact ⟨FM.th, Or.inl ⟨c_9, rfl, hM.th⟩⟩
        | exact ⟨FM.th, Or.inr (Or.inr ⟨h_i, c_20, rfl, gM⟩)⟩
      · exact absurd c_32 (by decide)
    ·
      rw [b01_0] at c_20
      refine e_iconst F dX5_seal_23 ?_
      refine e_goto F 28 dX5_seal_24 (by decide) ?_
      refine e_iconst F dX5_seal_28 ?_
      refine e_callVV F u_X5_refuse (by rfl) (c_X5_refuse gY (by decide) (by decide) (by first | exact Or.inl rfl | exact Or.inr rfl) (by decide) (by decide)) gY rfl rfl w_ml_RX5_28 dX5_seal_29 (by rfl) (Nat.le_of_ble_eq_true rfl) (by decide) (by omega) (fun _ _ _ h _ => False.elim h) (fun r_29 w_29 n_29 h_29 hn_29 => ?_)
      obtain ⟨rfl, en_29, ew_29⟩ := h_29
      rw [en_29, ew_29, e_up_up]
      first | (rw [if_pos (show (1 : Int) = 1 ∧ (0 : Int) = 0 by decide), b01_t (by decide)]) | (rw [if_neg (show ¬ ((0 : Int) = 1 ∧ (0 : Int) = 0) by decide), b01_f (by decide)])
      refine e_if_eq F 39 dX5_seal_32 (by decide) (by decide) (fun c_32 => ?_) (fun c_32 => ?_)
      · exact absurd c_32 (by decide)
      · refine e_iconst F dX5_seal_35 ?_
        refine e_goto F 45 dX5_seal_36 (by decide) ?_
        refine e_iret F rfl (by omega) ?_ dX5_seal_45
        first
        | exact ⟨FM.th, Or.inr (Or.inl ⟨h_i, c_20, rfl, hM.th⟩)⟩
        | exact ⟨FM.th, Or.inl ⟨c_9, rfl, hM.th⟩⟩
        | exact ⟨FM.th, Or.inr (Or.inr ⟨h_i, c_20, rfl, gM⟩)⟩
set_option maxHeartbeats 4000000 in
set_option maxRecDepth 100000 in
theorem c_X5_ofDeal {K : e_K} {l : Launch} {w : e_W} {n : Nat} {y wh : Nat} {t kn : Int} {R : Nat → RD} (hM : MW w y wh kn t R) {i9 : Int} (hi9 : e_r i9) {c9 : Int} (hc9 : e_r c9) : e_Met K l yX5_ofDeal (Cond.code yX5_ofDeal cX5_ofDeal 3 (Option.some .int) :: e_TB) (6) (2) [.ref y, .int (eI i9), .int (eI c9)] w n (fun r w' n' => FM w w' y n ∧ ((¬ (0 ≤ i9 ∧ i9 < 6) ∧ r = some (.int (eI 0)) ∧ MW w' y wh kn 1 R) ∨ ((0 ≤ i9 ∧ i9 < 6) ∧ ¬ (0 ≤ c9 ∧ c9 ≤ 5) ∧ r = some (.int (eI 0)) ∧ MW w' y wh kn 2 R) ∨ ((0 ≤ i9 ∧ i9 < 6) ∧ (0 ≤ c9 ∧ c9 ≤ 5) ∧ r = some (.int (eI (mdV wh (R i9.toNat) c9))) ∧ MW w' y wh (kn) 0 (R)))) (e_px0) := by
  refine e_ofV rfl (Nat.le_of_ble_eq_true rfl) ?_
  intro P9 E9 S9 M9 A9 B9 T9 C9 F hnm
  have hwh := hM.2.1
  have hY := hM.1
  have hp := pr_rg wh hwh
  have hho := ho_rg wh hwh
  have hf9 := fl_rg wh hwh
  refine e_aload_n F dX5_ofDeal_0 rfl ?_
  refine e_iload_n F dX5_ofDeal_1 rfl ?_
  refine e_callSS F u_X5_isNoDeal (by rfl) (c_X5_isNoDeal hi9) w_ml_RX5_129 dX5_ofDeal_2 (by rfl) (Nat.le_of_ble_eq_true rfl) (by decide) (by omega) (fun _ _ _ h _ => False.elim h) (fun r_2 w_2 n_2 h_2 hn_2 => ?_)
  obtain ⟨rfl, ew_2, en_2⟩ := h_2
  rw [ew_2, en_2]
  refine e_iconst F dX5_ofDeal_5 ?_
  refine e_callVV F u_X5_start (by rfl) (c_X5_start hY (b01_or _) (by decide) (by decide)) hY rfl rfl w_ml_RX5_69 dX5_ofDeal_6 (by rfl) (Nat.le_of_ble_eq_true rfl) (by decide) (by omega) (fun _ _ _ h _ => False.elim h) (fun r_6 w_6 n_6 h_6 hn_6 => ?_)
  obtain ⟨rfl, en_6, ew_6⟩ := h_6
  rw [en_6, ew_6, st1]
  refine e_if_ne F 34 dX5_ofDeal_9 (by decide) (b01_r _) (fun c_9 => ?_) (fun c_9 => ?_)
  ·
    rw [ne_eq, b01_0, Classical.not_not] at c_9
    rw [if_neg c_9]
    refine e_iconst F dX5_ofDeal_34 ?_
    refine e_goto F 44 dX5_ofDeal_35 (by decide) ?_
    refine e_iret F rfl (by omega) ?_ dX5_ofDeal_44
    first
    | exact ⟨FM.th, Or.inr (Or.inl ⟨h_i, c_19, rfl, hM.th⟩)⟩
    | exact ⟨FM.th, Or.inl ⟨c_9, rfl, hM.th⟩⟩
    | exact ⟨FM.th.kb (Nat.le_refl _) gK, Or.inr (Or.inr ⟨h_i, c_19, rfl, gM.kb hdm gK⟩)⟩
  ·
    rw [b01_0, Classical.not_not] at c_9
    rw [if_pos c_9]
    have gM := hM.th (t2 := 0) (kn2 := kn)
    have h_i := c_9
    obtain ⟨ki9, rfl⟩ : ∃ k : Nat, i9 = (k : Int) := ⟨i9.toNat, by omega⟩
    have hki9 : ki9 < 6 := by omega
    rw [show ((ki9 : Nat) : Int).toNat = ki9 from rfl]
    refine e_dom ?_
    intro hdm
    obtain ⟨gY, _, ⟨G, gG, gGe⟩, ⟨SS, PP, gS, gP, gMD⟩, gRV⟩ := id gM
    refine e_aload_n F dX5_ofDeal_12 rfl ?_
    refine e_iload_n F dX5_ofDeal_13 rfl ?_
    refine e_iconst F dX5_ofDeal_14 ?_
    refine e_iconst F dX5_ofDeal_15 ?_
    refine e_callSS F u_X5_isIn (by rfl) (c_X5_isIn (v := c9) (a := 0) (b := 5) hc9 (by decide) (by decide)) w_ml_RX5_48 dX5_ofDeal_16 (by rfl) (Nat.le_of_ble_eq_true rfl) (by decide) (by omega) (fun _ _ _ h _ => False.elim h) (fun r_16 w_16 n_16 h_16 hn_16 => ?_)
    obtain ⟨rfl, ew_16, en_16⟩ := h_16
    rw [ew_16, en_16]
    refine e_if_ne F 26 dX5_ofDeal_19 (by decide) (b01_r _) (fun c_19 => ?_) (fun c_19 => ?_)
    ·
      rw [ne_eq, b01_0, Classical.not_not] at c_19
      refine e_iconst F dX5_ofDeal_26 ?_
      refine e_iconst F dX5_ofDeal_27 ?_
      refine e_callVV F u_X5_refuse (by rfl) (c_X5_refuse gY (by decide) (by decide) (by first | exact Or.inl rfl | exact Or.inr rfl) (by decide) (by decide)) gY rfl rfl w_ml_RX5_28 dX5_ofDeal_28 (by rfl) (Nat.le_of_ble_eq_true rfl) (by decide) (by omega) (fun _ _ _ h _ => False.elim h) (fun r_28 w_28 n_28 h_28 hn_28 => ?_)
      obtain ⟨rfl, en_28, ew_28⟩ := h_28
      rw [en_28, ew_28, e_up_up]
      first | (rw [if_pos (show (1 : Int) = 1 ∧ (0 : Int) = 0 by decide), b01_t (by decide)]) | (rw [if_neg (show ¬ ((0 : Int) = 1 ∧ (0 : Int) = 0) by decide), b01_f (by decide)])
      refine e_if_eq F 38 dX5_ofDeal_31 (by decide) (by decide) (fun c_31 => ?_) (fun c_31 => ?_)
      · refine e_aload_n F dX5_ofDeal_38 rfl ?_
        refine e_iload_n F dX5_ofDeal_39 rfl ?_
        refine e_iload_n F dX5_ofDeal_40 rfl ?_
        refine e_callVV F u_X5_dealTold (by rfl) (c_X5_dealTold gM hki9 (c9 := c9) (by omega) (by omega)) gM.1 rfl rfl w_ml_RX5_186 dX5_ofDeal_41 (by rfl) (Nat.le_of_ble_eq_true rfl) (by decide) (by omega) (fun _ _ _ h _ => False.elim h) (fun r_41 w_41 n_41 h_41 hn_41 => ?_)
        obtain ⟨rfl, gK⟩ := h_41
        refine e_iret F rfl (by omega) ?_ dX5_ofDeal_44
        first
        | exact ⟨FM.th, Or.inr (Or.inl ⟨h_i, c_19, rfl, hM.th⟩)⟩
        | exact ⟨FM.th, Or.inl ⟨c_9, rfl, hM.th⟩⟩
        | exact ⟨FM.th.kb (Nat.le_refl _) gK, Or.inr (Or.inr ⟨h_i, c_19, rfl, gM.kb hdm gK⟩)⟩
      · exact absurd c_31 (by decide)
    ·
      rw [b01_0] at c_19
      refine e_iconst F dX5_ofDeal_22 ?_
      refine e_goto F 27 dX5_ofDeal_23 (by decide) ?_
      refine e_iconst F dX5_ofDeal_27 ?_
      refine e_callVV F u_X5_refuse (by rfl) (c_X5_refuse gY (by decide) (by decide) (by first | exact Or.inl rfl | exact Or.inr rfl) (by decide) (by decide)) gY rfl rfl w_ml_RX5_28 dX5_ofDeal_28 (by rfl) (Nat.le_of_ble_eq_true rfl) (by decide) (by omega) (fun _ _ _ h _ => False.elim h) (fun r_28 w_28 n_28 h_28 hn_28 => ?_)
      obtain ⟨rfl, en_28, ew_28⟩ := h_28
      rw [en_28, ew_28, e_up_up]
      first | (rw [if_pos (show (1 : Int) = 1 ∧ (0 : Int) = 0 by decide), b01_t (by decide)]) | (rw [if_neg (show ¬ ((0 : Int) = 1 ∧ (0 : Int) = 0) by decide), b01_f (by decide)])
      refine e_if_eq F 38 dX5_ofDeal_31 (by decide) (by decide) (fun c_31 => ?_) (fun c_31 => ?_)
      · exact absurd c_31 (by decide)
      · refine e_iconst F dX5_ofDeal_34 ?_
        refine e_goto F 44 dX5_ofDeal_35 (by decide) ?_
        refine e_iret F rfl (by omega) ?_ dX5_ofDeal_44
        first
        | exact ⟨FM.th, Or.inr (Or.inl ⟨h_i, c_19, rfl, hM.th⟩)⟩
        | exact ⟨FM.th, Or.inl ⟨c_9, rfl, hM.th⟩⟩
        | exact ⟨FM.th.kb (Nat.le_refl _) gK, Or.inr (Or.inr ⟨h_i, c_19, rfl, gM.kb hdm gK⟩)⟩
set_option maxHeartbeats 4000000 in
set_option maxRecDepth 100000 in
theorem c_X5_fits {K : e_K} {l : Launch} {w : e_W} {n : Nat} {y wh : Nat} {t kn : Int} {R : Nat → RD} (hM : MW w y wh kn t R) {i9 : Int} (hi9 : e_r i9) {h9 : Int} (hh9 : e_r h9) : e_Met K l yX5_fits (Cond.code yX5_fits cX5_fits 3 (Option.some .int) :: e_TB) (3) (0) [.ref y, .int (eI i9), .int (eI h9)] w n (fun r w' n' => FM w w' y n ∧ ((¬ ((0 ≤ i9 ∧ i9 < 6) ∧ (1 ≤ h9 ∧ h9 ≤ ho wh)) ∧ r = some (.int (eI 0)) ∧ MW w' y wh kn 1 R) ∨ (((0 ≤ i9 ∧ i9 < 6) ∧ (1 ≤ h9 ∧ h9 ≤ ho wh)) ∧ r = some (.int (eI (if (R i9.toNat).hp = 0 ∨ (R i9.toNat).A h9 = -1 then -9 else b01 (fiV wh (R i9.toNat) h9)))) ∧ MW w' y wh (kn) 0 (R)))) (e_px0) := by
  refine e_ofV rfl (Nat.le_of_ble_eq_true rfl) ?_
  intro P9 E9 S9 M9 A9 B9 T9 C9 F hnm
  have hwh := hM.2.1
  have hY := hM.1
  have hp := pr_rg wh hwh
  have hho := ho_rg wh hwh
  have hf9 := fl_rg wh hwh
  refine e_aload_n F dX5_fits_0 rfl ?_
  refine e_iload_n F dX5_fits_1 rfl ?_
  refine e_callSS F u_X5_isNoDeal (by rfl) (c_X5_isNoDeal hi9) w_ml_RX5_129 dX5_fits_2 (by rfl) (Nat.le_of_ble_eq_true rfl) (by decide) (by omega) (fun _ _ _ h _ => False.elim h) (fun r_2 w_2 n_2 h_2 hn_2 => ?_)
  obtain ⟨rfl, ew_2, en_2⟩ := h_2
  rw [ew_2, en_2]
  refine e_if_ne F 16 dX5_fits_5 (by decide) (b01_r _) (fun c_5 => ?_) (fun c_5 => ?_)
  ·
    rw [ne_eq, b01_0, Classical.not_not] at c_5
    refine e_iconst F dX5_fits_16 ?_
    refine e_goto F 21 dX5_fits_17 (by decide) ?_
    refine e_iconst F dX5_fits_21 ?_
    refine e_callVV F u_X5_start (by rfl) (c_X5_start hY (by first | exact Or.inl rfl | exact Or.inr rfl) (by decide) (by decide)) hY rfl rfl w_ml_RX5_69 dX5_fits_22 (by rfl) (Nat.le_of_ble_eq_true rfl) (by decide) (by omega) (fun _ _ _ h _ => False.elim h) (fun r_22 w_22 n_22 h_22 hn_22 => ?_)
    obtain ⟨rfl, en_22, ew_22⟩ := h_22
    rw [en_22, ew_22]
    first | rw [if_pos (show (1 : Int) = 1 from rfl)] | rw [if_neg (show ¬ ((0 : Int) = 1) by decide)]
    have gM := hM.th (t2 := 0) (kn2 := kn)
    refine e_if_eq F 30 dX5_fits_25 (by decide) (by decide) (fun c_25 => ?_) (fun c_25 => ?_)
    · exact absurd c_25 (by decide)
    · refine e_iconst F dX5_fits_28 ?_
      refine e_iret F rfl (by omega) ?_ dX5_fits_29
      exact ⟨FM.th, Or.inl ⟨(fun q => by omega), rfl, hM.th⟩⟩
  ·
    rw [b01_0, Classical.not_not] at c_5
    refine e_aload_n F dX5_fits_8 rfl ?_
    refine e_iload_n F dX5_fits_9 rfl ?_
    refine e_callVV F u_X5_isNoHolder (by rfl) (c_X5_isNoHolder hY hwh hh9) hY rfl rfl w_ml_RX5_99 dX5_fits_10 (by rfl) (Nat.le_of_ble_eq_true rfl) (by decide) (by omega) (fun _ _ _ h _ => False.elim h) (fun r_10 w_10 n_10 h_10 hn_10 => ?_)
    obtain ⟨rfl, ew_10, en_10⟩ := h_10
    rw [ew_10, en_10]
    refine e_if_eq F 20 dX5_fits_13 (by decide) (b01_r _) (fun c_13 => ?_) (fun c_13 => ?_)
    ·
      rw [b01_0, Classical.not_not] at c_13
      refine e_iconst F dX5_fits_20 ?_
      refine e_iconst F dX5_fits_21 ?_
      refine e_callVV F u_X5_start (by rfl) (c_X5_start hY (by first | exact Or.inl rfl | exact Or.inr rfl) (by decide) (by decide)) hY rfl rfl w_ml_RX5_69 dX5_fits_22 (by rfl) (Nat.le_of_ble_eq_true rfl) (by decide) (by omega) (fun _ _ _ h _ => False.elim h) (fun r_22 w_22 n_22 h_22 hn_22 => ?_)
      obtain ⟨rfl, en_22, ew_22⟩ := h_22
      rw [en_22, ew_22]
      first | rw [if_pos (show (1 : Int) = 1 from rfl)] | rw [if_neg (show ¬ ((0 : Int) = 1) by decide)]
      have gM := hM.th (t2 := 0) (kn2 := kn)
      refine e_if_eq F 30 dX5_fits_25 (by decide) (by decide) (fun c_25 => ?_) (fun c_25 => ?_)
      · have h_i : ((0 ≤ i9 ∧ i9 < 6) ∧ (1 ≤ h9 ∧ h9 ≤ ho wh)) := by omega
        obtain ⟨ki9, rfl⟩ : ∃ k : Nat, i9 = (k : Int) := ⟨i9.toNat, by omega⟩
        have hki9 : ki9 < 6 := by omega
        rw [show ((ki9 : Nat) : Int).toNat = ki9 from rfl]
        refine e_dom ?_
        intro hdm
        obtain ⟨gY, _, ⟨G, gG, gGe⟩, ⟨SS, PP, gS, gP, gMD⟩, gRV⟩ := id gM
        rcases MD.pw (gMD ki9 hki9) with ⟨hp0, hPn⟩ | ⟨hp1, ⟨b, g, hPb, hyb, hwb, hgr, hgE⟩, hd0⟩
        ·
          refine e_aload_n F dX5_fits_30 rfl ?_
          refine e_get (ci := 5) (fi := 5) (q := (RX5, TX5, 6)) F gY rfl (by decide) w_fl_RX5_22 (by rfl) dX5_fits_31 ?_
          refine e_iload_n F dX5_fits_34 rfl ?_
          refine e_aaldn F gP (by omega) (by omega) (by decide) (hPn) dX5_fits_35 ?_
          refine e_ifnullN F 49 dX5_fits_36 (by decide) ?_
          refine e_bipush F dX5_fits_49 (by decide) ?_
          refine e_goto F 63 dX5_fits_51 (by decide) ?_
          refine e_iret F rfl (by omega) ?_ dX5_fits_63
          exact ⟨FM.th, Or.inr ⟨h_i, by rw [if_pos (show (R ki9).hp = 0 ∨ (R ki9).A h9 = -1 from Or.inl hp0)], gM⟩⟩
        ·
          refine e_aload_n F dX5_fits_30 rfl ?_
          refine e_get (ci := 5) (fi := 5) (q := (RX5, TX5, 6)) F gY rfl (by decide) w_fl_RX5_22 (by rfl) dX5_fits_31 ?_
          refine e_iload_n F dX5_fits_34 rfl ?_
          refine e_aaldr F gP (by omega) (by omega) (by decide) (hPb) dX5_fits_35 ?_
          refine e_ifnull F dX5_fits_36 ?_
          refine e_aload_n F dX5_fits_39 rfl ?_
          refine e_iload_n F dX5_fits_40 rfl ?_
          refine e_iload_n F dX5_fits_41 rfl ?_
          refine e_callVV F u_X5_shareOf (by rfl) (c_X5_shareOf gM hki9 (h := h9) (by omega) (by omega)) gY rfl rfl w_ml_RX5_180 dX5_fits_42 (by rfl) (Nat.le_of_ble_eq_true rfl) (by decide) (by omega) (fun _ _ _ h _ => False.elim h) (fun r_42 w_42 n_42 h_42 hn_42 => ?_)
          obtain ⟨rfl, ew_42, en_42⟩ := h_42
          rw [ew_42, en_42]
          have hA9 := gM.rgA hki9 (j := h9) (by omega) (by omega)
          refine e_iconst F dX5_fits_45 ?_
          refine e_icmp_ne F 54 dX5_fits_46 (by decide) (⟨by omega, by omega⟩) (⟨by omega, by omega⟩) (fun c_46 => ?_) (fun c_46 => ?_)
          · refine e_aload_n F dX5_fits_54 rfl ?_
            refine e_iload_n F dX5_fits_55 rfl ?_
            refine e_iload_n F dX5_fits_56 rfl ?_
            refine e_callVV F u_X5_isFit (by rfl) (c_X5_isFit gM hki9 (h := h9) (by omega) (by omega) hp1) gY rfl rfl w_ml_RX5_197 dX5_fits_57 (by rfl) (Nat.le_of_ble_eq_true rfl) (by decide) (by omega) (fun _ _ _ h _ => False.elim h) (fun r_57 w_57 n_57 h_57 hn_57 => ?_)
            obtain ⟨rfl, ew_57, en_57⟩ := h_57
            rw [ew_57, en_57]
            refine e_callSS F u_X5_one (by rfl) (c_X5_one (b01_or _)) w_ml_RX5_80 dX5_fits_60 (by rfl) (Nat.le_of_ble_eq_true rfl) (by decide) (by omega) (fun _ _ _ h _ => False.elim h) (fun r_60 w_60 n_60 h_60 hn_60 => ?_)
            obtain ⟨rfl, ew_60, en_60⟩ := h_60
            rw [ew_60, en_60]
            refine e_iret F rfl (by omega) ?_ dX5_fits_63
            first
            | (have q9 : ¬ ((R ki9).hp = 0 ∨ (R ki9).A h9 = -1) := by omega
               rw [if_neg q9]
               exact ⟨FM.th, Or.inr ⟨h_i, rfl, gM⟩⟩)
            | (have q9 : (R ki9).hp = 0 ∨ (R ki9).A h9 = -1 := by omega
               rw [if_pos q9]
               exact ⟨FM.th, Or.inr ⟨h_i, rfl, gM⟩⟩)
          · refine e_bipush F dX5_fits_49 (by decide) ?_
            refine e_goto F 63 dX5_fits_51 (by decide) ?_
            refine e_iret F rfl (by omega) ?_ dX5_fits_63
            first
            | (have q9 : ¬ ((R ki9).hp = 0 ∨ (R ki9).A h9 = -1) := by omega
               rw [if_neg q9]
               exact ⟨FM.th, Or.inr ⟨h_i, rfl, gM⟩⟩)
            | (have q9 : (R ki9).hp = 0 ∨ (R ki9).A h9 = -1 := by omega
               rw [if_pos q9]
               exact ⟨FM.th, Or.inr ⟨h_i, rfl, gM⟩⟩)
      · exact absurd c_25 (by decide)
    ·
      rw [b01_0, Classical.not_not] at c_13
      refine e_iconst F dX5_fits_16 ?_
      refine e_goto F 21 dX5_fits_17 (by decide) ?_
      refine e_iconst F dX5_fits_21 ?_
      refine e_callVV F u_X5_start (by rfl) (c_X5_start hY (by first | exact Or.inl rfl | exact Or.inr rfl) (by decide) (by decide)) hY rfl rfl w_ml_RX5_69 dX5_fits_22 (by rfl) (Nat.le_of_ble_eq_true rfl) (by decide) (by omega) (fun _ _ _ h _ => False.elim h) (fun r_22 w_22 n_22 h_22 hn_22 => ?_)
      obtain ⟨rfl, en_22, ew_22⟩ := h_22
      rw [en_22, ew_22]
      first | rw [if_pos (show (1 : Int) = 1 from rfl)] | rw [if_neg (show ¬ ((0 : Int) = 1) by decide)]
      have gM := hM.th (t2 := 0) (kn2 := kn)
      refine e_if_eq F 30 dX5_fits_25 (by decide) (by decide) (fun c_25 => ?_) (fun c_25 => ?_)
      · exact absurd c_25 (by decide)
      · refine e_iconst F dX5_fits_28 ?_
        refine e_iret F rfl (by omega) ?_ dX5_fits_29
        exact ⟨FM.th, Or.inl ⟨(fun q => by omega), rfl, hM.th⟩⟩
set_option maxHeartbeats 4000000 in
set_option maxRecDepth 100000 in
theorem c_X5_order {K : e_K} {l : Launch} {w : e_W} {n : Nat} {y wh : Nat} {t kn : Int} {R : Nat → RD} (hM : MW w y wh kn t R) {i9 : Int} (hi9 : e_r i9) {j9 : Int} (hj9 : e_r j9) {h9 : Int} (hh9 : e_r h9) : e_Met K l yX5_order (Cond.code yX5_order cX5_order 6 (Option.some .int) :: e_TB) (3) (0) [.ref y, .int (eI i9), .int (eI j9), .int (eI h9)] w n (fun r w' n' => FM w w' y n ∧ ((¬ ((0 ≤ i9 ∧ i9 < 6) ∧ (0 ≤ j9 ∧ j9 < 6) ∧ (1 ≤ h9 ∧ h9 ≤ ho wh)) ∧ r = some (.int (eI 0)) ∧ MW w' y wh kn 1 R) ∨ (((0 ≤ i9 ∧ i9 < 6) ∧ (0 ≤ j9 ∧ j9 < 6) ∧ (1 ≤ h9 ∧ h9 ≤ ho wh)) ∧ r = some (.int (eI (orV ((R i9.toNat).A h9) ((R j9.toNat).A h9)))) ∧ MW w' y wh (kn) 0 (R)))) (e_px0) := by
  refine e_ofV rfl (Nat.le_of_ble_eq_true rfl) ?_
  intro P9 E9 S9 M9 A9 B9 T9 C9 F hnm
  have hwh := hM.2.1
  have hY := hM.1
  have hp := pr_rg wh hwh
  have hho := ho_rg wh hwh
  have hf9 := fl_rg wh hwh
  refine e_aload_n F dX5_order_0 rfl ?_
  refine e_iload_n F dX5_order_1 rfl ?_
  refine e_callSS F u_X5_isNoDeal (by rfl) (c_X5_isNoDeal hi9) w_ml_RX5_129 dX5_order_2 (by rfl) (Nat.le_of_ble_eq_true rfl) (by decide) (by omega) (fun _ _ _ h _ => False.elim h) (fun r_2 w_2 n_2 h_2 hn_2 => ?_)
  obtain ⟨rfl, ew_2, en_2⟩ := h_2
  rw [ew_2, en_2]
  refine e_if_ne F 23 dX5_order_5 (by decide) (b01_r _) (fun c_5 => ?_) (fun c_5 => ?_)
  ·
    rw [ne_eq, b01_0, Classical.not_not] at c_5
    refine e_iconst F dX5_order_23 ?_
    refine e_goto F 28 dX5_order_24 (by decide) ?_
    refine e_iconst F dX5_order_28 ?_
    refine e_callVV F u_X5_start (by rfl) (c_X5_start hY (by first | exact Or.inl rfl | exact Or.inr rfl) (by decide) (by decide)) hY rfl rfl w_ml_RX5_69 dX5_order_29 (by rfl) (Nat.le_of_ble_eq_true rfl) (by decide) (by omega) (fun _ _ _ h _ => False.elim h) (fun r_29 w_29 n_29 h_29 hn_29 => ?_)
    obtain ⟨rfl, en_29, ew_29⟩ := h_29
    rw [en_29, ew_29]
    first | rw [if_pos (show (1 : Int) = 1 from rfl)] | rw [if_neg (show ¬ ((0 : Int) = 1) by decide)]
    have gM := hM.th (t2 := 0) (kn2 := kn)
    refine e_if_eq F 37 dX5_order_32 (by decide) (by decide) (fun c_32 => ?_) (fun c_32 => ?_)
    · exact absurd c_32 (by decide)
    · refine e_iconst F dX5_order_35 ?_
      refine e_iret F rfl (by omega) ?_ dX5_order_36
      exact ⟨FM.th, Or.inl ⟨(fun q => by omega), rfl, hM.th⟩⟩
  ·
    rw [b01_0, Classical.not_not] at c_5
    refine e_iload_n F dX5_order_8 rfl ?_
    refine e_callSS F u_X5_isNoDeal (by rfl) (c_X5_isNoDeal hj9) w_ml_RX5_129 dX5_order_9 (by rfl) (Nat.le_of_ble_eq_true rfl) (by decide) (by omega) (fun _ _ _ h _ => False.elim h) (fun r_9 w_9 n_9 h_9 hn_9 => ?_)
    obtain ⟨rfl, ew_9, en_9⟩ := h_9
    rw [ew_9, en_9]
    refine e_if_ne F 23 dX5_order_12 (by decide) (b01_r _) (fun c_12 => ?_) (fun c_12 => ?_)
    ·
      rw [ne_eq, b01_0, Classical.not_not] at c_12
      refine e_iconst F dX5_order_23 ?_
      refine e_goto F 28 dX5_order_24 (by decide) ?_
      refine e_iconst F dX5_order_28 ?_
      refine e_callVV F u_X5_start (by rfl) (c_X5_start hY (by first | exact Or.inl rfl | exact Or.inr rfl) (by decide) (by decide)) hY rfl rfl w_ml_RX5_69 dX5_order_29 (by rfl) (Nat.le_of_ble_eq_true rfl) (by decide) (by omega) (fun _ _ _ h _ => False.elim h) (fun r_29 w_29 n_29 h_29 hn_29 => ?_)
      obtain ⟨rfl, en_29, ew_29⟩ := h_29
      rw [en_29, ew_29]
      first | rw [if_pos (show (1 : Int) = 1 from rfl)] | rw [if_neg (show ¬ ((0 : Int) = 1) by decide)]
      have gM := hM.th (t2 := 0) (kn2 := kn)
      refine e_if_eq F 37 dX5_order_32 (by decide) (by decide) (fun c_32 => ?_) (fun c_32 => ?_)
      · exact absurd c_32 (by decide)
      · refine e_iconst F dX5_order_35 ?_
        refine e_iret F rfl (by omega) ?_ dX5_order_36
        exact ⟨FM.th, Or.inl ⟨(fun q => by omega), rfl, hM.th⟩⟩
    ·
      rw [b01_0, Classical.not_not] at c_12
      refine e_aload_n F dX5_order_15 rfl ?_
      refine e_iload_n F dX5_order_16 rfl ?_
      refine e_callVV F u_X5_isNoHolder (by rfl) (c_X5_isNoHolder hY hwh hh9) hY rfl rfl w_ml_RX5_99 dX5_order_17 (by rfl) (Nat.le_of_ble_eq_true rfl) (by decide) (by omega) (fun _ _ _ h _ => False.elim h) (fun r_17 w_17 n_17 h_17 hn_17 => ?_)
      obtain ⟨rfl, ew_17, en_17⟩ := h_17
      rw [ew_17, en_17]
      refine e_if_eq F 27 dX5_order_20 (by decide) (b01_r _) (fun c_20 => ?_) (fun c_20 => ?_)
      ·
        rw [b01_0, Classical.not_not] at c_20
        refine e_iconst F dX5_order_27 ?_
        refine e_iconst F dX5_order_28 ?_
        refine e_callVV F u_X5_start (by rfl) (c_X5_start hY (by first | exact Or.inl rfl | exact Or.inr rfl) (by decide) (by decide)) hY rfl rfl w_ml_RX5_69 dX5_order_29 (by rfl) (Nat.le_of_ble_eq_true rfl) (by decide) (by omega) (fun _ _ _ h _ => False.elim h) (fun r_29 w_29 n_29 h_29 hn_29 => ?_)
        obtain ⟨rfl, en_29, ew_29⟩ := h_29
        rw [en_29, ew_29]
        first | rw [if_pos (show (1 : Int) = 1 from rfl)] | rw [if_neg (show ¬ ((0 : Int) = 1) by decide)]
        have gM := hM.th (t2 := 0) (kn2 := kn)
        refine e_if_eq F 37 dX5_order_32 (by decide) (by decide) (fun c_32 => ?_) (fun c_32 => ?_)
        · refine e_aload_n F dX5_order_37 rfl ?_
          refine e_iload_n F dX5_order_38 rfl ?_
          refine e_iload_n F dX5_order_39 rfl ?_
          have h_i : (0 ≤ i9 ∧ i9 < 6) ∧ (0 ≤ j9 ∧ j9 < 6) ∧ (1 ≤ h9 ∧ h9 ≤ ho wh) := by omega
          obtain ⟨ki9, rfl⟩ : ∃ k : Nat, i9 = (k : Int) := ⟨i9.toNat, by omega⟩
          have hki9 : ki9 < 6 := by omega
          rw [show ((ki9 : Nat) : Int).toNat = ki9 from rfl]
          obtain ⟨kj9, rfl⟩ : ∃ k : Nat, j9 = (k : Int) := ⟨j9.toNat, by omega⟩
          have hkj9 : kj9 < 6 := by omega
          rw [show ((kj9 : Nat) : Int).toNat = kj9 from rfl]
          refine e_callVV F u_X5_shareOf (by rfl) (c_X5_shareOf gM hki9 (h := h9) (by omega) (by omega)) gM.1 rfl rfl w_ml_RX5_180 dX5_order_40 (by rfl) (Nat.le_of_ble_eq_true rfl) (by decide) (by omega) (fun _ _ _ h _ => False.elim h) (fun r_40 w_40 n_40 h_40 hn_40 => ?_)
          obtain ⟨rfl, ew_40, en_40⟩ := h_40
          rw [ew_40, en_40]
          have hA9 := gM.rgA hki9 (j := h9) (by omega) (by omega)
          refine e_istore F dX5_order_43 (by decide) ?_
          refine e_aload_n F dX5_order_45 rfl ?_
          refine e_iload_n F dX5_order_46 rfl ?_
          refine e_iload_n F dX5_order_47 rfl ?_
          refine e_callVV F u_X5_shareOf (by rfl) (c_X5_shareOf gM hkj9 (h := h9) (by omega) (by omega)) gM.1 rfl rfl w_ml_RX5_180 dX5_order_48 (by rfl) (Nat.le_of_ble_eq_true rfl) (by decide) (by omega) (fun _ _ _ h _ => False.elim h) (fun r_48 w_48 n_48 h_48 hn_48 => ?_)
          obtain ⟨rfl, ew_48, en_48⟩ := h_48
          rw [ew_48, en_48]
          have hB9 := gM.rgA hkj9 (j := h9) (by omega) (by omega)
          refine e_istore F dX5_order_51 (by decide) ?_
          refine e_iload F dX5_order_53 rfl ?_
          refine e_iconst F dX5_order_55 ?_
          refine e_icmp_eq F 65 dX5_order_56 (by decide) (⟨by omega, by omega⟩) (⟨by omega, by omega⟩) (fun c_56 => ?_) (fun c_56 => ?_)
          · refine e_bipush F dX5_order_65 (by decide) ?_
            refine e_goto F 101 dX5_order_67 (by decide) ?_
            refine e_iret F rfl (by omega) ?_ dX5_order_101
            refine ⟨FM.th, Or.inr ⟨h_i, ?_, gM⟩⟩
            show some (Value.int _) = some (Value.int (eI (orV ((R ki9).A h9) ((R kj9).A h9))))
            unfold orV
            first
            | (exfalso; omega)
            | (rw [if_pos (show (R ki9).A h9 = -1 ∨ (R kj9).A h9 = -1 by omega)]; done)
            | (rw [if_neg (show ¬ ((R ki9).A h9 = -1 ∨ (R kj9).A h9 = -1) by omega)]
               first | rw [b01_t (show (R kj9).A h9 < (R ki9).A h9 by omega)] | rw [b01_f (show ¬ (R kj9).A h9 < (R ki9).A h9 by omega)]
               first | rw [b01_t (show (R ki9).A h9 < (R kj9).A h9 by omega)] | rw [b01_f (show ¬ (R ki9).A h9 < (R kj9).A h9 by omega)])
          · refine e_iload F dX5_order_59 rfl ?_
            refine e_iconst F dX5_order_61 ?_
            refine e_icmp_ne F 70 dX5_order_62 (by decide) (⟨by omega, by omega⟩) (⟨by omega, by omega⟩) (fun c_62 => ?_) (fun c_62 => ?_)
            · refine e_iload F dX5_order_70 rfl ?_
              refine e_iload F dX5_order_72 rfl ?_
              refine e_icmp_le F 81 dX5_order_74 (by decide) (⟨by omega, by omega⟩) (⟨by omega, by omega⟩) (fun c_74 => ?_) (fun c_74 => ?_)
              · refine e_iconst F dX5_order_81 ?_
                refine e_callSS F u_X5_one (by rfl) (c_X5_one (b := _) (by first | exact Or.inl rfl | exact Or.inr rfl)) w_ml_RX5_80 dX5_order_82 (by rfl) (Nat.le_of_ble_eq_true rfl) (by decide) (by omega) (fun _ _ _ h _ => False.elim h) (fun r_82 w_82 n_82 h_82 hn_82 => ?_)
                obtain ⟨rfl, ew_82, en_82⟩ := h_82
                rw [ew_82, en_82]
                refine e_iload F dX5_order_85 rfl ?_
                refine e_iload F dX5_order_87 rfl ?_
                refine e_icmp_ge F 96 dX5_order_89 (by decide) (⟨by omega, by omega⟩) (⟨by omega, by omega⟩) (fun c_89 => ?_) (fun c_89 => ?_)
                · refine e_iconst F dX5_order_96 ?_
                  refine e_callSS F u_X5_one (by rfl) (c_X5_one (b := _) (by first | exact Or.inl rfl | exact Or.inr rfl)) w_ml_RX5_80 dX5_order_97 (by rfl) (Nat.le_of_ble_eq_true rfl) (by decide) (by omega) (fun _ _ _ h _ => False.elim h) (fun r_97 w_97 n_97 h_97 hn_97 => ?_)
                  obtain ⟨rfl, ew_97, en_97⟩ := h_97
                  rw [ew_97, en_97]
                  refine e_isub F dX5_order_100 ?_
                  refine e_iret F rfl (by omega) ?_ dX5_order_101
                  refine ⟨FM.th, Or.inr ⟨h_i, ?_, gM⟩⟩
                  show some (Value.int _) = some (Value.int (eI (orV ((R ki9).A h9) ((R kj9).A h9))))
                  unfold orV
                  first
                  | (exfalso; omega)
                  | (rw [if_pos (show (R ki9).A h9 = -1 ∨ (R kj9).A h9 = -1 by omega)]; done)
                  | (rw [if_neg (show ¬ ((R ki9).A h9 = -1 ∨ (R kj9).A h9 = -1) by omega)]
                     first | rw [b01_t (show (R kj9).A h9 < (R ki9).A h9 by omega)] | rw [b01_f (show ¬ (R kj9).A h9 < (R ki9).A h9 by omega)]
                     first | rw [b01_t (show (R ki9).A h9 < (R kj9).A h9 by omega)] | rw [b01_f (show ¬ (R ki9).A h9 < (R kj9).A h9 by omega)])
                · refine e_iconst F dX5_order_92 ?_
                  refine e_goto F 97 dX5_order_93 (by decide) ?_
                  refine e_callSS F u_X5_one (by rfl) (c_X5_one (b := _) (by first | exact Or.inl rfl | exact Or.inr rfl)) w_ml_RX5_80 dX5_order_97 (by rfl) (Nat.le_of_ble_eq_true rfl) (by decide) (by omega) (fun _ _ _ h _ => False.elim h) (fun r_97 w_97 n_97 h_97 hn_97 => ?_)
                  obtain ⟨rfl, ew_97, en_97⟩ := h_97
                  rw [ew_97, en_97]
                  refine e_isub F dX5_order_100 ?_
                  refine e_iret F rfl (by omega) ?_ dX5_order_101
                  refine ⟨FM.th, Or.inr ⟨h_i, ?_, gM⟩⟩
                  show some (Value.int _) = some (Value.int (eI (orV ((R ki9).A h9) ((R kj9).A h9))))
                  unfold orV
                  first
                  | (exfalso; omega)
                  | (rw [if_pos (show (R ki9).A h9 = -1 ∨ (R kj9).A h9 = -1 by omega)]; done)
                  | (rw [if_neg (show ¬ ((R ki9).A h9 = -1 ∨ (R kj9).A h9 = -1) by omega)]
                     first | rw [b01_t (show (R kj9).A h9 < (R ki9).A h9 by omega)] | rw [b01_f (show ¬ (R kj9).A h9 < (R ki9).A h9 by omega)]
                     first | rw [b01_t (show (R ki9).A h9 < (R kj9).A h9 by omega)] | rw [b01_f (show ¬ (R ki9).A h9 < (R kj9).A h9 by omega)])
              · refine e_iconst F dX5_order_77 ?_
                refine e_goto F 82 dX5_order_78 (by decide) ?_
                refine e_callSS F u_X5_one (by rfl) (c_X5_one (b := _) (by first | exact Or.inl rfl | exact Or.inr rfl)) w_ml_RX5_80 dX5_order_82 (by rfl) (Nat.le_of_ble_eq_true rfl) (by decide) (by omega) (fun _ _ _ h _ => False.elim h) (fun r_82 w_82 n_82 h_82 hn_82 => ?_)
                obtain ⟨rfl, ew_82, en_82⟩ := h_82
                rw [ew_82, en_82]
                refine e_iload F dX5_order_85 rfl ?_
                refine e_iload F dX5_order_87 rfl ?_
                refine e_icmp_ge F 96 dX5_order_89 (by decide) (⟨by omega, by omega⟩) (⟨by omega, by omega⟩) (fun c_89 => ?_) (fun c_89 => ?_)
                · refine e_iconst F dX5_order_96 ?_
                  refine e_callSS F u_X5_one (by rfl) (c_X5_one (b := _) (by first | exact Or.inl rfl | exact Or.inr rfl)) w_ml_RX5_80 dX5_order_97 (by rfl) (Nat.le_of_ble_eq_true rfl) (by decide) (by omega) (fun _ _ _ h _ => False.elim h) (fun r_97 w_97 n_97 h_97 hn_97 => ?_)
                  obtain ⟨rfl, ew_97, en_97⟩ := h_97
                  rw [ew_97, en_97]
                  refine e_isub F dX5_order_100 ?_
                  refine e_iret F rfl (by omega) ?_ dX5_order_101
                  refine ⟨FM.th, Or.inr ⟨h_i, ?_, gM⟩⟩
                  show some (Value.int _) = some (Value.int (eI (orV ((R ki9).A h9) ((R kj9).A h9))))
                  unfold orV
                  first
                  | (exfalso; omega)
                  | (rw [if_pos (show (R ki9).A h9 = -1 ∨ (R kj9).A h9 = -1 by omega)]; done)
                  | (rw [if_neg (show ¬ ((R ki9).A h9 = -1 ∨ (R kj9).A h9 = -1) by omega)]
                     first | rw [b01_t (show (R kj9).A h9 < (R ki9).A h9 by omega)] | rw [b01_f (show ¬ (R kj9).A h9 < (R ki9).A h9 by omega)]
                     first | rw [b01_t (show (R ki9).A h9 < (R kj9).A h9 by omega)] | rw [b01_f (show ¬ (R ki9).A h9 < (R kj9).A h9 by omega)])
                · refine e_iconst F dX5_order_92 ?_
                  refine e_goto F 97 dX5_order_93 (by decide) ?_
                  refine e_callSS F u_X5_one (by rfl) (c_X5_one (b := _) (by first | exact Or.inl rfl | exact Or.inr rfl)) w_ml_RX5_80 dX5_order_97 (by rfl) (Nat.le_of_ble_eq_true rfl) (by decide) (by omega) (fun _ _ _ h _ => False.elim h) (fun r_97 w_97 n_97 h_97 hn_97 => ?_)
                  obtain ⟨rfl, ew_97, en_97⟩ := h_97
                  rw [ew_97, en_97]
                  refine e_isub F dX5_order_100 ?_
                  refine e_iret F rfl (by omega) ?_ dX5_order_101
                  refine ⟨FM.th, Or.inr ⟨h_i, ?_, gM⟩⟩
                  show some (Value.int _) = some (Value.int (eI (orV ((R ki9).A h9) ((R kj9).A h9))))
                  unfold orV
                  first
                  | (exfalso; omega)
                  | (rw [if_pos (show (R ki9).A h9 = -1 ∨ (R kj9).A h9 = -1 by omega)]; done)
                  | (rw [if_neg (show ¬ ((R ki9).A h9 = -1 ∨ (R kj9).A h9 = -1) by omega)]
                     first | rw [b01_t (show (R kj9).A h9 < (R ki9).A h9 by omega)] | rw [b01_f (show ¬ (R kj9).A h9 < (R ki9).A h9 by omega)]
                     first | rw [b01_t (show (R ki9).A h9 < (R kj9).A h9 by omega)] | rw [b01_f (show ¬ (R ki9).A h9 < (R kj9).A h9 by omega)])
            · refine e_bipush F dX5_order_65 (by decide) ?_
              refine e_goto F 101 dX5_order_67 (by decide) ?_
              refine e_iret F rfl (by omega) ?_ dX5_order_101
              refine ⟨FM.th, Or.inr ⟨h_i, ?_, gM⟩⟩
              show some (Value.int _) = some (Value.int (eI (orV ((R ki9).A h9) ((R kj9).A h9))))
              unfold orV
              first
              | (exfalso; omega)
              | (rw [if_pos (show (R ki9).A h9 = -1 ∨ (R kj9).A h9 = -1 by omega)]; done)
              | (rw [if_neg (show ¬ ((R ki9).A h9 = -1 ∨ (R kj9).A h9 = -1) by omega)]
                 first | rw [b01_t (show (R kj9).A h9 < (R ki9).A h9 by omega)] | rw [b01_f (show ¬ (R kj9).A h9 < (R ki9).A h9 by omega)]
                 first | rw [b01_t (show (R ki9).A h9 < (R kj9).A h9 by omega)] | rw [b01_f (show ¬ (R ki9).A h9 < (R kj9).A h9 by omega)])
        · exact absurd c_32 (by decide)
      ·
        rw [b01_0, Classical.not_not] at c_20
        refine e_iconst F dX5_order_23 ?_
        refine e_goto F 28 dX5_order_24 (by decide) ?_
        refine e_iconst F dX5_order_28 ?_
        refine e_callVV F u_X5_start (by rfl) (c_X5_start hY (by first | exact Or.inl rfl | exact Or.inr rfl) (by decide) (by decide)) hY rfl rfl w_ml_RX5_69 dX5_order_29 (by rfl) (Nat.le_of_ble_eq_true rfl) (by decide) (by omega) (fun _ _ _ h _ => False.elim h) (fun r_29 w_29 n_29 h_29 hn_29 => ?_)
        obtain ⟨rfl, en_29, ew_29⟩ := h_29
        rw [en_29, ew_29]
        first | rw [if_pos (show (1 : Int) = 1 from rfl)] | rw [if_neg (show ¬ ((0 : Int) = 1) by decide)]
        have gM := hM.th (t2 := 0) (kn2 := kn)
        refine e_if_eq F 37 dX5_order_32 (by decide) (by decide) (fun c_32 => ?_) (fun c_32 => ?_)
        · exact absurd c_32 (by decide)
        · refine e_iconst F dX5_order_35 ?_
          refine e_iret F rfl (by omega) ?_ dX5_order_36
          exact ⟨FM.th, Or.inl ⟨(fun q => by omega), rfl, hM.th⟩⟩
set_option maxHeartbeats 4000000 in
set_option maxRecDepth 100000 in
theorem c_X5_most {K : e_K} {l : Launch} {w : e_W} {n : Nat} {y wh : Nat} {t kn : Int} {R : Nat → RD} (hM : MW w y wh kn t R) {i9 : Int} (hi9 : e_r i9) {b9 : Int} (hb : b9 = 0 ∨ b9 = 1) : e_Met K l yX5_most (Cond.code yX5_most cX5_most 6 (Option.some .int) :: e_TB) (3) (0) [.ref y, .int (eI i9), .int (eI b9)] w n (fun r w' n' => FM w w' y n ∧ ((¬ (0 ≤ i9 ∧ i9 < 6) ∧ r = some (.int (eI 0)) ∧ MW w' y wh kn 1 R) ∨ ((0 ≤ i9 ∧ i9 < 6) ∧ r = some (.int (eI (if (R i9.toNat).dg = -1 then -9 else moK b9 (R i9.toNat).A (ho wh).toNat (ho wh).toNat))) ∧ MW w' y wh (kn) 0 (R)))) (e_px0) := by
  refine e_ofV rfl (Nat.le_of_ble_eq_true rfl) ?_
  intro P9 E9 S9 M9 A9 B9 T9 C9 F hnm
  have hwh := hM.2.1
  have hY := hM.1
  have hp := pr_rg wh hwh
  have hho := ho_rg wh hwh
  have hf9 := fl_rg wh hwh
  refine e_aload_n F dX5_most_0 rfl ?_
  refine e_iload_n F dX5_most_1 rfl ?_
  refine e_callSS F u_X5_isNoDeal (by rfl) (c_X5_isNoDeal hi9) w_ml_RX5_129 dX5_most_2 (by rfl) (Nat.le_of_ble_eq_true rfl) (by decide) (by omega) (fun _ _ _ h _ => False.elim h) (fun r_2 w_2 n_2 h_2 hn_2 => ?_)
  obtain ⟨rfl, ew_2, en_2⟩ := h_2
  rw [ew_2, en_2]
  refine e_iconst F dX5_most_5 ?_
  refine e_callVV F u_X5_start (by rfl) (c_X5_start hY (b01_or _) (by decide) (by decide)) hY rfl rfl w_ml_RX5_69 dX5_most_6 (by rfl) (Nat.le_of_ble_eq_true rfl) (by decide) (by omega) (fun _ _ _ h _ => False.elim h) (fun r_6 w_6 n_6 h_6 hn_6 => ?_)
  obtain ⟨rfl, en_6, ew_6⟩ := h_6
  rw [en_6, ew_6, st1]
  refine e_if_eq F 14 dX5_most_9 (by decide) (b01_r _) (fun c_9 => ?_) (fun c_9 => ?_)
  ·
    rw [b01_0, Classical.not_not] at c_9
    rw [if_pos c_9]
    have gM := hM.th (t2 := 0) (kn2 := kn)
    have h_i := c_9
    obtain ⟨ki9, rfl⟩ : ∃ k : Nat, i9 = (k : Int) := ⟨i9.toNat, by omega⟩
    have hki9 : ki9 < 6 := by omega
    rw [show ((ki9 : Nat) : Int).toNat = ki9 from rfl]
    refine e_dom ?_
    intro hdm
    obtain ⟨gY, _, ⟨G, gG, gGe⟩, ⟨SS, PP, gS, gP, gMD⟩, gRV⟩ := id gM
    refine e_aload_n F dX5_most_14 rfl ?_
    refine e_iload_n F dX5_most_15 rfl ?_
    refine e_callVV F u_X5_isEmpty (by rfl) (c_X5_isEmpty gM (i := ki9) hki9) gY rfl rfl w_ml_RX5_113 dX5_most_16 (by rfl) (Nat.le_of_ble_eq_true rfl) (by decide) (by omega) (fun _ _ _ h _ => False.elim h) (fun r_16 w_16 n_16 h_16 hn_16 => ?_)
    obtain ⟨rfl, ew_16, en_16⟩ := h_16
    rw [ew_16, en_16]
    refine e_if_eq F 25 dX5_most_19 (by decide) (b01_r _) (fun c_19 => ?_) (fun c_19 => ?_)
    ·
      rw [b01_0] at c_19
      have hne := c_19
      obtain ⟨a, f, hSa, hya, hwa, hfr, hfA⟩ := MD.row (gMD ki9 hki9) c_19
      have lp : ∀ (N : Nat) (j : Nat), (8 - j) < N → j ≤ (ho wh).toNat → e_V K P9 l E9 (3) (0) S9 M9 A9 B9 T9 C9 6 (fun r w' n' => FM w w' y n ∧ ((¬ (0 ≤ ((ki9 : Nat) : Int) ∧ ((ki9 : Nat) : Int) < 6) ∧ r = some (.int (eI 0)) ∧ MW w' y wh kn 1 R) ∨ ((0 ≤ ((ki9 : Nat) : Int) ∧ ((ki9 : Nat) : Int) < 6) ∧ r = some (.int (eI (if (R ki9).dg = -1 then -9 else moK b9 (R ki9).A (ho wh).toNat (ho wh).toNat))) ∧ MW w' y wh (kn) 0 (R)))) (e_px0) 33 [(0, .ref y), (1, .int (eI ((ki9 : Nat) : Int))), (2, .int (eI b9)), (3, .int (eI (moK b9 (R ki9).A (ho wh).toNat j))), (4, .int (eI ((((ho wh).toNat : Nat) : Int) - (j : Int))))] [] (e_up w y (MO y 0 wh kn)) n (0) := by
        intro N
        induction N with
        | zero => intro j hN; exact absurd hN (Nat.not_lt_zero _)
        | succ N ih =>
          intro j hN hk
          refine e_iload F dX5_most_33 rfl ?_
          refine e_if_le F 101 dX5_most_35 (by decide) (⟨by omega, by omega⟩) (fun c_35 => ?_) (fun c_35 => ?_)
          ·
            obtain rfl : j = (ho wh).toNat := by omega
            refine e_iload_n F dX5_most_101 rfl ?_
            refine e_iret F rfl (by omega) ?_ dX5_most_102
            refine ⟨FM.th, Or.inr ⟨h_i, ?_, gM⟩⟩
            rw [if_neg (show ¬ (R ki9).dg = -1 from c_19)]
            try rfl
          ·
            have hmr := moK_rg b9 (R ki9).A (ho wh).toNat j (by omega)
            have hA9 := gM.rgA hki9 (j := ((((ho wh).toNat : Nat) : Int) - (j : Int))) (by omega) (by omega)
            have hB9 : (moK b9 (R ki9).A (ho wh).toNat j) ≠ 0 → -1 ≤ (R ki9).A (moK b9 (R ki9).A (ho wh).toNat j) ∧ (R ki9).A (moK b9 (R ki9).A (ho wh).toNat j) < pr wh := fun q => gM.rgA hki9 (by omega) (by omega)
            refine e_aload_n F dX5_most_38 rfl ?_
            refine e_get (ci := 5) (fi := 4) (q := (RX5, TX5, 6)) F gY rfl (by decide) w_fl_RX5_18 (by rfl) dX5_most_39 ?_
            refine e_iload_n F dX5_most_42 rfl ?_
            refine e_aaldr F gS (by omega) (by omega) (by decide) (hSa) dX5_most_43 ?_
            refine e_iload F dX5_most_44 rfl ?_
            refine e_iald F hwa (by omega) (by omega) (by first | decide | omega) dX5_most_46 ?_
            rw [hfA _ (by omega) (by omega)]
            refine e_istore F dX5_most_47 (by decide) ?_
            refine e_iload F dX5_most_49 rfl ?_
            refine e_iconst F dX5_most_51 ?_
            refine e_icmp_eq F 95 dX5_most_52 (by decide) (⟨by omega, by omega⟩) (⟨by omega, by omega⟩) (fun c_52 => ?_) (fun c_52 => ?_)
            · refine e_iinc F dX5_most_95 rfl (by decide) ?_
              refine e_goto F 33 dX5_most_98 (by decide) ?_
              first
              | (have e9 : moK b9 (R ki9).A (ho wh).toNat (j + 1) = ((((ho wh).toNat : Nat) : Int) - (j : Int)) := if_pos (show (R ki9).A ((((ho wh).toNat : Nat) : Int) - (j : Int)) ≠ -1 ∧ ((moK b9 (R ki9).A (ho wh).toNat j) = 0 ∨ (if b9 = 0 then (R ki9).A (moK b9 (R ki9).A (ho wh).toNat j) ≤ (R ki9).A ((((ho wh).toNat : Nat) : Int) - (j : Int)) else (R ki9).A ((((ho wh).toNat : Nat) : Int) - (j : Int)) ≤ (R ki9).A (moK b9 (R ki9).A (ho wh).toNat j))) by refine ⟨c_52, ?_⟩; first | exact Or.inl (by omega) | (right; rw [if_pos (show b9 = 0 by omega)]; omega) | (right; rw [if_neg (show ¬ b9 = 0 by omega)]; omega))
                 refine e_go (ih (j + 1) (by omega) (by omega)) ?_
                 rw [e9, show ((((ho wh).toNat : Nat) : Int) - ((j + 1 : Nat) : Int)) = ((((ho wh).toNat : Nat) : Int) - (j : Int)) + -1 by omega]
                 exact (And.intro rfl (And.intro rfl (And.intro rfl (And.intro rfl (And.intro rfl (trivial)))))))
              | (have e9 : moK b9 (R ki9).A (ho wh).toNat (j + 1) = (moK b9 (R ki9).A (ho wh).toNat j) := if_neg (show ¬ ((R ki9).A ((((ho wh).toNat : Nat) : Int) - (j : Int)) ≠ -1 ∧ ((moK b9 (R ki9).A (ho wh).toNat j) = 0 ∨ (if b9 = 0 then (R ki9).A (moK b9 (R ki9).A (ho wh).toNat j) ≤ (R ki9).A ((((ho wh).toNat : Nat) : Int) - (j : Int)) else (R ki9).A ((((ho wh).toNat : Nat) : Int) - (j : Int)) ≤ (R ki9).A (moK b9 (R ki9).A (ho wh).toNat j)))) by intro q; first | exact q.1 c_52 | (rcases q.2 with z | z; omega; first | (rw [if_pos (show b9 = 0 by omega)] at z; omega) | (rw [if_neg (show ¬ b9 = 0 by omega)] at z; omega)))
                 refine e_go (ih (j + 1) (by omega) (by omega)) ?_
                 rw [e9, show ((((ho wh).toNat : Nat) : Int) - ((j + 1 : Nat) : Int)) = ((((ho wh).toNat : Nat) : Int) - (j : Int)) + -1 by omega]
                 exact (And.intro rfl (And.intro rfl (And.intro rfl (And.intro rfl (And.intro rfl (trivial)))))))
            · refine e_iload_n F dX5_most_55 rfl ?_
              refine e_if_eq F 92 dX5_most_56 (by decide) (⟨by omega, by omega⟩) (fun c_56 => ?_) (fun c_56 => ?_)
              · refine e_iload F dX5_most_92 rfl ?_
                refine e_istore_n F dX5_most_94 (by decide) ?_
                refine e_iinc F dX5_most_95 rfl (by decide) ?_
                refine e_goto F 33 dX5_most_98 (by decide) ?_
                first
                | (have e9 : moK b9 (R ki9).A (ho wh).toNat (j + 1) = ((((ho wh).toNat : Nat) : Int) - (j : Int)) := if_pos (show (R ki9).A ((((ho wh).toNat : Nat) : Int) - (j : Int)) ≠ -1 ∧ ((moK b9 (R ki9).A (ho wh).toNat j) = 0 ∨ (if b9 = 0 then (R ki9).A (moK b9 (R ki9).A (ho wh).toNat j) ≤ (R ki9).A ((((ho wh).toNat : Nat) : Int) - (j : Int)) else (R ki9).A ((((ho wh).toNat : Nat) : Int) - (j : Int)) ≤ (R ki9).A (moK b9 (R ki9).A (ho wh).toNat j))) by refine ⟨c_52, ?_⟩; first | exact Or.inl (by omega) | (right; rw [if_pos (show b9 = 0 by omega)]; omega) | (right; rw [if_neg (show ¬ b9 = 0 by omega)]; omega))
                   refine e_go (ih (j + 1) (by omega) (by omega)) ?_
                   rw [e9, show ((((ho wh).toNat : Nat) : Int) - ((j + 1 : Nat) : Int)) = ((((ho wh).toNat : Nat) : Int) - (j : Int)) + -1 by omega]
                   exact (And.intro rfl (And.intro rfl (And.intro rfl (And.intro rfl (And.intro rfl (trivial)))))))
                | (have e9 : moK b9 (R ki9).A (ho wh).toNat (j + 1) = (moK b9 (R ki9).A (ho wh).toNat j) := if_neg (show ¬ ((R ki9).A ((((ho wh).toNat : Nat) : Int) - (j : Int)) ≠ -1 ∧ ((moK b9 (R ki9).A (ho wh).toNat j) = 0 ∨ (if b9 = 0 then (R ki9).A (moK b9 (R ki9).A (ho wh).toNat j) ≤ (R ki9).A ((((ho wh).toNat : Nat) : Int) - (j : Int)) else (R ki9).A ((((ho wh).toNat : Nat) : Int) - (j : Int)) ≤ (R ki9).A (moK b9 (R ki9).A (ho wh).toNat j)))) by intro q; first | exact q.1 c_52 | (rcases q.2 with z | z; omega; first | (rw [if_pos (show b9 = 0 by omega)] at z; omega) | (rw [if_neg (show ¬ b9 = 0 by omega)] at z; omega)))
                   refine e_go (ih (j + 1) (by omega) (by omega)) ?_
                   rw [e9, show ((((ho wh).toNat : Nat) : Int) - ((j + 1 : Nat) : Int)) = ((((ho wh).toNat : Nat) : Int) - (j : Int)) + -1 by omega]
                   exact (And.intro rfl (And.intro rfl (And.intro rfl (And.intro rfl (And.intro rfl (trivial)))))))
              · refine e_iload_n F dX5_most_59 rfl ?_
                refine e_if_eq F 79 dX5_most_60 (by decide) (by rcases hb with h | h <;> rw [h] <;> decide) (fun c_60 => ?_) (fun c_60 => ?_)
                · refine e_iload F dX5_most_79 rfl ?_
                  refine e_aload_n F dX5_most_81 rfl ?_
                  refine e_get (ci := 5) (fi := 4) (q := (RX5, TX5, 6)) F gY rfl (by decide) w_fl_RX5_18 (by rfl) dX5_most_82 ?_
                  refine e_iload_n F dX5_most_85 rfl ?_
                  refine e_aaldr F gS (by omega) (by omega) (by decide) (hSa) dX5_most_86 ?_
                  refine e_iload_n F dX5_most_87 rfl ?_
                  refine e_iald F hwa (by omega) (by omega) (by first | decide | omega) dX5_most_88 ?_
                  rw [hfA _ (by omega) (by omega)]
                  have hB8 := hB9 (by omega)
                  refine e_icmp_lt F 95 dX5_most_89 (by decide) (⟨by omega, by omega⟩) (⟨by omega, by omega⟩) (fun c_89 => ?_) (fun c_89 => ?_)
                  · refine e_iinc F dX5_most_95 rfl (by decide) ?_
                    refine e_goto F 33 dX5_most_98 (by decide) ?_
                    first
                    | (have e9 : moK b9 (R ki9).A (ho wh).toNat (j + 1) = ((((ho wh).toNat : Nat) : Int) - (j : Int)) := if_pos (show (R ki9).A ((((ho wh).toNat : Nat) : Int) - (j : Int)) ≠ -1 ∧ ((moK b9 (R ki9).A (ho wh).toNat j) = 0 ∨ (if b9 = 0 then (R ki9).A (moK b9 (R ki9).A (ho wh).toNat j) ≤ (R ki9).A ((((ho wh).toNat : Nat) : Int) - (j : Int)) else (R ki9).A ((((ho wh).toNat : Nat) : Int) - (j : Int)) ≤ (R ki9).A (moK b9 (R ki9).A (ho wh).toNat j))) by refine ⟨c_52, ?_⟩; first | exact Or.inl (by omega) | (right; rw [if_pos (show b9 = 0 by omega)]; omega) | (right; rw [if_neg (show ¬ b9 = 0 by omega)]; omega))
                       refine e_go (ih (j + 1) (by omega) (by omega)) ?_
                       rw [e9, show ((((ho wh).toNat : Nat) : Int) - ((j + 1 : Nat) : Int)) = ((((ho wh).toNat : Nat) : Int) - (j : Int)) + -1 by omega]
                       exact (And.intro rfl (And.intro rfl (And.intro rfl (And.intro rfl (And.intro rfl (trivial)))))))
                    | (have e9 : moK b9 (R ki9).A (ho wh).toNat (j + 1) = (moK b9 (R ki9).A (ho wh).toNat j) := if_neg (show ¬ ((R ki9).A ((((ho wh).toNat : Nat) : Int) - (j : Int)) ≠ -1 ∧ ((moK b9 (R ki9).A (ho wh).toNat j) = 0 ∨ (if b9 = 0 then (R ki9).A (moK b9 (R ki9).A (ho wh).toNat j) ≤ (R ki9).A ((((ho wh).toNat : Nat) : Int) - (j : Int)) else (R ki9).A ((((ho wh).toNat : Nat) : Int) - (j : Int)) ≤ (R ki9).A (moK b9 (R ki9).A (ho wh).toNat j)))) by intro q; first | exact q.1 c_52 | (rcases q.2 with z | z; omega; first | (rw [if_pos (show b9 = 0 by omega)] at z; omega) | (rw [if_neg (show ¬ b9 = 0 by omega)] at z; omega)))
                       refine e_go (ih (j + 1) (by omega) (by omega)) ?_
                       rw [e9, show ((((ho wh).toNat : Nat) : Int) - ((j + 1 : Nat) : Int)) = ((((ho wh).toNat : Nat) : Int) - (j : Int)) + -1 by omega]
                       exact (And.intro rfl (And.intro rfl (And.intro rfl (And.intro rfl (And.intro rfl (trivial)))))))
                  · refine e_iload F dX5_most_92 rfl ?_
                    refine e_istore_n F dX5_most_94 (by decide) ?_
                    refine e_iinc F dX5_most_95 rfl (by decide) ?_
                    refine e_goto F 33 dX5_most_98 (by decide) ?_
                    first
                    | (have e9 : moK b9 (R ki9).A (ho wh).toNat (j + 1) = ((((ho wh).toNat : Nat) : Int) - (j : Int)) := if_pos (show (R ki9).A ((((ho wh).toNat : Nat) : Int) - (j : Int)) ≠ -1 ∧ ((moK b9 (R ki9).A (ho wh).toNat j) = 0 ∨ (if b9 = 0 then (R ki9).A (moK b9 (R ki9).A (ho wh).toNat j) ≤ (R ki9).A ((((ho wh).toNat : Nat) : Int) - (j : Int)) else (R ki9).A ((((ho wh).toNat : Nat) : Int) - (j : Int)) ≤ (R ki9).A (moK b9 (R ki9).A (ho wh).toNat j))) by refine ⟨c_52, ?_⟩; first | exact Or.inl (by omega) | (right; rw [if_pos (show b9 = 0 by omega)]; omega) | (right; rw [if_neg (show ¬ b9 = 0 by omega)]; omega))
                       refine e_go (ih (j + 1) (by omega) (by omega)) ?_
                       rw [e9, show ((((ho wh).toNat : Nat) : Int) - ((j + 1 : Nat) : Int)) = ((((ho wh).toNat : Nat) : Int) - (j : Int)) + -1 by omega]
                       exact (And.intro rfl (And.intro rfl (And.intro rfl (And.intro rfl (And.intro rfl (trivial)))))))
                    | (have e9 : moK b9 (R ki9).A (ho wh).toNat (j + 1) = (moK b9 (R ki9).A (ho wh).toNat j) := if_neg (show ¬ ((R ki9).A ((((ho wh).toNat : Nat) : Int) - (j : Int)) ≠ -1 ∧ ((moK b9 (R ki9).A (ho wh).toNat j) = 0 ∨ (if b9 = 0 then (R ki9).A (moK b9 (R ki9).A (ho wh).toNat j) ≤ (R ki9).A ((((ho wh).toNat : Nat) : Int) - (j : Int)) else (R ki9).A ((((ho wh).toNat : Nat) : Int) - (j : Int)) ≤ (R ki9).A (moK b9 (R ki9).A (ho wh).toNat j)))) by intro q; first | exact q.1 c_52 | (rcases q.2 with z | z; omega; first | (rw [if_pos (show b9 = 0 by omega)] at z; omega) | (rw [if_neg (show ¬ b9 = 0 by omega)] at z; omega)))
                       refine e_go (ih (j + 1) (by omega) (by omega)) ?_
                       rw [e9, show ((((ho wh).toNat : Nat) : Int) - ((j + 1 : Nat) : Int)) = ((((ho wh).toNat : Nat) : Int) - (j : Int)) + -1 by omega]
                       exact (And.intro rfl (And.intro rfl (And.intro rfl (And.intro rfl (And.intro rfl (trivial)))))))
                · refine e_iload F dX5_most_63 rfl ?_
                  refine e_aload_n F dX5_most_65 rfl ?_
                  refine e_get (ci := 5) (fi := 4) (q := (RX5, TX5, 6)) F gY rfl (by decide) w_fl_RX5_18 (by rfl) dX5_most_66 ?_
                  refine e_iload_n F dX5_most_69 rfl ?_
                  refine e_aaldr F gS (by omega) (by omega) (by decide) (hSa) dX5_most_70 ?_
                  refine e_iload_n F dX5_most_71 rfl ?_
                  refine e_iald F hwa (by omega) (by omega) (by first | decide | omega) dX5_most_72 ?_
                  rw [hfA _ (by omega) (by omega)]
                  have hB8 := hB9 (by omega)
                  refine e_icmp_gt F 95 dX5_most_73 (by decide) (⟨by omega, by omega⟩) (⟨by omega, by omega⟩) (fun c_73 => ?_) (fun c_73 => ?_)
                  · refine e_iinc F dX5_most_95 rfl (by decide) ?_
                    refine e_goto F 33 dX5_most_98 (by decide) ?_
                    first
                    | (have e9 : moK b9 (R ki9).A (ho wh).toNat (j + 1) = ((((ho wh).toNat : Nat) : Int) - (j : Int)) := if_pos (show (R ki9).A ((((ho wh).toNat : Nat) : Int) - (j : Int)) ≠ -1 ∧ ((moK b9 (R ki9).A (ho wh).toNat j) = 0 ∨ (if b9 = 0 then (R ki9).A (moK b9 (R ki9).A (ho wh).toNat j) ≤ (R ki9).A ((((ho wh).toNat : Nat) : Int) - (j : Int)) else (R ki9).A ((((ho wh).toNat : Nat) : Int) - (j : Int)) ≤ (R ki9).A (moK b9 (R ki9).A (ho wh).toNat j))) by refine ⟨c_52, ?_⟩; first | exact Or.inl (by omega) | (right; rw [if_pos (show b9 = 0 by omega)]; omega) | (right; rw [if_neg (show ¬ b9 = 0 by omega)]; omega))
                       refine e_go (ih (j + 1) (by omega) (by omega)) ?_
                       rw [e9, show ((((ho wh).toNat : Nat) : Int) - ((j + 1 : Nat) : Int)) = ((((ho wh).toNat : Nat) : Int) - (j : Int)) + -1 by omega]
                       exact (And.intro rfl (And.intro rfl (And.intro rfl (And.intro rfl (And.intro rfl (trivial)))))))
                    | (have e9 : moK b9 (R ki9).A (ho wh).toNat (j + 1) = (moK b9 (R ki9).A (ho wh).toNat j) := if_neg (show ¬ ((R ki9).A ((((ho wh).toNat : Nat) : Int) - (j : Int)) ≠ -1 ∧ ((moK b9 (R ki9).A (ho wh).toNat j) = 0 ∨ (if b9 = 0 then (R ki9).A (moK b9 (R ki9).A (ho wh).toNat j) ≤ (R ki9).A ((((ho wh).toNat : Nat) : Int) - (j : Int)) else (R ki9).A ((((ho wh).toNat : Nat) : Int) - (j : Int)) ≤ (R ki9).A (moK b9 (R ki9).A (ho wh).toNat j)))) by intro q; first | exact q.1 c_52 | (rcases q.2 with z | z; omega; first | (rw [if_pos (show b9 = 0 by omega)] at z; omega) | (rw [if_neg (show ¬ b9 = 0 by omega)] at z; omega)))
                       refine e_go (ih (j + 1) (by omega) (by omega)) ?_
                       rw [e9, show ((((ho wh).toNat : Nat) : Int) - ((j + 1 : Nat) : Int)) = ((((ho wh).toNat : Nat) : Int) - (j : Int)) + -1 by omega]
                       exact (And.intro rfl (And.intro rfl (And.intro rfl (And.intro rfl (And.intro rfl (trivial)))))))
                  · refine e_goto F 92 dX5_most_76 (by decide) ?_
                    refine e_iload F dX5_most_92 rfl ?_
                    refine e_istore_n F dX5_most_94 (by decide) ?_
                    refine e_iinc F dX5_most_95 rfl (by decide) ?_
                    refine e_goto F 33 dX5_most_98 (by decide) ?_
                    first
                    | (have e9 : moK b9 (R ki9).A (ho wh).toNat (j + 1) = ((((ho wh).toNat : Nat) : Int) - (j : Int)) := if_pos (show (R ki9).A ((((ho wh).toNat : Nat) : Int) - (j : Int)) ≠ -1 ∧ ((moK b9 (R ki9).A (ho wh).toNat j) = 0 ∨ (if b9 = 0 then (R ki9).A (moK b9 (R ki9).A (ho wh).toNat j) ≤ (R ki9).A ((((ho wh).toNat : Nat) : Int) - (j : Int)) else (R ki9).A ((((ho wh).toNat : Nat) : Int) - (j : Int)) ≤ (R ki9).A (moK b9 (R ki9).A (ho wh).toNat j))) by refine ⟨c_52, ?_⟩; first | exact Or.inl (by omega) | (right; rw [if_pos (show b9 = 0 by omega)]; omega) | (right; rw [if_neg (show ¬ b9 = 0 by omega)]; omega))
                       refine e_go (ih (j + 1) (by omega) (by omega)) ?_
                       rw [e9, show ((((ho wh).toNat : Nat) : Int) - ((j + 1 : Nat) : Int)) = ((((ho wh).toNat : Nat) : Int) - (j : Int)) + -1 by omega]
                       exact (And.intro rfl (And.intro rfl (And.intro rfl (And.intro rfl (And.intro rfl (trivial)))))))
                    | (have e9 : moK b9 (R ki9).A (ho wh).toNat (j + 1) = (moK b9 (R ki9).A (ho wh).toNat j) := if_neg (show ¬ ((R ki9).A ((((ho wh).toNat : Nat) : Int) - (j : Int)) ≠ -1 ∧ ((moK b9 (R ki9).A (ho wh).toNat j) = 0 ∨ (if b9 = 0 then (R ki9).A (moK b9 (R ki9).A (ho wh).toNat j) ≤ (R ki9).A ((((ho wh).toNat : Nat) : Int) - (j : Int)) else (R ki9).A ((((ho wh).toNat : Nat) : Int) - (j : Int)) ≤ (R ki9).A (moK b9 (R ki9).A (ho wh).toNat j)))) by intro q; first | exact q.1 c_52 | (rcases q.2 with z | z; omega; first | (rw [if_pos (show b9 = 0 by omega)] at z; omega) | (rw [if_neg (show ¬ b9 = 0 by omega)] at z; omega)))
                       refine e_go (ih (j + 1) (by omega) (by omega)) ?_
                       rw [e9, show ((((ho wh).toNat : Nat) : Int) - ((j + 1 : Nat) : Int)) = ((((ho wh).toNat : Nat) : Int) - (j : Int)) + -1 by omega]
                       exact (And.intro rfl (And.intro rfl (And.intro rfl (And.intro rfl (And.intro rfl (trivial)))))))
      refine e_iconst F dX5_most_25 ?_
      refine e_istore_n F dX5_most_26 (by decide) ?_
      refine e_aload_n F dX5_most_27 rfl ?_
      refine e_callVV F u_X5_holders (by rfl) (c_X5_holders gY hwh) gY rfl rfl w_ml_RX5_52 dX5_most_28 (by rfl) (Nat.le_of_ble_eq_true rfl) (by decide) (by omega) (fun _ _ _ h _ => False.elim h) (fun r_28 w_28 n_28 h_28 hn_28 => ?_)
      obtain ⟨rfl, ew_28, en_28⟩ := h_28
      rw [ew_28, en_28]
      refine e_istore F dX5_most_31 (by decide) ?_
      refine e_go (lp 9 0 (by omega) (by omega)) ?_
      rw [show ((((ho wh).toNat : Nat) : Int) - ((0 : Nat) : Int)) = ho wh by omega]
      exact (And.intro rfl (And.intro rfl (And.intro rfl (And.intro rfl (And.intro rfl (trivial))))))
    ·
      rw [b01_0, Classical.not_not] at c_19
      refine e_bipush F dX5_most_22 (by decide) ?_
      refine e_iret F rfl (by omega) ?_ dX5_most_24
      refine ⟨FM.th, Or.inr ⟨h_i, ?_, gM⟩⟩
      rw [if_pos (show (R ki9).dg = -1 from c_19)]
  ·
    rw [b01_0, Classical.not_not] at c_9
    rw [if_neg c_9]
    refine e_iconst F dX5_most_12 ?_
    refine e_iret F rfl (by omega) ?_ dX5_most_13
    exact ⟨FM.th, Or.inl ⟨c_9, rfl, hM.th⟩⟩
set_option maxHeartbeats 4000000 in
set_option maxRecDepth 100000 in
theorem c_X5_isSame {K : e_K} {l : Launch} {w : e_W} {n : Nat} {y wh : Nat} {t kn : Int} {R : Nat → RD} (hM : MW w y wh kn t R) {i9 : Int} (hi9 : e_r i9) {j9 : Int} (hj9 : e_r j9) : e_Met K l yX5_isSame (Cond.code yX5_isSame cX5_isSame 5 (Option.some .boolean) :: e_TB) (3) (0) [.ref y, .int (eI i9), .int (eI j9)] w n (fun r w' n' => FM w w' y n ∧ ((¬ ((0 ≤ i9 ∧ i9 < 6) ∧ (0 ≤ j9 ∧ j9 < 6)) ∧ r = some (.int (eI 0)) ∧ MW w' y wh kn 1 R) ∨ (((0 ≤ i9 ∧ i9 < 6) ∧ (0 ≤ j9 ∧ j9 < 6)) ∧ r = some (.int (eI (b01 (saB (R i9.toNat) (R j9.toNat) (ho wh).toNat = true)))) ∧ MW w' y wh (kn) 0 (R)))) (e_px0) := by
  refine e_ofV rfl (Nat.le_of_ble_eq_true rfl) ?_
  intro P9 E9 S9 M9 A9 B9 T9 C9 F hnm
  have hwh := hM.2.1
  have hY := hM.1
  have hp := pr_rg wh hwh
  have hho := ho_rg wh hwh
  have hf9 := fl_rg wh hwh
  refine e_aload_n F dX5_isSame_0 rfl ?_
  refine e_iload_n F dX5_isSame_1 rfl ?_
  refine e_callSS F u_X5_isNoDeal (by rfl) (c_X5_isNoDeal hi9) w_ml_RX5_129 dX5_isSame_2 (by rfl) (Nat.le_of_ble_eq_true rfl) (by decide) (by omega) (fun _ _ _ h _ => False.elim h) (fun r_2 w_2 n_2 h_2 hn_2 => ?_)
  obtain ⟨rfl, ew_2, en_2⟩ := h_2
  rw [ew_2, en_2]
  refine e_if_ne F 15 dX5_isSame_5 (by decide) (b01_r _) (fun c_5 => ?_) (fun c_5 => ?_)
  ·
    rw [ne_eq, b01_0, Classical.not_not] at c_5
    refine e_iconst F dX5_isSame_15 ?_
    refine e_goto F 20 dX5_isSame_16 (by decide) ?_
    refine e_iconst F dX5_isSame_20 ?_
    refine e_callVV F u_X5_start (by rfl) (c_X5_start hY (by first | exact Or.inl rfl | exact Or.inr rfl) (by decide) (by decide)) hY rfl rfl w_ml_RX5_69 dX5_isSame_21 (by rfl) (Nat.le_of_ble_eq_true rfl) (by decide) (by omega) (fun _ _ _ h _ => False.elim h) (fun r_21 w_21 n_21 h_21 hn_21 => ?_)
    obtain ⟨rfl, en_21, ew_21⟩ := h_21
    rw [en_21, ew_21]
    first | rw [if_pos (show (1 : Int) = 1 from rfl)] | rw [if_neg (show ¬ ((0 : Int) = 1) by decide)]
    have gM := hM.th (t2 := 0) (kn2 := kn)
    refine e_if_eq F 29 dX5_isSame_24 (by decide) (by decide) (fun c_24 => ?_) (fun c_24 => ?_)
    · exact absurd c_24 (by decide)
    · refine e_iconst F dX5_isSame_27 ?_
      refine e_zret F rfl (by omega) (Or.inl rfl) ?_ dX5_isSame_28
      exact ⟨FM.th, Or.inl ⟨(fun q => by omega), rfl, hM.th⟩⟩
  ·
    rw [b01_0, Classical.not_not] at c_5
    refine e_iload_n F dX5_isSame_8 rfl ?_
    refine e_callSS F u_X5_isNoDeal (by rfl) (c_X5_isNoDeal hj9) w_ml_RX5_129 dX5_isSame_9 (by rfl) (Nat.le_of_ble_eq_true rfl) (by decide) (by omega) (fun _ _ _ h _ => False.elim h) (fun r_9 w_9 n_9 h_9 hn_9 => ?_)
    obtain ⟨rfl, ew_9, en_9⟩ := h_9
    rw [ew_9, en_9]
    refine e_if_eq F 19 dX5_isSame_12 (by decide) (b01_r _) (fun c_12 => ?_) (fun c_12 => ?_)
    ·
      rw [b01_0, Classical.not_not] at c_12
      refine e_iconst F dX5_isSame_19 ?_
      refine e_iconst F dX5_isSame_20 ?_
      refine e_callVV F u_X5_start (by rfl) (c_X5_start hY (by first | exact Or.inl rfl | exact Or.inr rfl) (by decide) (by decide)) hY rfl rfl w_ml_RX5_69 dX5_isSame_21 (by rfl) (Nat.le_of_ble_eq_true rfl) (by decide) (by omega) (fun _ _ _ h _ => False.elim h) (fun r_21 w_21 n_21 h_21 hn_21 => ?_)
      obtain ⟨rfl, en_21, ew_21⟩ := h_21
      rw [en_21, ew_21]
      first | rw [if_pos (show (1 : Int) = 1 from rfl)] | rw [if_neg (show ¬ ((0 : Int) = 1) by decide)]
      have gM := hM.th (t2 := 0) (kn2 := kn)
      refine e_if_eq F 29 dX5_isSame_24 (by decide) (by decide) (fun c_24 => ?_) (fun c_24 => ?_)
      · have h_i : (0 ≤ i9 ∧ i9 < 6) ∧ (0 ≤ j9 ∧ j9 < 6) := by omega
        obtain ⟨kj9, rfl⟩ : ∃ k : Nat, j9 = (k : Int) := ⟨j9.toNat, by omega⟩
        have hkj9 : kj9 < 6 := by omega
        rw [show ((kj9 : Nat) : Int).toNat = kj9 from rfl]
        obtain ⟨ki9, rfl⟩ : ∃ k : Nat, i9 = (k : Int) := ⟨i9.toNat, by omega⟩
        have hki9 : ki9 < 6 := by omega
        rw [show ((ki9 : Nat) : Int).toNat = ki9 from rfl]
        refine e_dom ?_
        intro hdm
        obtain ⟨gY, _, ⟨G, gG, gGe⟩, ⟨SS, PP, gS, gP, gMD⟩, gRV⟩ := id gM
        have hGi := gGe ki9 hki9
        have hGj := gGe kj9 hkj9
        have hdi := MD.dg (gMD ki9 hki9)
        have hdj := MD.dg (gMD kj9 hkj9)
        have lp : ∀ (N : Nat) (k : Nat), (8 - k) < N → (k : Int) ≤ ho wh → e_V K P9 l E9 (3) (0) S9 M9 A9 B9 T9 C9 5 (fun r w' n' => FM w w' y n ∧ ((¬ ((0 ≤ ((ki9 : Nat) : Int) ∧ ((ki9 : Nat) : Int) < 6) ∧ (0 ≤ ((kj9 : Nat) : Int) ∧ ((kj9 : Nat) : Int) < 6)) ∧ r = some (.int (eI 0)) ∧ MW w' y wh kn 1 R) ∨ (((0 ≤ ((ki9 : Nat) : Int) ∧ ((ki9 : Nat) : Int) < 6) ∧ (0 ≤ ((kj9 : Nat) : Int) ∧ ((kj9 : Nat) : Int) < 6)) ∧ r = some (.int (eI (b01 (saB (R ki9) (R kj9) (ho wh).toNat = true)))) ∧ MW w' y wh (kn) 0 (R)))) (e_px0) 53 [(0, .ref y), (1, .int (eI ((ki9 : Nat) : Int))), (2, .int (eI ((kj9 : Nat) : Int))), (3, .int (eI (b01 (saB (R ki9) (R kj9) k = true)))), (4, .int (eI ((k : Int) + 1)))] [] (e_up w y (MO y 0 wh kn)) n (0) := by
          intro N
          induction N with
          | zero => intro k hN; exact absurd hN (Nat.not_lt_zero _)
          | succ N ih =>
            intro k hN hk
            refine e_iload F dX5_isSame_53 rfl ?_
            refine e_aload_n F dX5_isSame_55 rfl ?_
            refine e_callVV F u_X5_holders (by rfl) (c_X5_holders gY hwh) gY rfl rfl w_ml_RX5_52 dX5_isSame_56 (by rfl) (Nat.le_of_ble_eq_true rfl) (by decide) (by omega) (fun _ _ _ h _ => False.elim h) (fun r_56 w_56 n_56 h_56 hn_56 => ?_)
            obtain ⟨rfl, ew_56, en_56⟩ := h_56
            rw [ew_56, en_56]
            refine e_icmp_gt F 93 dX5_isSame_59 (by decide) (⟨by omega, by omega⟩) (⟨by omega, by omega⟩) (fun c_59 => ?_) (fun c_59 => ?_)
            ·
              obtain rfl : k = (ho wh).toNat := by omega
              refine e_iload_n F dX5_isSame_93 rfl ?_
              refine e_zret F rfl (by omega) (b01_or _) ?_ dX5_isSame_94
              exact ⟨FM.th, Or.inr ⟨h_i, rfl, gM⟩⟩
            ·
              have hA9 := gM.rgA hki9 (j := (k : Int) + 1) (by omega) (by omega)
              have hB9 := gM.rgA hkj9 (j := (k : Int) + 1) (by omega) (by omega)
              have hsb := b01_or (saB (R ki9) (R kj9) k = true)
              have e6 : saB (R ki9) (R kj9) (k + 1) = (saB (R ki9) (R kj9) k && decide ((R ki9).A ((k : Int) + 1) = (R kj9).A ((k : Int) + 1))) := rfl
              refine e_iload_n F dX5_isSame_62 rfl ?_
              refine e_aload_n F dX5_isSame_63 rfl ?_
              refine e_iload_n F dX5_isSame_64 rfl ?_
              refine e_iload F dX5_isSame_65 rfl ?_
              refine e_callVV F u_X5_shareOf (by rfl) (c_X5_shareOf gM hki9 (h := (k : Int) + 1) (by omega) (by omega)) gY rfl rfl w_ml_RX5_180 dX5_isSame_67 (by rfl) (Nat.le_of_ble_eq_true rfl) (by decide) (by omega) (fun _ _ _ h _ => False.elim h) (fun r_67 w_67 n_67 h_67 hn_67 => ?_)
              obtain ⟨rfl, ew_67, en_67⟩ := h_67
              rw [ew_67, en_67]
              refine e_aload_n F dX5_isSame_70 rfl ?_
              refine e_iload_n F dX5_isSame_71 rfl ?_
              refine e_iload F dX5_isSame_72 rfl ?_
              refine e_callVV F u_X5_shareOf (by rfl) (c_X5_shareOf gM hkj9 (h := (k : Int) + 1) (by omega) (by omega)) gY rfl rfl w_ml_RX5_180 dX5_isSame_74 (by rfl) (Nat.le_of_ble_eq_true rfl) (by decide) (by omega) (fun _ _ _ h _ => False.elim h) (fun r_74 w_74 n_74 h_74 hn_74 => ?_)
              obtain ⟨rfl, ew_74, en_74⟩ := h_74
              rw [ew_74, en_74]
              refine e_icmp_ne F 84 dX5_isSame_77 (by decide) (⟨by omega, by omega⟩) (⟨by omega, by omega⟩) (fun c_77 => ?_) (fun c_77 => ?_)
              · refine e_iconst F dX5_isSame_84 ?_
                refine e_iand F dX5_isSame_85 (by first | exact e_and1 hsb | exact e_and0 hsb) ?_
                refine e_istore_n F dX5_isSame_86 (by decide) ?_
                refine e_iinc F dX5_isSame_87 rfl (by decide) ?_
                refine e_goto F 53 dX5_isSame_90 (by decide) ?_
                first
                | (rw [decide_eq_true c_77, Bool.and_true] at e6
                   have l9 := ih (k + 1) (by omega) (by omega)
                   rw [e6] at l9
                   exact e_go l9 (And.intro rfl (And.intro rfl (And.intro rfl (And.intro rfl (And.intro rfl (trivial)))))))
                | (rw [decide_eq_false c_77, Bool.and_false] at e6
                   have l9 := ih (k + 1) (by omega) (by omega)
                   rw [e6] at l9
                   exact e_go l9 (And.intro rfl (And.intro rfl (And.intro rfl (And.intro rfl (And.intro rfl (trivial)))))))
              · refine e_iconst F dX5_isSame_80 ?_
                refine e_goto F 85 dX5_isSame_81 (by decide) ?_
                refine e_iand F dX5_isSame_85 (by first | exact e_and1 hsb | exact e_and0 hsb) ?_
                refine e_istore_n F dX5_isSame_86 (by decide) ?_
                refine e_iinc F dX5_isSame_87 rfl (by decide) ?_
                refine e_goto F 53 dX5_isSame_90 (by decide) ?_
                first
                | (rw [decide_eq_true c_77, Bool.and_true] at e6
                   have l9 := ih (k + 1) (by omega) (by omega)
                   rw [e6] at l9
                   exact e_go l9 (And.intro rfl (And.intro rfl (And.intro rfl (And.intro rfl (And.intro rfl (trivial)))))))
                | (rw [decide_eq_false c_77, Bool.and_false] at e6
                   have l9 := ih (k + 1) (by omega) (by omega)
                   rw [e6] at l9
                   exact e_go l9 (And.intro rfl (And.intro rfl (And.intro rfl (And.intro rfl (And.intro rfl (trivial)))))))
        refine e_aload_n F dX5_isSame_29 rfl ?_
        refine e_get (ci := 5) (fi := 3) (q := (RX5, TX5, 6)) F gY rfl (by decide) w_fl_RX5_13 (by rfl) dX5_isSame_30 ?_
        refine e_iload_n F dX5_isSame_33 rfl ?_
        refine e_iald F gG (by omega) (by omega) (by first | decide | omega) dX5_isSame_34 ?_
        rw [hGi]
        refine e_aload_n F dX5_isSame_35 rfl ?_
        refine e_get (ci := 5) (fi := 3) (q := (RX5, TX5, 6)) F gY rfl (by decide) w_fl_RX5_13 (by rfl) dX5_isSame_36 ?_
        refine e_iload_n F dX5_isSame_39 rfl ?_
        refine e_iald F gG (by omega) (by omega) (by first | decide | omega) dX5_isSame_40 ?_
        rw [hGj]
        refine e_icmp_ne F 48 dX5_isSame_41 (by decide) (⟨by omega, by omega⟩) (⟨by omega, by omega⟩) (fun c_41 => ?_) (fun c_41 => ?_)
        · refine e_iconst F dX5_isSame_48 ?_
          refine e_istore_n F dX5_isSame_49 (by decide) ?_
          refine e_iconst F dX5_isSame_50 ?_
          refine e_istore F dX5_isSame_51 (by decide) ?_
          first
          | (have l9 := lp 9 0 (by omega) (by omega)
             rw [show b01 (saB (R ki9) (R kj9) 0 = true) = 1 from b01_t (decide_eq_true c_41)] at l9
             exact e_go l9 (And.intro rfl (And.intro rfl (And.intro rfl (And.intro rfl (And.intro rfl (trivial)))))))
          | (have l9 := lp 9 0 (by omega) (by omega)
             rw [show b01 (saB (R ki9) (R kj9) 0 = true) = 0 from b01_f (by show ¬ (decide ((R ki9).dg = (R kj9).dg) = true); rw [decide_eq_false c_41]; decide)] at l9
             exact e_go l9 (And.intro rfl (And.intro rfl (And.intro rfl (And.intro rfl (And.intro rfl (trivial)))))))
        · refine e_iconst F dX5_isSame_44 ?_
          refine e_goto F 49 dX5_isSame_45 (by decide) ?_
          refine e_istore_n F dX5_isSame_49 (by decide) ?_
          refine e_iconst F dX5_isSame_50 ?_
          refine e_istore F dX5_isSame_51 (by decide) ?_
          first
          | (have l9 := lp 9 0 (by omega) (by omega)
             rw [show b01 (saB (R ki9) (R kj9) 0 = true) = 1 from b01_t (decide_eq_true c_41)] at l9
             exact e_go l9 (And.intro rfl (And.intro rfl (And.intro rfl (And.intro rfl (And.intro rfl (trivial)))))))
          | (have l9 := lp 9 0 (by omega) (by omega)
             rw [show b01 (saB (R ki9) (R kj9) 0 = true) = 0 from b01_f (by show ¬ (decide ((R ki9).dg = (R kj9).dg) = true); rw [decide_eq_false c_41]; decide)] at l9
             exact e_go l9 (And.intro rfl (And.intro rfl (And.intro rfl (And.intro rfl (And.intro rfl (trivial)))))))
      · exact absurd c_24 (by decide)
    ·
      rw [b01_0, Classical.not_not] at c_12
      refine e_iconst F dX5_isSame_15 ?_
      refine e_goto F 20 dX5_isSame_16 (by decide) ?_
      refine e_iconst F dX5_isSame_20 ?_
      refine e_callVV F u_X5_start (by rfl) (c_X5_start hY (by first | exact Or.inl rfl | exact Or.inr rfl) (by decide) (by decide)) hY rfl rfl w_ml_RX5_69 dX5_isSame_21 (by rfl) (Nat.le_of_ble_eq_true rfl) (by decide) (by omega) (fun _ _ _ h _ => False.elim h) (fun r_21 w_21 n_21 h_21 hn_21 => ?_)
      obtain ⟨rfl, en_21, ew_21⟩ := h_21
      rw [en_21, ew_21]
      first | rw [if_pos (show (1 : Int) = 1 from rfl)] | rw [if_neg (show ¬ ((0 : Int) = 1) by decide)]
      have gM := hM.th (t2 := 0) (kn2 := kn)
      refine e_if_eq F 29 dX5_isSame_24 (by decide) (by decide) (fun c_24 => ?_) (fun c_24 => ?_)
      · exact absurd c_24 (by decide)
      · refine e_iconst F dX5_isSame_27 ?_
        refine e_zret F rfl (by omega) (Or.inl rfl) ?_ dX5_isSame_28
        exact ⟨FM.th, Or.inl ⟨(fun q => by omega), rfl, hM.th⟩⟩
end
-- 53.lay.lean.txt
section
/-! the reference: what is done with deals -/
def lpR (wh : Nat) (g : Int) (P : Int → Int) : RD := (g, 1, fun h => if 1 ≤ h ∧ h ≤ ho wh then hv (pr wh) h P ((g.toNat + 1 : Nat) : Int) (g.toNat + 1) else -1, P)
theorem lpR_MD {w : e_W} {y wh a b : Nat} {g : Int} {P f q : Int → Int} (hwh : wh < 7) (hg : 0 ≤ g ∧ g ≤ 6) (hya : y + 3 < a) (hyb : y + 3 < b) (wa : w a = some (e_ia ((ho wh).toNat + 1) f)) (f0 : f 0 = -1) (hf : ∀ j : Int, 1 ≤ j → j ≤ ho wh → f j = hv (pr wh) j P ((g.toNat + 1 : Nat) : Int) (g.toNat + 1)) (wb : w b = some (e_ia (g.toNat + 1) q)) (hq : ∀ j : Int, 0 ≤ j → j ≤ g → q j = P j) (hP : ∀ j : Int, 0 ≤ j → j ≤ g → 0 ≤ P j ∧ P j < pr wh) : MD w y wh (some a) (some b) (lpR wh g P) := by
  have hp := pr_rg wh hwh
  have hho := ho_rg wh hwh
  have eg : (lpR wh g P).dg = g := rfl
  refine Or.inr ⟨hg, ⟨a, f, rfl, hya, wa, fun j j0 j1 => ?_, fun j j0 j1 => ?_⟩, Or.inr ⟨rfl, b, q, rfl, hyb, wb, fun j j0 j1 => ?_, fun j j0 j1 => hq j j0 (by omega)⟩⟩
  · by_cases e : j = 0
    · rw [e, f0]; omega
    · rw [hf j (by omega) (by omega)]
      have := hv_rg (x := j) (P := P) (N := ((g.toNat + 1 : Nat) : Int)) (show 0 < pr wh by omega) (g.toNat + 1)
      omega
  · show f j = if 1 ≤ j ∧ j ≤ ho wh then _ else -1
    rw [if_pos ⟨j0, by omega⟩]
    exact hf j j0 (by omega)
  · rw [hq j j0 (by omega)]
    have := hP j j0 (by omega)
    omega
theorem lpR_RV {wh : Nat} {g : Int} {P : Int → Int} (hwh : wh < 7) (hg : 0 ≤ g ∧ g ≤ 6) (hP : ∀ j : Int, 0 ≤ j → j ≤ g → 0 ≤ P j ∧ P j < pr wh) : RV wh (lpR wh g P) := by
  have hp := pr_rg wh hwh
  refine ⟨fun j j0 j1 => ?_, fun _ => hP, fun q => absurd q (show ¬ g = -1 by omega)⟩
  show (if 1 ≤ j ∧ j ≤ ho wh then hv (pr wh) j P ((g.toNat + 1 : Nat) : Int) (g.toNat + 1) else -1) = -1 ∨ _
  by_cases e : 1 ≤ j ∧ j ≤ ho wh
  · right
    show 0 ≤ (if 1 ≤ j ∧ j ≤ ho wh then hv (pr wh) j P ((g.toNat + 1 : Nat) : Int) (g.toNat + 1) else -1) ∧ (if 1 ≤ j ∧ j ≤ ho wh then hv (pr wh) j P ((g.toNat + 1 : Nat) : Int) (g.toNat + 1) else -1) < pr wh ∧ j ≤ ho wh
    rw [if_pos e]
    have := hv_rg (x := j) (P := P) (N := ((g.toNat + 1 : Nat) : Int)) (show 0 < pr wh by omega) (g.toNat + 1)
    exact ⟨this.1, this.2, e.2⟩
  · exact Or.inl (if_neg e)
theorem bcm_rg {wh : Nat} (hwh : wh < 7) (g a b c d j : Int) : 0 ≤ bcm (pr wh) g a b c d j ∧ bcm (pr wh) g a b c d j < pr wh := by
  have hp := pr_rg wh hwh
  have ha := emod_rg a hwh
  have hb := emod_rg b hwh
  have hc := emod_rg c hwh
  have hd := emod_rg d hwh
  unfold bcm
  split
  · exact ha
  · split
    · split <;> omega
    · split
      · split <;> omega
      · split
        · split <;> omega
        · omega
theorem suK_bs (wh : Nat) (r : RD) (k : Nat) : suK wh r k = bsK (fun j => decide (hs (st7 r.A) ((j : Int) + 1) ∧ agD wh r (st7 r.A - 2 ^ j))) k := by
  induction k with
  | zero => rfl
  | succ k ih =>
    have e1 : suK wh r (k + 1) = if hs (st7 r.A) ((k : Int) + 1) ∧ agD wh r (st7 r.A - 2 ^ k) then suK wh r k + 2 ^ k else suK wh r k := rfl
    have e2 : bsK (fun j => decide (hs (st7 r.A) ((j : Int) + 1) ∧ agD wh r (st7 r.A - 2 ^ j))) (k + 1) = bsK (fun j => decide (hs (st7 r.A) ((j : Int) + 1) ∧ agD wh r (st7 r.A - 2 ^ j))) k + (if decide (hs (st7 r.A) ((k : Int) + 1) ∧ agD wh r (st7 r.A - 2 ^ k)) = true then 2 ^ k else 0) := rfl
    rw [e1, e2, ← ih]
    by_cases h : hs (st7 r.A) ((k : Int) + 1) ∧ agD wh r (st7 r.A - 2 ^ k)
    · rw [if_pos h, if_pos (decide_eq_true h)]
    · rw [if_neg h, if_neg (by rw [decide_eq_false h]; decide), Int.add_zero]
theorem wrV_pos {wh : Nat} (hwh : wh < 7) {r : RD} (h : 0 < wrV wh r) : 1 ≤ wrV wh r ∧ wrV wh r ≤ ho wh ∧ hs (st7 r.A) (wrV wh r) ∧ ¬ r.dg = -1 := by
  have hho := ho_rg wh hwh
  unfold wrV at h ⊢
  by_cases h1 : r.dg = -1
  · rw [if_pos h1] at h; omega
  · rw [if_neg h1] at h ⊢
    by_cases h2 : agD wh r (st7 r.A)
    · rw [if_pos h2] at h; omega
    · rw [if_neg h2] at h ⊢
      by_cases h3 : bc (st7 r.A) < r.dg + 3
      · rw [if_pos h3] at h; omega
      · rw [if_neg h3] at h ⊢
        obtain ⟨a1, a2, a3⟩ := ffd_rg (set := suK wh r (ho wh).toNat) (M := ho wh) (ho wh).toNat (by omega) h
        refine ⟨a2, a3, ?_, h1⟩
        obtain ⟨j, hj⟩ : ∃ j : Nat, ffd (suK wh r (ho wh).toNat) (ho wh) (ho wh).toNat = (j : Int) + 1 := ⟨(ffd (suK wh r (ho wh).toNat) (ho wh) (ho wh).toNat - 1).toNat, by omega⟩
        rw [hj] at a1 ⊢
        rw [suK_bs] at a1
        have := ((bsK_hs _ _).mp a1).2
        exact (of_decide_eq_true this).1
theorem ffd_lo (set M : Int) : ∀ r : Nat, (r : Int) ≤ M → -9 ≤ ffd set M r ∧ ffd set M r ≤ M := by
  intro r
  induction r with
  | zero => intro h; show -9 ≤ (-9 : Int) ∧ (-9 : Int) ≤ M; omega
  | succ r ih =>
    intro h
    show -9 ≤ (if hs set (M - (r : Int)) then M - (r : Int) else ffd set M r) ∧ (if hs set (M - (r : Int)) then M - (r : Int) else ffd set M r) ≤ M
    have := ih (by omega)
    split <;> omega
theorem wrV_rg {wh : Nat} (hwh : wh < 7) (r : RD) : -9 ≤ wrV wh r ∧ wrV wh r ≤ 7 := by
  have hho := ho_rg wh hwh
  have := ffd_lo (suK wh r (ho wh).toNat) (ho wh) (ho wh).toNat (by omega)
  unfold wrV
  split
  · omega
  · split
    · omega
    · split <;> omega
theorem hs_zero (h : Int) : ¬ hs 0 h := by
  show ¬ (0 / 2 ^ (h - 1).toNat % 2 = 1)
  rw [Int.zero_ediv]
  decide
theorem hs_ne {w : e_W} {y wh i : Nat} {kn t : Int} {R : Nat → RD} (h : MW w y wh kn t R) (hi : i < 6) {g : Int} (hg : hs (st7 (R i).A) g) : ¬ (R i).dg = -1 := by
  intro q
  rw [st7_emp ((h.2.2.2.2 i hi).2.2 q)] at hg
  exact hs_zero g hg
set_option maxHeartbeats 4000000 in
set_option maxRecDepth 100000 in
theorem c_X5_emptyW {K : e_K} {l : Launch} {w : e_W} {n : Nat} {y wh : Nat} {t kn : Int} (hY : w y = some (MO y t wh kn)) {G : Int → Int} {SS PP : Int → Option Nat} (hG : w (y + 1) = some (e_ia 6 G)) (hS : w (y + 2) = some (e_ra 6 SS)) (hP : w (y + 3) = some (e_ra 6 PP)) {i : Nat} (hi : i < 6) : e_Met K l yX5_empty (Cond.code yX5_empty cX5_empty 2 none :: e_TB) (0) (0) [.ref y, .int (eI (i : Int))] w n (fun r w' n' => r = none ∧ n' = n ∧ w' = W3 w y G SS PP i (-1) none none) (e_px0) := by
  refine e_ofV rfl (Nat.le_of_ble_eq_true rfl) ?_
  intro P9 E9 S9 M9 A9 B9 T9 C9 F hnm
  refine e_aload_n F dX5_empty_0 rfl ?_
  refine e_get (ci := 5) (fi := 3) (q := (RX5, TX5, 6)) F hY rfl (by decide) w_fl_RX5_13 (by rfl) dX5_empty_1 ?_
  refine e_iload_n F dX5_empty_4 rfl ?_
  refine e_iconst F dX5_empty_5 ?_
  refine e_iast F hG (by omega) (by omega) (by first | decide | omega) dX5_empty_6 ?_
  refine e_aload_n F dX5_empty_7 rfl ?_
  refine e_get (ci := 5) (fi := 4) (q := (RX5, TX5, 6)) F (show e_up w (y + 1) _ y = _ by rw [e_up_n (by omega)]; exact hY) rfl (by decide) w_fl_RX5_18 (by rfl) dX5_empty_8 ?_
  refine e_iload_n F dX5_empty_11 rfl ?_
  refine e_null F dX5_empty_12 ?_
  refine e_aastRN F (f := SS) (show e_up w (y + 1) _ (y + 2) = _ by rw [e_up_n (by omega)]; exact hS) (by omega) (by omega) (by decide) dX5_empty_13 ?_
  refine e_aload_n F dX5_empty_14 rfl ?_
  refine e_get (ci := 5) (fi := 5) (q := (RX5, TX5, 6)) F (show e_up (e_up w (y + 1) _) (y + 2) _ y = _ by rw [e_up_n (by omega), e_up_n (by omega)]; exact hY) rfl (by decide) w_fl_RX5_22 (by rfl) dX5_empty_15 ?_
  refine e_iload_n F dX5_empty_18 rfl ?_
  refine e_null F dX5_empty_19 ?_
  refine e_aastRN F (f := PP) (show e_up (e_up w (y + 1) _) (y + 2) _ (y + 3) = _ by rw [e_up_n (by omega), e_up_n (by omega)]; exact hP) (by omega) (by omega) (by decide) dX5_empty_20 ?_
  refine e_vret F rfl (by omega) ?_ dX5_empty_21
  exact ⟨rfl, rfl, rfl⟩
set_option maxHeartbeats 4000000 in
set_option maxRecDepth 100000 in
theorem c_X5_prime {K : e_K} {l : Launch} {w : e_W} {n : Nat} {y wh : Nat} {t kn : Int} {R : Nat → RD} (hM : MW w y wh kn t R) {v9 : Int} (hv9 : e_r v9) : e_Met K l yX5_prime (Cond.code yX5_prime cX5_prime 4 (Option.some .int) :: e_TB) (2) (0) [.ref y, .int (eI v9)] w n (fun r w' n' => FM w w' y n ∧ ((¬ (0 ≤ v9 ∧ v9 ≤ 6) ∧ r = some (.int (eI 0)) ∧ MW w' y wh kn 1 R) ∨ ((0 ≤ v9 ∧ v9 ≤ 6) ∧ r = some (.int (eI (pr wh))) ∧ MW w' y v9.toNat (kn) 0 (fun j => emR (R j))))) (e_px0) := by
  refine e_ofV rfl (Nat.le_of_ble_eq_true rfl) ?_
  intro P9 E9 S9 M9 A9 B9 T9 C9 F hnm
  have hwh := hM.2.1
  have hY := hM.1
  have hp := pr_rg wh hwh
  have hho := ho_rg wh hwh
  have hf9 := fl_rg wh hwh
  refine e_aload_n F dX5_prime_0 rfl ?_
  refine e_iload_n F dX5_prime_1 rfl ?_
  refine e_iconst F dX5_prime_2 ?_
  refine e_bipush F dX5_prime_3 (by decide) ?_
  refine e_callSS F u_X5_isIn (by rfl) (c_X5_isIn (v := v9) (a := 0) (b := 6) hv9 (by decide) (by decide)) w_ml_RX5_48 dX5_prime_5 (by rfl) (Nat.le_of_ble_eq_true rfl) (by decide) (by omega) (fun _ _ _ h _ => False.elim h) (fun r_5 w_5 n_5 h_5 hn_5 => ?_)
  obtain ⟨rfl, ew_5, en_5⟩ := h_5
  rw [ew_5, en_5]
  refine e_if_ne F 15 dX5_prime_8 (by decide) (b01_r _) (fun c_8 => ?_) (fun c_8 => ?_)
  ·
    rw [ne_eq, b01_0, Classical.not_not] at c_8
    refine e_iconst F dX5_prime_15 ?_
    refine e_iconst F dX5_prime_16 ?_
    refine e_callVV F u_X5_start (by rfl) (c_X5_start hY (by first | exact Or.inl rfl | exact Or.inr rfl) (by decide) (by decide)) hY rfl rfl w_ml_RX5_69 dX5_prime_17 (by rfl) (Nat.le_of_ble_eq_true rfl) (by decide) (by omega) (fun _ _ _ h _ => False.elim h) (fun r_17 w_17 n_17 h_17 hn_17 => ?_)
    obtain ⟨rfl, en_17, ew_17⟩ := h_17
    rw [en_17, ew_17]
    first | rw [if_pos (show (1 : Int) = 1 from rfl)] | rw [if_neg (show ¬ ((0 : Int) = 1) by decide)]
    have gM := hM.th (t2 := 0) (kn2 := kn)
    refine e_if_eq F 25 dX5_prime_20 (by decide) (by decide) (fun c_20 => ?_) (fun c_20 => ?_)
    · have h_v : (0 ≤ v9 ∧ v9 ≤ 6) := c_8
      obtain ⟨kv, rfl⟩ : ∃ k : Nat, v9 = (k : Int) := ⟨v9.toNat, by omega⟩
      rw [show ((kv : Nat) : Int).toNat = kv from rfl]
      obtain ⟨gY, _, ⟨G, gG, gGe⟩, ⟨SS, PP, gS, gP, gMD⟩, gRV⟩ := id gM
      have lp : ∀ (N k : Nat) (wl : e_W) (G : Int → Int) (SS PP : Int → Option Nat), 8 - k < N → (k ≤ 6 ∧ wl y = some (MO y 0 kv kn) ∧ wl (y + 1) = some (e_ia 6 G) ∧ wl (y + 2) = some (e_ra 6 SS) ∧ wl (y + 3) = some (e_ra 6 PP) ∧ (∀ j : Nat, j < k → G (j : Int) = -1 ∧ SS (j : Int) = none ∧ PP (j : Int) = none) ∧ FM w wl y n) → e_V K P9 l E9 (2) (0) S9 M9 A9 B9 T9 C9 4 (fun r w' n' => FM w w' y n ∧ ((¬ (0 ≤ ((kv : Nat) : Int) ∧ ((kv : Nat) : Int) ≤ 6) ∧ r = some (.int (eI 0)) ∧ MW w' y wh kn 1 R) ∨ ((0 ≤ ((kv : Nat) : Int) ∧ ((kv : Nat) : Int) ≤ 6) ∧ r = some (.int (eI (pr wh))) ∧ MW w' y kv (kn) 0 (fun j => emR (R j))))) (e_px0) 37 [(0, .ref y), (2, .int (eI (pr wh))), (3, .int (eI (k : Int)))] [] wl n (0) := by
        intro N
        induction N with
        | zero => intro k wl G SS PP hN; exact absurd hN (Nat.not_lt_zero _)
        | succ N ih =>
          intro k wl G SS PP hN ⟨hk, gY, gG, gS, gP, gj, gF⟩
          refine e_iload_n F dX5_prime_37 rfl ?_
          refine e_bipush F dX5_prime_38 (by decide) ?_
          refine e_icmp_ge F 54 dX5_prime_40 (by decide) (⟨by omega, by omega⟩) (⟨by omega, by omega⟩) (fun c_40 => ?_) (fun c_40 => ?_)
          ·
            obtain rfl : k = 6 := by omega
            refine e_iload_n F dX5_prime_54 rfl ?_
            refine e_iret F rfl (by omega) ?_ dX5_prime_55
            exact ⟨gF, Or.inr ⟨h_v, rfl, ⟨gY, by omega, ⟨G, gG, fun j hj => (gj j hj).1⟩, ⟨SS, PP, gS, gP, fun j hj => by rw [(gj j hj).2.1, (gj j hj).2.2]; exact emR_MD (R j)⟩, fun j hj => emR_RV (R j)⟩⟩⟩
          · refine e_aload_n F dX5_prime_43 rfl ?_
            refine e_iload_n F dX5_prime_44 rfl ?_
            refine e_callVV F u_X5_empty (by rfl) (c_X5_emptyW gY gG gS gP (i := k) (by omega)) gY rfl rfl w_ml_RX5_72 dX5_prime_45 (by rfl) (Nat.le_of_ble_eq_true rfl) (by decide) (by omega) (fun _ _ _ h _ => False.elim h) (fun r_45 w_45 n_45 h_45 hn_45 => ?_)
            obtain ⟨rfl, en_45, ew_45⟩ := h_45
            rw [en_45, ew_45]
            refine e_iinc F dX5_prime_48 rfl (by decide) ?_
            refine e_goto F 37 dX5_prime_51 (by decide) ?_
            refine e_go (ih (k + 1) _ _ _ _ (by omega) ⟨by omega, by rw [W3.n (by omega) (by omega) (by omega)]; exact gY, by unfold W3; rw [e_up_n (by omega), e_up_n (by omega)]; exact e_up_s, by unfold W3; rw [e_up_n (by omega)]; exact e_up_s, by unfold W3; exact e_up_s, fun j hj => ?_, fun q q1 q2 => by rw [W3.n (by omega) (by omega) (by omega)]; exact gF q q1 q2⟩) ?_
            · unfold e_fu
              by_cases e : j = k
              · rw [if_pos (by omega), if_pos (by omega), if_pos (by omega)]; exact ⟨rfl, rfl, rfl⟩
              · rw [if_neg (by omega), if_neg (by omega), if_neg (by omega)]; exact gj j (by omega)
            · exact (And.intro rfl (And.intro rfl (And.intro rfl (trivial))))
      refine e_aload_n F dX5_prime_25 rfl ?_
      refine e_callVV F u_X5_p (by rfl) (c_X5_p gY hwh) gY rfl rfl w_ml_RX5_38 dX5_prime_26 (by rfl) (Nat.le_of_ble_eq_true rfl) (by decide) (by omega) (fun _ _ _ h _ => False.elim h) (fun r_26 w_26 n_26 h_26 hn_26 => ?_)
      obtain ⟨rfl, ew_26, en_26⟩ := h_26
      rw [ew_26, en_26]
      refine e_istore_n F dX5_prime_29 (by decide) ?_
      refine e_aload_n F dX5_prime_30 rfl ?_
      refine e_iload_n F dX5_prime_31 rfl ?_
      refine e_set (host := "") (ci := 5) (fi := 1) (q := (RX5, TX5, 6)) F gY rfl (by decide) w_fl_RX5_7 rfl (by rfl) (by rfl) (Nat.le_of_ble_eq_true rfl) dX5_prime_32 ?_
      refine e_iconst F dX5_prime_35 ?_
      refine e_istore_n F dX5_prime_36 (by decide) ?_
      refine e_go (lp 9 0 _ G SS PP (by omega) ⟨by omega, e_up_s, by rw [e_up_n (by omega)]; exact gG, by rw [e_up_n (by omega)]; exact gS, by rw [e_up_n (by omega)]; exact gP, fun j hj => absurd hj (Nat.not_lt_zero _), fun q q1 q2 => by rw [e_up_n (by omega), e_up_n (by omega)]⟩) (And.intro rfl (And.intro rfl (And.intro rfl (trivial))))
    · exact absurd c_20 (by decide)
  ·
    rw [b01_0] at c_8
    refine e_iconst F dX5_prime_11 ?_
    refine e_goto F 16 dX5_prime_12 (by decide) ?_
    refine e_iconst F dX5_prime_16 ?_
    refine e_callVV F u_X5_start (by rfl) (c_X5_start hY (by first | exact Or.inl rfl | exact Or.inr rfl) (by decide) (by decide)) hY rfl rfl w_ml_RX5_69 dX5_prime_17 (by rfl) (Nat.le_of_ble_eq_true rfl) (by decide) (by omega) (fun _ _ _ h _ => False.elim h) (fun r_17 w_17 n_17 h_17 hn_17 => ?_)
    obtain ⟨rfl, en_17, ew_17⟩ := h_17
    rw [en_17, ew_17]
    first | rw [if_pos (show (1 : Int) = 1 from rfl)] | rw [if_neg (show ¬ ((0 : Int) = 1) by decide)]
    have gM := hM.th (t2 := 0) (kn2 := kn)
    refine e_if_eq F 25 dX5_prime_20 (by decide) (by decide) (fun c_20 => ?_) (fun c_20 => ?_)
    · exact absurd c_20 (by decide)
    · refine e_iconst F dX5_prime_23 ?_
      refine e_iret F rfl (by omega) ?_ dX5_prime_24
      exact ⟨FM.th, Or.inl ⟨c_8, rfl, hM.th⟩⟩
set_option maxHeartbeats 4000000 in
set_option maxRecDepth 100000 in
theorem c_X5_hide {K : e_K} {l : Launch} {w : e_W} {n : Nat} {y wh : Nat} {t kn : Int} {R : Nat → RD} (hM : MW w y wh kn t R) {i9 : Int} (hi9 : e_r i9) {g9 : Int} (hg9 : e_r g9) {a9 : Int} (ha9 : e_r a9) {b9 : Int} (hb9 : e_r b9) {c9 : Int} (hc9 : e_r c9) {d9 : Int} (hd9 : e_r d9) : e_Met K l yX5_hide (Cond.code yX5_hide cX5_hide 8 (Option.some .int) :: e_TB) (4) (3) [.ref y, .int (eI i9), .int (eI g9), .int (eI a9), .int (eI b9), .int (eI c9), .int (eI d9)] w n (fun r w' n' => FM w w' y n ∧ ((¬ (0 ≤ i9 ∧ i9 < 6) ∧ r = some (.int (eI 0)) ∧ MW w' y wh kn 1 R) ∨ ((0 ≤ i9 ∧ i9 < 6) ∧ ¬ (0 ≤ g9 ∧ g9 ≤ 3) ∧ r = some (.int (eI 0)) ∧ MW w' y wh kn 2 R) ∨ ((0 ≤ i9 ∧ i9 < 6) ∧ (0 ≤ g9 ∧ g9 ≤ 3) ∧ r = some (.int (eI ((bc (st7 (lpR wh g9 (bcm (pr wh) g9 a9 b9 c9 d9)).A), updR R i9.toNat (lpR wh g9 (bcm (pr wh) g9 a9 b9 c9 d9))).1))) ∧ MW w' y wh (kn) 0 ((bc (st7 (lpR wh g9 (bcm (pr wh) g9 a9 b9 c9 d9)).A), updR R i9.toNat (lpR wh g9 (bcm (pr wh) g9 a9 b9 c9 d9))).2)))) (e_px0) := by
  refine e_ofV rfl (Nat.le_of_ble_eq_true rfl) ?_
  intro P9 E9 S9 M9 A9 B9 T9 C9 F hnm
  have hwh := hM.2.1
  have hY := hM.1
  have hp := pr_rg wh hwh
  have hho := ho_rg wh hwh
  have hf9 := fl_rg wh hwh
  refine e_aload_n F dX5_hide_0 rfl ?_
  refine e_iload_n F dX5_hide_1 rfl ?_
  refine e_callSS F u_X5_isNoDeal (by rfl) (c_X5_isNoDeal hi9) w_ml_RX5_129 dX5_hide_2 (by rfl) (Nat.le_of_ble_eq_true rfl) (by decide) (by omega) (fun _ _ _ h _ => False.elim h) (fun r_2 w_2 n_2 h_2 hn_2 => ?_)
  obtain ⟨rfl, ew_2, en_2⟩ := h_2
  rw [ew_2, en_2]
  refine e_iconst F dX5_hide_5 ?_
  refine e_callVV F u_X5_start (by rfl) (c_X5_start hY (b01_or _) (by decide) (by decide)) hY rfl rfl w_ml_RX5_69 dX5_hide_6 (by rfl) (Nat.le_of_ble_eq_true rfl) (by decide) (by omega) (fun _ _ _ h _ => False.elim h) (fun r_6 w_6 n_6 h_6 hn_6 => ?_)
  obtain ⟨rfl, en_6, ew_6⟩ := h_6
  rw [en_6, ew_6, st1]
  refine e_if_ne F 34 dX5_hide_9 (by decide) (b01_r _) (fun c_9 => ?_) (fun c_9 => ?_)
  ·
    rw [ne_eq, b01_0, Classical.not_not] at c_9
    rw [if_neg c_9]
    refine e_iconst F dX5_hide_34 ?_
    refine e_iret F rfl (by omega) ?_ dX5_hide_35
    first
    | exact ⟨FM.th, Or.inr (Or.inl ⟨h_i, c_19, rfl, hM.th⟩)⟩
    | exact ⟨FM.th, Or.inl ⟨c_9, rfl, hM.th⟩⟩
  ·
    rw [b01_0, Classical.not_not] at c_9
    rw [if_pos c_9]
    have gM := hM.th (t2 := 0) (kn2 := kn)
    have h_i := c_9
    obtain ⟨ki9, rfl⟩ : ∃ k : Nat, i9 = (k : Int) := ⟨i9.toNat, by omega⟩
    have hki9 : ki9 < 6 := by omega
    rw [show ((ki9 : Nat) : Int).toNat = ki9 from rfl]
    refine e_dom ?_
    intro hdm
    obtain ⟨gY, _, ⟨G, gG, gGe⟩, ⟨SS, PP, gS, gP, gMD⟩, gRV⟩ := id gM
    refine e_aload_n F dX5_hide_12 rfl ?_
    refine e_iload_n F dX5_hide_13 rfl ?_
    refine e_iconst F dX5_hide_14 ?_
    refine e_iconst F dX5_hide_15 ?_
    refine e_callSS F u_X5_isIn (by rfl) (c_X5_isIn (v := g9) (a := 0) (b := 3) hg9 (by decide) (by decide)) w_ml_RX5_48 dX5_hide_16 (by rfl) (Nat.le_of_ble_eq_true rfl) (by decide) (by omega) (fun _ _ _ h _ => False.elim h) (fun r_16 w_16 n_16 h_16 hn_16 => ?_)
    obtain ⟨rfl, ew_16, en_16⟩ := h_16
    rw [ew_16, en_16]
    refine e_if_ne F 26 dX5_hide_19 (by decide) (b01_r _) (fun c_19 => ?_) (fun c_19 => ?_)
    ·
      rw [ne_eq, b01_0, Classical.not_not] at c_19
      refine e_iconst F dX5_hide_26 ?_
      refine e_iconst F dX5_hide_27 ?_
      refine e_callVV F u_X5_refuse (by rfl) (c_X5_refuse gY (by decide) (by decide) (by first | exact Or.inl rfl | exact Or.inr rfl) (by decide) (by decide)) gY rfl rfl w_ml_RX5_28 dX5_hide_28 (by rfl) (Nat.le_of_ble_eq_true rfl) (by decide) (by omega) (fun _ _ _ h _ => False.elim h) (fun r_28 w_28 n_28 h_28 hn_28 => ?_)
      obtain ⟨rfl, en_28, ew_28⟩ := h_28
      rw [en_28, ew_28, e_up_up]
      first | (rw [if_pos (show (1 : Int) = 1 ∧ (0 : Int) = 0 by decide), b01_t (by decide)]) | (rw [if_neg (show ¬ ((0 : Int) = 1 ∧ (0 : Int) = 0) by decide), b01_f (by decide)])
      refine e_if_eq F 36 dX5_hide_31 (by decide) (by decide) (fun c_31 => ?_) (fun c_31 => ?_)
      · refine e_aload_n F dX5_hide_36 rfl ?_
        refine e_iload_n F dX5_hide_37 rfl ?_
        refine e_iload_n F dX5_hide_38 rfl ?_
        refine e_iload F dX5_hide_39 rfl ?_
        refine e_iload F dX5_hide_41 rfl ?_
        refine e_iload F dX5_hide_43 rfl ?_
        refine e_callVV F u_X5_poly (by rfl) (c_X5_poly gY hwh (g9 := g9) (a9 := a9) (b9 := b9) (c9 := c9) (d9 := d9) (by omega) (by omega) ha9 hb9 hc9 hd9) gY rfl rfl w_ml_RX5_132 dX5_hide_45 (by rfl) (Nat.le_of_ble_eq_true rfl) (by decide) (by omega) (fun _ _ _ h _ => False.elim h) (fun r_45 w_45 n_45 h_45 hn_45 => ?_)
        obtain ⟨rfl, ⟨q, hq, hqe⟩, gK, en_45⟩ := h_45
        rw [en_45]
        have gM2 := gM.kb hdm gK
        have hyn := hdm _ _ gY
        have hpn := hdm _ _ gP
        have hbr := fun j => bcm_rg hwh g9 a9 b9 c9 d9 j
        refine e_astore F dX5_hide_48 (by decide) ?_
        refine e_aload_n F dX5_hide_50 rfl ?_
        refine e_iload_n F dX5_hide_51 rfl ?_
        refine e_iload_n F dX5_hide_52 rfl ?_
        refine e_aload_n F dX5_hide_53 rfl ?_
        refine e_aload F dX5_hide_54 rfl ?_
        refine e_dom ?_
        intro hdm2
        refine e_callVV F u_X5_values (by rfl) (c_X5_values gM2.1 hwh hq (by omega) (fun j j0 j1 => by rw [hqe j j0 (by omega)]; exact hbr j)) gM2.1 rfl rfl w_ml_RX5_136 dX5_hide_56 (by rfl) (Nat.le_of_ble_eq_true rfl) (by decide) (by omega) (fun _ _ _ h _ => False.elim h) (fun r_56 w_56 n_56 h_56 hn_56 => ?_)
        obtain ⟨rfl, ⟨f, hf, hf0, hfe⟩, gK2, en_56⟩ := h_56
        rw [en_56]
        have gM3 := gM2.kb hdm2 gK2
        have hq3 : w_56 (n + 1) = _ := (gK2 _ (by omega)).trans hq
        refine e_aload F dX5_hide_59 rfl ?_
        refine e_callVV F u_X5_lay (by rfl) (c_X5_layRR gM3 hki9 (a := n + 2) (b := n + 1) (r := lpR wh g9 (bcm (pr wh) g9 a9 b9 c9 d9)) (lpR_MD hwh (by omega) (by omega) (by omega) hf hf0 (fun j j0 j1 => by rw [hfe j j0 j1]; exact hv_congr _ (by omega) (fun k k0 k1 => hqe k k0 (by omega))) hq3 hqe (fun j _ _ => hbr j)) (lpR_RV hwh (by omega) (fun j _ _ => hbr j))) gM3.1 rfl rfl w_ml_RX5_140 dX5_hide_61 (by rfl) (Nat.le_of_ble_eq_true rfl) (by decide) (by omega) (fun _ _ _ h _ => False.elim h) (fun r_61 w_61 n_61 h_61 hn_61 => ?_)
        obtain ⟨rfl, en_61, gM4, gF4⟩ := h_61
        refine e_iret F rfl (by omega) ?_ dX5_hide_64
        exact ⟨((FM.th.kb (Nat.le_refl _) gK).kb (by omega) gK2).tr (by omega) gF4, Or.inr (Or.inr ⟨h_i, c_19, rfl, gM4⟩)⟩
      · exact absurd c_31 (by decide)
    ·
      rw [b01_0] at c_19
      refine e_iconst F dX5_hide_22 ?_
      refine e_goto F 27 dX5_hide_23 (by decide) ?_
      refine e_iconst F dX5_hide_27 ?_
      refine e_callVV F u_X5_refuse (by rfl) (c_X5_refuse gY (by decide) (by decide) (by first | exact Or.inl rfl | exact Or.inr rfl) (by decide) (by decide)) gY rfl rfl w_ml_RX5_28 dX5_hide_28 (by rfl) (Nat.le_of_ble_eq_true rfl) (by decide) (by omega) (fun _ _ _ h _ => False.elim h) (fun r_28 w_28 n_28 h_28 hn_28 => ?_)
      obtain ⟨rfl, en_28, ew_28⟩ := h_28
      rw [en_28, ew_28, e_up_up]
      first | (rw [if_pos (show (1 : Int) = 1 ∧ (0 : Int) = 0 by decide), b01_t (by decide)]) | (rw [if_neg (show ¬ ((0 : Int) = 1 ∧ (0 : Int) = 0) by decide), b01_f (by decide)])
      refine e_if_eq F 36 dX5_hide_31 (by decide) (by decide) (fun c_31 => ?_) (fun c_31 => ?_)
      · exact absurd c_31 (by decide)
      · refine e_iconst F dX5_hide_34 ?_
        refine e_iret F rfl (by omega) ?_ dX5_hide_35
        first
        | exact ⟨FM.th, Or.inr (Or.inl ⟨h_i, c_19, rfl, hM.th⟩)⟩
        | exact ⟨FM.th, Or.inl ⟨c_9, rfl, hM.th⟩⟩
set_option maxHeartbeats 4000000 in
set_option maxRecDepth 100000 in
theorem c_X5_lose {K : e_K} {l : Launch} {w : e_W} {n : Nat} {y wh : Nat} {t kn : Int} {R : Nat → RD} (hM : MW w y wh kn t R) {i9 : Int} (hi9 : e_r i9) {h9 : Int} (hh9 : e_r h9) : e_Met K l yX5_lose (Cond.code yX5_lose cX5_lose 4 (Option.some .int) :: e_TB) (3) (1) [.ref y, .int (eI i9), .int (eI h9)] w n (fun r w' n' => FM w w' y n ∧ ((¬ ((0 ≤ i9 ∧ i9 < 6) ∧ (1 ≤ h9 ∧ h9 ≤ ho wh)) ∧ r = some (.int (eI 0)) ∧ MW w' y wh kn 1 R) ∨ (((0 ≤ i9 ∧ i9 < 6) ∧ (1 ≤ h9 ∧ h9 ≤ ho wh)) ∧ r = some (.int (eI ((if hs (st7 (R i9.toNat).A) h9 then ((R i9.toNat).A h9, updR R i9.toNat (puR (R i9.toNat) h9 (-1))) else (-9, R)).1))) ∧ MW w' y wh (kn) 0 ((if hs (st7 (R i9.toNat).A) h9 then ((R i9.toNat).A h9, updR R i9.toNat (puR (R i9.toNat) h9 (-1))) else (-9, R)).2)))) (e_px0) := by
  refine e_ofV rfl (Nat.le_of_ble_eq_true rfl) ?_
  intro P9 E9 S9 M9 A9 B9 T9 C9 F hnm
  have hwh := hM.2.1
  have hY := hM.1
  have hp := pr_rg wh hwh
  have hho := ho_rg wh hwh
  have hf9 := fl_rg wh hwh
  refine e_aload_n F dX5_lose_0 rfl ?_
  refine e_iload_n F dX5_lose_1 rfl ?_
  refine e_callSS F u_X5_isNoDeal (by rfl) (c_X5_isNoDeal hi9) w_ml_RX5_129 dX5_lose_2 (by rfl) (Nat.le_of_ble_eq_true rfl) (by decide) (by omega) (fun _ _ _ h _ => False.elim h) (fun r_2 w_2 n_2 h_2 hn_2 => ?_)
  obtain ⟨rfl, ew_2, en_2⟩ := h_2
  rw [ew_2, en_2]
  refine e_if_ne F 16 dX5_lose_5 (by decide) (b01_r _) (fun c_5 => ?_) (fun c_5 => ?_)
  ·
    rw [ne_eq, b01_0, Classical.not_not] at c_5
    refine e_iconst F dX5_lose_16 ?_
    refine e_goto F 21 dX5_lose_17 (by decide) ?_
    refine e_iconst F dX5_lose_21 ?_
    refine e_callVV F u_X5_start (by rfl) (c_X5_start hY (by first | exact Or.inl rfl | exact Or.inr rfl) (by decide) (by decide)) hY rfl rfl w_ml_RX5_69 dX5_lose_22 (by rfl) (Nat.le_of_ble_eq_true rfl) (by decide) (by omega) (fun _ _ _ h _ => False.elim h) (fun r_22 w_22 n_22 h_22 hn_22 => ?_)
    obtain ⟨rfl, en_22, ew_22⟩ := h_22
    rw [en_22, ew_22]
    first | rw [if_pos (show (1 : Int) = 1 from rfl)] | rw [if_neg (show ¬ ((0 : Int) = 1) by decide)]
    have gM := hM.th (t2 := 0) (kn2 := kn)
    refine e_if_eq F 30 dX5_lose_25 (by decide) (by decide) (fun c_25 => ?_) (fun c_25 => ?_)
    · exact absurd c_25 (by decide)
    · refine e_iconst F dX5_lose_28 ?_
      refine e_iret F rfl (by omega) ?_ dX5_lose_29
      exact ⟨FM.th, Or.inl ⟨(fun q => by omega), rfl, hM.th⟩⟩
  ·
    rw [b01_0, Classical.not_not] at c_5
    refine e_aload_n F dX5_lose_8 rfl ?_
    refine e_iload_n F dX5_lose_9 rfl ?_
    refine e_callVV F u_X5_isNoHolder (by rfl) (c_X5_isNoHolder hY hwh hh9) hY rfl rfl w_ml_RX5_99 dX5_lose_10 (by rfl) (Nat.le_of_ble_eq_true rfl) (by decide) (by omega) (fun _ _ _ h _ => False.elim h) (fun r_10 w_10 n_10 h_10 hn_10 => ?_)
    obtain ⟨rfl, ew_10, en_10⟩ := h_10
    rw [ew_10, en_10]
    refine e_if_eq F 20 dX5_lose_13 (by decide) (b01_r _) (fun c_13 => ?_) (fun c_13 => ?_)
    ·
      rw [b01_0, Classical.not_not] at c_13
      refine e_iconst F dX5_lose_20 ?_
      refine e_iconst F dX5_lose_21 ?_
      refine e_callVV F u_X5_start (by rfl) (c_X5_start hY (by first | exact Or.inl rfl | exact Or.inr rfl) (by decide) (by decide)) hY rfl rfl w_ml_RX5_69 dX5_lose_22 (by rfl) (Nat.le_of_ble_eq_true rfl) (by decide) (by omega) (fun _ _ _ h _ => False.elim h) (fun r_22 w_22 n_22 h_22 hn_22 => ?_)
      obtain ⟨rfl, en_22, ew_22⟩ := h_22
      rw [en_22, ew_22]
      first | rw [if_pos (show (1 : Int) = 1 from rfl)] | rw [if_neg (show ¬ ((0 : Int) = 1) by decide)]
      have gM := hM.th (t2 := 0) (kn2 := kn)
      refine e_if_eq F 30 dX5_lose_25 (by decide) (by decide) (fun c_25 => ?_) (fun c_25 => ?_)
      · have h_i : (0 ≤ i9 ∧ i9 < 6) ∧ (1 ≤ h9 ∧ h9 ≤ ho wh) := by omega
        obtain ⟨ki9, rfl⟩ : ∃ k : Nat, i9 = (k : Int) := ⟨i9.toNat, by omega⟩
        have hki9 : ki9 < 6 := by omega
        rw [show ((ki9 : Nat) : Int).toNat = ki9 from rfl]
        refine e_dom ?_
        intro hdm
        obtain ⟨gY, _, ⟨G, gG, gGe⟩, ⟨SS, PP, gS, gP, gMD⟩, gRV⟩ := id gM
        have hst := st7_rg (R ki9).A
        refine e_aload_n F dX5_lose_30 rfl ?_
        refine e_iload_n F dX5_lose_31 rfl ?_
        refine e_callVV F u_X5_setOf (by rfl) (c_X5_setOf gM (i := ki9) hki9) gY rfl rfl w_ml_RX5_116 dX5_lose_32 (by rfl) (Nat.le_of_ble_eq_true rfl) (by decide) (by omega) (fun _ _ _ h _ => False.elim h) (fun r_32 w_32 n_32 h_32 hn_32 => ?_)
        obtain ⟨rfl, ew_32, en_32⟩ := h_32
        rw [ew_32, en_32]
        refine e_iload_n F dX5_lose_35 rfl ?_
        refine e_callSS F u_X5_has (by rfl) (c_X5_has (s9 := st7 (R ki9).A) hst.1 (by omega) (h := h9) (by omega) (by omega)) w_ml_RX5_87 dX5_lose_36 (by rfl) (Nat.le_of_ble_eq_true rfl) (by decide) (by omega) (fun _ _ _ h _ => False.elim h) (fun r_36 w_36 n_36 h_36 hn_36 => ?_)
        obtain ⟨rfl, ew_36, en_36⟩ := h_36
        rw [ew_36, en_36]
        refine e_if_ne F 45 dX5_lose_39 (by decide) (b01_r _) (fun c_39 => ?_) (fun c_39 => ?_)
        ·
          rw [ne_eq, b01_0, Classical.not_not] at c_39
          have hne := hs_ne gM hki9 c_39
          obtain ⟨a, f, hSa, hya, hwa, hfr, hfA⟩ := MD.row (gMD ki9 hki9) hne
          have hA9 := gM.rgA hki9 (j := h9) (by omega) (by omega)
          refine e_aload_n F dX5_lose_45 rfl ?_
          refine e_get (ci := 5) (fi := 4) (q := (RX5, TX5, 6)) F gY rfl (by decide) w_fl_RX5_18 (by rfl) dX5_lose_46 ?_
          refine e_iload_n F dX5_lose_49 rfl ?_
          refine e_aaldr F gS (by omega) (by omega) (by decide) (hSa) dX5_lose_50 ?_
          refine e_iload_n F dX5_lose_51 rfl ?_
          refine e_iald F hwa (by omega) (by omega) (by first | decide | omega) dX5_lose_52 ?_
          rw [hfA _ (by omega) (by omega)]
          refine e_istore_n F dX5_lose_53 (by decide) ?_
          refine e_aload_n F dX5_lose_54 rfl ?_
          refine e_iload_n F dX5_lose_55 rfl ?_
          refine e_iload_n F dX5_lose_56 rfl ?_
          refine e_iconst F dX5_lose_57 ?_
          refine e_callVV F u_X5_put (by rfl) (c_X5_put gM hki9 (h := h9) (by omega) (by omega) (v := -1) (Or.inl rfl) hne) gY rfl rfl w_ml_RX5_164 dX5_lose_58 (by rfl) (Nat.le_of_ble_eq_true rfl) (by decide) (by omega) (fun _ _ _ h _ => False.elim h) (fun r_58 w_58 n_58 h_58 hn_58 => ?_)
          obtain ⟨rfl, gM2, gF2⟩ := h_58
          refine e_iload_n F dX5_lose_61 rfl ?_
          refine e_iret F rfl (by omega) ?_ dX5_lose_62
          have q9 := c_39
          rw [if_pos q9]
          exact ⟨FM.th.tr (Nat.le_refl _) gF2, Or.inr ⟨h_i, rfl, gM2⟩⟩
        ·
          rw [b01_0] at c_39
          refine e_bipush F dX5_lose_42 (by decide) ?_
          refine e_iret F rfl (by omega) ?_ dX5_lose_44
          have q9 := c_39
          rw [if_neg q9]
          exact ⟨FM.th, Or.inr ⟨h_i, rfl, gM⟩⟩
      · exact absurd c_25 (by decide)
    ·
      rw [b01_0, Classical.not_not] at c_13
      refine e_iconst F dX5_lose_16 ?_
      refine e_goto F 21 dX5_lose_17 (by decide) ?_
      refine e_iconst F dX5_lose_21 ?_
      refine e_callVV F u_X5_start (by rfl) (c_X5_start hY (by first | exact Or.inl rfl | exact Or.inr rfl) (by decide) (by decide)) hY rfl rfl w_ml_RX5_69 dX5_lose_22 (by rfl) (Nat.le_of_ble_eq_true rfl) (by decide) (by omega) (fun _ _ _ h _ => False.elim h) (fun r_22 w_22 n_22 h_22 hn_22 => ?_)
      obtain ⟨rfl, en_22, ew_22⟩ := h_22
      rw [en_22, ew_22]
      first | rw [if_pos (show (1 : Int) = 1 from rfl)] | rw [if_neg (show ¬ ((0 : Int) = 1) by decide)]
      have gM := hM.th (t2 := 0) (kn2 := kn)
      refine e_if_eq F 30 dX5_lose_25 (by decide) (by decide) (fun c_25 => ?_) (fun c_25 => ?_)
      · exact absurd c_25 (by decide)
      · refine e_iconst F dX5_lose_28 ?_
        refine e_iret F rfl (by omega) ?_ dX5_lose_29
        exact ⟨FM.th, Or.inl ⟨(fun q => by omega), rfl, hM.th⟩⟩
set_option maxHeartbeats 4000000 in
set_option maxRecDepth 100000 in
theorem c_X5_give {K : e_K} {l : Launch} {w : e_W} {n : Nat} {y wh : Nat} {t kn : Int} {R : Nat → RD} (hM : MW w y wh kn t R) {i9 : Int} (hi9 : e_r i9) {h9 : Int} (hh9 : e_r h9) {v9 : Int} (hv9 : e_r v9) : e_Met K l yX5_give (Cond.code yX5_give cX5_give 5 (Option.some .int) :: e_TB) (3) (1) [.ref y, .int (eI i9), .int (eI h9), .int (eI v9)] w n (fun r w' n' => FM w w' y n ∧ ((¬ ((0 ≤ i9 ∧ i9 < 6) ∧ (1 ≤ h9 ∧ h9 ≤ ho wh)) ∧ r = some (.int (eI 0)) ∧ MW w' y wh kn 1 R) ∨ (((0 ≤ i9 ∧ i9 < 6) ∧ (1 ≤ h9 ∧ h9 ≤ ho wh)) ∧ r = some (.int (eI ((if (R i9.toNat).dg = -1 then (-9, R) else ((R i9.toNat).A h9, updR R i9.toNat (puR (R i9.toNat) h9 (v9 % pr wh)))).1))) ∧ MW w' y wh (kn) 0 ((if (R i9.toNat).dg = -1 then (-9, R) else ((R i9.toNat).A h9, updR R i9.toNat (puR (R i9.toNat) h9 (v9 % pr wh)))).2)))) (e_px0) := by
  refine e_ofV rfl (Nat.le_of_ble_eq_true rfl) ?_
  intro P9 E9 S9 M9 A9 B9 T9 C9 F hnm
  have hwh := hM.2.1
  have hY := hM.1
  have hp := pr_rg wh hwh
  have hho := ho_rg wh hwh
  have hf9 := fl_rg wh hwh
  have hvm := emod_rg v9 hwh
  refine e_aload_n F dX5_give_0 rfl ?_
  refine e_iload_n F dX5_give_1 rfl ?_
  refine e_callSS F u_X5_isNoDeal (by rfl) (c_X5_isNoDeal hi9) w_ml_RX5_129 dX5_give_2 (by rfl) (Nat.le_of_ble_eq_true rfl) (by decide) (by omega) (fun _ _ _ h _ => False.elim h) (fun r_2 w_2 n_2 h_2 hn_2 => ?_)
  obtain ⟨rfl, ew_2, en_2⟩ := h_2
  rw [ew_2, en_2]
  refine e_if_ne F 16 dX5_give_5 (by decide) (b01_r _) (fun c_5 => ?_) (fun c_5 => ?_)
  ·
    rw [ne_eq, b01_0, Classical.not_not] at c_5
    refine e_iconst F dX5_give_16 ?_
    refine e_goto F 21 dX5_give_17 (by decide) ?_
    refine e_iconst F dX5_give_21 ?_
    refine e_callVV F u_X5_start (by rfl) (c_X5_start hY (by first | exact Or.inl rfl | exact Or.inr rfl) (by decide) (by decide)) hY rfl rfl w_ml_RX5_69 dX5_give_22 (by rfl) (Nat.le_of_ble_eq_true rfl) (by decide) (by omega) (fun _ _ _ h _ => False.elim h) (fun r_22 w_22 n_22 h_22 hn_22 => ?_)
    obtain ⟨rfl, en_22, ew_22⟩ := h_22
    rw [en_22, ew_22]
    first | rw [if_pos (show (1 : Int) = 1 from rfl)] | rw [if_neg (show ¬ ((0 : Int) = 1) by decide)]
    have gM := hM.th (t2 := 0) (kn2 := kn)
    refine e_if_eq F 30 dX5_give_25 (by decide) (by decide) (fun c_25 => ?_) (fun c_25 => ?_)
    · exact absurd c_25 (by decide)
    · refine e_iconst F dX5_give_28 ?_
      refine e_iret F rfl (by omega) ?_ dX5_give_29
      exact ⟨FM.th, Or.inl ⟨(fun q => by omega), rfl, hM.th⟩⟩
  ·
    rw [b01_0, Classical.not_not] at c_5
    refine e_aload_n F dX5_give_8 rfl ?_
    refine e_iload_n F dX5_give_9 rfl ?_
    refine e_callVV F u_X5_isNoHolder (by rfl) (c_X5_isNoHolder hY hwh hh9) hY rfl rfl w_ml_RX5_99 dX5_give_10 (by rfl) (Nat.le_of_ble_eq_true rfl) (by decide) (by omega) (fun _ _ _ h _ => False.elim h) (fun r_10 w_10 n_10 h_10 hn_10 => ?_)
    obtain ⟨rfl, ew_10, en_10⟩ := h_10
    rw [ew_10, en_10]
    refine e_if_eq F 20 dX5_give_13 (by decide) (b01_r _) (fun c_13 => ?_) (fun c_13 => ?_)
    ·
      rw [b01_0, Classical.not_not] at c_13
      refine e_iconst F dX5_give_20 ?_
      refine e_iconst F dX5_give_21 ?_
      refine e_callVV F u_X5_start (by rfl) (c_X5_start hY (by first | exact Or.inl rfl | exact Or.inr rfl) (by decide) (by decide)) hY rfl rfl w_ml_RX5_69 dX5_give_22 (by rfl) (Nat.le_of_ble_eq_true rfl) (by decide) (by omega) (fun _ _ _ h _ => False.elim h) (fun r_22 w_22 n_22 h_22 hn_22 => ?_)
      obtain ⟨rfl, en_22, ew_22⟩ := h_22
      rw [en_22, ew_22]
      first | rw [if_pos (show (1 : Int) = 1 from rfl)] | rw [if_neg (show ¬ ((0 : Int) = 1) by decide)]
      have gM := hM.th (t2 := 0) (kn2 := kn)
      refine e_if_eq F 30 dX5_give_25 (by decide) (by decide) (fun c_25 => ?_) (fun c_25 => ?_)
      · have h_i : (0 ≤ i9 ∧ i9 < 6) ∧ (1 ≤ h9 ∧ h9 ≤ ho wh) := by omega
        obtain ⟨ki9, rfl⟩ : ∃ k : Nat, i9 = (k : Int) := ⟨i9.toNat, by omega⟩
        have hki9 : ki9 < 6 := by omega
        rw [show ((ki9 : Nat) : Int).toNat = ki9 from rfl]
        refine e_dom ?_
        intro hdm
        obtain ⟨gY, _, ⟨G, gG, gGe⟩, ⟨SS, PP, gS, gP, gMD⟩, gRV⟩ := id gM
        refine e_aload_n F dX5_give_30 rfl ?_
        refine e_iload_n F dX5_give_31 rfl ?_
        refine e_callVV F u_X5_isEmpty (by rfl) (c_X5_isEmpty gM (i := ki9) hki9) gY rfl rfl w_ml_RX5_113 dX5_give_32 (by rfl) (Nat.le_of_ble_eq_true rfl) (by decide) (by omega) (fun _ _ _ h _ => False.elim h) (fun r_32 w_32 n_32 h_32 hn_32 => ?_)
        obtain ⟨rfl, ew_32, en_32⟩ := h_32
        rw [ew_32, en_32]
        refine e_if_eq F 41 dX5_give_35 (by decide) (b01_r _) (fun c_35 => ?_) (fun c_35 => ?_)
        ·
          rw [b01_0] at c_35
          have hne := c_35
          obtain ⟨a, f, hSa, hya, hwa, hfr, hfA⟩ := MD.row (gMD ki9 hki9) hne
          have hA9 := gM.rgA hki9 (j := h9) (by omega) (by omega)
          refine e_aload_n F dX5_give_41 rfl ?_
          refine e_get (ci := 5) (fi := 4) (q := (RX5, TX5, 6)) F gY rfl (by decide) w_fl_RX5_18 (by rfl) dX5_give_42 ?_
          refine e_iload_n F dX5_give_45 rfl ?_
          refine e_aaldr F gS (by omega) (by omega) (by decide) (hSa) dX5_give_46 ?_
          refine e_iload_n F dX5_give_47 rfl ?_
          refine e_iald F hwa (by omega) (by omega) (by first | decide | omega) dX5_give_48 ?_
          rw [hfA _ (by omega) (by omega)]
          refine e_istore F dX5_give_49 (by decide) ?_
          refine e_aload_n F dX5_give_51 rfl ?_
          refine e_iload_n F dX5_give_52 rfl ?_
          refine e_iload_n F dX5_give_53 rfl ?_
          refine e_aload_n F dX5_give_54 rfl ?_
          refine e_iload_n F dX5_give_55 rfl ?_
          refine e_i2l F dX5_give_56 (hv9) ?_
          refine e_callVV F u_X5_mod (by rfl) (c_X5_mod gY hwh (v := v9) (by constructor <;> omega)) gY rfl rfl w_ml_RX5_55 dX5_give_57 (by rfl) (Nat.le_of_ble_eq_true rfl) (by decide) (by omega) (fun _ _ _ h _ => False.elim h) (fun r_57 w_57 n_57 h_57 hn_57 => ?_)
          obtain ⟨rfl, ew_57, en_57⟩ := h_57
          rw [ew_57, en_57]
          refine e_callVV F u_X5_put (by rfl) (c_X5_put gM hki9 (h := h9) (by omega) (by omega) (v := v9 % pr wh) (Or.inr hvm) hne) gY rfl rfl w_ml_RX5_164 dX5_give_60 (by rfl) (Nat.le_of_ble_eq_true rfl) (by decide) (by omega) (fun _ _ _ h _ => False.elim h) (fun r_60 w_60 n_60 h_60 hn_60 => ?_)
          obtain ⟨rfl, gM2, gF2⟩ := h_60
          refine e_iload F dX5_give_63 rfl ?_
          refine e_iret F rfl (by omega) ?_ dX5_give_65
          have q9 := hne
          rw [if_neg q9]
          exact ⟨FM.th.tr (Nat.le_refl _) gF2, Or.inr ⟨h_i, rfl, gM2⟩⟩
        ·
          rw [b01_0, Classical.not_not] at c_35
          refine e_bipush F dX5_give_38 (by decide) ?_
          refine e_iret F rfl (by omega) ?_ dX5_give_40
          have q9 := c_35
          rw [if_pos q9]
          exact ⟨FM.th, Or.inr ⟨h_i, rfl, gM⟩⟩
      · exact absurd c_25 (by decide)
    ·
      rw [b01_0, Classical.not_not] at c_13
      refine e_iconst F dX5_give_16 ?_
      refine e_goto F 21 dX5_give_17 (by decide) ?_
      refine e_iconst F dX5_give_21 ?_
      refine e_callVV F u_X5_start (by rfl) (c_X5_start hY (by first | exact Or.inl rfl | exact Or.inr rfl) (by decide) (by decide)) hY rfl rfl w_ml_RX5_69 dX5_give_22 (by rfl) (Nat.le_of_ble_eq_true rfl) (by decide) (by omega) (fun _ _ _ h _ => False.elim h) (fun r_22 w_22 n_22 h_22 hn_22 => ?_)
      obtain ⟨rfl, en_22, ew_22⟩ := h_22
      rw [en_22, ew_22]
      first | rw [if_pos (show (1 : Int) = 1 from rfl)] | rw [if_neg (show ¬ ((0 : Int) = 1) by decide)]
      have gM := hM.th (t2 := 0) (kn2 := kn)
      refine e_if_eq F 30 dX5_give_25 (by decide) (by decide) (fun c_25 => ?_) (fun c_25 => ?_)
      · exact absurd c_25 (by decide)
      · refine e_iconst F dX5_give_28 ?_
        refine e_iret F rfl (by omega) ?_ dX5_give_29
        exact ⟨FM.th, Or.inl ⟨(fun q => by omega), rfl, hM.th⟩⟩
set_option maxHeartbeats 4000000 in
set_option maxRecDepth 100000 in
theorem c_X5_regain {K : e_K} {l : Launch} {w : e_W} {n : Nat} {y wh : Nat} {t kn : Int} {R : Nat → RD} (hM : MW w y wh kn t R) {i9 : Int} (hi9 : e_r i9) {h9 : Int} (hh9 : e_r h9) {a9 : Int} (ha9 : e_r a9) : e_Met K l yX5_regain (Cond.code yX5_regain cX5_regain 4 (Option.some .int) :: e_TB) (5) (3) [.ref y, .int (eI i9), .int (eI h9), .int (eI a9)] w n (fun r w' n' => FM w w' y n ∧ ((¬ ((0 ≤ i9 ∧ i9 < 6) ∧ (1 ≤ h9 ∧ h9 ≤ ho wh)) ∧ r = some (.int (eI 0)) ∧ MW w' y wh kn 1 R) ∨ (((0 ≤ i9 ∧ i9 < 6) ∧ (1 ≤ h9 ∧ h9 ≤ ho wh)) ∧ ¬ (1 ≤ a9 ∧ a9 ≤ fl wh) ∧ r = some (.int (eI 0)) ∧ MW w' y wh kn 2 R) ∨ (((0 ≤ i9 ∧ i9 < 6) ∧ (1 ≤ h9 ∧ h9 ≤ ho wh)) ∧ (1 ≤ a9 ∧ a9 ≤ fl wh) ∧ r = some (.int (eI ((if (thQ wh (R i9.toNat) a9 ∧ (R i9.toNat).dg < bc a9) then (atV wh a9 (R i9.toNat).A h9, updR R i9.toNat (puR (R i9.toNat) h9 (atV wh a9 (R i9.toNat).A h9))) else (-9, R)).1))) ∧ MW w' y wh (kn) 0 ((if (thQ wh (R i9.toNat) a9 ∧ (R i9.toNat).dg < bc a9) then (atV wh a9 (R i9.toNat).A h9, updR R i9.toNat (puR (R i9.toNat) h9 (atV wh a9 (R i9.toNat).A h9))) else (-9, R)).2)))) (e_px0) := by
  refine e_ofV rfl (Nat.le_of_ble_eq_true rfl) ?_
  intro P9 E9 S9 M9 A9 B9 T9 C9 F hnm
  have hwh := hM.2.1
  have hY := hM.1
  have hp := pr_rg wh hwh
  have hho := ho_rg wh hwh
  have hf9 := fl_rg wh hwh
  refine e_aload_n F dX5_regain_0 rfl ?_
  refine e_iload_n F dX5_regain_1 rfl ?_
  refine e_callSS F u_X5_isNoDeal (by rfl) (c_X5_isNoDeal hi9) w_ml_RX5_129 dX5_regain_2 (by rfl) (Nat.le_of_ble_eq_true rfl) (by decide) (by omega) (fun _ _ _ h _ => False.elim h) (fun r_2 w_2 n_2 h_2 hn_2 => ?_)
  obtain ⟨rfl, ew_2, en_2⟩ := h_2
  rw [ew_2, en_2]
  refine e_if_ne F 16 dX5_regain_5 (by decide) (b01_r _) (fun c_5 => ?_) (fun c_5 => ?_)
  ·
    rw [ne_eq, b01_0, Classical.not_not] at c_5
    refine e_iconst F dX5_regain_16 ?_
    refine e_goto F 21 dX5_regain_17 (by decide) ?_
    refine e_iconst F dX5_regain_21 ?_
    refine e_callVV F u_X5_start (by rfl) (c_X5_start hY (by first | exact Or.inl rfl | exact Or.inr rfl) (by decide) (by decide)) hY rfl rfl w_ml_RX5_69 dX5_regain_22 (by rfl) (Nat.le_of_ble_eq_true rfl) (by decide) (by omega) (fun _ _ _ h _ => False.elim h) (fun r_22 w_22 n_22 h_22 hn_22 => ?_)
    obtain ⟨rfl, en_22, ew_22⟩ := h_22
    rw [en_22, ew_22]
    first | rw [if_pos (show (1 : Int) = 1 from rfl)] | rw [if_neg (show ¬ ((0 : Int) = 1) by decide)]
    have gM := hM.th (t2 := 0) (kn2 := kn)
    refine e_if_ne F 41 dX5_regain_25 (by decide) (by decide) (fun c_25 => ?_) (fun c_25 => ?_)
    · refine e_iconst F dX5_regain_41 ?_
      refine e_iret F rfl (by omega) ?_ dX5_regain_42
      first
      | exact ⟨FM.th, Or.inr (Or.inl ⟨h_i, c_38, rfl, hM.th⟩)⟩
      | exact ⟨FM.th, Or.inl ⟨(fun q => by omega), rfl, hM.th⟩⟩
    · exact absurd c_25 (by decide)
  ·
    rw [b01_0, Classical.not_not] at c_5
    refine e_aload_n F dX5_regain_8 rfl ?_
    refine e_iload_n F dX5_regain_9 rfl ?_
    refine e_callVV F u_X5_isNoHolder (by rfl) (c_X5_isNoHolder hY hwh hh9) hY rfl rfl w_ml_RX5_99 dX5_regain_10 (by rfl) (Nat.le_of_ble_eq_true rfl) (by decide) (by omega) (fun _ _ _ h _ => False.elim h) (fun r_10 w_10 n_10 h_10 hn_10 => ?_)
    obtain ⟨rfl, ew_10, en_10⟩ := h_10
    rw [ew_10, en_10]
    refine e_if_eq F 20 dX5_regain_13 (by decide) (b01_r _) (fun c_13 => ?_) (fun c_13 => ?_)
    ·
      rw [b01_0, Classical.not_not] at c_13
      refine e_iconst F dX5_regain_20 ?_
      refine e_iconst F dX5_regain_21 ?_
      refine e_callVV F u_X5_start (by rfl) (c_X5_start hY (by first | exact Or.inl rfl | exact Or.inr rfl) (by decide) (by decide)) hY rfl rfl w_ml_RX5_69 dX5_regain_22 (by rfl) (Nat.le_of_ble_eq_true rfl) (by decide) (by omega) (fun _ _ _ h _ => False.elim h) (fun r_22 w_22 n_22 h_22 hn_22 => ?_)
      obtain ⟨rfl, en_22, ew_22⟩ := h_22
      rw [en_22, ew_22]
      first | rw [if_pos (show (1 : Int) = 1 from rfl)] | rw [if_neg (show ¬ ((0 : Int) = 1) by decide)]
      have gM := hM.th (t2 := 0) (kn2 := kn)
      refine e_if_ne F 41 dX5_regain_25 (by decide) (by decide) (fun c_25 => ?_) (fun c_25 => ?_)
      · exact absurd c_25 (by decide)
      · have h_i : (0 ≤ i9 ∧ i9 < 6) ∧ (1 ≤ h9 ∧ h9 ≤ ho wh) := by omega
        refine e_aload_n F dX5_regain_28 rfl ?_
        refine e_aload_n F dX5_regain_29 rfl ?_
        refine e_iload_n F dX5_regain_30 rfl ?_
        refine e_callVV F u_X5_isNoSet (by rfl) (c_X5_isNoSet gM.1 hwh ha9) gM.1 rfl rfl w_ml_RX5_103 dX5_regain_31 (by rfl) (Nat.le_of_ble_eq_true rfl) (by decide) (by omega) (fun _ _ _ h _ => False.elim h) (fun r_31 w_31 n_31 h_31 hn_31 => ?_)
        obtain ⟨rfl, ew_31, en_31⟩ := h_31
        rw [ew_31, en_31]
        refine e_iconst F dX5_regain_34 ?_
        refine e_callVV F u_X5_refuse (by rfl) (c_X5_refuse (t := 0) (kn := kn) (wh := wh) (y := y) gM.1 (by decide) (by decide) (b01_or _) (by decide) (by decide)) gM.1 rfl rfl w_ml_RX5_28 dX5_regain_35 (by rfl) (Nat.le_of_ble_eq_true rfl) (by decide) (by omega) (fun _ _ _ h _ => False.elim h) (fun r_35 w_35 n_35 h_35 hn_35 => ?_)
        obtain ⟨rfl, en_35, ew_35⟩ := h_35
        rw [en_35, ew_35, e_up_up, rf2, rf3]
        refine e_if_eq F 43 dX5_regain_38 (by decide) (b01_r _) (fun c_38 => ?_) (fun c_38 => ?_)
        ·
          rw [b01_0, Classical.not_not] at c_38
          rw [if_pos c_38]
          obtain ⟨ki9, rfl⟩ : ∃ k : Nat, i9 = (k : Int) := ⟨i9.toNat, by omega⟩
          have hki9 : ki9 < 6 := by omega
          rw [show ((ki9 : Nat) : Int).toNat = ki9 from rfl]
          refine e_dom ?_
          intro hdm
          obtain ⟨gY, _, ⟨G, gG, gGe⟩, ⟨SS, PP, gS, gP, gMD⟩, gRV⟩ := id gM
          refine e_aload_n F dX5_regain_43 rfl ?_
          refine e_iload_n F dX5_regain_44 rfl ?_
          refine e_iload_n F dX5_regain_45 rfl ?_
          refine e_callVV F u_X5_isEnough (by rfl) (c_X5_isEnough gM hki9 (set := a9) (by omega) (by omega)) gY rfl rfl w_ml_RX5_161 dX5_regain_46 (by rfl) (Nat.le_of_ble_eq_true rfl) (by decide) (by omega) (fun _ _ _ h _ => False.elim h) (fun r_46 w_46 n_46 h_46 hn_46 => ?_)
          obtain ⟨rfl, ew_46, en_46⟩ := h_46
          rw [ew_46, en_46]
          refine e_if_ne F 55 dX5_regain_49 (by decide) (b01_r _) (fun c_49 => ?_) (fun c_49 => ?_)
          ·
            rw [ne_eq, b01_0, Classical.not_not] at c_49
            have hne := c_49.1.2
            obtain ⟨a, f, hSa, hya, hwa, hfr, hfA⟩ := MD.row (gMD ki9 hki9) hne
            have har := atV_rg hwh a9 (R ki9).A h9
            refine e_aload_n F dX5_regain_55 rfl ?_
            refine e_iload_n F dX5_regain_56 rfl ?_
            refine e_iload_n F dX5_regain_57 rfl ?_
            refine e_aload_n F dX5_regain_58 rfl ?_
            refine e_aload_n F dX5_regain_59 rfl ?_
            refine e_get (ci := 5) (fi := 4) (q := (RX5, TX5, 6)) F gY rfl (by decide) w_fl_RX5_18 (by rfl) dX5_regain_60 ?_
            refine e_iload_n F dX5_regain_63 rfl ?_
            refine e_aaldr F gS (by omega) (by omega) (by decide) (hSa) dX5_regain_64 ?_
            refine e_iload_n F dX5_regain_65 rfl ?_
            refine e_iload_n F dX5_regain_66 rfl ?_
            refine e_callVV F u_X5_at (by rfl) (c_X5_at gY hwh hwa (by omega) hfr (set := a9) (x := h9) (by omega) (by omega) hh9) gY rfl rfl w_ml_RX5_106 dX5_regain_67 (by rfl) (Nat.le_of_ble_eq_true rfl) (by decide) (by omega) (fun _ _ _ h _ => False.elim h) (fun r_67 w_67 n_67 h_67 hn_67 => ?_)
            obtain ⟨rfl, gK⟩ := h_67
            have eT : atV wh (a9) f h9 = atV wh (a9) (R ki9).A h9 := by
              unfold atV
              rw [trK_congr (A2 := (R ki9).A) (ho wh).toNat (fun j j0 j1 => hfA j j0 (by omega))]
            rw [eT]
            have gM2 := gM.kb hdm gK
            refine e_callVV F u_X5_put (by rfl) (c_X5_put gM2 hki9 (h := h9) (by omega) (by omega) (v := atV wh a9 (R ki9).A h9) (Or.inr har) hne) gM2.1 rfl rfl w_ml_RX5_164 dX5_regain_70 (by rfl) (Nat.le_of_ble_eq_true rfl) (by decide) (by omega) (fun _ _ _ h _ => False.elim h) (fun r_70 w_70 n_70 h_70 hn_70 => ?_)
            obtain ⟨rfl, gM3, gF3⟩ := h_70
            obtain ⟨vY, _, _, ⟨S3, P3, vS, vP, vMD⟩, _⟩ := id gM3
            obtain ⟨a3, f3, hSa3, hya3, hwa3, hfr3, hfA3⟩ := MD.row (vMD ki9 hki9) (by rw [updR_s]; exact hne)
            refine e_aload_n F dX5_regain_73 rfl ?_
            refine e_get (ci := 5) (fi := 4) (q := (RX5, TX5, 6)) F vY rfl (by decide) w_fl_RX5_18 (by rfl) dX5_regain_74 ?_
            refine e_iload_n F dX5_regain_77 rfl ?_
            refine e_aaldr F vS (by omega) (by omega) (by decide) (hSa3) dX5_regain_78 ?_
            refine e_iload_n F dX5_regain_79 rfl ?_
            refine e_iald F hwa3 (by omega) (by omega) (by first | decide | omega) dX5_regain_80 ?_
            rw [hfA3 _ (by omega) (by omega), updR_s, show (puR (R ki9) h9 (atV wh a9 (R ki9).A h9)).A h9 = atV wh a9 (R ki9).A h9 from if_pos rfl]
            refine e_iret F rfl (by omega) ?_ dX5_regain_81
            have q9 : (thQ wh (R ki9) a9 ∧ (R ki9).dg < bc a9) := c_49
            rw [if_pos q9]
            exact ⟨(FM.th.kb (Nat.le_refl _) gK).tr hn_67 gF3, Or.inr (Or.inr ⟨h_i, c_38, rfl, gM3⟩)⟩
          ·
            rw [b01_0] at c_49
            refine e_bipush F dX5_regain_52 (by decide) ?_
            refine e_iret F rfl (by omega) ?_ dX5_regain_54
            have q9 : ¬ (thQ wh (R ki9) a9 ∧ (R ki9).dg < bc a9) := c_49
            rw [if_neg q9]
            exact ⟨FM.th, Or.inr (Or.inr ⟨h_i, c_38, rfl, gM⟩)⟩
        ·
          rw [b01_0, Classical.not_not] at c_38
          rw [if_neg c_38]
          refine e_iconst F dX5_regain_41 ?_
          refine e_iret F rfl (by omega) ?_ dX5_regain_42
          first
          | exact ⟨FM.th, Or.inr (Or.inl ⟨h_i, c_38, rfl, hM.th⟩)⟩
          | exact ⟨FM.th, Or.inl ⟨(fun q => by omega), rfl, hM.th⟩⟩
    ·
      rw [b01_0, Classical.not_not] at c_13
      refine e_iconst F dX5_regain_16 ?_
      refine e_goto F 21 dX5_regain_17 (by decide) ?_
      refine e_iconst F dX5_regain_21 ?_
      refine e_callVV F u_X5_start (by rfl) (c_X5_start hY (by first | exact Or.inl rfl | exact Or.inr rfl) (by decide) (by decide)) hY rfl rfl w_ml_RX5_69 dX5_regain_22 (by rfl) (Nat.le_of_ble_eq_true rfl) (by decide) (by omega) (fun _ _ _ h _ => False.elim h) (fun r_22 w_22 n_22 h_22 hn_22 => ?_)
      obtain ⟨rfl, en_22, ew_22⟩ := h_22
      rw [en_22, ew_22]
      first | rw [if_pos (show (1 : Int) = 1 from rfl)] | rw [if_neg (show ¬ ((0 : Int) = 1) by decide)]
      have gM := hM.th (t2 := 0) (kn2 := kn)
      refine e_if_ne F 41 dX5_regain_25 (by decide) (by decide) (fun c_25 => ?_) (fun c_25 => ?_)
      · refine e_iconst F dX5_regain_41 ?_
        refine e_iret F rfl (by omega) ?_ dX5_regain_42
        first
        | exact ⟨FM.th, Or.inr (Or.inl ⟨h_i, c_38, rfl, hM.th⟩)⟩
        | exact ⟨FM.th, Or.inl ⟨(fun q => by omega), rfl, hM.th⟩⟩
      · exact absurd c_25 (by decide)
set_option maxHeartbeats 4000000 in
set_option maxRecDepth 100000 in
theorem c_X5_mend {K : e_K} {l : Launch} {w : e_W} {n : Nat} {y wh : Nat} {t kn : Int} {R : Nat → RD} (hM : MW w y wh kn t R) {i9 : Int} (hi9 : e_r i9) : e_Met K l yX5_mend (Cond.code yX5_mend cX5_mend 3 (Option.some .int) :: e_TB) (7) (20) [.ref y, .int (eI i9)] w n (fun r w' n' => FM w w' y n ∧ ((¬ (0 ≤ i9 ∧ i9 < 6) ∧ r = some (.int (eI 0)) ∧ MW w' y wh kn 1 R) ∨ ((0 ≤ i9 ∧ i9 < 6) ∧ r = some (.int (eI (((wrV wh (R i9.toNat), if 0 < wrV wh (R i9.toNat) then updR R i9.toNat (puR (R i9.toNat) (wrV wh (R i9.toNat)) (atV wh (st7 (R i9.toNat).A - 2 ^ (wrV wh (R i9.toNat) - 1).toNat) (R i9.toNat).A (wrV wh (R i9.toNat)))) else R)).1))) ∧ MW w' y wh (kn) 0 (((wrV wh (R i9.toNat), if 0 < wrV wh (R i9.toNat) then updR R i9.toNat (puR (R i9.toNat) (wrV wh (R i9.toNat)) (atV wh (st7 (R i9.toNat).A - 2 ^ (wrV wh (R i9.toNat) - 1).toNat) (R i9.toNat).A (wrV wh (R i9.toNat)))) else R)).2)))) (e_px0) := by
  refine e_ofV rfl (Nat.le_of_ble_eq_true rfl) ?_
  intro P9 E9 S9 M9 A9 B9 T9 C9 F hnm
  have hwh := hM.2.1
  have hY := hM.1
  have hp := pr_rg wh hwh
  have hho := ho_rg wh hwh
  have hf9 := fl_rg wh hwh
  refine e_aload_n F dX5_mend_0 rfl ?_
  refine e_iload_n F dX5_mend_1 rfl ?_
  refine e_callSS F u_X5_isNoDeal (by rfl) (c_X5_isNoDeal hi9) w_ml_RX5_129 dX5_mend_2 (by rfl) (Nat.le_of_ble_eq_true rfl) (by decide) (by omega) (fun _ _ _ h _ => False.elim h) (fun r_2 w_2 n_2 h_2 hn_2 => ?_)
  obtain ⟨rfl, ew_2, en_2⟩ := h_2
  rw [ew_2, en_2]
  refine e_iconst F dX5_mend_5 ?_
  refine e_callVV F u_X5_start (by rfl) (c_X5_start hY (b01_or _) (by decide) (by decide)) hY rfl rfl w_ml_RX5_69 dX5_mend_6 (by rfl) (Nat.le_of_ble_eq_true rfl) (by decide) (by omega) (fun _ _ _ h _ => False.elim h) (fun r_6 w_6 n_6 h_6 hn_6 => ?_)
  obtain ⟨rfl, en_6, ew_6⟩ := h_6
  rw [en_6, ew_6, st1]
  refine e_if_eq F 14 dX5_mend_9 (by decide) (b01_r _) (fun c_9 => ?_) (fun c_9 => ?_)
  ·
    rw [b01_0, Classical.not_not] at c_9
    rw [if_pos c_9]
    have gM := hM.th (t2 := 0) (kn2 := kn)
    have h_i := c_9
    obtain ⟨ki9, rfl⟩ : ∃ k : Nat, i9 = (k : Int) := ⟨i9.toNat, by omega⟩
    have hki9 : ki9 < 6 := by omega
    rw [show ((ki9 : Nat) : Int).toNat = ki9 from rfl]
    refine e_dom ?_
    intro hdm
    obtain ⟨gY, _, ⟨G, gG, gGe⟩, ⟨SS, PP, gS, gP, gMD⟩, gRV⟩ := id gM
    refine e_aload_n F dX5_mend_14 rfl ?_
    refine e_iload_n F dX5_mend_15 rfl ?_
    refine e_callVV F u_X5_wrongOf (by rfl) (c_X5_wrongOf gM hki9) gY rfl rfl w_ml_RX5_174 dX5_mend_16 (by rfl) (Nat.le_of_ble_eq_true rfl) (by decide) (by omega) (fun _ _ _ h _ => False.elim h) (fun r_16 w_16 n_16 h_16 hn_16 => ?_)
    obtain ⟨rfl, gK⟩ := h_16
    have gM2 := gM.kb hdm gK
    have hwr := wrV_rg hwh (R ki9)
    refine e_istore_n F dX5_mend_19 (by decide) ?_
    refine e_iload_n F dX5_mend_20 rfl ?_
    refine e_if_le F 52 dX5_mend_21 (by decide) (⟨by omega, by omega⟩) (fun c_21 => ?_) (fun c_21 => ?_)
    · refine e_iload_n F dX5_mend_52 rfl ?_
      refine e_iret F rfl (by omega) ?_ dX5_mend_53
      first
      | (rw [if_pos (show 0 < (wrV wh (R ki9)) by omega)]
         exact ⟨((FM.th.kb (Nat.le_refl _) gK).kb hn_16 gK2).tr (by omega) gF4, Or.inr ⟨h_i, rfl, gM4⟩⟩)
      | (rw [if_neg (show ¬ 0 < (wrV wh (R ki9)) by omega)]
         exact ⟨FM.th.kb (Nat.le_refl _) gK, Or.inr ⟨h_i, rfl, gM2⟩⟩)
    ·
      obtain ⟨w1, w2, w3, hne⟩ := wrV_pos hwh (r := R ki9) (by omega)
      obtain ⟨uY, _, _, ⟨S2, P2, uS, uP, uMD⟩, _⟩ := id gM2
      obtain ⟨a, f, hSa, hya, hwa, hfr, hfA⟩ := MD.row (uMD ki9 hki9) hne
      have hst := st7_rg (R ki9).A
      obtain ⟨jj, hjj⟩ : ∃ j : Nat, (wrV wh (R ki9)) = (j : Int) + 1 := ⟨((wrV wh (R ki9)) - 1).toNat, by omega⟩
      have hle : (2 : Int) ^ ((wrV wh (R ki9)) - 1).toNat ≤ st7 (R ki9).A := by
        rw [hjj] at w3
        rw [hjj, show ((jj : Int) + 1 - 1).toNat = jj by omega]
        exact hs_le hst.1 hst.2 (by omega) w3
      have hp0 : (0 : Int) < 2 ^ ((wrV wh (R ki9)) - 1).toNat := Int.pow_pos (by omega)
      have har := atV_rg hwh (st7 (R ki9).A - 2 ^ ((wrV wh (R ki9)) - 1).toNat) (R ki9).A (wrV wh (R ki9))
      refine e_dom ?_
      intro hdm2
      refine e_aload_n F dX5_mend_24 rfl ?_
      refine e_iload_n F dX5_mend_25 rfl ?_
      refine e_iload_n F dX5_mend_26 rfl ?_
      refine e_aload_n F dX5_mend_27 rfl ?_
      refine e_aload_n F dX5_mend_28 rfl ?_
      refine e_get (ci := 5) (fi := 4) (q := (RX5, TX5, 6)) F uY rfl (by decide) w_fl_RX5_18 (by rfl) dX5_mend_29 ?_
      refine e_iload_n F dX5_mend_32 rfl ?_
      refine e_aaldr F uS (by omega) (by omega) (by decide) (hSa) dX5_mend_33 ?_
      refine e_aload_n F dX5_mend_34 rfl ?_
      refine e_iload_n F dX5_mend_35 rfl ?_
      refine e_callVV F u_X5_setOf (by rfl) (c_X5_setOf gM2 (i := ki9) hki9) uY rfl rfl w_ml_RX5_116 dX5_mend_36 (by rfl) (Nat.le_of_ble_eq_true rfl) (by decide) (by omega) (fun _ _ _ h _ => False.elim h) (fun r_36 w_36 n_36 h_36 hn_36 => ?_)
      obtain ⟨rfl, ew_36, en_36⟩ := h_36
      rw [ew_36, en_36]
      refine e_iconst F dX5_mend_39 ?_
      refine e_iload_n F dX5_mend_40 rfl ?_
      refine e_iconst F dX5_mend_41 ?_
      refine e_isub F dX5_mend_42 ?_
      refine e_ishl F dX5_mend_43 (by have := eI_shl1 ((wrV wh (R ki9)) - 1).toNat (by omega); rwa [Int.toNat_of_nonneg (by omega)] at this) ?_
      refine e_isub F dX5_mend_44 ?_
      refine e_iload_n F dX5_mend_45 rfl ?_
      refine e_callVV F u_X5_at (by rfl) (c_X5_at uY hwh hwa (by omega) hfr (set := (st7 (R ki9).A - 2 ^ ((wrV wh (R ki9)) - 1).toNat)) (x := (wrV wh (R ki9))) (by omega) (by omega) ⟨by omega, by omega⟩) uY rfl rfl w_ml_RX5_106 dX5_mend_46 (by rfl) (Nat.le_of_ble_eq_true rfl) (by decide) (by omega) (fun _ _ _ h _ => False.elim h) (fun r_46 w_46 n_46 h_46 hn_46 => ?_)
      obtain ⟨rfl, gK2⟩ := h_46
      have eT : atV wh ((st7 (R ki9).A - 2 ^ ((wrV wh (R ki9)) - 1).toNat)) f (wrV wh (R ki9)) = atV wh ((st7 (R ki9).A - 2 ^ ((wrV wh (R ki9)) - 1).toNat)) (R ki9).A (wrV wh (R ki9)) := by
        unfold atV
        rw [trK_congr (A2 := (R ki9).A) (ho wh).toNat (fun j j0 j1 => hfA j j0 (by omega))]
      rw [eT]
      have gM3 := gM2.kb hdm2 gK2
      refine e_callVV F u_X5_put (by rfl) (c_X5_put gM3 hki9 (h := (wrV wh (R ki9))) (by omega) (by omega) (v := atV wh (st7 (R ki9).A - 2 ^ ((wrV wh (R ki9)) - 1).toNat) (R ki9).A (wrV wh (R ki9))) (Or.inr har) hne) gM3.1 rfl rfl w_ml_RX5_164 dX5_mend_49 (by rfl) (Nat.le_of_ble_eq_true rfl) (by decide) (by omega) (fun _ _ _ h _ => False.elim h) (fun r_49 w_49 n_49 h_49 hn_49 => ?_)
      obtain ⟨rfl, gM4, gF4⟩ := h_49
      refine e_iload_n F dX5_mend_52 rfl ?_
      refine e_iret F rfl (by omega) ?_ dX5_mend_53
      first
      | (rw [if_pos (show 0 < (wrV wh (R ki9)) by omega)]
         exact ⟨((FM.th.kb (Nat.le_refl _) gK).kb hn_16 gK2).tr (by omega) gF4, Or.inr ⟨h_i, rfl, gM4⟩⟩)
      | (rw [if_neg (show ¬ 0 < (wrV wh (R ki9)) by omega)]
         exact ⟨FM.th.kb (Nat.le_refl _) gK, Or.inr ⟨h_i, rfl, gM2⟩⟩)
  ·
    rw [b01_0, Classical.not_not] at c_9
    rw [if_neg c_9]
    refine e_iconst F dX5_mend_12 ?_
    refine e_iret F rfl (by omega) ?_ dX5_mend_13
    exact ⟨FM.th, Or.inl ⟨c_9, rfl, hM.th⟩⟩

set_option maxHeartbeats 4000000 in
set_option maxRecDepth 100000 in
theorem c_X5_drop {K : e_K} {l : Launch} {w : e_W} {n : Nat} {y wh : Nat} {t kn : Int} {R : Nat → RD} (hM : MW w y wh kn t R) {i9 : Int} (hi9 : e_r i9) : e_Met K l yX5_drop (Cond.code yX5_drop cX5_drop 3 (Option.some .int) :: e_TB) (3) (0) [.ref y, .int (eI i9)] w n (fun r w' n' => FM w w' y n ∧ ((¬ (0 ≤ i9 ∧ i9 < 6) ∧ r = some (.int (eI 0)) ∧ MW w' y wh kn 1 R) ∨ ((0 ≤ i9 ∧ i9 < 6) ∧ r = some (.int (eI (((bc (st7 (R i9.toNat).A), updR R i9.toNat (emR (R i9.toNat)))).1))) ∧ MW w' y wh (kn) 0 (((bc (st7 (R i9.toNat).A), updR R i9.toNat (emR (R i9.toNat)))).2)))) (e_px0) := by
  refine e_ofV rfl (Nat.le_of_ble_eq_true rfl) ?_
  intro P9 E9 S9 M9 A9 B9 T9 C9 F hnm
  have hwh := hM.2.1
  have hY := hM.1
  have hp := pr_rg wh hwh
  have hho := ho_rg wh hwh
  have hf9 := fl_rg wh hwh
  refine e_aload_n F dX5_drop_0 rfl ?_
  refine e_iload_n F dX5_drop_1 rfl ?_
  refine e_callSS F u_X5_isNoDeal (by rfl) (c_X5_isNoDeal hi9) w_ml_RX5_129 dX5_drop_2 (by rfl) (Nat.le_of_ble_eq_true rfl) (by decide) (by omega) (fun _ _ _ h _ => False.elim h) (fun r_2 w_2 n_2 h_2 hn_2 => ?_)
  obtain ⟨rfl, ew_2, en_2⟩ := h_2
  rw [ew_2, en_2]
  refine e_iconst F dX5_drop_5 ?_
  refine e_callVV F u_X5_start (by rfl) (c_X5_start hY (b01_or _) (by decide) (by decide)) hY rfl rfl w_ml_RX5_69 dX5_drop_6 (by rfl) (Nat.le_of_ble_eq_true rfl) (by decide) (by omega) (fun _ _ _ h _ => False.elim h) (fun r_6 w_6 n_6 h_6 hn_6 => ?_)
  obtain ⟨rfl, en_6, ew_6⟩ := h_6
  rw [en_6, ew_6, st1]
  refine e_if_eq F 14 dX5_drop_9 (by decide) (b01_r _) (fun c_9 => ?_) (fun c_9 => ?_)
  ·
    rw [b01_0, Classical.not_not] at c_9
    rw [if_pos c_9]
    have gM := hM.th (t2 := 0) (kn2 := kn)
    have h_i := c_9
    obtain ⟨ki9, rfl⟩ : ∃ k : Nat, i9 = (k : Int) := ⟨i9.toNat, by omega⟩
    have hki9 : ki9 < 6 := by omega
    rw [show ((ki9 : Nat) : Int).toNat = ki9 from rfl]
    refine e_dom ?_
    intro hdm
    obtain ⟨gY, _, ⟨G, gG, gGe⟩, ⟨SS, PP, gS, gP, gMD⟩, gRV⟩ := id gM
    have hst := st7_rg (R ki9).A
    refine e_aload_n F dX5_drop_14 rfl ?_
    refine e_iload_n F dX5_drop_15 rfl ?_
    refine e_callVV F u_X5_setOf (by rfl) (c_X5_setOf gM (i := ki9) hki9) gY rfl rfl w_ml_RX5_116 dX5_drop_16 (by rfl) (Nat.le_of_ble_eq_true rfl) (by decide) (by omega) (fun _ _ _ h _ => False.elim h) (fun r_16 w_16 n_16 h_16 hn_16 => ?_)
    obtain ⟨rfl, ew_16, en_16⟩ := h_16
    rw [ew_16, en_16]
    refine e_callSS F u_X5_many (by rfl) (c_X5_many hst.1 hst.2) w_ml_RX5_119 dX5_drop_19 (by rfl) (Nat.le_of_ble_eq_true rfl) (by decide) (by omega) (fun _ _ _ h _ => False.elim h) (fun r_19 w_19 n_19 h_19 hn_19 => ?_)
    obtain ⟨rfl, ew_19, en_19⟩ := h_19
    rw [ew_19, en_19]
    refine e_istore_n F dX5_drop_22 (by decide) ?_
    refine e_aload_n F dX5_drop_23 rfl ?_
    refine e_iload_n F dX5_drop_24 rfl ?_
    refine e_callVV F u_X5_empty (by rfl) (c_X5_empty gM hki9) gY rfl rfl w_ml_RX5_72 dX5_drop_25 (by rfl) (Nat.le_of_ble_eq_true rfl) (by decide) (by omega) (fun _ _ _ h _ => False.elim h) (fun r_25 w_25 n_25 h_25 hn_25 => ?_)
    obtain ⟨rfl, en_25, gM2, gF2⟩ := h_25
    rw [en_25]
    refine e_iload_n F dX5_drop_28 rfl ?_
    refine e_iret F rfl (by omega) ?_ dX5_drop_29
    exact ⟨FM.th.tr (Nat.le_refl _) gF2, Or.inr ⟨h_i, rfl, gM2⟩⟩
  ·
    rw [b01_0, Classical.not_not] at c_9
    rw [if_neg c_9]
    refine e_iconst F dX5_drop_12 ?_
    refine e_iret F rfl (by omega) ?_ dX5_drop_13
    exact ⟨FM.th, Or.inl ⟨c_9, rfl, hM.th⟩⟩
set_option maxHeartbeats 4000000 in
set_option maxRecDepth 100000 in
theorem c_X5_copy {K : e_K} {l : Launch} {w : e_W} {n : Nat} {y wh : Nat} {t kn : Int} {R : Nat → RD} (hM : MW w y wh kn t R) {i9 : Int} (hi9 : e_r i9) {j9 : Int} (hj9 : e_r j9) : e_Met K l yX5_copy (Cond.code yX5_copy cX5_copy 3 (Option.some .int) :: e_TB) (4) (0) [.ref y, .int (eI i9), .int (eI j9)] w n (fun r w' n' => FM w w' y n ∧ ((¬ ((0 ≤ i9 ∧ i9 < 6) ∧ (0 ≤ j9 ∧ j9 < 6)) ∧ r = some (.int (eI 0)) ∧ MW w' y wh kn 1 R) ∨ (((0 ≤ i9 ∧ i9 < 6) ∧ (0 ≤ j9 ∧ j9 < 6)) ∧ r = some (.int (eI (((bc (st7 (R i9.toNat).A), updR R j9.toNat (R i9.toNat))).1))) ∧ MW w' y wh (kn) 0 (((bc (st7 (R i9.toNat).A), updR R j9.toNat (R i9.toNat))).2)))) (e_px0) := by
  refine e_ofV rfl (Nat.le_of_ble_eq_true rfl) ?_
  intro P9 E9 S9 M9 A9 B9 T9 C9 F hnm
  have hwh := hM.2.1
  have hY := hM.1
  have hp := pr_rg wh hwh
  have hho := ho_rg wh hwh
  have hf9 := fl_rg wh hwh
  refine e_aload_n F dX5_copy_0 rfl ?_
  refine e_iload_n F dX5_copy_1 rfl ?_
  refine e_callSS F u_X5_isNoDeal (by rfl) (c_X5_isNoDeal hi9) w_ml_RX5_129 dX5_copy_2 (by rfl) (Nat.le_of_ble_eq_true rfl) (by decide) (by omega) (fun _ _ _ h _ => False.elim h) (fun r_2 w_2 n_2 h_2 hn_2 => ?_)
  obtain ⟨rfl, ew_2, en_2⟩ := h_2
  rw [ew_2, en_2]
  refine e_if_ne F 15 dX5_copy_5 (by decide) (b01_r _) (fun c_5 => ?_) (fun c_5 => ?_)
  ·
    rw [ne_eq, b01_0, Classical.not_not] at c_5
    refine e_iconst F dX5_copy_15 ?_
    refine e_goto F 20 dX5_copy_16 (by decide) ?_
    refine e_iconst F dX5_copy_20 ?_
    refine e_callVV F u_X5_start (by rfl) (c_X5_start hY (by first | exact Or.inl rfl | exact Or.inr rfl) (by decide) (by decide)) hY rfl rfl w_ml_RX5_69 dX5_copy_21 (by rfl) (Nat.le_of_ble_eq_true rfl) (by decide) (by omega) (fun _ _ _ h _ => False.elim h) (fun r_21 w_21 n_21 h_21 hn_21 => ?_)
    obtain ⟨rfl, en_21, ew_21⟩ := h_21
    rw [en_21, ew_21]
    first | rw [if_pos (show (1 : Int) = 1 from rfl)] | rw [if_neg (show ¬ ((0 : Int) = 1) by decide)]
    have gM := hM.th (t2 := 0) (kn2 := kn)
    refine e_if_eq F 29 dX5_copy_24 (by decide) (by decide) (fun c_24 => ?_) (fun c_24 => ?_)
    · exact absurd c_24 (by decide)
    · refine e_iconst F dX5_copy_27 ?_
      refine e_iret F rfl (by omega) ?_ dX5_copy_28
      exact ⟨FM.th, Or.inl ⟨(fun q => by omega), rfl, hM.th⟩⟩
  ·
    rw [b01_0, Classical.not_not] at c_5
    refine e_iload_n F dX5_copy_8 rfl ?_
    refine e_callSS F u_X5_isNoDeal (by rfl) (c_X5_isNoDeal hj9) w_ml_RX5_129 dX5_copy_9 (by rfl) (Nat.le_of_ble_eq_true rfl) (by decide) (by omega) (fun _ _ _ h _ => False.elim h) (fun r_9 w_9 n_9 h_9 hn_9 => ?_)
    obtain ⟨rfl, ew_9, en_9⟩ := h_9
    rw [ew_9, en_9]
    refine e_if_eq F 19 dX5_copy_12 (by decide) (b01_r _) (fun c_12 => ?_) (fun c_12 => ?_)
    ·
      rw [b01_0, Classical.not_not] at c_12
      refine e_iconst F dX5_copy_19 ?_
      refine e_iconst F dX5_copy_20 ?_
      refine e_callVV F u_X5_start (by rfl) (c_X5_start hY (by first | exact Or.inl rfl | exact Or.inr rfl) (by decide) (by decide)) hY rfl rfl w_ml_RX5_69 dX5_copy_21 (by rfl) (Nat.le_of_ble_eq_true rfl) (by decide) (by omega) (fun _ _ _ h _ => False.elim h) (fun r_21 w_21 n_21 h_21 hn_21 => ?_)
      obtain ⟨rfl, en_21, ew_21⟩ := h_21
      rw [en_21, ew_21]
      first | rw [if_pos (show (1 : Int) = 1 from rfl)] | rw [if_neg (show ¬ ((0 : Int) = 1) by decide)]
      have gM := hM.th (t2 := 0) (kn2 := kn)
      refine e_if_eq F 29 dX5_copy_24 (by decide) (by decide) (fun c_24 => ?_) (fun c_24 => ?_)
      · have h_i : (0 ≤ i9 ∧ i9 < 6) ∧ (0 ≤ j9 ∧ j9 < 6) := by omega
        obtain ⟨kj9, rfl⟩ : ∃ k : Nat, j9 = (k : Int) := ⟨j9.toNat, by omega⟩
        have hkj9 : kj9 < 6 := by omega
        rw [show ((kj9 : Nat) : Int).toNat = kj9 from rfl]
        obtain ⟨ki9, rfl⟩ : ∃ k : Nat, i9 = (k : Int) := ⟨i9.toNat, by omega⟩
        have hki9 : ki9 < 6 := by omega
        rw [show ((ki9 : Nat) : Int).toNat = ki9 from rfl]
        refine e_dom ?_
        intro hdm
        obtain ⟨gY, _, ⟨G, gG, gGe⟩, ⟨SS, PP, gS, gP, gMD⟩, gRV⟩ := id gM
        have hGi := gGe ki9 hki9
        have hmi := gMD ki9 hki9
        by_cases hne : (R ki9).dg = -1
        · obtain ⟨hSn, hPn⟩ : SS (ki9 : Int) = none ∧ PP (ki9 : Int) = none := by
            rcases hmi with z | z
            · exact ⟨z.2.1, z.2.2.1⟩
            · exact absurd hne (by omega)
          refine e_aload_n F dX5_copy_29 rfl ?_
          refine e_iload_n F dX5_copy_30 rfl ?_
          refine e_aload_n F dX5_copy_31 rfl ?_
          refine e_get (ci := 5) (fi := 3) (q := (RX5, TX5, 6)) F gY rfl (by decide) w_fl_RX5_13 (by rfl) dX5_copy_32 ?_
          refine e_iload_n F dX5_copy_35 rfl ?_
          refine e_iald F gG (by omega) (by omega) (by first | decide | omega) dX5_copy_36 ?_
          rw [hGi]
          refine e_aload_n F dX5_copy_37 rfl ?_
          refine e_get (ci := 5) (fi := 4) (q := (RX5, TX5, 6)) F gY rfl (by decide) w_fl_RX5_18 (by rfl) dX5_copy_38 ?_
          refine e_iload_n F dX5_copy_41 rfl ?_
          refine e_aaldn F gS (by omega) (by omega) (by decide) (hSn) dX5_copy_42 ?_
          refine e_aload_n F dX5_copy_43 rfl ?_
          refine e_get (ci := 5) (fi := 5) (q := (RX5, TX5, 6)) F gY rfl (by decide) w_fl_RX5_22 (by rfl) dX5_copy_44 ?_
          refine e_iload_n F dX5_copy_47 rfl ?_
          refine e_aaldn F gP (by omega) (by omega) (by decide) (hPn) dX5_copy_48 ?_
          refine e_callVV F u_X5_lay (by rfl) (c_X5_layNN gM hkj9 (r := R ki9) (by rw [hSn, hPn] at hmi; exact hmi) (gRV ki9 hki9)) gY rfl rfl w_ml_RX5_140 dX5_copy_49 (by rfl) (Nat.le_of_ble_eq_true rfl) (by decide) (by omega) (fun _ _ _ h _ => False.elim h) (fun r_49 w_49 n_49 h_49 hn_49 => ?_)
          obtain ⟨rfl, en_49, gM2, gF2⟩ := h_49
          rw [en_49]
          refine e_iret F rfl (by omega) ?_ dX5_copy_52
          exact ⟨FM.th.tr (Nat.le_refl _) gF2, Or.inr ⟨h_i, rfl, gM2⟩⟩
        · obtain ⟨a, f, hSa, hya, hwa, hfr, hfA⟩ := MD.row hmi hne
          rcases MD.pw hmi with ⟨hp0, hPn⟩ | ⟨hp1, ⟨b, g, hPb, hyb, hwb, hgr, hgE⟩, hd0⟩
          ·
            refine e_aload_n F dX5_copy_29 rfl ?_
            refine e_iload_n F dX5_copy_30 rfl ?_
            refine e_aload_n F dX5_copy_31 rfl ?_
            refine e_get (ci := 5) (fi := 3) (q := (RX5, TX5, 6)) F gY rfl (by decide) w_fl_RX5_13 (by rfl) dX5_copy_32 ?_
            refine e_iload_n F dX5_copy_35 rfl ?_
            refine e_iald F gG (by omega) (by omega) (by first | decide | omega) dX5_copy_36 ?_
            rw [hGi]
            refine e_aload_n F dX5_copy_37 rfl ?_
            refine e_get (ci := 5) (fi := 4) (q := (RX5, TX5, 6)) F gY rfl (by decide) w_fl_RX5_18 (by rfl) dX5_copy_38 ?_
            refine e_iload_n F dX5_copy_41 rfl ?_
            refine e_aaldr F gS (by omega) (by omega) (by decide) (hSa) dX5_copy_42 ?_
            refine e_aload_n F dX5_copy_43 rfl ?_
            refine e_get (ci := 5) (fi := 5) (q := (RX5, TX5, 6)) F gY rfl (by decide) w_fl_RX5_22 (by rfl) dX5_copy_44 ?_
            refine e_iload_n F dX5_copy_47 rfl ?_
            refine e_aaldn F gP (by omega) (by omega) (by decide) (hPn) dX5_copy_48 ?_
            refine e_callVV F u_X5_lay (by rfl) (c_X5_layRN gM hkj9 (r := R ki9) (by rw [hSa, hPn] at hmi; exact hmi) (gRV ki9 hki9)) gY rfl rfl w_ml_RX5_140 dX5_copy_49 (by rfl) (Nat.le_of_ble_eq_true rfl) (by decide) (by omega) (fun _ _ _ h _ => False.elim h) (fun r_49 w_49 n_49 h_49 hn_49 => ?_)
            obtain ⟨rfl, en_49, gM2, gF2⟩ := h_49
            rw [en_49]
            refine e_iret F rfl (by omega) ?_ dX5_copy_52
            exact ⟨FM.th.tr (Nat.le_refl _) gF2, Or.inr ⟨h_i, rfl, gM2⟩⟩
          ·
            refine e_aload_n F dX5_copy_29 rfl ?_
            refine e_iload_n F dX5_copy_30 rfl ?_
            refine e_aload_n F dX5_copy_31 rfl ?_
            refine e_get (ci := 5) (fi := 3) (q := (RX5, TX5, 6)) F gY rfl (by decide) w_fl_RX5_13 (by rfl) dX5_copy_32 ?_
            refine e_iload_n F dX5_copy_35 rfl ?_
            refine e_iald F gG (by omega) (by omega) (by first | decide | omega) dX5_copy_36 ?_
            rw [hGi]
            refine e_aload_n F dX5_copy_37 rfl ?_
            refine e_get (ci := 5) (fi := 4) (q := (RX5, TX5, 6)) F gY rfl (by decide) w_fl_RX5_18 (by rfl) dX5_copy_38 ?_
            refine e_iload_n F dX5_copy_41 rfl ?_
            refine e_aaldr F gS (by omega) (by omega) (by decide) (hSa) dX5_copy_42 ?_
            refine e_aload_n F dX5_copy_43 rfl ?_
            refine e_get (ci := 5) (fi := 5) (q := (RX5, TX5, 6)) F gY rfl (by decide) w_fl_RX5_22 (by rfl) dX5_copy_44 ?_
            refine e_iload_n F dX5_copy_47 rfl ?_
            refine e_aaldr F gP (by omega) (by omega) (by decide) (hPb) dX5_copy_48 ?_
            refine e_callVV F u_X5_lay (by rfl) (c_X5_layRR gM hkj9 (r := R ki9) (by rw [hSa, hPb] at hmi; exact hmi) (gRV ki9 hki9)) gY rfl rfl w_ml_RX5_140 dX5_copy_49 (by rfl) (Nat.le_of_ble_eq_true rfl) (by decide) (by omega) (fun _ _ _ h _ => False.elim h) (fun r_49 w_49 n_49 h_49 hn_49 => ?_)
            obtain ⟨rfl, en_49, gM2, gF2⟩ := h_49
            rw [en_49]
            refine e_iret F rfl (by omega) ?_ dX5_copy_52
            exact ⟨FM.th.tr (Nat.le_refl _) gF2, Or.inr ⟨h_i, rfl, gM2⟩⟩
      · exact absurd c_24 (by decide)
    ·
      rw [b01_0, Classical.not_not] at c_12
      refine e_iconst F dX5_copy_15 ?_
      refine e_goto F 20 dX5_copy_16 (by decide) ?_
      refine e_iconst F dX5_copy_20 ?_
      refine e_callVV F u_X5_start (by rfl) (c_X5_start hY (by first | exact Or.inl rfl | exact Or.inr rfl) (by decide) (by decide)) hY rfl rfl w_ml_RX5_69 dX5_copy_21 (by rfl) (Nat.le_of_ble_eq_true rfl) (by decide) (by omega) (fun _ _ _ h _ => False.elim h) (fun r_21 w_21 n_21 h_21 hn_21 => ?_)
      obtain ⟨rfl, en_21, ew_21⟩ := h_21
      rw [en_21, ew_21]
      first | rw [if_pos (show (1 : Int) = 1 from rfl)] | rw [if_neg (show ¬ ((0 : Int) = 1) by decide)]
      have gM := hM.th (t2 := 0) (kn2 := kn)
      refine e_if_eq F 29 dX5_copy_24 (by decide) (by decide) (fun c_24 => ?_) (fun c_24 => ?_)
      · exact absurd c_24 (by decide)
      · refine e_iconst F dX5_copy_27 ?_
        refine e_iret F rfl (by omega) ?_ dX5_copy_28
        exact ⟨FM.th, Or.inl ⟨(fun q => by omega), rfl, hM.th⟩⟩
end
