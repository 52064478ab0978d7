/-! the reference: pour, handOn -/
def hnP (wh : Nat) (set : Int) (A : Int → Int) (a b : Int) : Int → Int := fun k => if k = 0 then atV wh set A 0 else atV wh set (fun h => (a * h + b * k) % pr wh) 0
theorem hnP_rg {wh : Nat} (hwh : wh < 7) (set : Int) (A : Int → Int) (a b k : Int) : 0 ≤ hnP wh set A a b k ∧ hnP wh set A a b k < pr wh := by
  unfold hnP
  split
  · exact atV_rg hwh _ _ _
  · exact atV_rg hwh _ _ _
theorem mulS_rg {a h : Int} (ha : e_r a) (h0 : 0 ≤ h) (h1 : h ≤ 8) : -17179869184 ≤ a * h ∧ a * h ≤ 17179869184 := by
  obtain ⟨a1, a2⟩ := ha
  rcases (show h = 0 ∨ h = 1 ∨ h = 2 ∨ h = 3 ∨ h = 4 ∨ h = 5 ∨ h = 6 ∨ h = 7 ∨ h = 8 by omega) with z | z | z | z | z | z | z | z | z <;> subst z <;> omega
set_option maxHeartbeats 4000000 in
set_option maxRecDepth 100000 in
theorem c_X5_pour {K : e_K} {l : Launch} {w : e_W} {n : Nat} {y wh : Nat} {t kn : Int} {R : Nat → RD} (hM : MW w y wh kn t R) {i9 : Int} (hi9 : e_r i9) {a9 : Int} (ha9 : e_r a9) {b9 : Int} (hb9 : e_r b9) {c9 : Int} (hc9 : e_r c9) {d9 : Int} (hd9 : e_r d9) : e_Met K l yX5_pour (Cond.code yX5_pour cX5_pour 10 (Option.some .int) :: e_TB) (4) (4) [.ref y, .int (eI i9), .int (eI a9), .int (eI b9), .int (eI c9), .int (eI d9)] w n (fun r w' n' => FM w w' y n ∧ ((¬ (0 ≤ i9 ∧ i9 < 6) ∧ r = some (.int (eI 0)) ∧ MW w' y wh kn 1 R) ∨ ((0 ≤ i9 ∧ i9 < 6) ∧ r = some (.int (eI ((if (R i9.toNat).dg = -1 then (-9, R) else (bc (st7 (poR wh (R i9.toNat) (bcm (pr wh) (R i9.toNat).dg a9 b9 c9 d9)).A), updR R i9.toNat (poR wh (R i9.toNat) (bcm (pr wh) (R i9.toNat).dg a9 b9 c9 d9)))).1))) ∧ MW w' y wh (kn) 0 ((if (R i9.toNat).dg = -1 then (-9, R) else (bc (st7 (poR wh (R i9.toNat) (bcm (pr wh) (R i9.toNat).dg a9 b9 c9 d9)).A), updR R i9.toNat (poR wh (R i9.toNat) (bcm (pr wh) (R i9.toNat).dg a9 b9 c9 d9)))).2)))) (e_px0) := by
  refine e_ofV rfl (Nat.le_of_ble_eq_true rfl) ?_
  intro P9 E9 S9 M9 A9 B9 T9 C9 F hnm
  have hwh := hM.2.1
  have hY := hM.1
  have hp := pr_rg wh hwh
  have hho := ho_rg wh hwh
  have hf9 := fl_rg wh hwh
  refine e_aload_n F dX5_pour_0 rfl ?_
  refine e_iload_n F dX5_pour_1 rfl ?_
  refine e_callSS F u_X5_isNoDeal (by rfl) (c_X5_isNoDeal hi9) w_ml_RX5_129 dX5_pour_2 (by rfl) (Nat.le_of_ble_eq_true rfl) (by decide) (by omega) (fun _ _ _ h _ => False.elim h) (fun r_2 w_2 n_2 h_2 hn_2 => ?_)
  obtain ⟨rfl, ew_2, en_2⟩ := h_2
  rw [ew_2, en_2]
  refine e_iconst F dX5_pour_5 ?_
  refine e_callVV F u_X5_start (by rfl) (c_X5_start hY (b01_or _) (by decide) (by decide)) hY rfl rfl w_ml_RX5_69 dX5_pour_6 (by rfl) (Nat.le_of_ble_eq_true rfl) (by decide) (by omega) (fun _ _ _ h _ => False.elim h) (fun r_6 w_6 n_6 h_6 hn_6 => ?_)
  obtain ⟨rfl, en_6, ew_6⟩ := h_6
  rw [en_6, ew_6, st1]
  refine e_if_eq F 14 dX5_pour_9 (by decide) (b01_r _) (fun c_9 => ?_) (fun c_9 => ?_)
  ·
    rw [b01_0, Classical.not_not] at c_9
    rw [if_pos c_9]
    have gM := hM.th (t2 := 0) (kn2 := kn)
    have h_i := c_9
    obtain ⟨ki9, rfl⟩ : ∃ k : Nat, i9 = (k : Int) := ⟨i9.toNat, by omega⟩
    have hki9 : ki9 < 6 := by omega
    rw [show ((ki9 : Nat) : Int).toNat = ki9 from rfl]
    refine e_dom ?_
    intro hdm
    obtain ⟨gY, _, ⟨G, gG, gGe⟩, ⟨SS, PP, gS, gP, gMD⟩, gRV⟩ := id gM
    have hGi := gGe ki9 hki9
    have hRi := gRV ki9 hki9
    have hyn := hdm _ _ gY
    have hgn := hdm _ _ gG
    have hsn := hdm _ _ gS
    have hpn := hdm _ _ gP
    refine e_aload_n F dX5_pour_14 rfl ?_
    refine e_iload_n F dX5_pour_15 rfl ?_
    refine e_callVV F u_X5_isEmpty (by rfl) (c_X5_isEmpty gM (i := ki9) hki9) gY rfl rfl w_ml_RX5_113 dX5_pour_16 (by rfl) (Nat.le_of_ble_eq_true rfl) (by decide) (by omega) (fun _ _ _ h _ => False.elim h) (fun r_16 w_16 n_16 h_16 hn_16 => ?_)
    obtain ⟨rfl, ew_16, en_16⟩ := h_16
    rw [ew_16, en_16]
    refine e_if_eq F 25 dX5_pour_19 (by decide) (b01_r _) (fun c_19 => ?_) (fun c_19 => ?_)
    ·
      rw [b01_0] at c_19
      have hne := c_19
      have hdd := MD.dg (gMD ki9 hki9)
      refine e_aload_n F dX5_pour_25 rfl ?_
      refine e_aload_n F dX5_pour_26 rfl ?_
      refine e_get (ci := 5) (fi := 3) (q := (RX5, TX5, 6)) F gY rfl (by decide) w_fl_RX5_13 (by rfl) dX5_pour_27 ?_
      refine e_iload_n F dX5_pour_30 rfl ?_
      refine e_iald F gG (by omega) (by omega) (by first | decide | omega) dX5_pour_31 ?_
      rw [hGi]
      refine e_iload_n F dX5_pour_32 rfl ?_
      refine e_iload_n F dX5_pour_33 rfl ?_
      refine e_iload F dX5_pour_34 rfl ?_
      refine e_iload F dX5_pour_36 rfl ?_
      refine e_callVV F u_X5_poly (by rfl) (c_X5_poly gY hwh (g9 := (R ki9).dg) (a9 := a9) (b9 := b9) (c9 := c9) (d9 := d9) (by omega) (by omega) ha9 hb9 hc9 hd9) gY rfl rfl w_ml_RX5_132 dX5_pour_38 (by rfl) (Nat.le_of_ble_eq_true rfl) (by decide) (by omega) (fun _ _ _ h _ => False.elim h) (fun r_38 w_38 n_38 h_38 hn_38 => ?_)
      obtain ⟨rfl, ⟨q9, hq, hqe⟩, gK, en_38⟩ := h_38
      rw [en_38]
      have gM2 := gM.kb hdm gK
      have hbr := fun j => bcm_rg hwh (R ki9).dg a9 b9 c9 d9 j
      obtain ⟨uY, _, ⟨G2, uG, uGe⟩, ⟨S2, P2, uS, uP, uMD⟩, uRV⟩ := id gM2
      have uGi := uGe ki9 hki9
      obtain ⟨a, f, hSa, hya, hwa, hfr, hfA⟩ := MD.row (uMD ki9 hki9) hne
      refine e_dom ?_
      intro hdm2
      have han := hdm2 _ _ hwa
      rcases MD.pw (uMD ki9 hki9) with ⟨hp0, hPn⟩ | ⟨hp1, ⟨b, g, hPb, hyb, hwb, hgr, hgE⟩, hd0⟩
      ·
        have l1 : ∀ (N : Nat) (c : Nat) (wl : e_W) (f1 : Int → Int) (nl : Nat), 9 - c < N → (1 ≤ c ∧ (c : Int) ≤ ho wh + 1 ∧ wl (n + 2) = some (e_ia ((ho wh).toNat + 1) f1) ∧ (∀ j : Int, 0 ≤ j → j < ((((ho wh).toNat + 1) : Nat) : Int) → -1 ≤ f1 j ∧ f1 j < pr wh) ∧ (∀ j : Int, 1 ≤ j → j < ((((ho wh).toNat + 1) : Nat) : Int) → f1 j = if j < (c : Int) then (poR wh (R ki9) (bcm (pr wh) (R ki9).dg a9 b9 c9 d9)).A j else (R ki9).A j) ∧ (∀ q, q ≠ n + 2 → q ≠ n + 2 + 1 → wl q = w_38 q) ∧ n + 2 < nl) → e_V K P9 l E9 (4) (4) S9 M9 A9 B9 T9 C9 10 (fun r w' n' => FM w w' y n ∧ ((¬ (0 ≤ ((ki9 : Nat) : Int) ∧ ((ki9 : Nat) : Int) < 6) ∧ r = some (.int (eI 0)) ∧ MW w' y wh kn 1 R) ∨ ((0 ≤ ((ki9 : Nat) : Int) ∧ ((ki9 : Nat) : Int) < 6) ∧ r = some (.int (eI ((if (R ki9).dg = -1 then (-9, R) else (bc (st7 (poR wh (R ki9) (bcm (pr wh) (R ki9).dg a9 b9 c9 d9)).A), updR R ki9 (poR wh (R ki9) (bcm (pr wh) (R ki9).dg a9 b9 c9 d9)))).1))) ∧ MW w' y wh (kn) 0 ((if (R ki9).dg = -1 then (-9, R) else (bc (st7 (poR wh (R ki9) (bcm (pr wh) (R ki9).dg a9 b9 c9 d9)).A), updR R ki9 (poR wh (R ki9) (bcm (pr wh) (R ki9).dg a9 b9 c9 d9)))).2)))) (e_px0) 83 [(0, .ref y), (1, .int (eI ((ki9 : Nat) : Int))), (6, .ref (n + 1)), (7, .ref (n + 2)), (8, .null), (9, .int (eI (c : Int)))] [] wl nl (3) := by
          intro N
          induction N with
          | zero => intro c wl f1 nl hN; exact absurd hN (Nat.not_lt_zero _)
          | succ N ih =>
            intro c wl f1 nl hN ⟨hc1, hc, gn0, gr1, ge1, gf, gnl⟩
            have e9 : (poR wh (R ki9) (bcm (pr wh) (R ki9).dg a9 b9 c9 d9)).dg = (R ki9).dg := rfl
            have uY2 : wl y = some (MO y 0 wh kn) := (gf y (by omega) (by omega)).trans uY
            have uG2 : wl (y + 1) = some (e_ia 6 G2) := (gf _ (by omega) (by omega)).trans uG
            have uP2 : wl (y + 3) = some (e_ra 6 P2) := (gf _ (by omega) (by omega)).trans uP
            have uq2 : wl (n + 1) = some (e_ia ((R ki9).dg.toNat + 1) q9) := (gf _ (by omega) (by omega)).trans hq
            have gM3 : MW wl y wh kn 0 R := gM2.to (fun q e q1 => by rw [gf q (by have := hdm2 q e q1; omega) (by have := hdm2 q e q1; omega)]; exact q1)
            refine e_iload F dX5_pour_83 rfl ?_
            refine e_aload_n F dX5_pour_85 rfl ?_
            refine e_callVV F u_X5_holders (by rfl) (c_X5_holders uY2 hwh) uY2 rfl rfl w_ml_RX5_52 dX5_pour_86 (by rfl) (Nat.le_of_ble_eq_true rfl) (by decide) (by omega) (fun _ _ _ h _ => False.elim h) (fun r_86 w_86 n_86 h_86 hn_86 => ?_)
            obtain ⟨rfl, ew_86, en_86⟩ := h_86
            rw [ew_86, en_86]
            refine e_icmp_gt F 132 dX5_pour_89 (by decide) (⟨by omega, by omega⟩) (⟨by omega, by omega⟩) (fun c_89 => ?_) (fun c_89 => ?_)
            ·
              obtain rfl : c = (ho wh).toNat + 1 := by omega
              refine e_iconst F dX5_pour_132 ?_
              refine e_istore F dX5_pour_133 (by decide) ?_
              refine e_aloadN F dX5_pour_135 rfl ?_
              refine e_ifnullN F 180 dX5_pour_137 (by decide) ?_
              refine e_aload_n F dX5_pour_180 rfl ?_
              refine e_iload_n F dX5_pour_181 rfl ?_
              refine e_aload_n F dX5_pour_182 rfl ?_
              refine e_get (ci := 5) (fi := 3) (q := (RX5, TX5, 6)) F uY2 rfl (by decide) w_fl_RX5_13 (by rfl) dX5_pour_183 ?_
              refine e_iload_n F dX5_pour_186 rfl ?_
              refine e_iald F uG2 (by omega) (by omega) (by first | decide | omega) dX5_pour_187 ?_
              rw [uGi]
              refine e_aload F dX5_pour_188 rfl ?_
              refine e_aloadN F dX5_pour_190 rfl ?_
              refine e_callVV F u_X5_lay (by rfl) (c_X5_layRN gM3 hki9 (r := (poR wh (R ki9) (bcm (pr wh) (R ki9).dg a9 b9 c9 d9))) (row_MD (by omega) (by omega) gn0 gr1 (fun j j0 j1 => by rw [ge1 j j0 j1, if_pos (by omega)]) (Or.inl ⟨hp0, rfl⟩)) (poR_RV hwh (gRV ki9 hki9) hne (bcm (pr wh) (R ki9).dg a9 b9 c9 d9))) gM3.1 rfl rfl w_ml_RX5_140 dX5_pour_192 (by rfl) (Nat.le_of_ble_eq_true rfl) (by decide) (by omega) (fun _ _ _ h _ => False.elim h) (fun r_192 w_192 n_192 h_192 hn_192 => ?_)
              obtain ⟨rfl, en_192, gM4, gF4⟩ := h_192
              refine e_iret F rfl (by omega) ?_ dX5_pour_195
              rw [if_neg (show ¬ (R ki9).dg = -1 from hne)]
              exact ⟨FM.tr (n1 := nl) (fun q q1 q2 => ((gf q (by omega) (by omega)).trans (gK q (by omega))).trans (FM.th (n := n) q q1 q2)) (by omega) gF4, Or.inr ⟨h_i, rfl, gM4⟩⟩
            ·
              have hA9 := gM.rgA hki9 (j := (c : Int)) (by omega) (by omega)
              have hfc : f1 (c : Int) = (R ki9).A (c : Int) := by rw [ge1 _ (by omega) (by omega), if_neg (by omega)]
              refine e_aload F dX5_pour_92 rfl ?_
              refine e_iload F dX5_pour_94 rfl ?_
              refine e_iald F gn0 (by omega) (by omega) (by first | decide | omega) dX5_pour_96 ?_
              rw [hfc]
              refine e_iconst F dX5_pour_97 ?_
              refine e_icmp_eq F 126 dX5_pour_98 (by decide) (⟨by omega, by omega⟩) (⟨by omega, by omega⟩) (fun c_98 => ?_) (fun c_98 => ?_)
              · refine e_iinc F dX5_pour_126 rfl (by decide) ?_
                refine e_goto F 83 dX5_pour_129 (by decide) ?_
                first
                | (refine e_go (ih (c + 1) _ _ nl (by omega) ⟨by omega, by omega, e_up_s, fun j j0 j1 => ?_, fun j j0 j1 => ?_, fun q q1 q2 => by rw [e_up_n q1]; exact gf q q1 q2, gnl⟩) ?_
                   · unfold e_fu
                     split
                     · omega
                     · exact gr1 j j0 j1
                   · unfold e_fu
                     by_cases e8 : j = (c : Int)
                     · rw [if_pos e8, if_pos (by omega), e8]
                       show _ = if (R ki9).A (c : Int) = -1 then -1 else _
                       rw [if_neg c_98]
                     · rw [if_neg e8, ge1 j j0 j1]
                       by_cases e7 : j < (c : Int)
                       · rw [if_pos e7, if_pos (by omega)]
                       · rw [if_neg e7, if_neg (by omega)]
                   · exact (And.intro rfl (And.intro rfl (And.intro rfl (And.intro rfl (And.intro rfl (And.intro rfl (trivial))))))))
                | (refine e_go (ih (c + 1) wl f1 nl (by omega) ⟨by omega, by omega, gn0, gr1, fun j j0 j1 => ?_, gf, gnl⟩) ?_
                   · rw [ge1 j j0 j1]
                     by_cases e8 : j = (c : Int)
                     · rw [if_neg (by omega), if_pos (by omega), e8]
                       show _ = if (R ki9).A (c : Int) = -1 then -1 else _
                       rw [if_pos c_98]; exact c_98
                     · by_cases e7 : j < (c : Int)
                       · rw [if_pos e7, if_pos (by omega)]
                       · rw [if_neg e7, if_neg (by omega)]
                   · exact (And.intro rfl (And.intro rfl (And.intro rfl (And.intro rfl (And.intro rfl (And.intro rfl (trivial))))))))
              · refine e_aload F dX5_pour_101 rfl ?_
                refine e_iload F dX5_pour_103 rfl ?_
                refine e_aload_n F dX5_pour_105 rfl ?_
                refine e_aload F dX5_pour_106 rfl ?_
                refine e_iload F dX5_pour_108 rfl ?_
                refine e_iald F gn0 (by omega) (by omega) (by first | decide | omega) dX5_pour_110 ?_
                rw [hfc]
                refine e_i2l F dX5_pour_111 (⟨by omega, by omega⟩) ?_
                refine e_aload_n F dX5_pour_112 rfl ?_
                refine e_aload F dX5_pour_113 rfl ?_
                refine e_iload F dX5_pour_115 rfl ?_
                refine e_callVV F u_X5_value (by rfl) (c_X5_value uY2 hwh (x := (c : Int)) uq2 (by omega) (fun j j0 j1 => by rw [hqe j j0 (by omega)]; exact hbr j) (by omega) (by omega)) uY2 rfl rfl w_ml_RX5_91 dX5_pour_117 (by rfl) (Nat.le_of_ble_eq_true rfl) (by decide) (by omega) (fun _ _ _ h _ => False.elim h) (fun r_117 w_117 n_117 h_117 hn_117 => ?_)
                obtain ⟨rfl, ew_117, en_117⟩ := h_117
                have e17 : hv (pr wh) (c : Int) q9 ((((R ki9).dg.toNat + 1) : Nat) : Int) ((R ki9).dg.toNat + 1) = hv (pr wh) (c : Int) (bcm (pr wh) (R ki9).dg a9 b9 c9 d9) ((((R ki9).dg.toNat + 1) : Nat) : Int) ((R ki9).dg.toNat + 1) := hv_congr _ (by omega) (fun j j0 j1 => hqe j j0 (by omega))
                rw [ew_117, en_117, e17]
                have hv17 := hv_rg (x := (c : Int)) (P := (bcm (pr wh) (R ki9).dg a9 b9 c9 d9)) (N := ((((R ki9).dg.toNat + 1) : Nat) : Int)) (show 0 < pr wh by omega) ((R ki9).dg.toNat + 1)
                have hmv := emod_rg ((R ki9).A (c : Int) + hv (pr wh) (c : Int) (bcm (pr wh) (R ki9).dg a9 b9 c9 d9) ((((R ki9).dg.toNat + 1) : Nat) : Int) ((R ki9).dg.toNat + 1)) hwh
                refine e_i2l F dX5_pour_120 (⟨by omega, by omega⟩) ?_
                refine e_ladd F dX5_pour_121 ?_
                refine e_callVV F u_X5_mod (by rfl) (c_X5_mod uY2 hwh (by constructor <;> omega)) uY2 rfl rfl w_ml_RX5_55 dX5_pour_122 (by rfl) (Nat.le_of_ble_eq_true rfl) (by decide) (by omega) (fun _ _ _ h _ => False.elim h) (fun r_122 w_122 n_122 h_122 hn_122 => ?_)
                obtain ⟨rfl, ew_122, en_122⟩ := h_122
                rw [ew_122, en_122]
                refine e_iast F gn0 (by omega) (by omega) (by first | decide | omega) dX5_pour_125 ?_
                refine e_iinc F dX5_pour_126 rfl (by decide) ?_
                refine e_goto F 83 dX5_pour_129 (by decide) ?_
                first
                | (refine e_go (ih (c + 1) _ _ nl (by omega) ⟨by omega, by omega, e_up_s, fun j j0 j1 => ?_, fun j j0 j1 => ?_, fun q q1 q2 => by rw [e_up_n q1]; exact gf q q1 q2, gnl⟩) ?_
                   · unfold e_fu
                     split
                     · omega
                     · exact gr1 j j0 j1
                   · unfold e_fu
                     by_cases e8 : j = (c : Int)
                     · rw [if_pos e8, if_pos (by omega), e8]
                       show _ = if (R ki9).A (c : Int) = -1 then -1 else _
                       rw [if_neg c_98]
                     · rw [if_neg e8, ge1 j j0 j1]
                       by_cases e7 : j < (c : Int)
                       · rw [if_pos e7, if_pos (by omega)]
                       · rw [if_neg e7, if_neg (by omega)]
                   · exact (And.intro rfl (And.intro rfl (And.intro rfl (And.intro rfl (And.intro rfl (And.intro rfl (trivial))))))))
                | (refine e_go (ih (c + 1) wl f1 nl (by omega) ⟨by omega, by omega, gn0, gr1, fun j j0 j1 => ?_, gf, gnl⟩) ?_
                   · rw [ge1 j j0 j1]
                     by_cases e8 : j = (c : Int)
                     · rw [if_neg (by omega), if_pos (by omega), e8]
                       show _ = if (R ki9).A (c : Int) = -1 then -1 else _
                       rw [if_pos c_98]; exact c_98
                     · by_cases e7 : j < (c : Int)
                       · rw [if_pos e7, if_pos (by omega)]
                       · rw [if_neg e7, if_neg (by omega)]
                   · exact (And.intro rfl (And.intro rfl (And.intro rfl (And.intro rfl (And.intro rfl (And.intro rfl (trivial))))))))
        refine e_astore F dX5_pour_41 (by decide) ?_
        refine e_aload_n F dX5_pour_43 rfl ?_
        refine e_get (ci := 5) (fi := 4) (q := (RX5, TX5, 6)) F uY rfl (by decide) w_fl_RX5_18 (by rfl) dX5_pour_44 ?_
        refine e_iload_n F dX5_pour_47 rfl ?_
        refine e_aaldr F uS (by omega) (by omega) (by decide) (hSa) dX5_pour_48 ?_
        refine e_cloneX F (i0 := 0) (ty := .int) (ai := 8) rfl hwa (by omega) (by omega) (e_nmI F) (fun _ _ => rfl) w_ml_RX5_144 w_sa__I_clone w_nat_clone_20 w_im_java_lang_Object_clone___Ljava_lang_Object_ w_sx__I__I_clone___Ljava_lang_Object_ w_ca__I_RJx8e188 dX5_pour_49 (Nat.le_of_ble_eq_true rfl) (by decide) ?_
        refine e_castA F (ai := 8) e_up_s (e_nmI F) w_cl_RX5_17 dX5_pour_52 ?_
        refine e_astore F dX5_pour_55 (by decide) ?_
        refine e_aload_n F dX5_pour_57 rfl ?_
        refine e_get (ci := 5) (fi := 5) (q := (RX5, TX5, 6)) F (show e_up _ (n + 2) _ y = _ by rw [e_up_n (by omega)]; exact uY) rfl (by decide) w_fl_RX5_22 (by rfl) dX5_pour_58 ?_
        refine e_iload_n F dX5_pour_61 rfl ?_
        refine e_aaldn F (show e_up _ (n + 2) _ (y + 3) = _ by rw [e_up_n (by omega)]; exact uP) (by omega) (by omega) (by decide) (hPn) dX5_pour_62 ?_
        refine e_ifnonnullN F dX5_pour_63 ?_
        refine e_null F dX5_pour_66 ?_
        refine e_goto F 78 dX5_pour_67 (by decide) ?_
        refine e_astoreN F dX5_pour_78 (by decide) ?_
        refine e_iconst F dX5_pour_80 ?_
        refine e_istore F dX5_pour_81 (by decide) ?_
        exact e_go (l1 10 1 _ f _ (by omega) ⟨by omega, by omega, e_up_s, hfr, fun j j0 j1 => by rw [if_neg (by omega)]; exact hfA j j0 j1, fun q q1 q2 => e_up_n q1, by omega⟩) (And.intro rfl (And.intro rfl (And.intro rfl (And.intro rfl (And.intro rfl (And.intro rfl (trivial)))))))
      · have hbn := hdm2 _ _ hwb
        have l2 : ∀ (N : Nat) (c : Nat) (wl : e_W) (f1 g1 : Int → Int) (nl : Nat), 8 - c < N → ((c : Int) ≤ (R ki9).dg + 1 ∧ wl (n + 2) = some (e_ia ((ho wh).toNat + 1) f1) ∧ (∀ j : Int, 0 ≤ j → j < ((((ho wh).toNat + 1) : Nat) : Int) → -1 ≤ f1 j ∧ f1 j < pr wh) ∧ (∀ j : Int, 1 ≤ j → j < ((((ho wh).toNat + 1) : Nat) : Int) → f1 j = (poR wh (R ki9) (bcm (pr wh) (R ki9).dg a9 b9 c9 d9)).A j) ∧ wl (n + 2 + 1) = some (e_ia ((R ki9).dg.toNat + 1) g1) ∧ (∀ j : Int, 0 ≤ j → j < (c : Int) → g1 j = (poR wh (R ki9) (bcm (pr wh) (R ki9).dg a9 b9 c9 d9)).E j) ∧ (∀ q, q ≠ n + 2 → q ≠ n + 2 + 1 → wl q = w_38 q) ∧ n + 2 < nl) → e_V K P9 l E9 (4) (4) S9 M9 A9 B9 T9 C9 10 (fun r w' n' => FM w w' y n ∧ ((¬ (0 ≤ ((ki9 : Nat) : Int) ∧ ((ki9 : Nat) : Int) < 6) ∧ r = some (.int (eI 0)) ∧ MW w' y wh kn 1 R) ∨ ((0 ≤ ((ki9 : Nat) : Int) ∧ ((ki9 : Nat) : Int) < 6) ∧ r = some (.int (eI ((if (R ki9).dg = -1 then (-9, R) else (bc (st7 (poR wh (R ki9) (bcm (pr wh) (R ki9).dg a9 b9 c9 d9)).A), updR R ki9 (poR wh (R ki9) (bcm (pr wh) (R ki9).dg a9 b9 c9 d9)))).1))) ∧ MW w' y wh (kn) 0 ((if (R ki9).dg = -1 then (-9, R) else (bc (st7 (poR wh (R ki9) (bcm (pr wh) (R ki9).dg a9 b9 c9 d9)).A), updR R ki9 (poR wh (R ki9) (bcm (pr wh) (R ki9).dg a9 b9 c9 d9)))).2)))) (e_px0) 135 [(0, .ref y), (1, .int (eI ((ki9 : Nat) : Int))), (6, .ref (n + 1)), (7, .ref (n + 2)), (8, .ref (n + 2 + 1)), (9, .int (eI (c : Int)))] [] wl nl (4) := by
          intro N
          induction N with
          | zero => intro c wl f1 g1 nl hN; exact absurd hN (Nat.not_lt_zero _)
          | succ N ih =>
            intro c wl f1 g1 nl hN ⟨hc, gn0, gr1, ge1, gs1, ges, gf, gnl⟩
            have e9 : (poR wh (R ki9) (bcm (pr wh) (R ki9).dg a9 b9 c9 d9)).dg = (R ki9).dg := rfl
            have uY2 : wl y = some (MO y 0 wh kn) := (gf y (by omega) (by omega)).trans uY
            have uG2 : wl (y + 1) = some (e_ia 6 G2) := (gf _ (by omega) (by omega)).trans uG
            have uP2 : wl (y + 3) = some (e_ra 6 P2) := (gf _ (by omega) (by omega)).trans uP
            have uq2 : wl (n + 1) = some (e_ia ((R ki9).dg.toNat + 1) q9) := (gf _ (by omega) (by omega)).trans hq
            have gM3 : MW wl y wh kn 0 R := gM2.to (fun q e q1 => by rw [gf q (by have := hdm2 q e q1; omega) (by have := hdm2 q e q1; omega)]; exact q1)
            have ub2 : wl b = some (e_ia ((R ki9).dg.toNat + 1) g) := (gf _ (by omega) (by omega)).trans hwb
            refine e_aload F dX5_pour_135 rfl ?_
            refine e_ifnull F dX5_pour_137 ?_
            refine e_iload F dX5_pour_140 rfl ?_
            refine e_aload F dX5_pour_142 rfl ?_
            refine e_alenI F gs1 dX5_pour_144 ?_
            refine e_icmp_ge F 180 dX5_pour_145 (by decide) (⟨by omega, by omega⟩) (⟨by omega, by omega⟩) (fun c_145 => ?_) (fun c_145 => ?_)
            · refine e_aload_n F dX5_pour_180 rfl ?_
              refine e_iload_n F dX5_pour_181 rfl ?_
              refine e_aload_n F dX5_pour_182 rfl ?_
              refine e_get (ci := 5) (fi := 3) (q := (RX5, TX5, 6)) F uY2 rfl (by decide) w_fl_RX5_13 (by rfl) dX5_pour_183 ?_
              refine e_iload_n F dX5_pour_186 rfl ?_
              refine e_iald F uG2 (by omega) (by omega) (by first | decide | omega) dX5_pour_187 ?_
              rw [uGi]
              refine e_aload F dX5_pour_188 rfl ?_
              refine e_aload F dX5_pour_190 rfl ?_
              refine e_callVV F u_X5_lay (by rfl) (c_X5_layRR gM3 hki9 (r := (poR wh (R ki9) (bcm (pr wh) (R ki9).dg a9 b9 c9 d9))) (row_MD (by omega) (by omega) gn0 gr1 ge1 (Or.inr ⟨hp1, n + 2 + 1, g1, rfl, by omega, gs1, fun j j0 j1 => by rw [ges j j0 (by omega)]; have := emod_rg ((bcm (pr wh) (R ki9).dg a9 b9 c9 d9) j + (R ki9).E j) hwh; show -1 ≤ ((bcm (pr wh) (R ki9).dg a9 b9 c9 d9) j + (R ki9).E j) % pr wh ∧ ((bcm (pr wh) (R ki9).dg a9 b9 c9 d9) j + (R ki9).E j) % pr wh < pr wh; exact ⟨by omega, this.2⟩, fun j j0 j1 => ges j j0 (by omega)⟩)) (poR_RV hwh (gRV ki9 hki9) hne (bcm (pr wh) (R ki9).dg a9 b9 c9 d9))) gM3.1 rfl rfl w_ml_RX5_140 dX5_pour_192 (by rfl) (Nat.le_of_ble_eq_true rfl) (by decide) (by omega) (fun _ _ _ h _ => False.elim h) (fun r_192 w_192 n_192 h_192 hn_192 => ?_)
              obtain ⟨rfl, en_192, gM4, gF4⟩ := h_192
              refine e_iret F rfl (by omega) ?_ dX5_pour_195
              rw [if_neg (show ¬ (R ki9).dg = -1 from hne)]
              exact ⟨FM.tr (n1 := nl) (fun q q1 q2 => ((gf q (by omega) (by omega)).trans (gK q (by omega))).trans (FM.th (n := n) q q1 q2)) (by omega) gF4, Or.inr ⟨h_i, rfl, gM4⟩⟩
            ·
              have hE9 := hRi.2.1 hp1 (c : Int) (by omega) (by omega)
              have hgE9 := hgE (c : Int) (by omega) (by omega)
              have hqe9 := hqe (c : Int) (by omega) (by omega)
              have hbr9 := hbr (c : Int)
              refine e_aload F dX5_pour_148 rfl ?_
              refine e_iload F dX5_pour_150 rfl ?_
              refine e_aload_n F dX5_pour_152 rfl ?_
              refine e_aload F dX5_pour_153 rfl ?_
              refine e_iload F dX5_pour_155 rfl ?_
              refine e_iald F uq2 (by omega) (by omega) (by first | decide | omega) dX5_pour_157 ?_
              rw [hqe9]
              refine e_i2l F dX5_pour_158 (⟨by omega, by omega⟩) ?_
              refine e_aload_n F dX5_pour_159 rfl ?_
              refine e_get (ci := 5) (fi := 5) (q := (RX5, TX5, 6)) F uY2 rfl (by decide) w_fl_RX5_22 (by rfl) dX5_pour_160 ?_
              refine e_iload_n F dX5_pour_163 rfl ?_
              refine e_aaldr F uP2 (by omega) (by omega) (by decide) (hPb) dX5_pour_164 ?_
              refine e_iload F dX5_pour_165 rfl ?_
              refine e_iald F ub2 (by omega) (by omega) (by first | decide | omega) dX5_pour_167 ?_
              rw [hgE9]
              refine e_i2l F dX5_pour_168 (⟨by omega, by omega⟩) ?_
              refine e_ladd F dX5_pour_169 ?_
              refine e_callVV F u_X5_mod (by rfl) (c_X5_mod uY2 hwh (by constructor <;> omega)) uY2 rfl rfl w_ml_RX5_55 dX5_pour_170 (by rfl) (Nat.le_of_ble_eq_true rfl) (by decide) (by omega) (fun _ _ _ h _ => False.elim h) (fun r_170 w_170 n_170 h_170 hn_170 => ?_)
              obtain ⟨rfl, ew_170, en_170⟩ := h_170
              rw [ew_170, en_170]
              refine e_iast F gs1 (by omega) (by omega) (by first | decide | omega) dX5_pour_173 ?_
              refine e_iinc F dX5_pour_174 rfl (by decide) ?_
              refine e_goto F 135 dX5_pour_177 (by decide) ?_
              refine e_go (ih (c + 1) _ f1 _ nl (by omega) ⟨by omega, by rw [e_up_n (by omega)]; exact gn0, gr1, ge1, e_up_s, fun j j0 j1 => ?_, fun q q1 q2 => by rw [e_up_n q2]; exact gf q q1 q2, gnl⟩) ?_
              · unfold e_fu
                by_cases e8 : j = (c : Int)
                · rw [if_pos e8, e8]; rfl
                · rw [if_neg e8]; exact ges j j0 (by omega)
              · exact (And.intro rfl (And.intro rfl (And.intro rfl (And.intro rfl (And.intro rfl (And.intro rfl (trivial)))))))
        have l1 : ∀ (N : Nat) (c : Nat) (wl : e_W) (f1 : Int → Int) (nl : Nat), 9 - c < N → (1 ≤ c ∧ (c : Int) ≤ ho wh + 1 ∧ wl (n + 2) = some (e_ia ((ho wh).toNat + 1) f1) ∧ (∀ j : Int, 0 ≤ j → j < ((((ho wh).toNat + 1) : Nat) : Int) → -1 ≤ f1 j ∧ f1 j < pr wh) ∧ (∀ j : Int, 1 ≤ j → j < ((((ho wh).toNat + 1) : Nat) : Int) → f1 j = if j < (c : Int) then (poR wh (R ki9) (bcm (pr wh) (R ki9).dg a9 b9 c9 d9)).A j else (R ki9).A j) ∧ wl (n + 2 + 1) = some (e_ia ((R ki9).dg.toNat + 1) q9) ∧ (∀ q, q ≠ n + 2 → q ≠ n + 2 + 1 → wl q = w_38 q) ∧ n + 2 < nl) → e_V K P9 l E9 (4) (4) S9 M9 A9 B9 T9 C9 10 (fun r w' n' => FM w w' y n ∧ ((¬ (0 ≤ ((ki9 : Nat) : Int) ∧ ((ki9 : Nat) : Int) < 6) ∧ r = some (.int (eI 0)) ∧ MW w' y wh kn 1 R) ∨ ((0 ≤ ((ki9 : Nat) : Int) ∧ ((ki9 : Nat) : Int) < 6) ∧ r = some (.int (eI ((if (R ki9).dg = -1 then (-9, R) else (bc (st7 (poR wh (R ki9) (bcm (pr wh) (R ki9).dg a9 b9 c9 d9)).A), updR R ki9 (poR wh (R ki9) (bcm (pr wh) (R ki9).dg a9 b9 c9 d9)))).1))) ∧ MW w' y wh (kn) 0 ((if (R ki9).dg = -1 then (-9, R) else (bc (st7 (poR wh (R ki9) (bcm (pr wh) (R ki9).dg a9 b9 c9 d9)).A), updR R ki9 (poR wh (R ki9) (bcm (pr wh) (R ki9).dg a9 b9 c9 d9)))).2)))) (e_px0) 83 [(0, .ref y), (1, .int (eI ((ki9 : Nat) : Int))), (6, .ref (n + 1)), (7, .ref (n + 2)), (8, .ref (n + 2 + 1)), (9, .int (eI (c : Int)))] [] wl nl (4) := by
          intro N
          induction N with
          | zero => intro c wl f1 nl hN; exact absurd hN (Nat.not_lt_zero _)
          | succ N ih =>
            intro c wl f1 nl hN ⟨hc1, hc, gn0, gr1, ge1, gs1, gf, gnl⟩
            have e9 : (poR wh (R ki9) (bcm (pr wh) (R ki9).dg a9 b9 c9 d9)).dg = (R ki9).dg := rfl
            have uY2 : wl y = some (MO y 0 wh kn) := (gf y (by omega) (by omega)).trans uY
            have uG2 : wl (y + 1) = some (e_ia 6 G2) := (gf _ (by omega) (by omega)).trans uG
            have uP2 : wl (y + 3) = some (e_ra 6 P2) := (gf _ (by omega) (by omega)).trans uP
            have uq2 : wl (n + 1) = some (e_ia ((R ki9).dg.toNat + 1) q9) := (gf _ (by omega) (by omega)).trans hq
            have gM3 : MW wl y wh kn 0 R := gM2.to (fun q e q1 => by rw [gf q (by have := hdm2 q e q1; omega) (by have := hdm2 q e q1; omega)]; exact q1)
            refine e_iload F dX5_pour_83 rfl ?_
            refine e_aload_n F dX5_pour_85 rfl ?_
            refine e_callVV F u_X5_holders (by rfl) (c_X5_holders uY2 hwh) uY2 rfl rfl w_ml_RX5_52 dX5_pour_86 (by rfl) (Nat.le_of_ble_eq_true rfl) (by decide) (by omega) (fun _ _ _ h _ => False.elim h) (fun r_86 w_86 n_86 h_86 hn_86 => ?_)
            obtain ⟨rfl, ew_86, en_86⟩ := h_86
            rw [ew_86, en_86]
            refine e_icmp_gt F 132 dX5_pour_89 (by decide) (⟨by omega, by omega⟩) (⟨by omega, by omega⟩) (fun c_89 => ?_) (fun c_89 => ?_)
            ·
              obtain rfl : c = (ho wh).toNat + 1 := by omega
              refine e_iconst F dX5_pour_132 ?_
              refine e_istore F dX5_pour_133 (by decide) ?_
              exact e_go (l2 9 0 wl f1 q9 nl (by omega) ⟨by omega, gn0, gr1, fun j j0 j1 => by rw [ge1 j j0 j1, if_pos (by omega)], gs1, fun j j0 j1 => by omega, gf, gnl⟩) (And.intro rfl (And.intro rfl (And.intro rfl (And.intro rfl (And.intro rfl (And.intro rfl (trivial)))))))
            ·
              have hA9 := gM.rgA hki9 (j := (c : Int)) (by omega) (by omega)
              have hfc : f1 (c : Int) = (R ki9).A (c : Int) := by rw [ge1 _ (by omega) (by omega), if_neg (by omega)]
              refine e_aload F dX5_pour_92 rfl ?_
              refine e_iload F dX5_pour_94 rfl ?_
              refine e_iald F gn0 (by omega) (by omega) (by first | decide | omega) dX5_pour_96 ?_
              rw [hfc]
              refine e_iconst F dX5_pour_97 ?_
              refine e_icmp_eq F 126 dX5_pour_98 (by decide) (⟨by omega, by omega⟩) (⟨by omega, by omega⟩) (fun c_98 => ?_) (fun c_98 => ?_)
              · refine e_iinc F dX5_pour_126 rfl (by decide) ?_
                refine e_goto F 83 dX5_pour_129 (by decide) ?_
                first
                | (refine e_go (ih (c + 1) _ _ nl (by omega) ⟨by omega, by omega, e_up_s, fun j j0 j1 => ?_, fun j j0 j1 => ?_, by rw [e_up_n (by omega)]; exact gs1, fun q q1 q2 => by rw [e_up_n q1]; exact gf q q1 q2, gnl⟩) ?_
                   · unfold e_fu
                     split
                     · omega
                     · exact gr1 j j0 j1
                   · unfold e_fu
                     by_cases e8 : j = (c : Int)
                     · rw [if_pos e8, if_pos (by omega), e8]
                       show _ = if (R ki9).A (c : Int) = -1 then -1 else _
                       rw [if_neg c_98]
                     · rw [if_neg e8, ge1 j j0 j1]
                       by_cases e7 : j < (c : Int)
                       · rw [if_pos e7, if_pos (by omega)]
                       · rw [if_neg e7, if_neg (by omega)]
                   · exact (And.intro rfl (And.intro rfl (And.intro rfl (And.intro rfl (And.intro rfl (And.intro rfl (trivial))))))))
                | (refine e_go (ih (c + 1) wl f1 nl (by omega) ⟨by omega, by omega, gn0, gr1, fun j j0 j1 => ?_, gs1, gf, gnl⟩) ?_
                   · rw [ge1 j j0 j1]
                     by_cases e8 : j = (c : Int)
                     · rw [if_neg (by omega), if_pos (by omega), e8]
                       show _ = if (R ki9).A (c : Int) = -1 then -1 else _
                       rw [if_pos c_98]; exact c_98
                     · by_cases e7 : j < (c : Int)
                       · rw [if_pos e7, if_pos (by omega)]
                       · rw [if_neg e7, if_neg (by omega)]
                   · exact (And.intro rfl (And.intro rfl (And.intro rfl (And.intro rfl (And.intro rfl (And.intro rfl (trivial))))))))
              · refine e_aload F dX5_pour_101 rfl ?_
                refine e_iload F dX5_pour_103 rfl ?_
                refine e_aload_n F dX5_pour_105 rfl ?_
                refine e_aload F dX5_pour_106 rfl ?_
                refine e_iload F dX5_pour_108 rfl ?_
                refine e_iald F gn0 (by omega) (by omega) (by first | decide | omega) dX5_pour_110 ?_
                rw [hfc]
                refine e_i2l F dX5_pour_111 (⟨by omega, by omega⟩) ?_
                refine e_aload_n F dX5_pour_112 rfl ?_
                refine e_aload F dX5_pour_113 rfl ?_
                refine e_iload F dX5_pour_115 rfl ?_
                refine e_callVV F u_X5_value (by rfl) (c_X5_value uY2 hwh (x := (c : Int)) uq2 (by omega) (fun j j0 j1 => by rw [hqe j j0 (by omega)]; exact hbr j) (by omega) (by omega)) uY2 rfl rfl w_ml_RX5_91 dX5_pour_117 (by rfl) (Nat.le_of_ble_eq_true rfl) (by decide) (by omega) (fun _ _ _ h _ => False.elim h) (fun r_117 w_117 n_117 h_117 hn_117 => ?_)
                obtain ⟨rfl, ew_117, en_117⟩ := h_117
                have e17 : hv (pr wh) (c : Int) q9 ((((R ki9).dg.toNat + 1) : Nat) : Int) ((R ki9).dg.toNat + 1) = hv (pr wh) (c : Int) (bcm (pr wh) (R ki9).dg a9 b9 c9 d9) ((((R ki9).dg.toNat + 1) : Nat) : Int) ((R ki9).dg.toNat + 1) := hv_congr _ (by omega) (fun j j0 j1 => hqe j j0 (by omega))
                rw [ew_117, en_117, e17]
                have hv17 := hv_rg (x := (c : Int)) (P := (bcm (pr wh) (R ki9).dg a9 b9 c9 d9)) (N := ((((R ki9).dg.toNat + 1) : Nat) : Int)) (show 0 < pr wh by omega) ((R ki9).dg.toNat + 1)
                have hmv := emod_rg ((R ki9).A (c : Int) + hv (pr wh) (c : Int) (bcm (pr wh) (R ki9).dg a9 b9 c9 d9) ((((R ki9).dg.toNat + 1) : Nat) : Int) ((R ki9).dg.toNat + 1)) hwh
                refine e_i2l F dX5_pour_120 (⟨by omega, by omega⟩) ?_
                refine e_ladd F dX5_pour_121 ?_
                refine e_callVV F u_X5_mod (by rfl) (c_X5_mod uY2 hwh (by constructor <;> omega)) uY2 rfl rfl w_ml_RX5_55 dX5_pour_122 (by rfl) (Nat.le_of_ble_eq_true rfl) (by decide) (by omega) (fun _ _ _ h _ => False.elim h) (fun r_122 w_122 n_122 h_122 hn_122 => ?_)
                obtain ⟨rfl, ew_122, en_122⟩ := h_122
                rw [ew_122, en_122]
                refine e_iast F gn0 (by omega) (by omega) (by first | decide | omega) dX5_pour_125 ?_
                refine e_iinc F dX5_pour_126 rfl (by decide) ?_
                refine e_goto F 83 dX5_pour_129 (by decide) ?_
                first
                | (refine e_go (ih (c + 1) _ _ nl (by omega) ⟨by omega, by omega, e_up_s, fun j j0 j1 => ?_, fun j j0 j1 => ?_, by rw [e_up_n (by omega)]; exact gs1, fun q q1 q2 => by rw [e_up_n q1]; exact gf q q1 q2, gnl⟩) ?_
                   · unfold e_fu
                     split
                     · omega
                     · exact gr1 j j0 j1
                   · unfold e_fu
                     by_cases e8 : j = (c : Int)
                     · rw [if_pos e8, if_pos (by omega), e8]
                       show _ = if (R ki9).A (c : Int) = -1 then -1 else _
                       rw [if_neg c_98]
                     · rw [if_neg e8, ge1 j j0 j1]
                       by_cases e7 : j < (c : Int)
                       · rw [if_pos e7, if_pos (by omega)]
                       · rw [if_neg e7, if_neg (by omega)]
                   · exact (And.intro rfl (And.intro rfl (And.intro rfl (And.intro rfl (And.intro rfl (And.intro rfl (trivial))))))))
                | (refine e_go (ih (c + 1) wl f1 nl (by omega) ⟨by omega, by omega, gn0, gr1, fun j j0 j1 => ?_, gs1, gf, gnl⟩) ?_
                   · rw [ge1 j j0 j1]
                     by_cases e8 : j = (c : Int)
                     · rw [if_neg (by omega), if_pos (by omega), e8]
                       show _ = if (R ki9).A (c : Int) = -1 then -1 else _
                       rw [if_pos c_98]; exact c_98
                     · by_cases e7 : j < (c : Int)
                       · rw [if_pos e7, if_pos (by omega)]
                       · rw [if_neg e7, if_neg (by omega)]
                   · exact (And.intro rfl (And.intro rfl (And.intro rfl (And.intro rfl (And.intro rfl (And.intro rfl (trivial))))))))
        refine e_astore F dX5_pour_41 (by decide) ?_
        refine e_aload_n F dX5_pour_43 rfl ?_
        refine e_get (ci := 5) (fi := 4) (q := (RX5, TX5, 6)) F uY rfl (by decide) w_fl_RX5_18 (by rfl) dX5_pour_44 ?_
        refine e_iload_n F dX5_pour_47 rfl ?_
        refine e_aaldr F uS (by omega) (by omega) (by decide) (hSa) dX5_pour_48 ?_
        refine e_cloneX F (i0 := 0) (ty := .int) (ai := 8) rfl hwa (by omega) (by omega) (e_nmI F) (fun _ _ => rfl) w_ml_RX5_144 w_sa__I_clone w_nat_clone_20 w_im_java_lang_Object_clone___Ljava_lang_Object_ w_sx__I__I_clone___Ljava_lang_Object_ w_ca__I_RJx8e188 dX5_pour_49 (Nat.le_of_ble_eq_true rfl) (by decide) ?_
        refine e_castA F (ai := 8) e_up_s (e_nmI F) w_cl_RX5_17 dX5_pour_52 ?_
        refine e_astore F dX5_pour_55 (by decide) ?_
        refine e_aload_n F dX5_pour_57 rfl ?_
        refine e_get (ci := 5) (fi := 5) (q := (RX5, TX5, 6)) F (show e_up _ (n + 2) _ y = _ by rw [e_up_n (by omega)]; exact uY) rfl (by decide) w_fl_RX5_22 (by rfl) dX5_pour_58 ?_
        refine e_iload_n F dX5_pour_61 rfl ?_
        refine e_aaldr F (show e_up _ (n + 2) _ (y + 3) = _ by rw [e_up_n (by omega)]; exact uP) (by omega) (by omega) (by decide) (hPb) dX5_pour_62 ?_
        refine e_ifnonnull F 70 dX5_pour_63 (by decide) ?_
        refine e_aload F dX5_pour_70 rfl ?_
        refine e_cloneX F (i0 := 0) (ty := .int) (ai := 8) rfl (show e_up w_38 (n + 2) _ (n + 1) = _ by rw [e_up_n (by omega)]; exact hq) (by omega) (by omega) (e_nmI F) (fun _ _ => rfl) w_ml_RX5_144 w_sa__I_clone w_nat_clone_20 w_im_java_lang_Object_clone___Ljava_lang_Object_ w_sx__I__I_clone___Ljava_lang_Object_ w_ca__I_RJx8e188 dX5_pour_72 (Nat.le_of_ble_eq_true rfl) (by decide) ?_
        refine e_castA F (ai := 8) e_up_s (e_nmI F) w_cl_RX5_17 dX5_pour_75 ?_
        refine e_astore F dX5_pour_78 (by decide) ?_
        refine e_iconst F dX5_pour_80 ?_
        refine e_istore F dX5_pour_81 (by decide) ?_
        exact e_go (l1 10 1 _ f _ (by omega) ⟨by omega, by omega, by rw [e_up_n (by omega)]; exact e_up_s, hfr, fun j j0 j1 => by rw [if_neg (by omega)]; exact hfA j j0 j1, e_up_s, fun q q1 q2 => by rw [e_up_n q2, e_up_n q1], by omega⟩) (And.intro rfl (And.intro rfl (And.intro rfl (And.intro rfl (And.intro rfl (And.intro rfl (trivial)))))))
      
    ·
      rw [b01_0, Classical.not_not] at c_19
      refine e_bipush F dX5_pour_22 (by decide) ?_
      refine e_iret F rfl (by omega) ?_ dX5_pour_24
      rw [if_pos (show (R ki9).dg = -1 from c_19)]
      exact ⟨FM.th, Or.inr ⟨h_i, rfl, gM⟩⟩
  ·
    rw [b01_0, Classical.not_not] at c_9
    rw [if_neg c_9]
    refine e_iconst F dX5_pour_12 ?_
    refine e_iret F rfl (by omega) ?_ dX5_pour_13
    exact ⟨FM.th, Or.inl ⟨c_9, rfl, hM.th⟩⟩
set_option maxHeartbeats 4000000 in
set_option maxRecDepth 100000 in
theorem c_X5_handOn {K : e_K} {l : Launch} {w : e_W} {n : Nat} {y wh : Nat} {t kn : Int} {R : Nat → RD} (hM : MW w y wh kn t R) {i9 : Int} (hi9 : e_r i9) {a9 : Int} (ha9 : e_r a9) {t9 : Int} (ht9 : e_r t9) {g9 : Int} (hg9 : e_r g9) {b9 : Int} (hb9 : e_r b9) {c9 : Int} (hc9 : e_r c9) : e_Met K l yX5_handOn (Cond.code yX5_handOn cX5_handOn 11 (Option.some .int) :: e_TB) (6) (20) [.ref y, .int (eI i9), .int (eI a9), .int (eI t9), .int (eI g9), .int (eI b9), .int (eI c9)] w n (fun r w' n' => FM w w' y n ∧ ((¬ ((0 ≤ i9 ∧ i9 < 6) ∧ (0 ≤ t9 ∧ t9 < 6)) ∧ r = some (.int (eI 0)) ∧ MW w' y wh kn 1 R) ∨ (((0 ≤ i9 ∧ i9 < 6) ∧ (0 ≤ t9 ∧ t9 < 6)) ∧ ¬ ((1 ≤ a9 ∧ a9 ≤ fl wh) ∧ (0 ≤ g9 ∧ g9 ≤ 3)) ∧ r = some (.int (eI 0)) ∧ MW w' y wh kn 2 R) ∨ (((0 ≤ i9 ∧ i9 < 6) ∧ (0 ≤ t9 ∧ t9 < 6)) ∧ ((1 ≤ a9 ∧ a9 ≤ fl wh) ∧ (0 ≤ g9 ∧ g9 ≤ 3)) ∧ r = some (.int (eI ((if (thQ wh (R i9.toNat) a9 ∧ (R i9.toNat).dg < bc a9) then (bc (st7 (lpR wh g9 (hnP wh a9 (R i9.toNat).A b9 c9)).A), updR R t9.toNat (lpR wh g9 (hnP wh a9 (R i9.toNat).A b9 c9))) else (-9, R)).1))) ∧ MW w' y wh (kn) 0 ((if (thQ wh (R i9.toNat) a9 ∧ (R i9.toNat).dg < bc a9) then (bc (st7 (lpR wh g9 (hnP wh a9 (R i9.toNat).A b9 c9)).A), updR R t9.toNat (lpR wh g9 (hnP wh a9 (R i9.toNat).A b9 c9))) else (-9, R)).2)))) (e_px0) := by
  refine e_ofV rfl (Nat.le_of_ble_eq_true rfl) ?_
  intro P9 E9 S9 M9 A9 B9 T9 C9 F hnm
  have hwh := hM.2.1
  have hY := hM.1
  have hp := pr_rg wh hwh
  have hho := ho_rg wh hwh
  have hf9 := fl_rg wh hwh
  refine e_aload_n F dX5_handOn_0 rfl ?_
  refine e_iload_n F dX5_handOn_1 rfl ?_
  refine e_callSS F u_X5_isNoDeal (by rfl) (c_X5_isNoDeal hi9) w_ml_RX5_129 dX5_handOn_2 (by rfl) (Nat.le_of_ble_eq_true rfl) (by decide) (by omega) (fun _ _ _ h _ => False.elim h) (fun r_2 w_2 n_2 h_2 hn_2 => ?_)
  obtain ⟨rfl, ew_2, en_2⟩ := h_2
  rw [ew_2, en_2]
  refine e_if_ne F 15 dX5_handOn_5 (by decide) (b01_r _) (fun c_5 => ?_) (fun c_5 => ?_)
  ·
    rw [ne_eq, b01_0, Classical.not_not] at c_5
    refine e_iconst F dX5_handOn_15 ?_
    refine e_goto F 20 dX5_handOn_16 (by decide) ?_
    refine e_iconst F dX5_handOn_20 ?_
    refine e_callVV F u_X5_start (by rfl) (c_X5_start hY (by first | exact Or.inl rfl | exact Or.inr rfl) (by decide) (by decide)) hY rfl rfl w_ml_RX5_69 dX5_handOn_21 (by rfl) (Nat.le_of_ble_eq_true rfl) (by decide) (by omega) (fun _ _ _ h _ => False.elim h) (fun r_21 w_21 n_21 h_21 hn_21 => ?_)
    obtain ⟨rfl, en_21, ew_21⟩ := h_21
    rw [en_21, ew_21]
    first | rw [if_pos (show (1 : Int) = 1 from rfl)] | rw [if_neg (show ¬ ((0 : Int) = 1) by decide)]
    have gM := hM.th (t2 := 0) (kn2 := kn)
    refine e_if_ne F 58 dX5_handOn_24 (by decide) (by decide) (fun c_24 => ?_) (fun c_24 => ?_)
    · refine e_iconst F dX5_handOn_58 ?_
      refine e_iret F rfl (by omega) ?_ dX5_handOn_59
      first
      | exact ⟨FM.th, Or.inr (Or.inl ⟨h_i, (fun q => by omega), rfl, hM.th⟩)⟩
      | exact ⟨FM.th, Or.inl ⟨(fun q => by omega), rfl, hM.th⟩⟩
    · exact absurd c_24 (by decide)
  ·
    rw [b01_0, Classical.not_not] at c_5
    refine e_iload_n F dX5_handOn_8 rfl ?_
    refine e_callSS F u_X5_isNoDeal (by rfl) (c_X5_isNoDeal ht9) w_ml_RX5_129 dX5_handOn_9 (by rfl) (Nat.le_of_ble_eq_true rfl) (by decide) (by omega) (fun _ _ _ h _ => False.elim h) (fun r_9 w_9 n_9 h_9 hn_9 => ?_)
    obtain ⟨rfl, ew_9, en_9⟩ := h_9
    rw [ew_9, en_9]
    refine e_if_eq F 19 dX5_handOn_12 (by decide) (b01_r _) (fun c_12 => ?_) (fun c_12 => ?_)
    ·
      rw [b01_0, Classical.not_not] at c_12
      refine e_iconst F dX5_handOn_19 ?_
      refine e_iconst F dX5_handOn_20 ?_
      refine e_callVV F u_X5_start (by rfl) (c_X5_start hY (by first | exact Or.inl rfl | exact Or.inr rfl) (by decide) (by decide)) hY rfl rfl w_ml_RX5_69 dX5_handOn_21 (by rfl) (Nat.le_of_ble_eq_true rfl) (by decide) (by omega) (fun _ _ _ h _ => False.elim h) (fun r_21 w_21 n_21 h_21 hn_21 => ?_)
      obtain ⟨rfl, en_21, ew_21⟩ := h_21
      rw [en_21, ew_21]
      first | rw [if_pos (show (1 : Int) = 1 from rfl)] | rw [if_neg (show ¬ ((0 : Int) = 1) by decide)]
      have gM := hM.th (t2 := 0) (kn2 := kn)
      refine e_if_ne F 58 dX5_handOn_24 (by decide) (by decide) (fun c_24 => ?_) (fun c_24 => ?_)
      · exact absurd c_24 (by decide)
      · have h_i : (0 ≤ i9 ∧ i9 < 6) ∧ (0 ≤ t9 ∧ t9 < 6) := by omega
        refine e_aload_n F dX5_handOn_27 rfl ?_
        refine e_aload_n F dX5_handOn_28 rfl ?_
        refine e_iload_n F dX5_handOn_29 rfl ?_
        refine e_callVV F u_X5_isNoSet (by rfl) (c_X5_isNoSet gM.1 hwh ha9) gM.1 rfl rfl w_ml_RX5_103 dX5_handOn_30 (by rfl) (Nat.le_of_ble_eq_true rfl) (by decide) (by omega) (fun _ _ _ h _ => False.elim h) (fun r_30 w_30 n_30 h_30 hn_30 => ?_)
        obtain ⟨rfl, ew_30, en_30⟩ := h_30
        rw [ew_30, en_30]
        refine e_if_ne F 46 dX5_handOn_33 (by decide) (b01_r _) (fun c_33 => ?_) (fun c_33 => ?_)
        ·
          rw [ne_eq, b01_0, Classical.not_not] at c_33
          refine e_iconst F dX5_handOn_46 ?_
          refine e_goto F 51 dX5_handOn_47 (by decide) ?_
          refine e_iconst F dX5_handOn_51 ?_
          refine e_callVV F u_X5_refuse (by rfl) (c_X5_refuse gM.1 (by decide) (by decide) (by first | exact Or.inl rfl | exact Or.inr rfl) (by decide) (by decide)) gM.1 rfl rfl w_ml_RX5_28 dX5_handOn_52 (by rfl) (Nat.le_of_ble_eq_true rfl) (by decide) (by omega) (fun _ _ _ h _ => False.elim h) (fun r_52 w_52 n_52 h_52 hn_52 => ?_)
          obtain ⟨rfl, en_52, ew_52⟩ := h_52
          rw [en_52, ew_52, e_up_up]
          first | (rw [if_pos (show (1 : Int) = 1 ∧ (0 : Int) = 0 by decide), b01_t (by decide)]) | (rw [if_neg (show ¬ ((0 : Int) = 1 ∧ (0 : Int) = 0) by decide), b01_f (by decide)])
          refine e_if_eq F 60 dX5_handOn_55 (by decide) (by decide) (fun c_55 => ?_) (fun c_55 => ?_)
          · exact absurd c_55 (by decide)
          · refine e_iconst F dX5_handOn_58 ?_
            refine e_iret F rfl (by omega) ?_ dX5_handOn_59
            first
            | exact ⟨FM.th, Or.inr (Or.inl ⟨h_i, (fun q => by omega), rfl, hM.th⟩)⟩
            | exact ⟨FM.th, Or.inl ⟨(fun q => by omega), rfl, hM.th⟩⟩
        ·
          rw [b01_0, Classical.not_not] at c_33
          refine e_iload F dX5_handOn_36 rfl ?_
          refine e_iconst F dX5_handOn_38 ?_
          refine e_iconst F dX5_handOn_39 ?_
          refine e_callSS F u_X5_isIn (by rfl) (c_X5_isIn (v := g9) (a := 0) (b := 3) hg9 (by decide) (by decide)) w_ml_RX5_48 dX5_handOn_40 (by rfl) (Nat.le_of_ble_eq_true rfl) (by decide) (by omega) (fun _ _ _ h _ => False.elim h) (fun r_40 w_40 n_40 h_40 hn_40 => ?_)
          obtain ⟨rfl, ew_40, en_40⟩ := h_40
          rw [ew_40, en_40]
          refine e_if_ne F 50 dX5_handOn_43 (by decide) (b01_r _) (fun c_43 => ?_) (fun c_43 => ?_)
          ·
            rw [ne_eq, b01_0, Classical.not_not] at c_43
            refine e_iconst F dX5_handOn_50 ?_
            refine e_iconst F dX5_handOn_51 ?_
            refine e_callVV F u_X5_refuse (by rfl) (c_X5_refuse gM.1 (by decide) (by decide) (by first | exact Or.inl rfl | exact Or.inr rfl) (by decide) (by decide)) gM.1 rfl rfl w_ml_RX5_28 dX5_handOn_52 (by rfl) (Nat.le_of_ble_eq_true rfl) (by decide) (by omega) (fun _ _ _ h _ => False.elim h) (fun r_52 w_52 n_52 h_52 hn_52 => ?_)
            obtain ⟨rfl, en_52, ew_52⟩ := h_52
            rw [en_52, ew_52, e_up_up]
            first | (rw [if_pos (show (1 : Int) = 1 ∧ (0 : Int) = 0 by decide), b01_t (by decide)]) | (rw [if_neg (show ¬ ((0 : Int) = 1 ∧ (0 : Int) = 0) by decide), b01_f (by decide)])
            refine e_if_eq F 60 dX5_handOn_55 (by decide) (by decide) (fun c_55 => ?_) (fun c_55 => ?_)
            · have h_c : (1 ≤ a9 ∧ a9 ≤ fl wh) ∧ (0 ≤ g9 ∧ g9 ≤ 3) := by omega
              obtain ⟨kt9, rfl⟩ : ∃ k : Nat, t9 = (k : Int) := ⟨t9.toNat, by omega⟩
              have hkt9 : kt9 < 6 := by omega
              rw [show ((kt9 : Nat) : Int).toNat = kt9 from rfl]
              obtain ⟨ki9, rfl⟩ : ∃ k : Nat, i9 = (k : Int) := ⟨i9.toNat, by omega⟩
              have hki9 : ki9 < 6 := by omega
              rw [show ((ki9 : Nat) : Int).toNat = ki9 from rfl]
              refine e_dom ?_
              intro hdm
              obtain ⟨gY, _, ⟨G, gG, gGe⟩, ⟨SS, PP, gS, gP, gMD⟩, gRV⟩ := id gM
              have hyn := hdm _ _ gY
              have hgn := hdm _ _ gG
              have hsn := hdm _ _ gS
              have hpn := hdm _ _ gP
              refine e_aload_n F dX5_handOn_60 rfl ?_
              refine e_iload_n F dX5_handOn_61 rfl ?_
              refine e_iload_n F dX5_handOn_62 rfl ?_
              refine e_callVV F u_X5_isEnough (by rfl) (c_X5_isEnough gM hki9 (set := a9) (by omega) (by omega)) gY rfl rfl w_ml_RX5_161 dX5_handOn_63 (by rfl) (Nat.le_of_ble_eq_true rfl) (by decide) (by omega) (fun _ _ _ h _ => False.elim h) (fun r_63 w_63 n_63 h_63 hn_63 => ?_)
              obtain ⟨rfl, ew_63, en_63⟩ := h_63
              rw [ew_63, en_63]
              refine e_if_ne F 72 dX5_handOn_66 (by decide) (b01_r _) (fun c_66 => ?_) (fun c_66 => ?_)
              ·
                rw [ne_eq, b01_0, Classical.not_not] at c_66
                have hen := c_66
                obtain ⟨a, f, hSa, hya, hwa, hfr, hfA⟩ := MD.row (gMD ki9 hki9) hen.1.2
                have han := hdm _ _ hwa
                refine e_iload F dX5_handOn_72 rfl ?_
                refine e_iconst F dX5_handOn_74 ?_
                refine e_iadd F dX5_handOn_75 ?_
                refine e_newI F (N := (g9.toNat + 1)) (by omega) (by omega) (by omega) w_ac_int dX5_handOn_76 ?_
                refine e_astore F dX5_handOn_78 (by decide) ?_
                refine e_aload F dX5_handOn_80 rfl ?_
                refine e_iconst F dX5_handOn_82 ?_
                refine e_aload_n F dX5_handOn_83 rfl ?_
                refine e_aload_n F dX5_handOn_84 rfl ?_
                refine e_get (ci := 5) (fi := 4) (q := (RX5, TX5, 6)) F (show e_up _ n _ y = _ by rw [e_up_n (by omega)]; exact gY) rfl (by decide) w_fl_RX5_18 (by rfl) dX5_handOn_85 ?_
                refine e_iload_n F dX5_handOn_88 rfl ?_
                refine e_aaldr F (show e_up _ n _ (y + 2) = _ by rw [e_up_n (by omega)]; exact gS) (by omega) (by omega) (by decide) (hSa) dX5_handOn_89 ?_
                refine e_iload_n F dX5_handOn_90 rfl ?_
                refine e_iconst F dX5_handOn_91 ?_
                have vY : e_up (e_up w y (MO y 0 wh kn)) n (e_ia (g9.toNat + 1) (fun _ => 0)) y = some (MO y 0 wh kn) := by rw [e_up_n (by omega)]; exact gY
                refine e_callVV F u_X5_at (by rfl) (c_X5_at vY hwh (a := a) (f := f) (by rw [e_up_n (by omega)]; exact hwa) (by omega) hfr (set := a9) (x := 0) (by omega) (by omega) (by decide)) vY rfl rfl w_ml_RX5_106 dX5_handOn_92 (by rfl) (Nat.le_of_ble_eq_true rfl) (by decide) (by omega) (fun _ _ _ h _ => False.elim h) (fun r_92 w_92 n_92 h_92 hn_92 => ?_)
                obtain ⟨rfl, gK⟩ := h_92
                have eT0 : atV wh a9 f 0 = atV wh a9 (R ki9).A 0 := by
                  unfold atV
                  rw [trK_congr (A2 := (R ki9).A) (ho wh).toNat (fun j j0 j1 => hfA j j0 (by omega))]
                rw [eT0]
                have gK1 : ∀ q, q < n → w_92 q = e_up w y (MO y 0 wh kn) q := fun q q1 => by rw [gK q (by omega), e_up_n (by omega)]
                have vn : w_92 n = some (e_ia (g9.toNat + 1) (fun _ => 0)) := by rw [gK n (by omega)]; exact e_up_s
                refine e_iast F vn (by omega) (by omega) (by first | decide | omega) dX5_handOn_95 ?_
                refine e_aload_n F dX5_handOn_96 rfl ?_
                refine e_callVV F u_X5_holders (by rfl) (c_X5_holders (show e_up w_92 n _ y = some (MO y 0 wh kn) by rw [e_up_n (by omega), gK1 y (by omega)]; exact gY) hwh) (show e_up w_92 n _ y = _ by rw [e_up_n (by omega), gK1 y (by omega)]; exact gY) rfl rfl w_ml_RX5_52 dX5_handOn_97 (by rfl) (Nat.le_of_ble_eq_true rfl) (by decide) (by omega) (fun _ _ _ h _ => False.elim h) (fun r_97 w_97 n_97 h_97 hn_97 => ?_)
                obtain ⟨rfl, ew_97, en_97⟩ := h_97
                rw [ew_97, en_97]
                refine e_iconst F dX5_handOn_100 ?_
                refine e_iadd F dX5_handOn_101 ?_
                refine e_newI F (N := ((ho wh).toNat + 1)) (by omega) (by omega) (by omega) w_ac_int dX5_handOn_102 ?_
                refine e_astore F dX5_handOn_104 (by decide) ?_
                refine e_iconst F dX5_handOn_106 ?_
                refine e_istore F dX5_handOn_107 (by decide) ?_
                have lo : ∀ (N : Nat) (k : Nat) (wl : e_W) (q1 f1 : Int → Int) (nl : Nat), 9 - k < N → (1 ≤ k ∧ (k : Int) ≤ g9 + 1 ∧ wl n = some (e_ia (g9.toNat + 1) q1) ∧ (∀ u : Int, 0 ≤ u → u < (k : Int) → q1 u = (hnP wh a9 (R ki9).A b9 c9) u) ∧ wl n_92 = some (e_ia ((ho wh).toNat + 1) f1) ∧ f1 0 = 0 ∧ (∀ q, q < n → wl q = (e_up w y (MO y 0 wh kn)) q) ∧ n_92 < nl) → e_V K P9 l E9 (6) (20) S9 M9 A9 B9 T9 C9 11 (fun r w' n' => FM w w' y n ∧ ((¬ ((0 ≤ ((ki9 : Nat) : Int) ∧ ((ki9 : Nat) : Int) < 6) ∧ (0 ≤ ((kt9 : Nat) : Int) ∧ ((kt9 : Nat) : Int) < 6)) ∧ r = some (.int (eI 0)) ∧ MW w' y wh kn 1 R) ∨ (((0 ≤ ((ki9 : Nat) : Int) ∧ ((ki9 : Nat) : Int) < 6) ∧ (0 ≤ ((kt9 : Nat) : Int) ∧ ((kt9 : Nat) : Int) < 6)) ∧ ¬ ((1 ≤ a9 ∧ a9 ≤ fl wh) ∧ (0 ≤ g9 ∧ g9 ≤ 3)) ∧ r = some (.int (eI 0)) ∧ MW w' y wh kn 2 R) ∨ (((0 ≤ ((ki9 : Nat) : Int) ∧ ((ki9 : Nat) : Int) < 6) ∧ (0 ≤ ((kt9 : Nat) : Int) ∧ ((kt9 : Nat) : Int) < 6)) ∧ ((1 ≤ a9 ∧ a9 ≤ fl wh) ∧ (0 ≤ g9 ∧ g9 ≤ 3)) ∧ r = some (.int (eI ((if (thQ wh (R ki9) a9 ∧ (R ki9).dg < bc a9) then (bc (st7 (lpR wh g9 (hnP wh a9 (R ki9).A b9 c9)).A), updR R kt9 (lpR wh g9 (hnP wh a9 (R ki9).A b9 c9))) else (-9, R)).1))) ∧ MW w' y wh (kn) 0 ((if (thQ wh (R ki9) a9 ∧ (R ki9).dg < bc a9) then (bc (st7 (lpR wh g9 (hnP wh a9 (R ki9).A b9 c9)).A), updR R kt9 (lpR wh g9 (hnP wh a9 (R ki9).A b9 c9))) else (-9, R)).2)))) (e_px0) 109 [(0, .ref y), (2, .int (eI a9)), (3, .int (eI ((kt9 : Nat) : Int))), (4, .int (eI g9)), (5, .int (eI b9)), (6, .int (eI c9)), (7, .ref n), (8, .ref n_92), (9, .int (eI (k : Int)))] [] wl nl ((2 + 2 * k)) := by
                  intro N
                  induction N with
                  | zero => intro k wl q1 f1 nl hN; exact absurd hN (Nat.not_lt_zero _)
                  | succ N ih =>
                    intro k wl q1 f1 nl hN ⟨hk1, hk, gn0, gq, gnr, gz, gf, gnl⟩
                    have uY : wl y = some (MO y 0 wh kn) := (gf y (by omega)).trans gY
                    have gM3 : MW wl y wh kn 0 R := gM.to (fun q e q1 => by rw [gf q (hdm q e q1)]; exact q1)
                    have iho := ih
                    have li : (k : Int) ≤ g9 → ∀ (N : Nat) (h : Nat) (w2 : e_W) (f2 : Int → Int), 9 - h < N → (1 ≤ h ∧ (h : Int) ≤ ho wh + 1 ∧ w2 n_92 = some (e_ia ((ho wh).toNat + 1) f2) ∧ f2 0 = 0 ∧ (∀ u : Int, 1 ≤ u → u < (h : Int) → f2 u = (fun h => (b9 * h + c9 * (k : Int)) % pr wh) u) ∧ (∀ q, q ≠ n_92 → w2 q = wl q)) → e_V K P9 l E9 (6) (20) S9 M9 A9 B9 T9 C9 11 (fun r w' n' => FM w w' y n ∧ ((¬ ((0 ≤ ((ki9 : Nat) : Int) ∧ ((ki9 : Nat) : Int) < 6) ∧ (0 ≤ ((kt9 : Nat) : Int) ∧ ((kt9 : Nat) : Int) < 6)) ∧ r = some (.int (eI 0)) ∧ MW w' y wh kn 1 R) ∨ (((0 ≤ ((ki9 : Nat) : Int) ∧ ((ki9 : Nat) : Int) < 6) ∧ (0 ≤ ((kt9 : Nat) : Int) ∧ ((kt9 : Nat) : Int) < 6)) ∧ ¬ ((1 ≤ a9 ∧ a9 ≤ fl wh) ∧ (0 ≤ g9 ∧ g9 ≤ 3)) ∧ r = some (.int (eI 0)) ∧ MW w' y wh kn 2 R) ∨ (((0 ≤ ((ki9 : Nat) : Int) ∧ ((ki9 : Nat) : Int) < 6) ∧ (0 ≤ ((kt9 : Nat) : Int) ∧ ((kt9 : Nat) : Int) < 6)) ∧ ((1 ≤ a9 ∧ a9 ≤ fl wh) ∧ (0 ≤ g9 ∧ g9 ≤ 3)) ∧ r = some (.int (eI ((if (thQ wh (R ki9) a9 ∧ (R ki9).dg < bc a9) then (bc (st7 (lpR wh g9 (hnP wh a9 (R ki9).A b9 c9)).A), updR R kt9 (lpR wh g9 (hnP wh a9 (R ki9).A b9 c9))) else (-9, R)).1))) ∧ MW w' y wh (kn) 0 ((if (thQ wh (R ki9) a9 ∧ (R ki9).dg < bc a9) then (bc (st7 (lpR wh g9 (hnP wh a9 (R ki9).A b9 c9)).A), updR R kt9 (lpR wh g9 (hnP wh a9 (R ki9).A b9 c9))) else (-9, R)).2)))) (e_px0) 119 [(0, .ref y), (2, .int (eI a9)), (3, .int (eI ((kt9 : Nat) : Int))), (4, .int (eI g9)), (5, .int (eI b9)), (6, .int (eI c9)), (7, .ref n), (8, .ref n_92), (9, .int (eI (k : Int))), (10, .int (eI (h : Int)))] [] w2 nl ((2 + 2 * k)) := by
                      intro hpre N
                      induction N with
                      | zero => intro h w2 f2 hN; exact absurd hN (Nat.not_lt_zero _)
                      | succ N ih =>
                        intro h w2 f2 hN ⟨hh1, hh, gn2, gz2, ge2, gf2⟩
                        have vY : w2 y = some (MO y 0 wh kn) := (gf2 y (by omega)).trans uY
                        have vn : w2 n = some (e_ia (g9.toNat + 1) q1) := (gf2 n (by omega)).trans gn0
                        refine e_iload F dX5_handOn_119 rfl ?_
                        refine e_aload F dX5_handOn_121 rfl ?_
                        refine e_alenI F gn2 dX5_handOn_123 ?_
                        refine e_icmp_ge F 157 dX5_handOn_124 (by decide) (⟨by omega, by omega⟩) (⟨by omega, by omega⟩) (fun c_124 => ?_) (fun c_124 => ?_)
                        ·
                          obtain rfl : h = (ho wh).toNat + 1 := by omega
                          refine e_aload F dX5_handOn_157 rfl ?_
                          refine e_iload F dX5_handOn_159 rfl ?_
                          refine e_aload_n F dX5_handOn_161 rfl ?_
                          refine e_aload F dX5_handOn_162 rfl ?_
                          refine e_iload_n F dX5_handOn_164 rfl ?_
                          refine e_iconst F dX5_handOn_165 ?_
                          refine e_dom ?_
                          intro hdm3
                          refine e_callVV F u_X5_at (by rfl) (c_X5_at vY hwh gn2 (by omega) (fun j j0 j1 => by by_cases z : j = 0; rw [z, gz2]; omega; rw [ge2 j (by omega) (by omega)]; have := emod_rg (b9 * j + c9 * (k : Int)) hwh; show -1 ≤ (b9 * j + c9 * (k : Int)) % pr wh ∧ (b9 * j + c9 * (k : Int)) % pr wh < pr wh; exact ⟨by omega, this.2⟩) (set := a9) (x := 0) (by omega) (by omega) (by decide)) vY rfl rfl w_ml_RX5_106 dX5_handOn_166 (by rfl) (Nat.le_of_ble_eq_true rfl) (by decide) (by omega) (fun _ _ _ h _ => False.elim h) (fun r_166 w_166 n_166 h_166 hn_166 => ?_)
                          obtain ⟨rfl, gK4⟩ := h_166
                          have eT : atV wh a9 f2 0 = (hnP wh a9 (R ki9).A b9 c9) (k : Int) := by
                            unfold hnP
                            rw [if_neg (by omega)]
                            unfold atV
                            rw [trK_congr (A2 := (fun h => (b9 * h + c9 * (k : Int)) % pr wh)) (ho wh).toNat (fun j j0 j1 => ge2 j j0 (by omega))]
                          rw [eT]
                          have h4 : ∀ q, q < nl → w_166 q = w2 q := fun q q1 => gK4 q (by omega)
                          refine e_iast F (show w_166 n = _ by rw [h4 n (by omega)]; exact vn) (by omega) (by omega) (by first | decide | omega) dX5_handOn_169 ?_
                          refine e_iinc F dX5_handOn_170 rfl (by decide) ?_
                          refine e_goto F 109 dX5_handOn_173 (by decide) ?_
                          refine e_wid (by omega) (e_go (iho (k + 1) _ _ _ n_166 (by omega) ⟨by omega, by omega, e_up_s, fun u j0 j1 => ?_, by rw [e_up_n (by omega), h4 n_92 (by omega)]; exact gn2, gz2, fun q q1 => by rw [e_up_n (by omega), h4 q (by omega), gf2 q (by omega)]; exact gf q q1, by omega⟩) ?_)
                          · unfold e_fu
                            by_cases e8 : u = (k : Int)
                            · rw [if_pos e8, e8]
                            · rw [if_neg e8]; exact gq u j0 (by omega)
                          · exact (And.intro rfl (And.intro rfl (And.intro rfl (And.intro rfl (And.intro rfl (And.intro rfl (And.intro rfl (And.intro rfl (And.intro rfl (trivial))))))))))
                        ·
                          have hm1 := mulS_rg (h := (h : Int)) hb9 (by omega) (by omega)
                          have hm2 := mulS_rg (h := (k : Int)) hc9 (by omega) (by omega)
                          refine e_aload F dX5_handOn_127 rfl ?_
                          refine e_iload F dX5_handOn_129 rfl ?_
                          refine e_aload_n F dX5_handOn_131 rfl ?_
                          refine e_iload F dX5_handOn_132 rfl ?_
                          refine e_i2l F dX5_handOn_134 (hb9) ?_
                          refine e_iload F dX5_handOn_135 rfl ?_
                          refine e_i2l F dX5_handOn_137 (⟨by omega, by omega⟩) ?_
                          refine e_lmul F dX5_handOn_138 ?_
                          refine e_iload F dX5_handOn_139 rfl ?_
                          refine e_i2l F dX5_handOn_141 (hc9) ?_
                          refine e_iload F dX5_handOn_142 rfl ?_
                          refine e_i2l F dX5_handOn_144 (⟨by omega, by omega⟩) ?_
                          refine e_lmul F dX5_handOn_145 ?_
                          refine e_ladd F dX5_handOn_146 ?_
                          refine e_callVV F u_X5_mod (by rfl) (c_X5_mod vY hwh (by constructor <;> omega)) vY rfl rfl w_ml_RX5_55 dX5_handOn_147 (by rfl) (Nat.le_of_ble_eq_true rfl) (by decide) (by omega) (fun _ _ _ h _ => False.elim h) (fun r_147 w_147 n_147 h_147 hn_147 => ?_)
                          obtain ⟨rfl, ew_147, en_147⟩ := h_147
                          rw [ew_147, en_147]
                          refine e_iast F gn2 (by omega) (by omega) (by first | decide | omega) dX5_handOn_150 ?_
                          refine e_iinc F dX5_handOn_151 rfl (by decide) ?_
                          refine e_goto F 119 dX5_handOn_154 (by decide) ?_
                          refine e_go (ih (h + 1) _ _ (by omega) ⟨by omega, by omega, e_up_s, ?_, fun u j0 j1 => ?_, fun q q1 => by rw [e_up_n q1]; exact gf2 q q1⟩) ?_
                          · unfold e_fu
                            rw [if_neg (by omega)]; exact gz2
                          · unfold e_fu
                            by_cases e8 : u = (h : Int)
                            · rw [if_pos e8, e8]
                            · rw [if_neg e8]; exact ge2 u j0 (by omega)
                          · exact (And.intro rfl (And.intro rfl (And.intro rfl (And.intro rfl (And.intro rfl (And.intro rfl (And.intro rfl (And.intro rfl (And.intro rfl (And.intro rfl (trivial)))))))))))
                    refine e_iload F dX5_handOn_109 rfl ?_
                    refine e_iload F dX5_handOn_111 rfl ?_
                    refine e_icmp_gt F 176 dX5_handOn_113 (by decide) (⟨by omega, by omega⟩) (⟨by omega, by omega⟩) (fun c_113 => ?_) (fun c_113 => ?_)
                    ·
                      obtain rfl : k = g9.toNat + 1 := by omega
                      refine e_aload_n F dX5_handOn_176 rfl ?_
                      refine e_iload_n F dX5_handOn_177 rfl ?_
                      refine e_iload F dX5_handOn_178 rfl ?_
                      refine e_aload_n F dX5_handOn_180 rfl ?_
                      refine e_aload F dX5_handOn_181 rfl ?_
                      refine e_dom ?_
                      intro hdm3
                      have hPr := fun u => hnP_rg hwh a9 (R ki9).A b9 c9 u
                      refine e_callVV F u_X5_values (by rfl) (c_X5_values uY hwh gn0 (by omega) (fun j j0 j1 => by rw [gq j j0 (by omega)]; exact hPr j)) uY rfl rfl w_ml_RX5_136 dX5_handOn_183 (by rfl) (Nat.le_of_ble_eq_true rfl) (by decide) (by omega) (fun _ _ _ h _ => False.elim h) (fun r_183 w_183 n_183 h_183 hn_183 => ?_)
                      obtain ⟨rfl, ⟨f, hf, hf0, hfe⟩, gK5, en_183⟩ := h_183
                      rw [en_183]
                      have gM5 := gM3.kb hdm3 gK5
                      have hq5 : w_183 n = _ := (gK5 _ (by omega)).trans gn0
                      refine e_aload F dX5_handOn_186 rfl ?_
                      refine e_callVV F u_X5_lay (by rfl) (c_X5_layRR gM5 hkt9 (a := nl) (b := n) (r := lpR wh g9 (hnP wh a9 (R ki9).A b9 c9)) (lpR_MD hwh (by omega) (by omega) (by omega) hf hf0 (fun j j0 j1 => by rw [hfe j j0 j1]; exact hv_congr _ (by omega) (fun k k0 k1 => gq k k0 (by omega))) hq5 (fun j j0 j1 => gq j j0 (by omega)) (fun j _ _ => hPr j)) (lpR_RV hwh (by omega) (fun j _ _ => hPr j))) gM5.1 rfl rfl w_ml_RX5_140 dX5_handOn_188 (by rfl) (Nat.le_of_ble_eq_true rfl) (by decide) (by omega) (fun _ _ _ h _ => False.elim h) (fun r_188 w_188 n_188 h_188 hn_188 => ?_)
                      obtain ⟨rfl, en_188, gM6, gF6⟩ := h_188
                      refine e_iret F rfl (by omega) ?_ dX5_handOn_191
                      have q9 : (thQ wh (R ki9) a9 ∧ (R ki9).dg < bc a9) := hen
                      rw [if_pos q9]
                      exact ⟨FM.tr (n1 := nl + 1) (fun q q1 q2 => ((gK5 q (by omega)).trans (gf q q1)).trans (FM.th (n := n) q q1 q2)) (by omega) gF6, Or.inr (Or.inr ⟨h_i, h_c, rfl, gM6⟩)⟩
                    · refine e_iconst F dX5_handOn_116 ?_
                      refine e_istore F dX5_handOn_117 (by decide) ?_
                      exact e_wid (by omega) (e_go (li (by omega) 10 1 wl f1 (by omega) ⟨by omega, by omega, gnr, gz, fun u j0 j1 => by omega, fun _ _ => rfl⟩) (And.intro rfl (And.intro rfl (And.intro rfl (And.intro rfl (And.intro rfl (And.intro rfl (And.intro rfl (And.intro rfl (And.intro rfl (And.intro rfl (trivial))))))))))))
                exact e_wid (by omega) (e_go (lo 10 1 _ _ (fun _ => 0) _ (by omega) ⟨by omega, by omega, by rw [e_up_n (by omega)]; exact e_up_s, fun u j0 j1 => by rw [show u = 0 by omega]; rfl, e_up_s, rfl, fun q q1 => by rw [e_up_n (by omega), e_up_n (by omega)]; exact gK1 q q1, by omega⟩) (And.intro rfl (And.intro rfl (And.intro rfl (And.intro rfl (And.intro rfl (And.intro rfl (And.intro rfl (And.intro rfl (And.intro rfl (trivial)))))))))))
              ·
                rw [b01_0] at c_66
                refine e_bipush F dX5_handOn_69 (by decide) ?_
                refine e_iret F rfl (by omega) ?_ dX5_handOn_71
                have q9 : ¬ (thQ wh (R ki9) a9 ∧ (R ki9).dg < bc a9) := c_66
                rw [if_neg q9]
                exact ⟨FM.th, Or.inr (Or.inr ⟨h_i, h_c, rfl, gM⟩)⟩
            · exact absurd c_55 (by decide)
          ·
            rw [b01_0] at c_43
            refine e_iconst F dX5_handOn_46 ?_
            refine e_goto F 51 dX5_handOn_47 (by decide) ?_
            refine e_iconst F dX5_handOn_51 ?_
            refine e_callVV F u_X5_refuse (by rfl) (c_X5_refuse gM.1 (by decide) (by decide) (by first | exact Or.inl rfl | exact Or.inr rfl) (by decide) (by decide)) gM.1 rfl rfl w_ml_RX5_28 dX5_handOn_52 (by rfl) (Nat.le_of_ble_eq_true rfl) (by decide) (by omega) (fun _ _ _ h _ => False.elim h) (fun r_52 w_52 n_52 h_52 hn_52 => ?_)
            obtain ⟨rfl, en_52, ew_52⟩ := h_52
            rw [en_52, ew_52, e_up_up]
            first | (rw [if_pos (show (1 : Int) = 1 ∧ (0 : Int) = 0 by decide), b01_t (by decide)]) | (rw [if_neg (show ¬ ((0 : Int) = 1 ∧ (0 : Int) = 0) by decide), b01_f (by decide)])
            refine e_if_eq F 60 dX5_handOn_55 (by decide) (by decide) (fun c_55 => ?_) (fun c_55 => ?_)
            · exact absurd c_55 (by decide)
            · refine e_iconst F dX5_handOn_58 ?_
              refine e_iret F rfl (by omega) ?_ dX5_handOn_59
              first
              | exact ⟨FM.th, Or.inr (Or.inl ⟨h_i, (fun q => by omega), rfl, hM.th⟩)⟩
              | exact ⟨FM.th, Or.inl ⟨(fun q => by omega), rfl, hM.th⟩⟩
    ·
      rw [b01_0, Classical.not_not] at c_12
      refine e_iconst F dX5_handOn_15 ?_
      refine e_goto F 20 dX5_handOn_16 (by decide) ?_
      refine e_iconst F dX5_handOn_20 ?_
      refine e_callVV F u_X5_start (by rfl) (c_X5_start hY (by first | exact Or.inl rfl | exact Or.inr rfl) (by decide) (by decide)) hY rfl rfl w_ml_RX5_69 dX5_handOn_21 (by rfl) (Nat.le_of_ble_eq_true rfl) (by decide) (by omega) (fun _ _ _ h _ => False.elim h) (fun r_21 w_21 n_21 h_21 hn_21 => ?_)
      obtain ⟨rfl, en_21, ew_21⟩ := h_21
      rw [en_21, ew_21]
      first | rw [if_pos (show (1 : Int) = 1 from rfl)] | rw [if_neg (show ¬ ((0 : Int) = 1) by decide)]
      have gM := hM.th (t2 := 0) (kn2 := kn)
      refine e_if_ne F 58 dX5_handOn_24 (by decide) (by decide) (fun c_24 => ?_) (fun c_24 => ?_)
      · refine e_iconst F dX5_handOn_58 ?_
        refine e_iret F rfl (by omega) ?_ dX5_handOn_59
        first
        | exact ⟨FM.th, Or.inr (Or.inl ⟨h_i, (fun q => by omega), rfl, hM.th⟩)⟩
        | exact ⟨FM.th, Or.inl ⟨(fun q => by omega), rfl, hM.th⟩⟩
      · exact absurd c_24 (by decide)
