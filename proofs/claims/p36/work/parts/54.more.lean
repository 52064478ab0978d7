/-! the reference: pour, scale, times, joined -/
def poR (wh : Nat) (r : RD) (P : Int → Int) : RD := (r.dg, r.hp, fun h => if r.A h = -1 then -1 else (r.A h + hv (pr wh) h P ((r.dg.toNat + 1 : Nat) : Int) (r.dg.toNat + 1)) % pr wh, fun k => (P k + r.E k) % pr wh)
def scR (wh : Nat) (r : RD) (f : Int) : RD := (r.dg, r.hp, fun h => if r.A h = -1 then -1 else r.A h * f % pr wh, fun k => r.E k * f % pr wh)
def tiR (wh : Nat) (r1 r2 : RD) : RD := (r1.dg + r2.dg, 0, fun h => if r1.A h = -1 ∨ r2.A h = -1 then -1 else r1.A h * r2.A h % pr wh, fun _ => 0)
def ofE (r : RD) (k : Int) : Int := if k ≤ r.dg then r.E k else 0
def joR (wh : Nat) (s : Int) (r1 r2 : RD) : RD := (if r1.dg < r2.dg then r2.dg else r1.dg, if r1.hp = 1 ∧ r2.hp = 1 then 1 else 0, fun h => if r1.A h = -1 ∨ r2.A h = -1 then -1 else (r1.A h + s * r2.A h) % pr wh, fun k => (ofE r1 k + s * ofE r2 k) % pr wh)
/-- a row that was laid anew -/
theorem row_MD {w : e_W} {y wh a : Nat} {o2 : Option Nat} {r : RD} {f : Int → Int} (hg : 0 ≤ r.dg ∧ r.dg ≤ 6) (hya : y + 3 < a) (wa : w a = some (e_ia ((ho wh).toNat + 1) f)) (hf : ∀ j : Int, 0 ≤ j → j < (((ho wh).toNat + 1 : Nat) : Int) → -1 ≤ f j ∧ f j < pr wh) (he : ∀ j : Int, 1 ≤ j → j < (((ho wh).toNat + 1 : Nat) : Int) → f j = r.A j) (hp : (r.hp = 0 ∧ o2 = none) ∨ (r.hp = 1 ∧ RW w y o2 (r.dg.toNat + 1) (pr wh) 0 r.E)) : MD w y wh (some a) o2 r := Or.inr ⟨hg, ⟨a, f, rfl, hya, wa, hf, he⟩, hp⟩
theorem rowA {wh : Nat} (hwh : wh < 7) {c : Prop} [Decidable c] (v : Int) : (if c then -1 else v % pr wh) = -1 ∨ (¬ c ∧ 0 ≤ (if c then -1 else v % pr wh) ∧ (if c then -1 else v % pr wh) < pr wh) := by
  have hm := emod_rg v hwh
  by_cases h : c
  · rw [if_pos h]; exact Or.inl rfl
  · rw [if_neg h]; exact Or.inr ⟨h, hm.1, hm.2⟩
theorem poR_RV {wh : Nat} (hwh : wh < 7) {r : RD} (h : RV wh r) (hd : ¬ r.dg = -1) (P : Int → Int) : RV wh (poR wh r P) := by
  refine ⟨fun j j0 j1 => ?_, fun _ k _ _ => emod_rg _ hwh, fun q => absurd q hd⟩
  rcases rowA hwh (c := r.A j = -1) (r.A j + hv (pr wh) j P ((r.dg.toNat + 1 : Nat) : Int) (r.dg.toNat + 1)) with q | ⟨q, q1, q2⟩
  · exact Or.inl q
  · exact Or.inr ⟨q1, q2, by rcases h.1 j j0 j1 with z | z; exact absurd z q; exact z.2.2⟩
theorem scR_RV {wh : Nat} (hwh : wh < 7) {r : RD} (h : RV wh r) (hd : ¬ r.dg = -1) (f : Int) : RV wh (scR wh r f) := by
  refine ⟨fun j j0 j1 => ?_, fun _ k _ _ => emod_rg _ hwh, fun q => absurd q hd⟩
  rcases rowA hwh (c := r.A j = -1) (r.A j * f) with q | ⟨q, q1, q2⟩
  · exact Or.inl q
  · exact Or.inr ⟨q1, q2, by rcases h.1 j j0 j1 with z | z; exact absurd z q; exact z.2.2⟩
theorem tiR_RV {wh : Nat} (hwh : wh < 7) {r1 r2 : RD} (h : RV wh r1) (hd : 0 ≤ r1.dg + r2.dg) : RV wh (tiR wh r1 r2) := by
  refine ⟨fun j j0 j1 => ?_, fun q => absurd q (show ¬ ((0 : Int) = 1) by decide), fun q => absurd q (show ¬ r1.dg + r2.dg = -1 by omega)⟩
  rcases rowA hwh (c := r1.A j = -1 ∨ r2.A j = -1) (r1.A j * r2.A j) with q | ⟨q, q1, q2⟩
  · exact Or.inl q
  · exact Or.inr ⟨q1, q2, by rcases h.1 j j0 j1 with z | z; exact absurd (Or.inl z) q; exact z.2.2⟩
theorem joR_dg (wh : Nat) (s : Int) {r1 r2 : RD} (h1 : 0 ≤ r1.dg ∧ r1.dg ≤ 6) (h2 : 0 ≤ r2.dg ∧ r2.dg ≤ 6) : 0 ≤ (joR wh s r1 r2).dg ∧ (joR wh s r1 r2).dg ≤ 6 := by
  show 0 ≤ (if r1.dg < r2.dg then r2.dg else r1.dg) ∧ (if r1.dg < r2.dg then r2.dg else r1.dg) ≤ 6
  split <;> omega
theorem joR_RV {wh : Nat} (hwh : wh < 7) {s : Int} {r1 r2 : RD} (h : RV wh r1) (h1 : 0 ≤ r1.dg ∧ r1.dg ≤ 6) (h2 : 0 ≤ r2.dg ∧ r2.dg ≤ 6) : RV wh (joR wh s r1 r2) := by
  have hd := joR_dg wh s h1 h2
  refine ⟨fun j j0 j1 => ?_, fun _ k _ _ => emod_rg _ hwh, fun q => by omega⟩
  rcases rowA hwh (c := r1.A j = -1 ∨ r2.A j = -1) (r1.A j + s * r2.A j) with q | ⟨q, q1, q2⟩
  · exact Or.inl q
  · exact Or.inr ⟨q1, q2, by rcases h.1 j j0 j1 with z | z; exact absurd (Or.inl z) q; exact z.2.2⟩
theorem MW.to {w w' : e_W} {y wh : Nat} {kn t : Int} {R : Nat → RD} (h : MW w y wh kn t R) (hg : ∀ q e, w q = some e → w' q = some e) : MW w' y wh kn t R := by
  obtain ⟨hY, hwh, ⟨G, hG, hGe⟩, ⟨S, P, hS, hP, hMD⟩, hRV⟩ := h
  exact ⟨hg _ _ hY, hwh, ⟨G, hg _ _ hG, hGe⟩, ⟨S, P, hg _ _ hS, hg _ _ hP, fun j hj => (hMD j hj).to (fun q e _ he => hg q e he)⟩, hRV⟩
set_option maxHeartbeats 4000000 in
set_option maxRecDepth 100000 in
theorem c_X5_scale {K : e_K} {l : Launch} {w : e_W} {n : Nat} {y wh : Nat} {t kn : Int} {R : Nat → RD} (hM : MW w y wh kn t R) {i9 : Int} (hi9 : e_r i9) {b9 : Int} (hb9 : e_r b9) {t9 : Int} (ht9 : e_r t9) : e_Met K l yX5_scale (Cond.code yX5_scale cX5_scale 7 (Option.some .int) :: e_TB) (4) (2) [.ref y, .int (eI i9), .int (eI b9), .int (eI t9)] w n (fun r w' n' => FM w w' y n ∧ ((¬ ((0 ≤ i9 ∧ i9 < 6) ∧ (0 ≤ t9 ∧ t9 < 6)) ∧ r = some (.int (eI 0)) ∧ MW w' y wh kn 1 R) ∨ (((0 ≤ i9 ∧ i9 < 6) ∧ (0 ≤ t9 ∧ t9 < 6)) ∧ r = some (.int (eI ((if (R i9.toNat).dg = -1 then (-9, R) else (bc (st7 (scR wh (R i9.toNat) (b9 % pr wh)).A), updR R t9.toNat (scR wh (R i9.toNat) (b9 % pr wh)))).1))) ∧ MW w' y wh (kn) 0 ((if (R i9.toNat).dg = -1 then (-9, R) else (bc (st7 (scR wh (R i9.toNat) (b9 % pr wh)).A), updR R t9.toNat (scR wh (R i9.toNat) (b9 % pr wh)))).2)))) (e_px0) := by
  refine e_ofV rfl (Nat.le_of_ble_eq_true rfl) ?_
  intro P9 E9 S9 M9 A9 B9 T9 C9 F hnm
  have hwh := hM.2.1
  have hY := hM.1
  have hp := pr_rg wh hwh
  have hho := ho_rg wh hwh
  have hf9 := fl_rg wh hwh
  refine e_aload_n F dX5_scale_0 rfl ?_
  refine e_iload_n F dX5_scale_1 rfl ?_
  refine e_callSS F u_X5_isNoDeal (by rfl) (c_X5_isNoDeal hi9) w_ml_RX5_129 dX5_scale_2 (by rfl) (Nat.le_of_ble_eq_true rfl) (by decide) (by omega) (fun _ _ _ h _ => False.elim h) (fun r_2 w_2 n_2 h_2 hn_2 => ?_)
  obtain ⟨rfl, ew_2, en_2⟩ := h_2
  rw [ew_2, en_2]
  refine e_if_ne F 15 dX5_scale_5 (by decide) (b01_r _) (fun c_5 => ?_) (fun c_5 => ?_)
  ·
    rw [ne_eq, b01_0, Classical.not_not] at c_5
    refine e_iconst F dX5_scale_15 ?_
    refine e_goto F 20 dX5_scale_16 (by decide) ?_
    refine e_iconst F dX5_scale_20 ?_
    refine e_callVV F u_X5_start (by rfl) (c_X5_start hY (by first | exact Or.inl rfl | exact Or.inr rfl) (by decide) (by decide)) hY rfl rfl w_ml_RX5_69 dX5_scale_21 (by rfl) (Nat.le_of_ble_eq_true rfl) (by decide) (by omega) (fun _ _ _ h _ => False.elim h) (fun r_21 w_21 n_21 h_21 hn_21 => ?_)
    obtain ⟨rfl, en_21, ew_21⟩ := h_21
    rw [en_21, ew_21]
    first | rw [if_pos (show (1 : Int) = 1 from rfl)] | rw [if_neg (show ¬ ((0 : Int) = 1) by decide)]
    have gM := hM.th (t2 := 0) (kn2 := kn)
    refine e_if_eq F 29 dX5_scale_24 (by decide) (by decide) (fun c_24 => ?_) (fun c_24 => ?_)
    · exact absurd c_24 (by decide)
    · refine e_iconst F dX5_scale_27 ?_
      refine e_iret F rfl (by omega) ?_ dX5_scale_28
      exact ⟨FM.th, Or.inl ⟨(fun q => by omega), rfl, hM.th⟩⟩
  ·
    rw [b01_0, Classical.not_not] at c_5
    refine e_iload_n F dX5_scale_8 rfl ?_
    refine e_callSS F u_X5_isNoDeal (by rfl) (c_X5_isNoDeal ht9) w_ml_RX5_129 dX5_scale_9 (by rfl) (Nat.le_of_ble_eq_true rfl) (by decide) (by omega) (fun _ _ _ h _ => False.elim h) (fun r_9 w_9 n_9 h_9 hn_9 => ?_)
    obtain ⟨rfl, ew_9, en_9⟩ := h_9
    rw [ew_9, en_9]
    refine e_if_eq F 19 dX5_scale_12 (by decide) (b01_r _) (fun c_12 => ?_) (fun c_12 => ?_)
    ·
      rw [b01_0, Classical.not_not] at c_12
      refine e_iconst F dX5_scale_19 ?_
      refine e_iconst F dX5_scale_20 ?_
      refine e_callVV F u_X5_start (by rfl) (c_X5_start hY (by first | exact Or.inl rfl | exact Or.inr rfl) (by decide) (by decide)) hY rfl rfl w_ml_RX5_69 dX5_scale_21 (by rfl) (Nat.le_of_ble_eq_true rfl) (by decide) (by omega) (fun _ _ _ h _ => False.elim h) (fun r_21 w_21 n_21 h_21 hn_21 => ?_)
      obtain ⟨rfl, en_21, ew_21⟩ := h_21
      rw [en_21, ew_21]
      first | rw [if_pos (show (1 : Int) = 1 from rfl)] | rw [if_neg (show ¬ ((0 : Int) = 1) by decide)]
      have gM := hM.th (t2 := 0) (kn2 := kn)
      refine e_if_eq F 29 dX5_scale_24 (by decide) (by decide) (fun c_24 => ?_) (fun c_24 => ?_)
      · have h_i : (0 ≤ i9 ∧ i9 < 6) ∧ (0 ≤ t9 ∧ t9 < 6) := by omega
        obtain ⟨kt9, rfl⟩ : ∃ k : Nat, t9 = (k : Int) := ⟨t9.toNat, by omega⟩
        have hkt9 : kt9 < 6 := by omega
        rw [show ((kt9 : Nat) : Int).toNat = kt9 from rfl]
        obtain ⟨ki9, rfl⟩ : ∃ k : Nat, i9 = (k : Int) := ⟨i9.toNat, by omega⟩
        have hki9 : ki9 < 6 := by omega
        rw [show ((ki9 : Nat) : Int).toNat = ki9 from rfl]
        refine e_dom ?_
        intro hdm
        obtain ⟨gY, _, ⟨G, gG, gGe⟩, ⟨SS, PP, gS, gP, gMD⟩, gRV⟩ := id gM
        have hGi := gGe ki9 hki9
        have hRi := gRV ki9 hki9
        have hbm := emod_rg b9 hwh
        have hyn := hdm _ _ gY
        have hgn := hdm _ _ gG
        have hsn := hdm _ _ gS
        have hpn := hdm _ _ gP
        refine e_aload_n F dX5_scale_29 rfl ?_
        refine e_iload_n F dX5_scale_30 rfl ?_
        refine e_callVV F u_X5_isEmpty (by rfl) (c_X5_isEmpty gM (i := ki9) hki9) gY rfl rfl w_ml_RX5_113 dX5_scale_31 (by rfl) (Nat.le_of_ble_eq_true rfl) (by decide) (by omega) (fun _ _ _ h _ => False.elim h) (fun r_31 w_31 n_31 h_31 hn_31 => ?_)
        obtain ⟨rfl, ew_31, en_31⟩ := h_31
        rw [ew_31, en_31]
        refine e_if_eq F 40 dX5_scale_34 (by decide) (b01_r _) (fun c_34 => ?_) (fun c_34 => ?_)
        ·
          rw [b01_0] at c_34
          have hne := c_34
          obtain ⟨a, f, hSa, hya, hwa, hfr, hfA⟩ := MD.row (gMD ki9 hki9) hne
          have hdd := MD.dg (gMD ki9 hki9)
          have han := hdm _ _ hwa
          rcases MD.pw (gMD ki9 hki9) with ⟨hp0, hPn⟩ | ⟨hp1, ⟨b, g, hPb, hyb, hwb, hgr, hgE⟩, hd0⟩
          ·
            have l1 : ∀ (N : Nat) (c : Nat) (wl : e_W) (f1 : Int → Int) (nl : Nat), 9 - c < N → (1 ≤ c ∧ (c : Int) ≤ ho wh + 1 ∧ wl n = some (e_ia ((ho wh).toNat + 1) f1) ∧ (∀ j : Int, 0 ≤ j → j < ((((ho wh).toNat + 1) : Nat) : Int) → -1 ≤ f1 j ∧ f1 j < pr wh) ∧ (∀ j : Int, 1 ≤ j → j < ((((ho wh).toNat + 1) : Nat) : Int) → f1 j = if j < (c : Int) then (scR wh (R ki9) (b9 % pr wh)).A j else (R ki9).A j) ∧ (∀ q, q ≠ n → q ≠ n + 1 → wl q = (e_up w y (MO y 0 wh kn)) q) ∧ n ≤ nl) → e_V K P9 l E9 (4) (2) S9 M9 A9 B9 T9 C9 7 (fun r w' n' => FM w w' y n ∧ ((¬ ((0 ≤ ((ki9 : Nat) : Int) ∧ ((ki9 : Nat) : Int) < 6) ∧ (0 ≤ ((kt9 : Nat) : Int) ∧ ((kt9 : Nat) : Int) < 6)) ∧ r = some (.int (eI 0)) ∧ MW w' y wh kn 1 R) ∨ (((0 ≤ ((ki9 : Nat) : Int) ∧ ((ki9 : Nat) : Int) < 6) ∧ (0 ≤ ((kt9 : Nat) : Int) ∧ ((kt9 : Nat) : Int) < 6)) ∧ r = some (.int (eI ((if (R ki9).dg = -1 then (-9, R) else (bc (st7 (scR wh (R ki9) (b9 % pr wh)).A), updR R kt9 (scR wh (R ki9) (b9 % pr wh)))).1))) ∧ MW w' y wh (kn) 0 ((if (R ki9).dg = -1 then (-9, R) else (bc (st7 (scR wh (R ki9) (b9 % pr wh)).A), updR R kt9 (scR wh (R ki9) (b9 % pr wh)))).2)))) (e_px0) 84 [(0, .ref y), (1, .int (eI ((ki9 : Nat) : Int))), (2, .int (eI b9)), (3, .int (eI ((kt9 : Nat) : Int))), (4, .ref n), (5, .null), (6, .int (eI (c : Int)))] [] wl nl (1) := by
              intro N
              induction N with
              | zero => intro c wl f1 nl hN; exact absurd hN (Nat.not_lt_zero _)
              | succ N ih =>
                intro c wl f1 nl hN ⟨hc1, hc, gn0, gr1, ge1, gf, gnl⟩
                have e9 : (scR wh (R ki9) (b9 % pr wh)).dg = (R ki9).dg := rfl
                have gY2 : wl y = some (MO y 0 wh kn) := (gf y (by omega) (by omega)).trans gY
                have gG2 : wl (y + 1) = some (e_ia 6 G) := (gf _ (by omega) (by omega)).trans gG
                have gP2 : wl (y + 3) = some (e_ra 6 PP) := (gf _ (by omega) (by omega)).trans gP
                have gM2 : MW wl y wh kn 0 R := gM.to (fun q e q1 => by rw [gf q (by have := hdm q e q1; omega) (by have := hdm q e q1; omega)]; exact q1)
                refine e_iload F dX5_scale_84 rfl ?_
                refine e_aload F dX5_scale_86 rfl ?_
                refine e_alenI F gn0 dX5_scale_88 ?_
                refine e_icmp_ge F 130 dX5_scale_89 (by decide) (⟨by omega, by omega⟩) (⟨by omega, by omega⟩) (fun c_89 => ?_) (fun c_89 => ?_)
                ·
                  obtain rfl : c = (ho wh).toNat + 1 := by omega
                  refine e_iconst F dX5_scale_130 ?_
                  refine e_istore F dX5_scale_131 (by decide) ?_
                  refine e_aloadN F dX5_scale_133 rfl ?_
                  refine e_ifnullN F 175 dX5_scale_135 (by decide) ?_
                  refine e_aload_n F dX5_scale_175 rfl ?_
                  refine e_iload_n F dX5_scale_176 rfl ?_
                  refine e_aload_n F dX5_scale_177 rfl ?_
                  refine e_get (ci := 5) (fi := 3) (q := (RX5, TX5, 6)) F gY2 rfl (by decide) w_fl_RX5_13 (by rfl) dX5_scale_178 ?_
                  refine e_iload_n F dX5_scale_181 rfl ?_
                  refine e_iald F gG2 (by omega) (by omega) (by first | decide | omega) dX5_scale_182 ?_
                  rw [hGi]
                  refine e_aload F dX5_scale_183 rfl ?_
                  refine e_aloadN F dX5_scale_185 rfl ?_
                  refine e_callVV F u_X5_lay (by rfl) (c_X5_layRN gM2 hkt9 (r := (scR wh (R ki9) (b9 % pr wh))) (row_MD (by omega) (by omega) gn0 gr1 (fun j j0 j1 => by rw [ge1 j j0 j1, if_pos (by omega)]) (Or.inl ⟨hp0, rfl⟩)) (scR_RV hwh (gRV ki9 hki9) hne (b9 % pr wh))) gM2.1 rfl rfl w_ml_RX5_140 dX5_scale_187 (by rfl) (Nat.le_of_ble_eq_true rfl) (by decide) (by omega) (fun _ _ _ h _ => False.elim h) (fun r_187 w_187 n_187 h_187 hn_187 => ?_)
                  obtain ⟨rfl, en_187, gM3, gF3⟩ := h_187
                  refine e_iret F rfl (by omega) ?_ dX5_scale_190
                  rw [if_neg (show ¬ (R ki9).dg = -1 from hne)]
                  exact ⟨FM.tr (n1 := nl) (fun q q1 q2 => (gf q (by omega) (by omega)).trans (FM.th (n := n) q q1 q2)) gnl gF3, Or.inr ⟨h_i, rfl, gM3⟩⟩
                ·
                  have hA9 := gM.rgA hki9 (j := (c : Int)) (by omega) (by omega)
                  have hfc : f1 (c : Int) = (R ki9).A (c : Int) := by rw [ge1 _ (by omega) (by omega), if_neg (by omega)]
                  refine e_aload F dX5_scale_92 rfl ?_
                  refine e_iload F dX5_scale_94 rfl ?_
                  refine e_iald F gn0 (by omega) (by omega) (by first | decide | omega) dX5_scale_96 ?_
                  rw [hfc]
                  refine e_iconst F dX5_scale_97 ?_
                  refine e_icmp_eq F 124 dX5_scale_98 (by decide) (⟨by omega, by omega⟩) (⟨by omega, by omega⟩) (fun c_98 => ?_) (fun c_98 => ?_)
                  · refine e_iinc F dX5_scale_124 rfl (by decide) ?_
                    refine e_goto F 84 dX5_scale_127 (by decide) ?_
                    first
                    | (refine e_go (ih (c + 1) _ _ nl (by omega) ⟨by omega, by omega, e_up_s, fun j j0 j1 => ?_, fun j j0 j1 => ?_, fun q q1 q2 => by rw [e_up_n q1]; exact gf q q1 q2, gnl⟩) ?_
                       · unfold e_fu
                         split
                         · omega
                         · exact gr1 j j0 j1
                       · unfold e_fu
                         by_cases e8 : j = (c : Int)
                         · rw [if_pos e8, if_pos (by omega), e8]
                           show _ = if (R ki9).A (c : Int) = -1 then -1 else _
                           rw [if_neg c_98]
                         · rw [if_neg e8, ge1 j j0 j1]
                           by_cases e7 : j < (c : Int)
                           · rw [if_pos e7, if_pos (by omega)]
                           · rw [if_neg e7, if_neg (by omega)]
                       · exact (And.intro rfl (And.intro rfl (And.intro rfl (And.intro rfl (And.intro rfl (And.intro rfl (And.intro rfl (trivial)))))))))
                    | (refine e_go (ih (c + 1) wl f1 nl (by omega) ⟨by omega, by omega, gn0, gr1, fun j j0 j1 => ?_, gf, gnl⟩) ?_
                       · rw [ge1 j j0 j1]
                         by_cases e8 : j = (c : Int)
                         · rw [if_neg (by omega), if_pos (by omega), e8]
                           show _ = if (R ki9).A (c : Int) = -1 then -1 else _
                           rw [if_pos c_98]; exact c_98
                         · by_cases e7 : j < (c : Int)
                           · rw [if_pos e7, if_pos (by omega)]
                           · rw [if_neg e7, if_neg (by omega)]
                       · exact (And.intro rfl (And.intro rfl (And.intro rfl (And.intro rfl (And.intro rfl (And.intro rfl (And.intro rfl (trivial)))))))))
                  ·
                    have hmm := mul_rg (m := 1000003) (a := (R ki9).A (c : Int)) (b := b9 % pr wh) (by omega) (by omega) hbm.1 (by omega) (by omega)
                    have hmv := emod_rg ((R ki9).A (c : Int) * (b9 % pr wh)) hwh
                    refine e_aload F dX5_scale_101 rfl ?_
                    refine e_iload F dX5_scale_103 rfl ?_
                    refine e_aload_n F dX5_scale_105 rfl ?_
                    refine e_aload F dX5_scale_106 rfl ?_
                    refine e_iload F dX5_scale_108 rfl ?_
                    refine e_iald F gn0 (by omega) (by omega) (by first | decide | omega) dX5_scale_110 ?_
                    rw [hfc]
                    refine e_i2l F dX5_scale_111 (⟨by omega, by omega⟩) ?_
                    refine e_aload_n F dX5_scale_112 rfl ?_
                    refine e_iload_n F dX5_scale_113 rfl ?_
                    refine e_i2l F dX5_scale_114 (hb9) ?_
                    refine e_callVV F u_X5_mod (by rfl) (c_X5_mod gY2 hwh (v := b9) (by constructor <;> omega)) gY2 rfl rfl w_ml_RX5_55 dX5_scale_115 (by rfl) (Nat.le_of_ble_eq_true rfl) (by decide) (by omega) (fun _ _ _ h _ => False.elim h) (fun r_115 w_115 n_115 h_115 hn_115 => ?_)
                    obtain ⟨rfl, ew_115, en_115⟩ := h_115
                    rw [ew_115, en_115]
                    refine e_i2l F dX5_scale_118 (⟨by omega, by omega⟩) ?_
                    refine e_lmul F dX5_scale_119 ?_
                    refine e_callVV F u_X5_mod (by rfl) (c_X5_mod gY2 hwh hmm.2) gY2 rfl rfl w_ml_RX5_55 dX5_scale_120 (by rfl) (Nat.le_of_ble_eq_true rfl) (by decide) (by omega) (fun _ _ _ h _ => False.elim h) (fun r_120 w_120 n_120 h_120 hn_120 => ?_)
                    obtain ⟨rfl, ew_120, en_120⟩ := h_120
                    rw [ew_120, en_120]
                    refine e_iast F gn0 (by omega) (by omega) (by first | decide | omega) dX5_scale_123 ?_
                    refine e_iinc F dX5_scale_124 rfl (by decide) ?_
                    refine e_goto F 84 dX5_scale_127 (by decide) ?_
                    first
                    | (refine e_go (ih (c + 1) _ _ nl (by omega) ⟨by omega, by omega, e_up_s, fun j j0 j1 => ?_, fun j j0 j1 => ?_, fun q q1 q2 => by rw [e_up_n q1]; exact gf q q1 q2, gnl⟩) ?_
                       · unfold e_fu
                         split
                         · omega
                         · exact gr1 j j0 j1
                       · unfold e_fu
                         by_cases e8 : j = (c : Int)
                         · rw [if_pos e8, if_pos (by omega), e8]
                           show _ = if (R ki9).A (c : Int) = -1 then -1 else _
                           rw [if_neg c_98]
                         · rw [if_neg e8, ge1 j j0 j1]
                           by_cases e7 : j < (c : Int)
                           · rw [if_pos e7, if_pos (by omega)]
                           · rw [if_neg e7, if_neg (by omega)]
                       · exact (And.intro rfl (And.intro rfl (And.intro rfl (And.intro rfl (And.intro rfl (And.intro rfl (And.intro rfl (trivial)))))))))
                    | (refine e_go (ih (c + 1) wl f1 nl (by omega) ⟨by omega, by omega, gn0, gr1, fun j j0 j1 => ?_, gf, gnl⟩) ?_
                       · rw [ge1 j j0 j1]
                         by_cases e8 : j = (c : Int)
                         · rw [if_neg (by omega), if_pos (by omega), e8]
                           show _ = if (R ki9).A (c : Int) = -1 then -1 else _
                           rw [if_pos c_98]; exact c_98
                         · by_cases e7 : j < (c : Int)
                           · rw [if_pos e7, if_pos (by omega)]
                           · rw [if_neg e7, if_neg (by omega)]
                       · exact (And.intro rfl (And.intro rfl (And.intro rfl (And.intro rfl (And.intro rfl (And.intro rfl (And.intro rfl (trivial)))))))))
            refine e_aload_n F dX5_scale_40 rfl ?_
            refine e_get (ci := 5) (fi := 4) (q := (RX5, TX5, 6)) F gY rfl (by decide) w_fl_RX5_18 (by rfl) dX5_scale_41 ?_
            refine e_iload_n F dX5_scale_44 rfl ?_
            refine e_aaldr F gS (by omega) (by omega) (by decide) (hSa) dX5_scale_45 ?_
            refine e_cloneX F (i0 := 0) (ty := .int) (ai := 8) rfl hwa (by omega) (by omega) (e_nmI F) (fun _ _ => rfl) w_ml_RX5_144 w_sa__I_clone w_nat_clone_20 w_im_java_lang_Object_clone___Ljava_lang_Object_ w_sx__I__I_clone___Ljava_lang_Object_ w_ca__I_RJx8e188 dX5_scale_46 (Nat.le_of_ble_eq_true rfl) (by decide) ?_
            refine e_castA F (ai := 8) e_up_s (e_nmI F) w_cl_RX5_17 dX5_scale_49 ?_
            refine e_astore F dX5_scale_52 (by decide) ?_
            refine e_aload_n F dX5_scale_54 rfl ?_
            refine e_get (ci := 5) (fi := 5) (q := (RX5, TX5, 6)) F (show e_up _ n _ y = _ by rw [e_up_n (by omega)]; exact gY) rfl (by decide) w_fl_RX5_22 (by rfl) dX5_scale_55 ?_
            refine e_iload_n F dX5_scale_58 rfl ?_
            refine e_aaldn F (show e_up _ n _ (y + 3) = _ by rw [e_up_n (by omega)]; exact gP) (by omega) (by omega) (by decide) (hPn) dX5_scale_59 ?_
            refine e_ifnonnullN F dX5_scale_60 ?_
            refine e_null F dX5_scale_63 ?_
            refine e_goto F 79 dX5_scale_64 (by decide) ?_
            refine e_astoreN F dX5_scale_79 (by decide) ?_
            refine e_iconst F dX5_scale_81 ?_
            refine e_istore F dX5_scale_82 (by decide) ?_
            exact e_go (l1 10 1 _ f _ (by omega) ⟨by omega, by omega, e_up_s, hfr, fun j j0 j1 => by rw [if_neg (by omega)]; exact hfA j j0 j1, fun q q1 q2 => e_up_n q1, by omega⟩) (And.intro rfl (And.intro rfl (And.intro rfl (And.intro rfl (And.intro rfl (And.intro rfl (And.intro rfl (trivial))))))))
          ·
            have l2 : ∀ (N : Nat) (c : Nat) (wl : e_W) (f1 g1 : Int → Int) (nl : Nat), 8 - c < N → ((c : Int) ≤ (R ki9).dg + 1 ∧ n ≤ nl ∧ wl n = some (e_ia ((ho wh).toNat + 1) f1) ∧ (∀ j : Int, 0 ≤ j → j < ((((ho wh).toNat + 1) : Nat) : Int) → -1 ≤ f1 j ∧ f1 j < pr wh) ∧ (∀ j : Int, 1 ≤ j → j < ((((ho wh).toNat + 1) : Nat) : Int) → f1 j = (scR wh (R ki9) (b9 % pr wh)).A j) ∧ wl (n + 1) = some (e_ia ((R ki9).dg.toNat + 1) g1) ∧ (∀ j : Int, 0 ≤ j → j ≤ (R ki9).dg → g1 j = if j < (c : Int) then (scR wh (R ki9) (b9 % pr wh)).E j else (R ki9).E j) ∧ (∀ q, q ≠ n → q ≠ n + 1 → wl q = (e_up w y (MO y 0 wh kn)) q)) → e_V K P9 l E9 (4) (2) S9 M9 A9 B9 T9 C9 7 (fun r w' n' => FM w w' y n ∧ ((¬ ((0 ≤ ((ki9 : Nat) : Int) ∧ ((ki9 : Nat) : Int) < 6) ∧ (0 ≤ ((kt9 : Nat) : Int) ∧ ((kt9 : Nat) : Int) < 6)) ∧ r = some (.int (eI 0)) ∧ MW w' y wh kn 1 R) ∨ (((0 ≤ ((ki9 : Nat) : Int) ∧ ((ki9 : Nat) : Int) < 6) ∧ (0 ≤ ((kt9 : Nat) : Int) ∧ ((kt9 : Nat) : Int) < 6)) ∧ r = some (.int (eI ((if (R ki9).dg = -1 then (-9, R) else (bc (st7 (scR wh (R ki9) (b9 % pr wh)).A), updR R kt9 (scR wh (R ki9) (b9 % pr wh)))).1))) ∧ MW w' y wh (kn) 0 ((if (R ki9).dg = -1 then (-9, R) else (bc (st7 (scR wh (R ki9) (b9 % pr wh)).A), updR R kt9 (scR wh (R ki9) (b9 % pr wh)))).2)))) (e_px0) 133 [(0, .ref y), (1, .int (eI ((ki9 : Nat) : Int))), (2, .int (eI b9)), (3, .int (eI ((kt9 : Nat) : Int))), (4, .ref n), (5, .ref (n + 1)), (6, .int (eI (c : Int)))] [] wl nl (2) := by
              intro N
              induction N with
              | zero => intro c wl f1 g1 nl hN; exact absurd hN (Nat.not_lt_zero _)
              | succ N ih =>
                intro c wl f1 g1 nl hN ⟨hc, gn, gn0, gr1, ge1, gs1, ges, gf⟩
                have e9 : (scR wh (R ki9) (b9 % pr wh)).dg = (R ki9).dg := rfl
                have gY2 : wl y = some (MO y 0 wh kn) := (gf y (by omega) (by omega)).trans gY
                have gG2 : wl (y + 1) = some (e_ia 6 G) := (gf _ (by omega) (by omega)).trans gG
                have gP2 : wl (y + 3) = some (e_ra 6 PP) := (gf _ (by omega) (by omega)).trans gP
                have gM2 : MW wl y wh kn 0 R := gM.to (fun q e q1 => by rw [gf q (by have := hdm q e q1; omega) (by have := hdm q e q1; omega)]; exact q1)
                have hEr := hRi.2.1 hp1
                refine e_aload F dX5_scale_133 rfl ?_
                refine e_ifnull F dX5_scale_135 ?_
                refine e_iload F dX5_scale_138 rfl ?_
                refine e_aload F dX5_scale_140 rfl ?_
                refine e_alenI F gs1 dX5_scale_142 ?_
                refine e_icmp_ge F 175 dX5_scale_143 (by decide) (⟨by omega, by omega⟩) (⟨by omega, by omega⟩) (fun c_143 => ?_) (fun c_143 => ?_)
                · refine e_aload_n F dX5_scale_175 rfl ?_
                  refine e_iload_n F dX5_scale_176 rfl ?_
                  refine e_aload_n F dX5_scale_177 rfl ?_
                  refine e_get (ci := 5) (fi := 3) (q := (RX5, TX5, 6)) F gY2 rfl (by decide) w_fl_RX5_13 (by rfl) dX5_scale_178 ?_
                  refine e_iload_n F dX5_scale_181 rfl ?_
                  refine e_iald F gG2 (by omega) (by omega) (by first | decide | omega) dX5_scale_182 ?_
                  rw [hGi]
                  refine e_aload F dX5_scale_183 rfl ?_
                  refine e_aload F dX5_scale_185 rfl ?_
                  refine e_callVV F u_X5_lay (by rfl) (c_X5_layRR gM2 hkt9 (r := (scR wh (R ki9) (b9 % pr wh))) (row_MD (by omega) (by omega) gn0 gr1 ge1 (Or.inr ⟨hp1, n + 1, g1, rfl, by omega, gs1, fun j j0 j1 => by rw [ges j j0 (by have e9 : (scR wh (R ki9) (b9 % pr wh)).dg = (R ki9).dg := rfl; omega), if_pos (by have e9 : (scR wh (R ki9) (b9 % pr wh)).dg = (R ki9).dg := rfl; omega)]; have := emod_rg ((R ki9).E j * (b9 % pr wh)) hwh; show -1 ≤ (R ki9).E j * (b9 % pr wh) % pr wh ∧ (R ki9).E j * (b9 % pr wh) % pr wh < pr wh; omega, fun j j0 j1 => by rw [ges j j0 (by have e9 : (scR wh (R ki9) (b9 % pr wh)).dg = (R ki9).dg := rfl; omega), if_pos (by have e9 : (scR wh (R ki9) (b9 % pr wh)).dg = (R ki9).dg := rfl; omega)]⟩)) (scR_RV hwh (gRV ki9 hki9) hne (b9 % pr wh))) gM2.1 rfl rfl w_ml_RX5_140 dX5_scale_187 (by rfl) (Nat.le_of_ble_eq_true rfl) (by decide) (by omega) (fun _ _ _ h _ => False.elim h) (fun r_187 w_187 n_187 h_187 hn_187 => ?_)
                  obtain ⟨rfl, en_187, gM3, gF3⟩ := h_187
                  refine e_iret F rfl (by omega) ?_ dX5_scale_190
                  rw [if_neg (show ¬ (R ki9).dg = -1 from hne)]
                  exact ⟨FM.tr (n1 := nl) (fun q q1 q2 => (gf q (by omega) (by omega)).trans (FM.th (n := n) q q1 q2)) gn gF3, Or.inr ⟨h_i, rfl, gM3⟩⟩
                ·
                  have hE9 := hEr (c : Int) (by omega) (by omega)
                  have hgc : g1 (c : Int) = (R ki9).E (c : Int) := by rw [ges _ (by omega) (by omega), if_neg (by omega)]
                  have hmm := mul_rg (m := 1000003) hE9.1 (by omega) hbm.1 (by omega) (by omega)
                  refine e_aload F dX5_scale_146 rfl ?_
                  refine e_iload F dX5_scale_148 rfl ?_
                  refine e_aload_n F dX5_scale_150 rfl ?_
                  refine e_aload F dX5_scale_151 rfl ?_
                  refine e_iload F dX5_scale_153 rfl ?_
                  refine e_iald F gs1 (by omega) (by omega) (by first | decide | omega) dX5_scale_155 ?_
                  rw [hgc]
                  refine e_i2l F dX5_scale_156 (⟨by omega, by omega⟩) ?_
                  refine e_aload_n F dX5_scale_157 rfl ?_
                  refine e_iload_n F dX5_scale_158 rfl ?_
                  refine e_i2l F dX5_scale_159 (hb9) ?_
                  refine e_callVV F u_X5_mod (by rfl) (c_X5_mod gY2 hwh (v := b9) (by constructor <;> omega)) gY2 rfl rfl w_ml_RX5_55 dX5_scale_160 (by rfl) (Nat.le_of_ble_eq_true rfl) (by decide) (by omega) (fun _ _ _ h _ => False.elim h) (fun r_160 w_160 n_160 h_160 hn_160 => ?_)
                  obtain ⟨rfl, ew_160, en_160⟩ := h_160
                  rw [ew_160, en_160]
                  refine e_i2l F dX5_scale_163 (⟨by omega, by omega⟩) ?_
                  refine e_lmul F dX5_scale_164 ?_
                  refine e_callVV F u_X5_mod (by rfl) (c_X5_mod gY2 hwh hmm.2) gY2 rfl rfl w_ml_RX5_55 dX5_scale_165 (by rfl) (Nat.le_of_ble_eq_true rfl) (by decide) (by omega) (fun _ _ _ h _ => False.elim h) (fun r_165 w_165 n_165 h_165 hn_165 => ?_)
                  obtain ⟨rfl, ew_165, en_165⟩ := h_165
                  rw [ew_165, en_165]
                  refine e_iast F gs1 (by omega) (by omega) (by first | decide | omega) dX5_scale_168 ?_
                  refine e_iinc F dX5_scale_169 rfl (by decide) ?_
                  refine e_goto F 133 dX5_scale_172 (by decide) ?_
                  refine e_go (ih (c + 1) _ f1 _ nl (by omega) ⟨by omega, gn, by rw [e_up_n (by omega)]; exact gn0, gr1, ge1, e_up_s, fun j j0 j1 => ?_, fun q q1 q2 => by rw [e_up_n q2]; exact gf q q1 q2⟩) ?_
                  · unfold e_fu
                    by_cases e8 : j = (c : Int)
                    · rw [if_pos e8, if_pos (by omega), e8]; rfl
                    · rw [if_neg e8, ges j j0 j1]
                      by_cases e7 : j < (c : Int)
                      · rw [if_pos e7, if_pos (by omega)]
                      · rw [if_neg e7, if_neg (by omega)]
                  · exact (And.intro rfl (And.intro rfl (And.intro rfl (And.intro rfl (And.intro rfl (And.intro rfl (And.intro rfl (trivial))))))))
            have l1 : ∀ (N : Nat) (c : Nat) (wl : e_W) (f1 : Int → Int) (nl : Nat), 9 - c < N → (1 ≤ c ∧ (c : Int) ≤ ho wh + 1 ∧ wl n = some (e_ia ((ho wh).toNat + 1) f1) ∧ (∀ j : Int, 0 ≤ j → j < ((((ho wh).toNat + 1) : Nat) : Int) → -1 ≤ f1 j ∧ f1 j < pr wh) ∧ (∀ j : Int, 1 ≤ j → j < ((((ho wh).toNat + 1) : Nat) : Int) → f1 j = if j < (c : Int) then (scR wh (R ki9) (b9 % pr wh)).A j else (R ki9).A j) ∧ wl (n + 1) = some (e_ia ((R ki9).dg.toNat + 1) g) ∧ (∀ q, q ≠ n → q ≠ n + 1 → wl q = (e_up w y (MO y 0 wh kn)) q) ∧ n ≤ nl) → e_V K P9 l E9 (4) (2) S9 M9 A9 B9 T9 C9 7 (fun r w' n' => FM w w' y n ∧ ((¬ ((0 ≤ ((ki9 : Nat) : Int) ∧ ((ki9 : Nat) : Int) < 6) ∧ (0 ≤ ((kt9 : Nat) : Int) ∧ ((kt9 : Nat) : Int) < 6)) ∧ r = some (.int (eI 0)) ∧ MW w' y wh kn 1 R) ∨ (((0 ≤ ((ki9 : Nat) : Int) ∧ ((ki9 : Nat) : Int) < 6) ∧ (0 ≤ ((kt9 : Nat) : Int) ∧ ((kt9 : Nat) : Int) < 6)) ∧ r = some (.int (eI ((if (R ki9).dg = -1 then (-9, R) else (bc (st7 (scR wh (R ki9) (b9 % pr wh)).A), updR R kt9 (scR wh (R ki9) (b9 % pr wh)))).1))) ∧ MW w' y wh (kn) 0 ((if (R ki9).dg = -1 then (-9, R) else (bc (st7 (scR wh (R ki9) (b9 % pr wh)).A), updR R kt9 (scR wh (R ki9) (b9 % pr wh)))).2)))) (e_px0) 84 [(0, .ref y), (1, .int (eI ((ki9 : Nat) : Int))), (2, .int (eI b9)), (3, .int (eI ((kt9 : Nat) : Int))), (4, .ref n), (5, .ref (n + 1)), (6, .int (eI (c : Int)))] [] wl nl (2) := by
              intro N
              induction N with
              | zero => intro c wl f1 nl hN; exact absurd hN (Nat.not_lt_zero _)
              | succ N ih =>
                intro c wl f1 nl hN ⟨hc1, hc, gn0, gr1, ge1, gs1, gf, gnl⟩
                have e9 : (scR wh (R ki9) (b9 % pr wh)).dg = (R ki9).dg := rfl
                have gY2 : wl y = some (MO y 0 wh kn) := (gf y (by omega) (by omega)).trans gY
                have gG2 : wl (y + 1) = some (e_ia 6 G) := (gf _ (by omega) (by omega)).trans gG
                have gP2 : wl (y + 3) = some (e_ra 6 PP) := (gf _ (by omega) (by omega)).trans gP
                have gM2 : MW wl y wh kn 0 R := gM.to (fun q e q1 => by rw [gf q (by have := hdm q e q1; omega) (by have := hdm q e q1; omega)]; exact q1)
                refine e_iload F dX5_scale_84 rfl ?_
                refine e_aload F dX5_scale_86 rfl ?_
                refine e_alenI F gn0 dX5_scale_88 ?_
                refine e_icmp_ge F 130 dX5_scale_89 (by decide) (⟨by omega, by omega⟩) (⟨by omega, by omega⟩) (fun c_89 => ?_) (fun c_89 => ?_)
                ·
                  obtain rfl : c = (ho wh).toNat + 1 := by omega
                  refine e_iconst F dX5_scale_130 ?_
                  refine e_istore F dX5_scale_131 (by decide) ?_
                  exact e_go (l2 9 0 wl f1 g nl (by omega) ⟨by omega, gnl, gn0, gr1, (fun j j0 j1 => by rw [ge1 j j0 j1, if_pos (by omega)]), gs1, fun j j0 j1 => by rw [if_neg (by omega)]; exact hgE j j0 (by omega), gf⟩) (And.intro rfl (And.intro rfl (And.intro rfl (And.intro rfl (And.intro rfl (And.intro rfl (And.intro rfl (trivial))))))))
                ·
                  have hA9 := gM.rgA hki9 (j := (c : Int)) (by omega) (by omega)
                  have hfc : f1 (c : Int) = (R ki9).A (c : Int) := by rw [ge1 _ (by omega) (by omega), if_neg (by omega)]
                  refine e_aload F dX5_scale_92 rfl ?_
                  refine e_iload F dX5_scale_94 rfl ?_
                  refine e_iald F gn0 (by omega) (by omega) (by first | decide | omega) dX5_scale_96 ?_
                  rw [hfc]
                  refine e_iconst F dX5_scale_97 ?_
                  refine e_icmp_eq F 124 dX5_scale_98 (by decide) (⟨by omega, by omega⟩) (⟨by omega, by omega⟩) (fun c_98 => ?_) (fun c_98 => ?_)
                  · refine e_iinc F dX5_scale_124 rfl (by decide) ?_
                    refine e_goto F 84 dX5_scale_127 (by decide) ?_
                    first
                    | (refine e_go (ih (c + 1) _ _ nl (by omega) ⟨by omega, by omega, e_up_s, fun j j0 j1 => ?_, fun j j0 j1 => ?_, by rw [e_up_n (by omega)]; exact gs1, fun q q1 q2 => by rw [e_up_n q1]; exact gf q q1 q2, gnl⟩) ?_
                       · unfold e_fu
                         split
                         · omega
                         · exact gr1 j j0 j1
                       · unfold e_fu
                         by_cases e8 : j = (c : Int)
                         · rw [if_pos e8, if_pos (by omega), e8]
                           show _ = if (R ki9).A (c : Int) = -1 then -1 else _
                           rw [if_neg c_98]
                         · rw [if_neg e8, ge1 j j0 j1]
                           by_cases e7 : j < (c : Int)
                           · rw [if_pos e7, if_pos (by omega)]
                           · rw [if_neg e7, if_neg (by omega)]
                       · exact (And.intro rfl (And.intro rfl (And.intro rfl (And.intro rfl (And.intro rfl (And.intro rfl (And.intro rfl (trivial)))))))))
                    | (refine e_go (ih (c + 1) wl f1 nl (by omega) ⟨by omega, by omega, gn0, gr1, fun j j0 j1 => ?_, gs1, gf, gnl⟩) ?_
                       · rw [ge1 j j0 j1]
                         by_cases e8 : j = (c : Int)
                         · rw [if_neg (by omega), if_pos (by omega), e8]
                           show _ = if (R ki9).A (c : Int) = -1 then -1 else _
                           rw [if_pos c_98]; exact c_98
                         · by_cases e7 : j < (c : Int)
                           · rw [if_pos e7, if_pos (by omega)]
                           · rw [if_neg e7, if_neg (by omega)]
                       · exact (And.intro rfl (And.intro rfl (And.intro rfl (And.intro rfl (And.intro rfl (And.intro rfl (And.intro rfl (trivial)))))))))
                  ·
                    have hmm := mul_rg (m := 1000003) (a := (R ki9).A (c : Int)) (b := b9 % pr wh) (by omega) (by omega) hbm.1 (by omega) (by omega)
                    have hmv := emod_rg ((R ki9).A (c : Int) * (b9 % pr wh)) hwh
                    refine e_aload F dX5_scale_101 rfl ?_
                    refine e_iload F dX5_scale_103 rfl ?_
                    refine e_aload_n F dX5_scale_105 rfl ?_
                    refine e_aload F dX5_scale_106 rfl ?_
                    refine e_iload F dX5_scale_108 rfl ?_
                    refine e_iald F gn0 (by omega) (by omega) (by first | decide | omega) dX5_scale_110 ?_
                    rw [hfc]
                    refine e_i2l F dX5_scale_111 (⟨by omega, by omega⟩) ?_
                    refine e_aload_n F dX5_scale_112 rfl ?_
                    refine e_iload_n F dX5_scale_113 rfl ?_
                    refine e_i2l F dX5_scale_114 (hb9) ?_
                    refine e_callVV F u_X5_mod (by rfl) (c_X5_mod gY2 hwh (v := b9) (by constructor <;> omega)) gY2 rfl rfl w_ml_RX5_55 dX5_scale_115 (by rfl) (Nat.le_of_ble_eq_true rfl) (by decide) (by omega) (fun _ _ _ h _ => False.elim h) (fun r_115 w_115 n_115 h_115 hn_115 => ?_)
                    obtain ⟨rfl, ew_115, en_115⟩ := h_115
                    rw [ew_115, en_115]
                    refine e_i2l F dX5_scale_118 (⟨by omega, by omega⟩) ?_
                    refine e_lmul F dX5_scale_119 ?_
                    refine e_callVV F u_X5_mod (by rfl) (c_X5_mod gY2 hwh hmm.2) gY2 rfl rfl w_ml_RX5_55 dX5_scale_120 (by rfl) (Nat.le_of_ble_eq_true rfl) (by decide) (by omega) (fun _ _ _ h _ => False.elim h) (fun r_120 w_120 n_120 h_120 hn_120 => ?_)
                    obtain ⟨rfl, ew_120, en_120⟩ := h_120
                    rw [ew_120, en_120]
                    refine e_iast F gn0 (by omega) (by omega) (by first | decide | omega) dX5_scale_123 ?_
                    refine e_iinc F dX5_scale_124 rfl (by decide) ?_
                    refine e_goto F 84 dX5_scale_127 (by decide) ?_
                    first
                    | (refine e_go (ih (c + 1) _ _ nl (by omega) ⟨by omega, by omega, e_up_s, fun j j0 j1 => ?_, fun j j0 j1 => ?_, by rw [e_up_n (by omega)]; exact gs1, fun q q1 q2 => by rw [e_up_n q1]; exact gf q q1 q2, gnl⟩) ?_
                       · unfold e_fu
                         split
                         · omega
                         · exact gr1 j j0 j1
                       · unfold e_fu
                         by_cases e8 : j = (c : Int)
                         · rw [if_pos e8, if_pos (by omega), e8]
                           show _ = if (R ki9).A (c : Int) = -1 then -1 else _
                           rw [if_neg c_98]
                         · rw [if_neg e8, ge1 j j0 j1]
                           by_cases e7 : j < (c : Int)
                           · rw [if_pos e7, if_pos (by omega)]
                           · rw [if_neg e7, if_neg (by omega)]
                       · exact (And.intro rfl (And.intro rfl (And.intro rfl (And.intro rfl (And.intro rfl (And.intro rfl (And.intro rfl (trivial)))))))))
                    | (refine e_go (ih (c + 1) wl f1 nl (by omega) ⟨by omega, by omega, gn0, gr1, fun j j0 j1 => ?_, gs1, gf, gnl⟩) ?_
                       · rw [ge1 j j0 j1]
                         by_cases e8 : j = (c : Int)
                         · rw [if_neg (by omega), if_pos (by omega), e8]
                           show _ = if (R ki9).A (c : Int) = -1 then -1 else _
                           rw [if_pos c_98]; exact c_98
                         · by_cases e7 : j < (c : Int)
                           · rw [if_pos e7, if_pos (by omega)]
                           · rw [if_neg e7, if_neg (by omega)]
                       · exact (And.intro rfl (And.intro rfl (And.intro rfl (And.intro rfl (And.intro rfl (And.intro rfl (And.intro rfl (trivial)))))))))
            refine e_aload_n F dX5_scale_40 rfl ?_
            refine e_get (ci := 5) (fi := 4) (q := (RX5, TX5, 6)) F gY rfl (by decide) w_fl_RX5_18 (by rfl) dX5_scale_41 ?_
            refine e_iload_n F dX5_scale_44 rfl ?_
            refine e_aaldr F gS (by omega) (by omega) (by decide) (hSa) dX5_scale_45 ?_
            refine e_cloneX F (i0 := 0) (ty := .int) (ai := 8) rfl hwa (by omega) (by omega) (e_nmI F) (fun _ _ => rfl) w_ml_RX5_144 w_sa__I_clone w_nat_clone_20 w_im_java_lang_Object_clone___Ljava_lang_Object_ w_sx__I__I_clone___Ljava_lang_Object_ w_ca__I_RJx8e188 dX5_scale_46 (Nat.le_of_ble_eq_true rfl) (by decide) ?_
            refine e_castA F (ai := 8) e_up_s (e_nmI F) w_cl_RX5_17 dX5_scale_49 ?_
            refine e_astore F dX5_scale_52 (by decide) ?_
            refine e_aload_n F dX5_scale_54 rfl ?_
            refine e_get (ci := 5) (fi := 5) (q := (RX5, TX5, 6)) F (show e_up _ n _ y = _ by rw [e_up_n (by omega)]; exact gY) rfl (by decide) w_fl_RX5_22 (by rfl) dX5_scale_55 ?_
            refine e_iload_n F dX5_scale_58 rfl ?_
            refine e_aaldr F (show e_up _ n _ (y + 3) = _ by rw [e_up_n (by omega)]; exact gP) (by omega) (by omega) (by decide) (hPb) dX5_scale_59 ?_
            refine e_ifnonnull F 67 dX5_scale_60 (by decide) ?_
            refine e_aload_n F dX5_scale_67 rfl ?_
            refine e_get (ci := 5) (fi := 5) (q := (RX5, TX5, 6)) F (show e_up _ n _ y = _ by rw [e_up_n (by omega)]; exact gY) rfl (by decide) w_fl_RX5_22 (by rfl) dX5_scale_68 ?_
            refine e_iload_n F dX5_scale_71 rfl ?_
            refine e_aaldr F (show e_up _ n _ (y + 3) = _ by rw [e_up_n (by omega)]; exact gP) (by omega) (by omega) (by decide) (hPb) dX5_scale_72 ?_
            refine e_cloneX F (i0 := 0) (ty := .int) (ai := 8) rfl (show e_up _ n _ b = _ by rw [e_up_n (by have := hdm _ _ hwb; omega)]; exact hwb) (by omega) (by omega) (e_nmI F) (fun _ _ => rfl) w_ml_RX5_144 w_sa__I_clone w_nat_clone_20 w_im_java_lang_Object_clone___Ljava_lang_Object_ w_sx__I__I_clone___Ljava_lang_Object_ w_ca__I_RJx8e188 dX5_scale_73 (Nat.le_of_ble_eq_true rfl) (by decide) ?_
            refine e_castA F (ai := 8) e_up_s (e_nmI F) w_cl_RX5_17 dX5_scale_76 ?_
            refine e_astore F dX5_scale_79 (by decide) ?_
            refine e_iconst F dX5_scale_81 ?_
            refine e_istore F dX5_scale_82 (by decide) ?_
            exact e_go (l1 10 1 _ f _ (by omega) ⟨by omega, by omega, by rw [e_up_n (by omega)]; exact e_up_s, hfr, fun j j0 j1 => by rw [if_neg (by omega)]; exact hfA j j0 j1, e_up_s, fun q q1 q2 => by rw [e_up_n q2, e_up_n q1], by omega⟩) (And.intro rfl (And.intro rfl (And.intro rfl (And.intro rfl (And.intro rfl (And.intro rfl (And.intro rfl (trivial))))))))
        ·
          rw [b01_0, Classical.not_not] at c_34
          refine e_bipush F dX5_scale_37 (by decide) ?_
          refine e_iret F rfl (by omega) ?_ dX5_scale_39
          rw [if_pos (show (R ki9).dg = -1 from c_34)]
          exact ⟨FM.th, Or.inr ⟨h_i, rfl, gM⟩⟩
      · exact absurd c_24 (by decide)
    ·
      rw [b01_0, Classical.not_not] at c_12
      refine e_iconst F dX5_scale_15 ?_
      refine e_goto F 20 dX5_scale_16 (by decide) ?_
      refine e_iconst F dX5_scale_20 ?_
      refine e_callVV F u_X5_start (by rfl) (c_X5_start hY (by first | exact Or.inl rfl | exact Or.inr rfl) (by decide) (by decide)) hY rfl rfl w_ml_RX5_69 dX5_scale_21 (by rfl) (Nat.le_of_ble_eq_true rfl) (by decide) (by omega) (fun _ _ _ h _ => False.elim h) (fun r_21 w_21 n_21 h_21 hn_21 => ?_)
      obtain ⟨rfl, en_21, ew_21⟩ := h_21
      rw [en_21, ew_21]
      first | rw [if_pos (show (1 : Int) = 1 from rfl)] | rw [if_neg (show ¬ ((0 : Int) = 1) by decide)]
      have gM := hM.th (t2 := 0) (kn2 := kn)
      refine e_if_eq F 29 dX5_scale_24 (by decide) (by decide) (fun c_24 => ?_) (fun c_24 => ?_)
      · exact absurd c_24 (by decide)
      · refine e_iconst F dX5_scale_27 ?_
        refine e_iret F rfl (by omega) ?_ dX5_scale_28
        exact ⟨FM.th, Or.inl ⟨(fun q => by omega), rfl, hM.th⟩⟩
set_option maxHeartbeats 4000000 in
set_option maxRecDepth 100000 in
theorem c_X5_times {K : e_K} {l : Launch} {w : e_W} {n : Nat} {y wh : Nat} {t kn : Int} {R : Nat → RD} (hM : MW w y wh kn t R) {i9 : Int} (hi9 : e_r i9) {j9 : Int} (hj9 : e_r j9) {t9 : Int} (ht9 : e_r t9) : e_Met K l yX5_times (Cond.code yX5_times cX5_times 6 (Option.some .int) :: e_TB) (4) (1) [.ref y, .int (eI i9), .int (eI j9), .int (eI t9)] w n (fun r w' n' => FM w w' y n ∧ ((¬ ((0 ≤ i9 ∧ i9 < 6) ∧ (0 ≤ j9 ∧ j9 < 6) ∧ (0 ≤ t9 ∧ t9 < 6)) ∧ r = some (.int (eI 0)) ∧ MW w' y wh kn 1 R) ∨ (((0 ≤ i9 ∧ i9 < 6) ∧ (0 ≤ j9 ∧ j9 < 6) ∧ (0 ≤ t9 ∧ t9 < 6)) ∧ r = some (.int (eI ((if (R i9.toNat).dg = -1 ∨ (R j9.toNat).dg = -1 ∨ 6 < (R i9.toNat).dg + (R j9.toNat).dg then (-9, R) else (bc (st7 (tiR wh (R i9.toNat) (R j9.toNat)).A), updR R t9.toNat (tiR wh (R i9.toNat) (R j9.toNat)))).1))) ∧ MW w' y wh (kn) 0 ((if (R i9.toNat).dg = -1 ∨ (R j9.toNat).dg = -1 ∨ 6 < (R i9.toNat).dg + (R j9.toNat).dg then (-9, R) else (bc (st7 (tiR wh (R i9.toNat) (R j9.toNat)).A), updR R t9.toNat (tiR wh (R i9.toNat) (R j9.toNat)))).2)))) (e_px0) := by
  refine e_ofV rfl (Nat.le_of_ble_eq_true rfl) ?_
  intro P9 E9 S9 M9 A9 B9 T9 C9 F hnm
  have hwh := hM.2.1
  have hY := hM.1
  have hp := pr_rg wh hwh
  have hho := ho_rg wh hwh
  have hf9 := fl_rg wh hwh
  refine e_aload_n F dX5_times_0 rfl ?_
  refine e_aload_n F dX5_times_1 rfl ?_
  refine e_iload_n F dX5_times_2 rfl ?_
  refine e_iload_n F dX5_times_3 rfl ?_
  refine e_iload_n F dX5_times_4 rfl ?_
  refine e_callVV F u_X5_areNoDeals (by rfl) (c_X5_areNoDeals hi9 hj9 ht9) hY rfl rfl w_ml_RX5_154 dX5_times_5 (by rfl) (Nat.le_of_ble_eq_true rfl) (by decide) (by omega) (fun _ _ _ h _ => False.elim h) (fun r_5 w_5 n_5 h_5 hn_5 => ?_)
  obtain ⟨rfl, ew_5, en_5⟩ := h_5
  rw [ew_5, en_5]
  refine e_iconst F dX5_times_8 ?_
  refine e_callVV F u_X5_start (by rfl) (c_X5_start hY (b01_or _) (by decide) (by decide)) hY rfl rfl w_ml_RX5_69 dX5_times_9 (by rfl) (Nat.le_of_ble_eq_true rfl) (by decide) (by omega) (fun _ _ _ h _ => False.elim h) (fun r_9 w_9 n_9 h_9 hn_9 => ?_)
  obtain ⟨rfl, en_9, ew_9⟩ := h_9
  rw [en_9, ew_9, st1]
  refine e_if_eq F 17 dX5_times_12 (by decide) (b01_r _) (fun c_12 => ?_) (fun c_12 => ?_)
  ·
    rw [b01_0, Classical.not_not] at c_12
    rw [if_pos c_12]
    have gM := hM.th (t2 := 0) (kn2 := kn)
    have h_i := c_12
    obtain ⟨kt9, rfl⟩ : ∃ k : Nat, t9 = (k : Int) := ⟨t9.toNat, by omega⟩
    have hkt9 : kt9 < 6 := by omega
    rw [show ((kt9 : Nat) : Int).toNat = kt9 from rfl]
    obtain ⟨kj9, rfl⟩ : ∃ k : Nat, j9 = (k : Int) := ⟨j9.toNat, by omega⟩
    have hkj9 : kj9 < 6 := by omega
    rw [show ((kj9 : Nat) : Int).toNat = kj9 from rfl]
    obtain ⟨ki9, rfl⟩ : ∃ k : Nat, i9 = (k : Int) := ⟨i9.toNat, by omega⟩
    have hki9 : ki9 < 6 := by omega
    rw [show ((ki9 : Nat) : Int).toNat = ki9 from rfl]
    refine e_dom ?_
    intro hdm
    obtain ⟨gY, _, ⟨G, gG, gGe⟩, ⟨SS, PP, gS, gP, gMD⟩, gRV⟩ := id gM
    have hGi := gGe ki9 hki9
    have hGj := gGe kj9 hkj9
    have hdi := MD.dg (gMD ki9 hki9)
    have hdj := MD.dg (gMD kj9 hkj9)
    have hyn := hdm _ _ gY
    have hgn := hdm _ _ gG
    have hsn := hdm _ _ gS
    have hpn := hdm _ _ gP
    refine e_aload_n F dX5_times_17 rfl ?_
    refine e_iload_n F dX5_times_18 rfl ?_
    refine e_callVV F u_X5_isEmpty (by rfl) (c_X5_isEmpty gM (i := ki9) hki9) gY rfl rfl w_ml_RX5_113 dX5_times_19 (by rfl) (Nat.le_of_ble_eq_true rfl) (by decide) (by omega) (fun _ _ _ h _ => False.elim h) (fun r_19 w_19 n_19 h_19 hn_19 => ?_)
    obtain ⟨rfl, ew_19, en_19⟩ := h_19
    rw [ew_19, en_19]
    refine e_if_ne F 51 dX5_times_22 (by decide) (b01_r _) (fun c_22 => ?_) (fun c_22 => ?_)
    ·
      rw [ne_eq, b01_0, Classical.not_not] at c_22
      refine e_bipush F dX5_times_51 (by decide) ?_
      refine e_iret F rfl (by omega) ?_ dX5_times_53
      rw [if_pos (show (R ki9).dg = -1 ∨ (R kj9).dg = -1 ∨ 6 < (R ki9).dg + (R kj9).dg by omega)]
      exact ⟨FM.th, Or.inr ⟨h_i, rfl, gM⟩⟩
    ·
      rw [b01_0] at c_22
      refine e_aload_n F dX5_times_25 rfl ?_
      refine e_iload_n F dX5_times_26 rfl ?_
      refine e_callVV F u_X5_isEmpty (by rfl) (c_X5_isEmpty gM (i := kj9) hkj9) gY rfl rfl w_ml_RX5_113 dX5_times_27 (by rfl) (Nat.le_of_ble_eq_true rfl) (by decide) (by omega) (fun _ _ _ h _ => False.elim h) (fun r_27 w_27 n_27 h_27 hn_27 => ?_)
      obtain ⟨rfl, ew_27, en_27⟩ := h_27
      rw [ew_27, en_27]
      refine e_if_ne F 51 dX5_times_30 (by decide) (b01_r _) (fun c_30 => ?_) (fun c_30 => ?_)
      ·
        rw [ne_eq, b01_0, Classical.not_not] at c_30
        refine e_bipush F dX5_times_51 (by decide) ?_
        refine e_iret F rfl (by omega) ?_ dX5_times_53
        rw [if_pos (show (R ki9).dg = -1 ∨ (R kj9).dg = -1 ∨ 6 < (R ki9).dg + (R kj9).dg by omega)]
        exact ⟨FM.th, Or.inr ⟨h_i, rfl, gM⟩⟩
      ·
        rw [b01_0] at c_30
        have hne1 := c_22
        have hne2 := c_30
        obtain ⟨a, f, hSa, hya, hwa, hfr, hfA⟩ := MD.row (gMD ki9 hki9) hne1
        obtain ⟨b, g, hSb, hyb, hwb, hgr, hgA⟩ := MD.row (gMD kj9 hkj9) hne2
        have han := hdm _ _ hwa
        have hbn := hdm _ _ hwb
        refine e_aload_n F dX5_times_33 rfl ?_
        refine e_get (ci := 5) (fi := 3) (q := (RX5, TX5, 6)) F gY rfl (by decide) w_fl_RX5_13 (by rfl) dX5_times_34 ?_
        refine e_iload_n F dX5_times_37 rfl ?_
        refine e_iald F gG (by omega) (by omega) (by first | decide | omega) dX5_times_38 ?_
        rw [hGi]
        refine e_aload_n F dX5_times_39 rfl ?_
        refine e_get (ci := 5) (fi := 3) (q := (RX5, TX5, 6)) F gY rfl (by decide) w_fl_RX5_13 (by rfl) dX5_times_40 ?_
        refine e_iload_n F dX5_times_43 rfl ?_
        refine e_iald F gG (by omega) (by omega) (by first | decide | omega) dX5_times_44 ?_
        rw [hGj]
        refine e_iadd F dX5_times_45 ?_
        refine e_bipush F dX5_times_46 (by decide) ?_
        refine e_icmp_le F 54 dX5_times_48 (by decide) (⟨by omega, by omega⟩) (⟨by omega, by omega⟩) (fun c_48 => ?_) (fun c_48 => ?_)
        · refine e_aload_n F dX5_times_54 rfl ?_
          refine e_callVV F u_X5_holders (by rfl) (c_X5_holders gY hwh) gY rfl rfl w_ml_RX5_52 dX5_times_55 (by rfl) (Nat.le_of_ble_eq_true rfl) (by decide) (by omega) (fun _ _ _ h _ => False.elim h) (fun r_55 w_55 n_55 h_55 hn_55 => ?_)
          obtain ⟨rfl, ew_55, en_55⟩ := h_55
          rw [ew_55, en_55]
          refine e_iconst F dX5_times_58 ?_
          refine e_iadd F dX5_times_59 ?_
          refine e_newI F (N := ((ho wh).toNat + 1)) (by omega) (by omega) (by omega) w_ac_int dX5_times_60 ?_
          refine e_astore F dX5_times_62 (by decide) ?_
          refine e_iconst F dX5_times_64 ?_
          refine e_istore F dX5_times_65 (by decide) ?_
          have l1 : ∀ (N : Nat) (c : Nat) (wl : e_W) (f1 : Int → Int) (nl : Nat), 9 - c < N → ((c : Int) ≤ ho wh + 1 ∧ wl n = some (e_ia ((ho wh).toNat + 1) f1) ∧ (∀ j : Int, 0 ≤ j → j < ((((ho wh).toNat + 1) : Nat) : Int) → -1 ≤ f1 j ∧ f1 j < pr wh) ∧ (∀ j : Int, 1 ≤ j → j < (c : Int) → f1 j = (tiR wh (R ki9) (R kj9)).A j) ∧ (∀ q, q ≠ n → wl q = (e_up w y (MO y 0 wh kn)) q) ∧ n ≤ nl) → e_V K P9 l E9 (4) (1) S9 M9 A9 B9 T9 C9 6 (fun r w' n' => FM w w' y n ∧ ((¬ ((0 ≤ ((ki9 : Nat) : Int) ∧ ((ki9 : Nat) : Int) < 6) ∧ (0 ≤ ((kj9 : Nat) : Int) ∧ ((kj9 : Nat) : Int) < 6) ∧ (0 ≤ ((kt9 : Nat) : Int) ∧ ((kt9 : Nat) : Int) < 6)) ∧ r = some (.int (eI 0)) ∧ MW w' y wh kn 1 R) ∨ (((0 ≤ ((ki9 : Nat) : Int) ∧ ((ki9 : Nat) : Int) < 6) ∧ (0 ≤ ((kj9 : Nat) : Int) ∧ ((kj9 : Nat) : Int) < 6) ∧ (0 ≤ ((kt9 : Nat) : Int) ∧ ((kt9 : Nat) : Int) < 6)) ∧ r = some (.int (eI ((if (R ki9).dg = -1 ∨ (R kj9).dg = -1 ∨ 6 < (R ki9).dg + (R kj9).dg then (-9, R) else (bc (st7 (tiR wh (R ki9) (R kj9)).A), updR R kt9 (tiR wh (R ki9) (R kj9)))).1))) ∧ MW w' y wh (kn) 0 ((if (R ki9).dg = -1 ∨ (R kj9).dg = -1 ∨ 6 < (R ki9).dg + (R kj9).dg then (-9, R) else (bc (st7 (tiR wh (R ki9) (R kj9)).A), updR R kt9 (tiR wh (R ki9) (R kj9)))).2)))) (e_px0) 67 [(0, .ref y), (1, .int (eI ((ki9 : Nat) : Int))), (2, .int (eI ((kj9 : Nat) : Int))), (3, .int (eI ((kt9 : Nat) : Int))), (4, .ref n), (5, .int (eI (c : Int)))] [] wl nl (1) := by
            intro N
            induction N with
            | zero => intro c wl f1 nl hN; exact absurd hN (Nat.not_lt_zero _)
            | succ N ih =>
              intro c wl f1 nl hN ⟨hc, gn0, gr1, ge1, gf, gnl⟩
              have e9 : (tiR wh (R ki9) (R kj9)).dg = (R ki9).dg + (R kj9).dg := rfl
              have gY2 : wl y = some (MO y 0 wh kn) := (gf y (by omega)).trans gY
              have gG2 : wl (y + 1) = some (e_ia 6 G) := (gf _ (by omega)).trans gG
              have gS2 : wl (y + 2) = some (e_ra 6 SS) := (gf _ (by omega)).trans gS
              have ha2 : wl a = some (e_ia ((ho wh).toNat + 1) f) := (gf _ (by omega)).trans hwa
              have hb2 : wl b = some (e_ia ((ho wh).toNat + 1) g) := (gf _ (by omega)).trans hwb
              have gM2 : MW wl y wh kn 0 R := gM.to (fun q e q1 => by rw [gf q (by have := hdm q e q1; omega)]; exact q1)
              refine e_iload F dX5_times_67 rfl ?_
              refine e_aload F dX5_times_69 rfl ?_
              refine e_alenI F gn0 dX5_times_71 ?_
              refine e_icmp_ge F 141 dX5_times_72 (by decide) (⟨by omega, by omega⟩) (⟨by omega, by omega⟩) (fun c_72 => ?_) (fun c_72 => ?_)
              ·
                obtain rfl : c = (ho wh).toNat + 1 := by omega
                refine e_aload_n F dX5_times_141 rfl ?_
                refine e_iload_n F dX5_times_142 rfl ?_
                refine e_aload_n F dX5_times_143 rfl ?_
                refine e_get (ci := 5) (fi := 3) (q := (RX5, TX5, 6)) F gY2 rfl (by decide) w_fl_RX5_13 (by rfl) dX5_times_144 ?_
                refine e_iload_n F dX5_times_147 rfl ?_
                refine e_iald F gG2 (by omega) (by omega) (by first | decide | omega) dX5_times_148 ?_
                rw [hGi]
                refine e_aload_n F dX5_times_149 rfl ?_
                refine e_get (ci := 5) (fi := 3) (q := (RX5, TX5, 6)) F gY2 rfl (by decide) w_fl_RX5_13 (by rfl) dX5_times_150 ?_
                refine e_iload_n F dX5_times_153 rfl ?_
                refine e_iald F gG2 (by omega) (by omega) (by first | decide | omega) dX5_times_154 ?_
                rw [hGj]
                refine e_iadd F dX5_times_155 ?_
                refine e_aload F dX5_times_156 rfl ?_
                refine e_null F dX5_times_158 ?_
                refine e_callVV F u_X5_lay (by rfl) (c_X5_layRN gM2 hkt9 (r := (tiR wh (R ki9) (R kj9))) (row_MD (by omega) (by omega) gn0 gr1 (fun j j0 j1 => ge1 j j0 (by omega)) (Or.inl ⟨rfl, rfl⟩)) (tiR_RV hwh (gRV ki9 hki9) (by omega))) gM2.1 rfl rfl w_ml_RX5_140 dX5_times_159 (by rfl) (Nat.le_of_ble_eq_true rfl) (by decide) (by omega) (fun _ _ _ h _ => False.elim h) (fun r_159 w_159 n_159 h_159 hn_159 => ?_)
                obtain ⟨rfl, en_159, gM3, gF3⟩ := h_159
                refine e_iret F rfl (by omega) ?_ dX5_times_162
                rw [if_neg (show ¬ ((R ki9).dg = -1 ∨ (R kj9).dg = -1 ∨ 6 < (R ki9).dg + (R kj9).dg) by omega)]
                exact ⟨FM.tr (n1 := nl) (fun q q1 q2 => (gf q (by omega)).trans (FM.th (n := n) q q1 q2)) gnl gF3, Or.inr ⟨h_i, rfl, gM3⟩⟩
              ·
                have hfr9 := hfr (c : Int) (by omega) (by omega)
                have hgr9 := hgr (c : Int) (by omega) (by omega)
                have ea : 1 ≤ c → f (c : Int) = (R ki9).A (c : Int) := fun q => hfA _ (by omega) (by omega)
                have eb : 1 ≤ c → g (c : Int) = (R kj9).A (c : Int) := fun q => hgA _ (by omega) (by omega)
                refine e_aload F dX5_times_75 rfl ?_
                refine e_iload F dX5_times_77 rfl ?_
                refine e_aload_n F dX5_times_79 rfl ?_
                refine e_get (ci := 5) (fi := 4) (q := (RX5, TX5, 6)) F gY2 rfl (by decide) w_fl_RX5_18 (by rfl) dX5_times_80 ?_
                refine e_iload_n F dX5_times_83 rfl ?_
                refine e_aaldr F gS2 (by omega) (by omega) (by decide) (hSa) dX5_times_84 ?_
                refine e_iload F dX5_times_85 rfl ?_
                refine e_iald F ha2 (by omega) (by omega) (by first | decide | omega) dX5_times_87 ?_
                refine e_iconst F dX5_times_88 ?_
                refine e_icmp_eq F 105 dX5_times_89 (by decide) (⟨by omega, by omega⟩) (⟨by omega, by omega⟩) (fun c_89 => ?_) (fun c_89 => ?_)
                · refine e_iconst F dX5_times_105 ?_
                  refine e_goto F 134 dX5_times_106 (by decide) ?_
                  refine e_iast F gn0 (by omega) (by omega) (by first | decide | omega) dX5_times_134 ?_
                  refine e_iinc F dX5_times_135 rfl (by decide) ?_
                  refine e_goto F 67 dX5_times_138 (by decide) ?_
                  first
                  | (refine e_go (ih (c + 1) _ _ nl (by omega) ⟨by omega, e_up_s, fun j j0 j1 => ?_, fun j j0 j1 => ?_, fun q q1 => by rw [e_up_n q1]; exact gf q q1, gnl⟩) ?_
                     · unfold e_fu
                       split
                       · omega
                       · exact gr1 j j0 j1
                     · unfold e_fu
                       by_cases e8 : j = (c : Int)
                       · have ec : 1 ≤ c := by omega
                         have eac := ea ec
                         have ebc := eb ec
                         rw [if_pos e8, e8]
                         show _ = if (R ki9).A (c : Int) = -1 ∨ (R kj9).A (c : Int) = -1 then -1 else (R ki9).A (c : Int) * (R kj9).A (c : Int) % pr wh
                         rw [← eac, ← ebc, if_neg (show ¬ (f (c : Int) = -1 ∨ g (c : Int) = -1) by omega)]
                       · rw [if_neg e8]
                         exact ge1 j j0 (by omega)
                     · exact (And.intro rfl (And.intro rfl (And.intro rfl (And.intro rfl (And.intro rfl (And.intro rfl (trivial))))))))
                  | (refine e_go (ih (c + 1) _ _ nl (by omega) ⟨by omega, e_up_s, fun j j0 j1 => ?_, fun j j0 j1 => ?_, fun q q1 => by rw [e_up_n q1]; exact gf q q1, gnl⟩) ?_
                     · unfold e_fu
                       split
                       · omega
                       · exact gr1 j j0 j1
                     · unfold e_fu
                       by_cases e8 : j = (c : Int)
                       · have ec : 1 ≤ c := by omega
                         have eac := ea ec
                         have ebc := eb ec
                         rw [if_pos e8, e8]
                         show _ = if (R ki9).A (c : Int) = -1 ∨ (R kj9).A (c : Int) = -1 then -1 else (R ki9).A (c : Int) * (R kj9).A (c : Int) % pr wh
                         rw [← eac, ← ebc, if_pos (show f (c : Int) = -1 ∨ g (c : Int) = -1 by omega)]
                       · rw [if_neg e8]
                         exact ge1 j j0 (by omega)
                     · exact (And.intro rfl (And.intro rfl (And.intro rfl (And.intro rfl (And.intro rfl (And.intro rfl (trivial))))))))
                · refine e_aload_n F dX5_times_92 rfl ?_
                  refine e_get (ci := 5) (fi := 4) (q := (RX5, TX5, 6)) F gY2 rfl (by decide) w_fl_RX5_18 (by rfl) dX5_times_93 ?_
                  refine e_iload_n F dX5_times_96 rfl ?_
                  refine e_aaldr F gS2 (by omega) (by omega) (by decide) (hSb) dX5_times_97 ?_
                  refine e_iload F dX5_times_98 rfl ?_
                  refine e_iald F hb2 (by omega) (by omega) (by first | decide | omega) dX5_times_100 ?_
                  refine e_iconst F dX5_times_101 ?_
                  refine e_icmp_ne F 109 dX5_times_102 (by decide) (⟨by omega, by omega⟩) (⟨by omega, by omega⟩) (fun c_102 => ?_) (fun c_102 => ?_)
                  ·
                    have hmm := mul_rg (m := 1000003) (a := f (c : Int)) (b := g (c : Int)) (by omega) (by omega) (by omega) (by omega) (by omega)
                    have hmv := emod_rg (f (c : Int) * g (c : Int)) hwh
                    refine e_aload_n F dX5_times_109 rfl ?_
                    refine e_aload_n F dX5_times_110 rfl ?_
                    refine e_get (ci := 5) (fi := 4) (q := (RX5, TX5, 6)) F gY2 rfl (by decide) w_fl_RX5_18 (by rfl) dX5_times_111 ?_
                    refine e_iload_n F dX5_times_114 rfl ?_
                    refine e_aaldr F gS2 (by omega) (by omega) (by decide) (hSa) dX5_times_115 ?_
                    refine e_iload F dX5_times_116 rfl ?_
                    refine e_iald F ha2 (by omega) (by omega) (by first | decide | omega) dX5_times_118 ?_
                    refine e_i2l F dX5_times_119 (⟨by omega, by omega⟩) ?_
                    refine e_aload_n F dX5_times_120 rfl ?_
                    refine e_get (ci := 5) (fi := 4) (q := (RX5, TX5, 6)) F gY2 rfl (by decide) w_fl_RX5_18 (by rfl) dX5_times_121 ?_
                    refine e_iload_n F dX5_times_124 rfl ?_
                    refine e_aaldr F gS2 (by omega) (by omega) (by decide) (hSb) dX5_times_125 ?_
                    refine e_iload F dX5_times_126 rfl ?_
                    refine e_iald F hb2 (by omega) (by omega) (by first | decide | omega) dX5_times_128 ?_
                    refine e_i2l F dX5_times_129 (⟨by omega, by omega⟩) ?_
                    refine e_lmul F dX5_times_130 ?_
                    refine e_callVV F u_X5_mod (by rfl) (c_X5_mod gY2 hwh hmm.2) gY2 rfl rfl w_ml_RX5_55 dX5_times_131 (by rfl) (Nat.le_of_ble_eq_true rfl) (by decide) (by omega) (fun _ _ _ h _ => False.elim h) (fun r_131 w_131 n_131 h_131 hn_131 => ?_)
                    obtain ⟨rfl, ew_131, en_131⟩ := h_131
                    rw [ew_131, en_131]
                    refine e_iast F gn0 (by omega) (by omega) (by first | decide | omega) dX5_times_134 ?_
                    refine e_iinc F dX5_times_135 rfl (by decide) ?_
                    refine e_goto F 67 dX5_times_138 (by decide) ?_
                    first
                    | (refine e_go (ih (c + 1) _ _ nl (by omega) ⟨by omega, e_up_s, fun j j0 j1 => ?_, fun j j0 j1 => ?_, fun q q1 => by rw [e_up_n q1]; exact gf q q1, gnl⟩) ?_
                       · unfold e_fu
                         split
                         · omega
                         · exact gr1 j j0 j1
                       · unfold e_fu
                         by_cases e8 : j = (c : Int)
                         · have ec : 1 ≤ c := by omega
                           have eac := ea ec
                           have ebc := eb ec
                           rw [if_pos e8, e8]
                           show _ = if (R ki9).A (c : Int) = -1 ∨ (R kj9).A (c : Int) = -1 then -1 else (R ki9).A (c : Int) * (R kj9).A (c : Int) % pr wh
                           rw [← eac, ← ebc, if_neg (show ¬ (f (c : Int) = -1 ∨ g (c : Int) = -1) by omega)]
                         · rw [if_neg e8]
                           exact ge1 j j0 (by omega)
                       · exact (And.intro rfl (And.intro rfl (And.intro rfl (And.intro rfl (And.intro rfl (And.intro rfl (trivial))))))))
                    | (refine e_go (ih (c + 1) _ _ nl (by omega) ⟨by omega, e_up_s, fun j j0 j1 => ?_, fun j j0 j1 => ?_, fun q q1 => by rw [e_up_n q1]; exact gf q q1, gnl⟩) ?_
                       · unfold e_fu
                         split
                         · omega
                         · exact gr1 j j0 j1
                       · unfold e_fu
                         by_cases e8 : j = (c : Int)
                         · have ec : 1 ≤ c := by omega
                           have eac := ea ec
                           have ebc := eb ec
                           rw [if_pos e8, e8]
                           show _ = if (R ki9).A (c : Int) = -1 ∨ (R kj9).A (c : Int) = -1 then -1 else (R ki9).A (c : Int) * (R kj9).A (c : Int) % pr wh
                           rw [← eac, ← ebc, if_pos (show f (c : Int) = -1 ∨ g (c : Int) = -1 by omega)]
                         · rw [if_neg e8]
                           exact ge1 j j0 (by omega)
                       · exact (And.intro rfl (And.intro rfl (And.intro rfl (And.intro rfl (And.intro rfl (And.intro rfl (trivial))))))))
                  · refine e_iconst F dX5_times_105 ?_
                    refine e_goto F 134 dX5_times_106 (by decide) ?_
                    refine e_iast F gn0 (by omega) (by omega) (by first | decide | omega) dX5_times_134 ?_
                    refine e_iinc F dX5_times_135 rfl (by decide) ?_
                    refine e_goto F 67 dX5_times_138 (by decide) ?_
                    first
                    | (refine e_go (ih (c + 1) _ _ nl (by omega) ⟨by omega, e_up_s, fun j j0 j1 => ?_, fun j j0 j1 => ?_, fun q q1 => by rw [e_up_n q1]; exact gf q q1, gnl⟩) ?_
                       · unfold e_fu
                         split
                         · omega
                         · exact gr1 j j0 j1
                       · unfold e_fu
                         by_cases e8 : j = (c : Int)
                         · have ec : 1 ≤ c := by omega
                           have eac := ea ec
                           have ebc := eb ec
                           rw [if_pos e8, e8]
                           show _ = if (R ki9).A (c : Int) = -1 ∨ (R kj9).A (c : Int) = -1 then -1 else (R ki9).A (c : Int) * (R kj9).A (c : Int) % pr wh
                           rw [← eac, ← ebc, if_neg (show ¬ (f (c : Int) = -1 ∨ g (c : Int) = -1) by omega)]
                         · rw [if_neg e8]
                           exact ge1 j j0 (by omega)
                       · exact (And.intro rfl (And.intro rfl (And.intro rfl (And.intro rfl (And.intro rfl (And.intro rfl (trivial))))))))
                    | (refine e_go (ih (c + 1) _ _ nl (by omega) ⟨by omega, e_up_s, fun j j0 j1 => ?_, fun j j0 j1 => ?_, fun q q1 => by rw [e_up_n q1]; exact gf q q1, gnl⟩) ?_
                       · unfold e_fu
                         split
                         · omega
                         · exact gr1 j j0 j1
                       · unfold e_fu
                         by_cases e8 : j = (c : Int)
                         · have ec : 1 ≤ c := by omega
                           have eac := ea ec
                           have ebc := eb ec
                           rw [if_pos e8, e8]
                           show _ = if (R ki9).A (c : Int) = -1 ∨ (R kj9).A (c : Int) = -1 then -1 else (R ki9).A (c : Int) * (R kj9).A (c : Int) % pr wh
                           rw [← eac, ← ebc, if_pos (show f (c : Int) = -1 ∨ g (c : Int) = -1 by omega)]
                         · rw [if_neg e8]
                           exact ge1 j j0 (by omega)
                       · exact (And.intro rfl (And.intro rfl (And.intro rfl (And.intro rfl (And.intro rfl (And.intro rfl (trivial))))))))
          exact e_go (l1 10 0 _ (fun _ => 0) _ (by omega) ⟨by omega, e_up_s, fun j _ _ => by omega, fun j j0 j1 => by omega, fun q q1 => e_up_n q1, by omega⟩) (And.intro rfl (And.intro rfl (And.intro rfl (And.intro rfl (And.intro rfl (And.intro rfl (trivial)))))))
        · refine e_bipush F dX5_times_51 (by decide) ?_
          refine e_iret F rfl (by omega) ?_ dX5_times_53
          rw [if_pos (show (R ki9).dg = -1 ∨ (R kj9).dg = -1 ∨ 6 < (R ki9).dg + (R kj9).dg by omega)]
          exact ⟨FM.th, Or.inr ⟨h_i, rfl, gM⟩⟩
  ·
    rw [b01_0, Classical.not_not] at c_12
    rw [if_neg c_12]
    refine e_iconst F dX5_times_15 ?_
    refine e_iret F rfl (by omega) ?_ dX5_times_16
    exact ⟨FM.th, Or.inl ⟨c_12, rfl, hM.th⟩⟩
