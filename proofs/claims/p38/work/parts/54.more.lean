-- 54.more.lean.txt
section
/-! the reference: pour, scale, times, joined -/
def poR (wh : Nat) (r : RD) (P : Int → Int) : RD := (r.dg, r.hp, fun h => if r.A h = -1 then -1 else (r.A h + hv (pr wh) h P ((r.dg.toNat + 1 : Nat) : Int) (r.dg.toNat + 1)) % pr wh, fun k => (P k + r.E k) % pr wh)
def scR (wh : Nat) (r : RD) (f : Int) : RD := (r.dg, r.hp, fun h => if r.A h = -1 then -1 else r.A h * f % pr wh, fun k => r.E k * f % pr wh)
def tiR (wh : Nat) (r1 r2 : RD) : RD := (r1.dg + r2.dg, 0, fun h => if r1.A h = -1 ∨ r2.A h = -1 then -1 else r1.A h * r2.A h % pr wh, fun _ => 0)
def ofE (r : RD) (k : Int) : Int := if k ≤ r.dg then r.E k else 0
def joR (wh : Nat) (s : Int) (r1 r2 : RD) : RD := (if r1.dg < r2.dg then r2.dg else r1.dg, if r1.hp = 1 ∧ r2.hp = 1 then 1 else 0, fun h => if r1.A h = -1 ∨ r2.A h = -1 then -1 else (r1.A h + s * r2.A h) % pr wh, fun k => (ofE r1 k + s * ofE r2 k) % pr wh)
/-- a row that was laid anew -/
theorem row_MD {w : e_W} {y wh a : Nat} {o2 : Option Nat} {r : RD} {f : Int → Int} (hg : 0 ≤ r.dg ∧ r.dg ≤ 6) (hya : y + 3 < a) (wa : w a = some (e_ia ((ho wh).toNat + 1) f)) (hf : ∀ j : Int, 0 ≤ j → j < (((ho wh).toNat + 1 : Nat) : Int) → -1 ≤ f j ∧ f j < pr wh) (he : ∀ j : Int, 1 ≤ j → j < (((ho wh).toNat + 1 : Nat) : Int) → f j = r.A j) (hp : (r.hp = 0 ∧ o2 = none) ∨ (r.hp = 1 ∧ RW w y o2 (r.dg.toNat + 1) (pr wh) 0 r.E)) : MD w y wh (some a) o2 r := Or.inr ⟨hg, ⟨a, f, rfl, hya, wa, hf, he⟩, hp⟩
theorem rowA {wh : Nat} (hwh : wh < 7) {c : Prop} [Decidable c] (v : Int) : (if c then -1 else v % pr wh) = -1 ∨ (¬ c ∧ 0 ≤ (if c then -1 else v % pr wh) ∧ (if c then -1 else v % pr wh) < pr wh) := by
  have hm := emod_rg v hwh
  by_cases h : c
  · rw [if_pos h]; exact Or.inl rfl
  · rw [if_neg h]; exact Or.inr ⟨h, hm.1, hm.2⟩
theorem poR_RV {wh : Nat} (hwh : wh < 7) {r : RD} (h : RV wh r) (hd : ¬ r.dg = -1) (P : Int → Int) : RV wh (poR wh r P) := by
  refine ⟨fun j j0 j1 => ?_, fun _ k _ _ => emod_rg _ hwh, fun q => absurd q hd⟩
  rcases rowA hwh (c := r.A j = -1) (r.A j + hv (pr wh) j P ((r.dg.toNat + 1 : Nat) : Int) (r.dg.toNat + 1)) with q | ⟨q, q1, q2⟩
  · exact Or.inl q
  · exact Or.inr ⟨q1, q2, by rcases h.1 j j0 j1 with z | z; exact absurd z q; exact z.2.2⟩
theorem scR_RV {wh : Nat} (hwh : wh < 7) {r : RD} (h : RV wh r) (hd : ¬ r.dg = -1) (f : Int) : RV wh (scR wh r f) := by
  refine ⟨fun j j0 j1 => ?_, fun _ k _ _ => emod_rg _ hwh, fun q => absurd q hd⟩
  rcases rowA hwh (c := r.A j = -1) (r.A j * f) with q | ⟨q, q1, q2⟩
  · exact Or.inl q
  · exact Or.inr ⟨q1, q2, by rcases h.1 j j0 j1 with z | z; exact absurd z q; exact z.2.2⟩
theorem tiR_RV {wh : Nat} (hwh : wh < 7) {r1 r2 : RD} (h : RV wh r1) (hd : 0 ≤ r1.dg + r2.dg) : RV wh (tiR wh r1 r2) := by
  refine ⟨fun j j0 j1 => ?_, fun q => absurd q (show ¬ ((0 : Int) = 1) by decide), fun q => absurd q (show ¬ r1.dg + r2.dg = -1 by omega)⟩
  rcases rowA hwh (c := r1.A j = -1 ∨ r2.A j = -1) (r1.A j * r2.A j) with q | ⟨q, q1, q2⟩
  · exact Or.inl q
  · exact Or.inr ⟨q1, q2, by rcases h.1 j j0 j1 with z | z; exact absurd (Or.inl z) q; exact z.2.2⟩
theorem joR_dg (wh : Nat) (s : Int) {r1 r2 : RD} (h1 : 0 ≤ r1.dg ∧ r1.dg ≤ 6) (h2 : 0 ≤ r2.dg ∧ r2.dg ≤ 6) : 0 ≤ (joR wh s r1 r2).dg ∧ (joR wh s r1 r2).dg ≤ 6 := by
  show 0 ≤ (if r1.dg < r2.dg then r2.dg else r1.dg) ∧ (if r1.dg < r2.dg then r2.dg else r1.dg) ≤ 6
  split <;> omega
theorem joR_RV {wh : Nat} (hwh : wh < 7) {s : Int} {r1 r2 : RD} (h : RV wh r1) (h1 : 0 ≤ r1.dg ∧ r1.dg ≤ 6) (h2 : 0 ≤ r2.dg ∧ r2.dg ≤ 6) : RV wh (joR wh s r1 r2) := by
  have hd := joR_dg wh s h1 h2
  refine ⟨fun j j0 j1 => ?_, fun _ k _ _ => emod_rg _ hwh, fun q => by omega⟩
  rcases rowA hwh (c := r1.A j = -1 ∨ r2.A j = -1) (r1.A j + s * r2.A j) with q | ⟨q, q1, q2⟩
  · exact Or.inl q
  · exact Or.inr ⟨q1, q2, by rcases h.1 j j0 j1 with z | z; exact absurd (Or.inl z) q; exact z.2.2⟩
theorem MW.to {w w' : e_W} {y wh : Nat} {kn t : Int} {R : Nat → RD} (h : MW w y wh kn t R) (hg : ∀ q e, w q = some e → w' q = some e) : MW w' y wh kn t R := by
  obtain ⟨hY, hwh, ⟨G, hG, hGe⟩, ⟨S, P, hS, hP, hMD⟩, hRV⟩ := h
  exact ⟨hg _ _ hY, hwh, ⟨G, hg _ _ hG, hGe⟩, ⟨S, P, hg _ _ hS, hg _ _ hP, fun j hj => (hMD j hj).to (fun q e _ he => hg q e he)⟩, hRV⟩
set_option maxHeartbeats 4000000 in
set_option maxRecDepth 100000 in
theorem c_X5_scale {K : e_K} {l : Launch} {w : e_W} {n : Nat} {y wh : Nat} {t kn : Int} {R : Nat → RD} (hM : MW w y wh kn t R) {i9 : Int} (hi9 : e_r i9) {b9 : Int} (hb9 : e_r b9) {t9 : Int} (ht9 : e_r t9) : e_Met K l yX5_scale (Cond.code yX5_scale cX5_scale 7 (Option.some .int) :: e_TB) (4) (2) [.ref y, .int (eI i9), .int (eI b9), .int (eI t9)] w n (fun r w' n' => FM w w' y n ∧ ((¬ ((0 ≤ i9 ∧ i9 < 6) ∧ (0 ≤ t9 ∧ t9 < 6)) ∧ r = some (.int (eI 0)) ∧ MW w' y wh kn 1 R) ∨ (((0 ≤ i9 ∧ i9 < 6) ∧ (0 ≤ t9 ∧ t9 < 6)) ∧ r = some (.int (eI ((if (R i9.toNat).dg = -1 then (-9, R) else (bc (st7 (scR wh (R i9.toNat) (b9 % pr wh)).A), updR R t9.toNat (scR wh (R i9.toNat) (b9 % pr wh)))).1))) ∧ MW w' y wh (kn) 0 ((if (R i9.toNat).dg = -1 then (-9, R) else (bc (st7 (scR wh (R i9.toNat) (b9 % pr wh)).A), updR R t9.toNat (scR wh (R i9.toNat) (b9 % pr wh)))).2)))) (e_px0) := by
  refine e_ofV rfl (Nat.le_of_ble_eq_true rfl) ?_
  intro P9 E9 S9 M9 A9 B9 T9 C9 F hnm
  have hwh := hM.2.1
  have hY := hM.1
  have hp := pr_rg wh hwh
  have hho := ho_rg wh hwh
  have hf9 := fl_rg wh hwh
  refine e_aload_n F dX5_scale_0 rfl ?_
  refine e_iload_n F dX5_scale_1 rfl ?_
  refine e_callSS F u_X5_isNoDeal (by rfl) (c_X5_isNoDeal hi9) w_ml_RX5_129 dX5_scale_2 (by rfl) (Nat.le_of_ble_eq_true rfl) (by decide) (by omega) (fun _ _ _ h _ => False.elim h) (fun r_2 w_2 n_2 h_2 hn_2 => ?_)
  obtain ⟨rfl, ew_2, en_2⟩ := h_2
  rw [ew_2, en_2]
  refine e_if_ne F 15 dX5_scale_5 (by decide) (b01_r _) (fun c_5 => ?_) (fun c_5 => ?_)
  ·
    rw [ne_eq, b01_0, Classical.not_not] at c_5
    refine e_iconst F dX5_scale_15 ?_
    refine e_goto F 20 dX5_scale_16 (by decide) ?_
    refine e_iconst F dX5_scale_20 ?_
    refine e_callVV F u_X5_start (by rfl) (c_X5_start hY (by first | exact Or.inl rfl | exact Or.inr rfl) (by decide) (by decide)) hY rfl rfl w_ml_RX5_69 dX5_scale_21 (by rfl) (Nat.le_of_ble_eq_true rfl) (by decide) (by omega) (fun _ _ _ h _ => False.elim h) (fun r_21 w_21 n_21 h_21 hn_21 => ?_)
    obtain ⟨rfl, en_21, ew_21⟩ := h_21
    rw [en_21, ew_21]
    first | rw [if_pos (show (1 : Int) = 1 from rfl)] | rw [if_neg (show ¬ ((0 : Int) = 1) by decide)]
    have gM := hM.th (t2 := 0) (kn2 := kn)
    refine e_if_eq F 29 dX5_scale_24 (by decide) (by decide) (fun c_24 => ?_) (fun c_24 => ?_)
    · exact absurd c_24 (by decide)
    · refine e_iconst F dX5_scale_27 ?_
      refine e_iret F rfl (by omega) ?_ dX5_scale_28
      exact ⟨FM.th, Or.inl ⟨(fun q => by omega), rfl, hM.th⟩⟩
  ·
    rw [b01_0, Classical.not_not] at c_5
    refine e_iload_n F dX5_scale_8 rfl ?_
    refine e_callSS F u_X5_isNoDeal (by rfl) (c_X5_isNoDeal ht9) w_ml_RX5_129 dX5_scale_9 (by rfl) (Nat.le_of_ble_eq_true rfl) (by decide) (by omega) (fun _ _ _ h _ => False.elim h) (fun r_9 w_9 n_9 h_9 hn_9 => ?_)
    obtain ⟨rfl, ew_9, en_9⟩ := h_9
    rw [ew_9, en_9]
    refine e_if_eq F 19 dX5_scale_12 (by decide) (b01_r _) (fun c_12 => ?_) (fun c_12 => ?_)
    ·
      rw [b01_0, Classical.not_not] at c_12
      refine e_iconst F dX5_scale_19 ?_
      refine e_iconst F dX5_scale_20 ?_
      refine e_callVV F u_X5_start (by rfl) (c_X5_start hY (by first | exact Or.inl rfl | exact Or.inr rfl) (by decide) (by decide)) hY rfl rfl w_ml_RX5_69 dX5_scale_21 (by rfl) (Nat.le_of_ble_eq_true rfl) (by decide) (by omega) (fun _ _ _ h _ => False.elim h) (fun r_21 w_21 n_21 h_21 hn_21 => ?_)
      obtain ⟨rfl, en_21, ew_21⟩ := h_21
      rw [en_21, ew_21]
      first | rw [if_pos (show (1 : Int) = 1 from rfl)] | rw [if_neg (show ¬ ((0 : Int) = 1) by decide)]
      have gM := hM.th (t2 := 0) (kn2 := kn)
      refine e_if_eq F 29 dX5_scale_24 (by decide) (by decide) (fun c_24 => ?_) (fun c_24 => ?_)
      · have h_i : (0 ≤ i9 ∧ i9 < 6) ∧ (0 ≤ t9 ∧ t9 < 6) := by omega
        obtain ⟨kt9, rfl⟩ : ∃ k : Nat, t9 = (k : Int) := ⟨t9.toNat, by omega⟩
        have hkt9 : kt9 < 6 := by omega
        rw [show ((kt9 : Nat) : Int).toNat = kt9 from rfl]
        obtain ⟨ki9, rfl⟩ : ∃ k : Nat, i9 = (k : Int) := ⟨i9.toNat, by omega⟩
        have hki9 : ki9 < 6 := by omega
        rw [show ((ki9 : Nat) : Int).toNat = ki9 from rfl]
        refine e_dom ?_
        intro hdm
        obtain ⟨gY, _, ⟨G, gG, gGe⟩, ⟨SS, PP, gS, gP, gMD⟩, gRV⟩ := id gM
        have hGi := gGe ki9 hki9
        have hRi := gRV ki9 hki9
        have hbm := emod_rg b9 hwh
        have hyn := hdm _ _ gY
        have hgn := hdm _ _ gG
        have hsn := hdm _ _ gS
        have hpn := hdm _ _ gP
        refine e_aload_n F dX5_scale_29 rfl ?_
        refine e_iload_n F dX5_scale_30 rfl ?_
        refine e_callVV F u_X5_isEmpty (by rfl) (c_X5_isEmpty gM (i := ki9) hki9) gY rfl rfl w_ml_RX5_113 dX5_scale_31 (by rfl) (Nat.le_of_ble_eq_true rfl) (by decide) (by omega) (fun _ _ _ h _ => False.elim h) (fun r_31 w_31 n_31 h_31 hn_31 => ?_)
        obtain ⟨rfl, ew_31, en_31⟩ := h_31
        rw [ew_31, en_31]
        refine e_if_eq F 40 dX5_scale_34 (by decide) (b01_r _) (fun c_34 => ?_) (fun c_34 => ?_)
        ·
          rw [b01_0] at c_34
          have hne := c_34
          obtain ⟨a, f, hSa, hya, hwa, hfr, hfA⟩ := MD.row (gMD ki9 hki9) hne
          have hdd := MD.dg (gMD ki9 hki9)
          have han := hdm _ _ hwa
          rcases MD.pw (gMD ki9 hki9) with ⟨hp0, hPn⟩ | ⟨hp1, ⟨b, g, hPb, hyb, hwb, hgr, hgE⟩, hd0⟩
          ·
            have l1 : ∀ (N : Nat) (c : Nat) (wl : e_W) (f1 : Int → Int) (nl : Nat), 9 - c < N → (1 ≤ c ∧ (c : Int) ≤ ho wh + 1 ∧ wl n = some (e_ia ((ho wh).toNat + 1) f1) ∧ (∀ j : Int, 0 ≤ j → j < ((((ho wh).toNat + 1) : Nat) : Int) → -1 ≤ f1 j ∧ f1 j < pr wh) ∧ (∀ j : Int, 1 ≤ j → j < ((((ho wh).toNat + 1) : Nat) : Int) → f1 j = if j < (c : Int) then (scR wh (R ki9) (b9 % pr wh)).A j else (R ki9).A j) ∧ (∀ q, q ≠ n → q ≠ n + 1 → wl q = (e_up w y (MO y 0 wh kn)) q) ∧ n ≤ nl) → e_V K P9 l E9 (4) (2) S9 M9 A9 B9 T9 C9 7 (fun r w' n' => FM w w' y n ∧ ((¬ ((0 ≤ ((ki9 : Nat) : Int) ∧ ((ki9 : Nat) : Int) < 6) ∧ (0 ≤ ((kt9 : Nat) : Int) ∧ ((kt9 : Nat) : Int) < 6)) ∧ r = some (.int (eI 0)) ∧ MW w' y wh kn 1 R) ∨ (((0 ≤ ((ki9 : Nat) : Int) ∧ ((ki9 : Nat) : Int) < 6) ∧ (0 ≤ ((kt9 : Nat) : Int) ∧ ((kt9 : Nat) : Int) < 6)) ∧ r = some (.int (eI ((if (R ki9).dg = -1 then (-9, R) else (bc (st7 (scR wh (R ki9) (b9 % pr wh)).A), updR R kt9 (scR wh (R ki9) (b9 % pr wh)))).1))) ∧ MW w' y wh (kn) 0 ((if (R ki9).dg = -1 then (-9, R) else (bc (st7 (scR wh (R ki9) (b9 % pr wh)).A), updR R kt9 (scR wh (R ki9) (b9 % pr wh)))).2)))) (e_px0) 84 [(0, .ref y), (1, .int (eI ((ki9 : Nat) : Int))), (2, .int (eI b9)), (3, .int (eI ((kt9 : Nat) : Int))), (4, .ref n), (5, .null), (6, .int (eI (c : Int)))] [] wl nl (1) := by
              intro N
              induction N with
              | zero => intro c wl f1 nl hN; exact absurd hN (Nat.not_lt_zero _)
              | succ N ih =>
                intro c wl f1 nl hN ⟨hc1, hc, gn0, gr1, ge1, gf, gnl⟩
                have e9 : (scR wh (R ki9) (b9 % pr wh)).dg = (R ki9).dg := rfl
                have gY2 : wl y = some (MO y 0 wh kn) := (gf y (by omega) (by omega)).trans gY
                have gG2 : wl (y + 1) = some (e_ia 6 G) := (gf _ (by omega) (by omega)).trans gG
                have gP2 : wl (y + 3) = some (e_ra 6 PP) := (gf _ (by omega) (by omega)).trans gP
                have gM2 : MW wl y wh kn 0 R := gM.to (fun q e q1 => by rw [gf q (by have := hdm q e q1; omega) (by have := hdm q e q1; omega)]; exact q1)
                refine e_iload F dX5_scale_84 rfl ?_
                refine e_aload F dX5_scale_86 rfl ?_
                refine e_alenI F gn0 dX5_scale_88 ?_
                refine e_icmp_ge F 130 dX5_scale_89 (by decide) (⟨by omega, by omega⟩) (⟨by omega, by omega⟩) (fun c_89 => ?_) (fun c_89 => ?_)
                ·
                  obtain rfl : c = (ho wh).toNat + 1 := by omega
                  refine e_iconst F dX5_scale_130 ?_
                  refine e_istore F dX5_scale_131 (by decide) ?_
                  refine e_aloadN F dX5_scale_133 rfl ?_
                  refine e_ifnullN F 175 dX5_scale_135 (by decide) ?_
                  refine e_aload_n F dX5_scale_175 rfl ?_
                  refine e_iload_n F dX5_scale_176 rfl ?_
                  refine e_aload_n F dX5_scale_177 rfl ?_
                  refine e_get (ci := 5) (fi := 3) (q := (RX5, TX5, 6)) F gY2 rfl (by decide) w_fl_RX5_13 (by rfl) dX5_scale_178 ?_
                  refine e_iload_n F dX5_scale_181 rfl ?_
                  refine e_iald F gG2 (by omega) (by omega) (by first | decide | omega) dX5_scale_182 ?_
                  rw [hGi]
                  refine e_aload F dX5_scale_183 rfl ?_
                  refine e_aloadN F dX5_scale_185 rfl ?_
                  refine e_callVV F u_X5_lay (by rfl) (c_X5_layRN gM2 hkt9 (r := (scR wh (R ki9) (b9 % pr wh))) (row_MD (by omega) (by omega) gn0 gr1 (fun j j0 j1 => by rw [ge1 j j0 j1, if_pos (by omega)]) (Or.inl ⟨hp0, rfl⟩)) (scR_RV hwh (gRV ki9 hki9) hne (b9 % pr wh))) gM2.1 rfl rfl w_ml_RX5_140 dX5_scale_187 (by rfl) (Nat.le_of_ble_eq_true rfl) (by decide) (by omega) (fun _ _ _ h _ => False.elim h) (fun r_187 w_187 n_187 h_187 hn_187 => ?_)
                  obtain ⟨rfl, en_187, gM3, gF3⟩ := h_187
                  refine e_iret F rfl (by omega) ?_ dX5_scale_190
                  rw [if_neg (show ¬ (R ki9).dg = -1 from hne)]
                  exact ⟨FM.tr (n1 := nl) (fun q q1 q2 => (gf q (by omega) (by omega)).trans (FM.th (n := n) q q1 q2)) gnl gF3, Or.inr ⟨h_i, rfl, gM3⟩⟩
                ·
                  have hA9 := gM.rgA hki9 (j := (c : Int)) (by omega) (by omega)
                  have hfc : f1 (c : Int) = (R ki9).A (c : Int) := by rw [ge1 _ (by omega) (by omega), if_neg (by omega)]
                  refine e_aload F dX5_scale_92 rfl ?_
                  refine e_iload F dX5_scale_94 rfl ?_
                  refine e_iald F gn0 (by omega) (by omega) (by first | decide | omega) dX5_scale_96 ?_
                  rw [hfc]
                  refine e_iconst F dX5_scale_97 ?_
                  refine e_icmp_eq F 124 dX5_scale_98 (by decide) (⟨by omega, by omega⟩) (⟨by omega, by omega⟩) (fun c_98 => ?_) (fun c_98 => ?_)
                  · refine e_iinc F dX5_scale_124 rfl (by decide) ?_
                    refine e_goto F 84 dX5_scale_127 (by decide) ?_
                    first
                    | (refine e_go (ih (c + 1) _ _ nl (by omega) ⟨by omega, by omega, e_up_s, fun j j0 j1 => ?_, fun j j0 j1 => ?_, fun q q1 q2 => by rw [e_up_n q1]; exact gf q q1 q2, gnl⟩) ?_
                       · unfold e_fu
                         split
                         · omega
                         · exact gr1 j j0 j1
                       · unfold e_fu
                         by_cases e8 : j = (c : Int)
                         · rw [if_pos e8, if_pos (by omega), e8]
                           show _ = if (R ki9).A (c : Int) = -1 then -1 else _
                           rw [if_neg c_98]
                         · rw [if_neg e8, ge1 j j0 j1]
                           by_cases e7 : j < (c : Int)
                           · rw [if_pos e7, if_pos (by omega)]
                           · rw [if_neg e7, if_neg (by omega)]
                       · exact (And.intro rfl (And.intro rfl (And.intro rfl (And.intro rfl (And.intro rfl (And.intro rfl (And.intro rfl (trivial)))))))))
                    | (refine e_go (ih (c + 1) wl f1 nl (by omega) ⟨by omega, by omega, gn0, gr1, fun j j0 j1 => ?_, gf, gnl⟩) ?_
                       · rw [ge1 j j0 j1]
                         by_cases e8 : j = (c : Int)
                         · rw [if_neg (by omega), if_pos (by omega), e8]
                           show _ = if (R ki9).A (c : Int) = -1 then -1 else _
                           rw [if_pos c_98]; exact c_98
                         · by_cases e7 : j < (c : Int)
                           · rw [if_pos e7, if_pos (by omega)]
                           · rw [if_neg e7, if_neg (by omega)]
                       · exact (And.intro rfl (And.intro rfl (And.intro rfl (And.intro rfl (And.intro rfl (And.intro rfl (And.intro rfl (trivial)))))))))
                  ·
                    have hmm := mul_rg (m := 1000003) (a := (R ki9).A (c : Int)) (b := b9 % pr wh) (by omega) (by omega) hbm.1 (by omega) (by omega)
                    have hmv := emod_rg ((R ki9).A (c : Int) * (b9 % pr wh)) hwh
                    refine e_aload F dX5_scale_101 rfl ?_
                    refine e_iload F dX5_scale_103 rfl ?_
                    refine e_aload_n F dX5_scale_105 rfl ?_
                    refine e_aload F dX5_scale_106 rfl ?_
                    refine e_iload F dX5_scale_108 rfl ?_
                    refine e_iald F gn0 (by omega) (by omega) (by first | decide | omega) dX5_scale_110 ?_
                    rw [hfc]
                    refine e_i2l F dX5_scale_111 (⟨by omega, by omega⟩) ?_
                    refine e_aload_n F dX5_scale_112 rfl ?_
                    refine e_iload_n F dX5_scale_113 rfl ?_
                    refine e_i2l F dX5_scale_114 (hb9) ?_
                    refine e_callVV F u_X5_mod (by rfl) (c_X5_mod gY2 hwh (v := b9) (by constructor <;> omega)) gY2 rfl rfl w_ml_RX5_55 dX5_scale_115 (by rfl) (Nat.le_of_ble_eq_true rfl) (by decide) (by omega) (fun _ _ _ h _ => False.elim h) (fun r_115 w_115 n_115 h_115 hn_115 => ?_)
                    obtain ⟨rfl, ew_115, en_115⟩ := h_115
                    rw [ew_115, en_115]
                    refine e_i2l F dX5_scale_118 (⟨by omega, by omega⟩) ?_
                    refine e_lmul F dX5_scale_119 ?_
                    refine e_callVV F u_X5_mod (by rfl) (c_X5_mod gY2 hwh hmm.2) gY2 rfl rfl w_ml_RX5_55 dX5_scale_120 (by rfl) (Nat.le_of_ble_eq_true rfl) (by decide) (by omega) (fun _ _ _ h _ => False.elim h) (fun r_120 w_120 n_120 h_120 hn_120 => ?_)
                    obtain ⟨rfl, ew_120, en_120⟩ := h_120
                    rw [ew_120, en_120]
                    refine e_iast F gn0 (by omega) (by omega) (by first | decide | omega) dX5_scale_123 ?_
                    refine e_iinc F dX5_scale_124 rfl (by decide) ?_
                    refine e_goto F 84 dX5_scale_127 (by decide) ?_
                    first
                    | (refine e_go (ih (c + 1) _ _ nl (by omega) ⟨by omega, by omega, e_up_s, fun j j0 j1 => ?_, fun j j0 j1 => ?_, fun q q1 q2 => by rw [e_up_n q1]; exact gf q q1 q2, gnl⟩) ?_
                       · unfold e_fu
                         split
                         · omega
                         · exact gr1 j j0 j1
                       · unfold e_fu
                         by_cases e8 : j = (c : Int)
                         · rw [if_pos e8, if_pos (by omega), e8]
                           show _ = if (R ki9).A (c : Int) = -1 then -1 else _
                           rw [if_neg c_98]
                         · rw [if_neg e8, ge1 j j0 j1]
                           by_cases e7 : j < (c : Int)
                           · rw [if_pos e7, if_pos (by omega)]
                           · rw [if_neg e7, if_neg (by omega)]
                       · exact (And.intro rfl (And.intro rfl (And.intro rfl (And.intro rfl (And.intro rfl (And.intro rfl (And.intro rfl (trivial)))))))))
                    | (refine e_go (ih (c + 1) wl f1 nl (by omega) ⟨by omega, by omega, gn0, gr1, fun j j0 j1 => ?_, gf, gnl⟩) ?_
                       · rw [ge1 j j0 j1]
                         by_cases e8 : j = (c : Int)
                         · rw [if_neg (by omega), if_pos (by omega), e8]
                           show _ = if (R ki9).A (c : Int) = -1 then -1 else _
                           rw [if_pos c_98]; exact c_98
                         · by_cases e7 : j < (c : Int)
                           · rw [if_pos e7, if_pos (by omega)]
                           · rw [if_neg e7, if_neg (by omega)]
                       · exact (And.intro rfl (And.intro rfl (And.intro rfl (And.intro rfl (And.intro rfl (And.intro rfl (And.intro rfl (trivial)))))))))
            refine e_aload_n F dX5_scale_40 rfl ?_
            refine e_get (ci := 5) (fi := 4) (q := (RX5, TX5, 6)) F gY rfl (by decide) w_fl_RX5_18 (by rfl) dX5_scale_41 ?_
            refine e_iload_n F dX5_scale_44 rfl ?_
            refine e_aaldr F gS (by omega) (by omega) (by decide) (hSa) dX5_scale_45 ?_
            refine e_cloneX F (i0 := 0) (ty := .int) (ai := 8) rfl hwa (by omega) (by omega) (e_nmI F) (fun _ _ => rfl) w_ml_RX5_144 w_sa__I_clone w_nat_clone_20 w_im_java_lang_Object_clone___Ljava_lang_Object_ w_sx__I__I_clone___Ljava_lang_Object_ w_ca__I_RJx8e188 dX5_scale_46 (Nat.le_of_ble_eq_true rfl) (by decide) ?_
            refine e_castA F (ai := 8) e_up_s (e_nmI F) w_cl_RX5_17 dX5_scale_49 ?_
            refine e_astore F dX5_scale_52 (by decide) ?_
            refine e_aload_n F dX5_scale_54 rfl ?_
            refine e_get (ci := 5) (fi := 5) (q := (RX5, TX5, 6)) F (show e_up _ n _ y = _ by rw [e_up_n (by omega)]; exact gY) rfl (by decide) w_fl_RX5_22 (by rfl) dX5_scale_55 ?_
            refine e_iload_n F dX5_scale_58 rfl ?_
            refine e_aaldn F (show e_up _ n _ (y + 3) = _ by rw [e_up_n (by omega)]; exact gP) (by omega) (by omega) (by decide) (hPn) dX5_scale_59 ?_
            refine e_ifnonnullN F dX5_scale_60 ?_
            refine e_null F dX5_scale_63 ?_
            refine e_goto F 79 dX5_scale_64 (by decide) ?_
            refine e_astoreN F dX5_scale_79 (by decide) ?_
            refine e_iconst F dX5_scale_81 ?_
            refine e_istore F dX5_scale_82 (by decide) ?_
            exact e_go (l1 10 1 _ f _ (by omega) ⟨by omega, by omega, e_up_s, hfr, fun j j0 j1 => by rw [if_neg (by omega)]; exact hfA j j0 j1, fun q q1 q2 => e_up_n q1, by omega⟩) (And.intro rfl (And.intro rfl (And.intro rfl (And.intro rfl (And.intro rfl (And.intro rfl (And.intro rfl (trivial))))))))
          ·
            have l2 : ∀ (N : Nat) (c : Nat) (wl : e_W) (f1 g1 : Int → Int) (nl : Nat), 8 - c < N → ((c : Int) ≤ (R ki9).dg + 1 ∧ n ≤ nl ∧ wl n = some (e_ia ((ho wh).toNat + 1) f1) ∧ (∀ j : Int, 0 ≤ j → j < ((((ho wh).toNat + 1) : Nat) : Int) → -1 ≤ f1 j ∧ f1 j < pr wh) ∧ (∀ j : Int, 1 ≤ j → j < ((((ho wh).toNat + 1) : Nat) : Int) → f1 j = (scR wh (R ki9) (b9 % pr wh)).A j) ∧ wl (n + 1) = some (e_ia ((R ki9).dg.toNat + 1) g1) ∧ (∀ j : Int, 0 ≤ j → j ≤ (R ki9).dg → g1 j = if j < (c : Int) then (scR wh (R ki9) (b9 % pr wh)).E j else (R ki9).E j) ∧ (∀ q, q ≠ n → q ≠ n + 1 → wl q = (e_up w y (MO y 0 wh kn)) q)) → e_V K P9 l E9 (4) (2) S9 M9 A9 B9 T9 C9 7 (fun r w' n' => FM w w' y n ∧ ((¬ ((0 ≤ ((ki9 : Nat) : Int) ∧ ((ki9 : Nat) : Int) < 6) ∧ (0 ≤ ((kt9 : Nat) : Int) ∧ ((kt9 : Nat) : Int) < 6)) ∧ r = some (.int (eI 0)) ∧ MW w' y wh kn 1 R) ∨ (((0 ≤ ((ki9 : Nat) : Int) ∧ ((ki9 : Nat) : Int) < 6) ∧ (0 ≤ ((kt9 : Nat) : Int) ∧ ((kt9 : Nat) : Int) < 6)) ∧ r = some (.int (eI ((if (R ki9).dg = -1 then (-9, R) else (bc (st7 (scR wh (R ki9) (b9 % pr wh)).A), updR R kt9 (scR wh (R ki9) (b9 % pr wh)))).1))) ∧ MW w' y wh (kn) 0 ((if (R ki9).dg = -1 then (-9, R) else (bc (st7 (scR wh (R ki9) (b9 % pr wh)).A), updR R kt9 (scR wh (R ki9) (b9 % pr wh)))).2)))) (e_px0) 133 [(0, .ref y), (1, .int (eI ((ki9 : Nat) : Int))), (2, .int (eI b9)), (3, .int (eI ((kt9 : Nat) : Int))), (4, .ref n), (5, .ref (n + 1)), (6, .int (eI (c : Int)))] [] wl nl (2) := by
              intro N
              induction N with
              | zero => intro c wl f1 g1 nl hN; exact absurd hN (Nat.not_lt_zero _)
              | succ N ih =>
                intro c wl f1 g1 nl hN ⟨hc, gn, gn0, gr1, ge1, gs1, ges, gf⟩
                have e9 : (scR wh (R ki9) (b9 % pr wh)).dg = (R ki9).dg := rfl
                have gY2 : wl y = some (MO y 0 wh kn) := (gf y (by omega) (by omega)).trans gY
                have gG2 : wl (y + 1) = some (e_ia 6 G) := (gf _ (by omega) (by omega)).trans gG
                have gP2 : wl (y + 3) = some (e_ra 6 PP) := (gf _ (by omega) (by omega)).trans gP
                have gM2 : MW wl y wh kn 0 R := gM.to (fun q e q1 => by rw [gf q (by have := hdm q e q1; omega) (by have := hdm q e q1; omega)]; exact q1)
                have hEr := hRi.2.1 hp1
                refine e_aload F dX5_scale_133 rfl ?_
                refine e_ifnull F dX5_scale_135 ?_
                refine e_iload F dX5_scale_138 rfl ?_
                refine e_aload F dX5_scale_140 rfl ?_
                refine e_alenI F gs1 dX5_scale_142 ?_
                refine e_icmp_ge F 175 dX5_scale_143 (by decide) (⟨by omega, by omega⟩) (⟨by omega, by omega⟩) (fun c_143 => ?_) (fun c_143 => ?_)
                · refine e_aload_n F dX5_scale_175 rfl ?_
                  refine e_iload_n F dX5_scale_176 rfl ?_
                  refine e_aload_n F dX5_scale_177 rfl ?_
                  refine e_get (ci := 5) (fi := 3) (q := (RX5, TX5, 6)) F gY2 rfl (by decide) w_fl_RX5_13 (by rfl) dX5_scale_178 ?_
                  refine e_iload_n F dX5_scale_181 rfl ?_
                  refine e_iald F gG2 (by omega) (by omega) (by first | decide | omega) dX5_scale_182 ?_
                  rw [hGi]
                  refine e_aload F dX5_scale_183 rfl ?_
                  refine e_aload F dX5_scale_185 rfl ?_
                  refine e_callVV F u_X5_lay (by rfl) (c_X5_layRR gM2 hkt9 (r := (scR wh (R ki9) (b9 % pr wh))) (row_MD (by omega) (by omega) gn0 gr1 ge1 (Or.inr ⟨hp1, n + 1, g1, rfl, by omega, gs1, fun j j0 j1 => by rw [ges j j0 (by have e9 : (scR wh (R ki9) (b9 % pr wh)).dg = (R ki9).dg := rfl; omega), if_pos (by have e9 : (scR wh (R ki9) (b9 % pr wh)).dg = (R ki9).dg := rfl; omega)]; have := emod_rg ((R ki9).E j * (b9 % pr wh)) hwh; show -1 ≤ (R ki9).E j * (b9 % pr wh) % pr wh ∧ (R ki9).E j * (b9 % pr wh) % pr wh < pr wh; omega, fun j j0 j1 => by rw [ges j j0 (by have e9 : (scR wh (R ki9) (b9 % pr wh)).dg = (R ki9).dg := rfl; omega), if_pos (by have e9 : (scR wh (R ki9) (b9 % pr wh)).dg = (R ki9).dg := rfl; omega)]⟩)) (scR_RV hwh (gRV ki9 hki9) hne (b9 % pr wh))) gM2.1 rfl rfl w_ml_RX5_140 dX5_scale_187 (by rfl) (Nat.le_of_ble_eq_true rfl) (by decide) (by omega) (fun _ _ _ h _ => False.elim h) (fun r_187 w_187 n_187 h_187 hn_187 => ?_)
                  obtain ⟨rfl, en_187, gM3, gF3⟩ := h_187
                  refine e_iret F rfl (by omega) ?_ dX5_scale_190
                  rw [if_neg (show ¬ (R ki9).dg = -1 from hne)]
                  exact ⟨FM.tr (n1 := nl) (fun q q1 q2 => (gf q (by omega) (by omega)).trans (FM.th (n := n) q q1 q2)) gn gF3, Or.inr ⟨h_i, rfl, gM3⟩⟩
                ·
                  have hE9 := hEr (c : Int) (by omega) (by omega)
                  have hgc : g1 (c : Int) = (R ki9).E (c : Int) := by rw [ges _ (by omega) (by omega), if_neg (by omega)]
                  have hmm := mul_rg (m := 1000003) hE9.1 (by omega) hbm.1 (by omega) (by omega)
                  refine e_aload F dX5_scale_146 rfl ?_
                  refine e_iload F dX5_scale_148 rfl ?_
                  refine e_aload_n F dX5_scale_150 rfl ?_
                  refine e_aload F dX5_scale_151 rfl ?_
                  refine e_iload F dX5_scale_153 rfl ?_
                  refine e_iald F gs1 (by omega) (by omega) (by first | decide | omega) dX5_scale_155 ?_
                  rw [hgc]
                  refine e_i2l F dX5_scale_156 (⟨by omega, by omega⟩) ?_
                  refine e_aload_n F dX5_scale_157 rfl ?_
                  refine e_iload_n F dX5_scale_158 rfl ?_
                  refine e_i2l F dX5_scale_159 (hb9) ?_
                  refine e_callVV F u_X5_mod (by rfl) (c_X5_mod gY2 hwh (v := b9) (by constructor <;> omega)) gY2 rfl rfl w_ml_RX5_55 dX5_scale_160 (by rfl) (Nat.le_of_ble_eq_true rfl) (by decide) (by omega) (fun _ _ _ h _ => False.elim h) (fun r_160 w_160 n_160 h_160 hn_160 => ?_)
                  obtain ⟨rfl, ew_160, en_160⟩ := h_160
                  rw [ew_160, en_160]
                  refine e_i2l F dX5_scale_163 (⟨by omega, by omega⟩) ?_
                  refine e_lmul F dX5_scale_164 ?_
                  refine e_callVV F u_X5_mod (by rfl) (c_X5_mod gY2 hwh hmm.2) gY2 rfl rfl w_ml_RX5_55 dX5_scale_165 (by rfl) (Nat.le_of_ble_eq_true rfl) (by decide) (by omega) (fun _ _ _ h _ => False.elim h) (fun r_165 w_165 n_165 h_165 hn_165 => ?_)
                  obtain ⟨rfl, ew_165, en_165⟩ := h_165
                  rw [ew_165, en_165]
                  refine e_iast F gs1 (by omega) (by omega) (by first | decide | omega) dX5_scale_168 ?_
                  refine e_iinc F dX5_scale_169 rfl (by decide) ?_
                  refine e_goto F 133 dX5_scale_172 (by decide) ?_
                  refine e_go (ih (c + 1) _ f1 _ nl (by omega) ⟨by omega, gn, by rw [e_up_n (by omega)]; exact gn0, gr1, ge1, e_up_s, fun j j0 j1 => ?_, fun q q1 q2 => by rw [e_up_n q2]; exact gf q q1 q2⟩) ?_
                  · unfold e_fu
                    by_cases e8 : j = (c : Int)
                    · rw [if_pos e8, if_pos (by omega), e8]; rfl
                    · rw [if_neg e8, ges j j0 j1]
                      by_cases e7 : j < (c : Int)
                      · rw [if_pos e7, if_pos (by omega)]
                      · rw [if_neg e7, if_neg (by omega)]
                  · exact (And.intro rfl (And.intro rfl (And.intro rfl (And.intro rfl (And.intro rfl (And.intro rfl (And.intro rfl (trivial))))))))
            have l1 : ∀ (N : Nat) (c : Nat) (wl : e_W) (f1 : Int → Int) (nl : Nat), 9 - c < N → (1 ≤ c ∧ (c : Int) ≤ ho wh + 1 ∧ wl n = some (e_ia ((ho wh).toNat + 1) f1) ∧ (∀ j : Int, 0 ≤ j → j < ((((ho wh).toNat + 1) : Nat) : Int) → -1 ≤ f1 j ∧ f1 j < pr wh) ∧ (∀ j : Int, 1 ≤ j → j < ((((ho wh).toNat + 1) : Nat) : Int) → f1 j = if j < (c : Int) then (scR wh (R ki9) (b9 % pr wh)).A j else (R ki9).A j) ∧ wl (n + 1) = some (e_ia ((R ki9).dg.toNat + 1) g) ∧ (∀ q, q ≠ n → q ≠ n + 1 → wl q = (e_up w y (MO y 0 wh kn)) q) ∧ n ≤ nl) → e_V K P9 l E9 (4) (2) S9 M9 A9 B9 T9 C9 7 (fun r w' n' => FM w w' y n ∧ ((¬ ((0 ≤ ((ki9 : Nat) : Int) ∧ ((ki9 : Nat) : Int) < 6) ∧ (0 ≤ ((kt9 : Nat) : Int) ∧ ((kt9 : Nat) : Int) < 6)) ∧ r = some (.int (eI 0)) ∧ MW w' y wh kn 1 R) ∨ (((0 ≤ ((ki9 : Nat) : Int) ∧ ((ki9 : Nat) : Int) < 6) ∧ (0 ≤ ((kt9 : Nat) : Int) ∧ ((kt9 : Nat) : Int) < 6)) ∧ r = some (.int (eI ((if (R ki9).dg = -1 then (-9, R) else (bc (st7 (scR wh (R ki9) (b9 % pr wh)).A), updR R kt9 (scR wh (R ki9) (b9 % pr wh)))).1))) ∧ MW w' y wh (kn) 0 ((if (R ki9).dg = -1 then (-9, R) else (bc (st7 (scR wh (R ki9) (b9 % pr wh)).A), updR R kt9 (scR wh (R ki9) (b9 % pr wh)))).2)))) (e_px0) 84 [(0, .ref y), (1, .int (eI ((ki9 : Nat) : Int))), (2, .int (eI b9)), (3, .int (eI ((kt9 : Nat) : Int))), (4, .ref n), (5, .ref (n + 1)), (6, .int (eI (c : Int)))] [] wl nl (2) := by
              intro N
              induction N with
              | zero => intro c wl f1 nl hN; exact absurd hN (Nat.not_lt_zero _)
              | succ N ih =>
                intro c wl f1 nl hN ⟨hc1, hc, gn0, gr1, ge1, gs1, gf, gnl⟩
                have e9 : (scR wh (R ki9) (b9 % pr wh)).dg = (R ki9).dg := rfl
                have gY2 : wl y = some (MO y 0 wh kn) := (gf y (by omega) (by omega)).trans gY
                have gG2 : wl (y + 1) = some (e_ia 6 G) := (gf _ (by omega) (by omega)).trans gG
                have gP2 : wl (y + 3) = some (e_ra 6 PP) := (gf _ (by omega) (by omega)).trans gP
                have gM2 : MW wl y wh kn 0 R := gM.to (fun q e q1 => by rw [gf q (by have := hdm q e q1; omega) (by have := hdm q e q1; omega)]; exact q1)
                refine e_iload F dX5_scale_84 rfl ?_
                refine e_aload F dX5_scale_86 rfl ?_
                refine e_alenI F gn0 dX5_scale_88 ?_
                refine e_icmp_ge F 130 dX5_scale_89 (by decide) (⟨by omega, by omega⟩) (⟨by omega, by omega⟩) (fun c_89 => ?_) (fun c_89 => ?_)
                ·
                  obtain rfl : c = (ho wh).toNat + 1 := by omega
                  refine e_iconst F dX5_scale_130 ?_
                  refine e_istore F dX5_scale_131 (by decide) ?_
                  exact e_go (l2 9 0 wl f1 g nl (by omega) ⟨by omega, gnl, gn0, gr1, (fun j j0 j1 => by rw [ge1 j j0 j1, if_pos (by omega)]), gs1, fun j j0 j1 => by rw [if_neg (by omega)]; exact hgE j j0 (by omega), gf⟩) (And.intro rfl (And.intro rfl (And.intro rfl (And.intro rfl (And.intro rfl (And.intro rfl (And.intro rfl (trivial))))))))
                ·
                  have hA9 := gM.rgA hki9 (j := (c : Int)) (by omega) (by omega)
                  have hfc : f1 (c : Int) = (R ki9).A (c : Int) := by rw [ge1 _ (by omega) (by omega), if_neg (by omega)]
                  refine e_aload F dX5_scale_92 rfl ?_
                  refine e_iload F dX5_scale_94 rfl ?_
                  refine e_iald F gn0 (by omega) (by omega) (by first | decide | omega) dX5_scale_96 ?_
                  rw [hfc]
                  refine e_iconst F dX5_scale_97 ?_
                  refine e_icmp_eq F 124 dX5_scale_98 (by decide) (⟨by omega, by omega⟩) (⟨by omega, by omega⟩) (fun c_98 => ?_) (fun c_98 => ?_)
                  · refine e_iinc F dX5_scale_124 rfl (by decide) ?_
                    refine e_goto F 84 dX5_scale_127 (by decide) ?_
                    first
                    | (refine e_go (ih (c + 1) _ _ nl (by omega) ⟨by omega, by omega, e_up_s, fun j j0 j1 => ?_, fun j j0 j1 => ?_, by rw [e_up_n (by omega)]; exact gs1, fun q q1 q2 => by rw [e_up_n q1]; exact gf q q1 q2, gnl⟩) ?_
                       · unfold e_fu
                         split
                         · omega
                         · exact gr1 j j0 j1
                       · unfold e_fu
                         by_cases e8 : j = (c : Int)
                         · rw [if_pos e8, if_pos (by omega), e8]
                           show _ = if (R ki9).A (c : Int) = -1 then -1 else _
                           rw [if_neg c_98]
                         · rw [if_neg e8, ge1 j j0 j1]
                           by_cases e7 : j < (c : Int)
                           · rw [if_pos e7, if_pos (by omega)]
                           · rw [if_neg e7, if_neg (by omega)]
                       · exact (And.intro rfl (And.intro rfl (And.intro rfl (And.intro rfl (And.intro rfl (And.intro rfl (And.intro rfl (trivial)))))))))
                    | (refine e_go (ih (c + 1) wl f1 nl (by omega) ⟨by omega, by omega, gn0, gr1, fun j j0 j1 => ?_, gs1, gf, gnl⟩) ?_
                       · rw [ge1 j j0 j1]
                         by_cases e8 : j = (c : Int)
                         · rw [if_neg (by omega), if_pos (by omega), e8]
                           show _ = if (R ki9).A (c : Int) = -1 then -1 else _
                           rw [if_pos c_98]; exact c_98
                         · by_cases e7 : j < (c : Int)
                           · rw [if_pos e7, if_pos (by omega)]
                           · rw [if_neg e7, if_neg (by omega)]
                       · exact (And.intro rfl (And.intro rfl (And.intro rfl (And.intro rfl (And.intro rfl (And.intro rfl (And.intro rfl (trivial)))))))))
                  ·
                    have hmm := mul_rg (m := 1000003) (a := (R ki9).A (c : Int)) (b := b9 % pr wh) (by omega) (by omega) hbm.1 (by omega) (by omega)
                    have hmv := emod_rg ((R ki9).A (c : Int) * (b9 % pr wh)) hwh
                    refine e_aload F dX5_scale_101 rfl ?_
                    refine e_iload F dX5_scale_103 rfl ?_
                    refine e_aload_n F dX5_scale_105 rfl ?_
                    refine e_aload F dX5_scale_106 rfl ?_
                    refine e_iload F dX5_scale_108 rfl ?_
                    refine e_iald F gn0 (by omega) (by omega) (by first | decide | omega) dX5_scale_110 ?_
                    rw [hfc]
                    refine e_i2l F dX5_scale_111 (⟨by omega, by omega⟩) ?_
                    refine e_aload_n F dX5_scale_112 rfl ?_
                    refine e_iload_n F dX5_scale_113 rfl ?_
                    refine e_i2l F dX5_scale_114 (hb9) ?_
                    refine e_callVV F u_X5_mod (by rfl) (c_X5_mod gY2 hwh (v := b9) (by constructor <;> omega)) gY2 rfl rfl w_ml_RX5_55 dX5_scale_115 (by rfl) (Nat.le_of_ble_eq_true rfl) (by decide) (by omega) (fun _ _ _ h _ => False.elim h) (fun r_115 w_115 n_115 h_115 hn_115 => ?_)
                    obtain ⟨rfl, ew_115, en_115⟩ := h_115
                    rw [ew_115, en_115]
                    refine e_i2l F dX5_scale_118 (⟨by omega, by omega⟩) ?_
                    refine e_lmul F dX5_scale_119 ?_
                    refine e_callVV F u_X5_mod (by rfl) (c_X5_mod gY2 hwh hmm.2) gY2 rfl rfl w_ml_RX5_55 dX5_scale_120 (by rfl) (Nat.le_of_ble_eq_true rfl) (by decide) (by omega) (fun _ _ _ h _ => False.elim h) (fun r_120 w_120 n_120 h_120 hn_120 => ?_)
                    obtain ⟨rfl, ew_120, en_120⟩ := h_120
                    rw [ew_120, en_120]
                    refine e_iast F gn0 (by omega) (by omega) (by first | decide | omega) dX5_scale_123 ?_
                    refine e_iinc F dX5_scale_124 rfl (by decide) ?_
                    refine e_goto F 84 dX5_scale_127 (by decide) ?_
                    first
                    | (refine e_go (ih (c + 1) _ _ nl (by omega) ⟨by omega, by omega, e_up_s, fun j j0 j1 => ?_, fun j j0 j1 => ?_, by rw [e_up_n (by omega)]; exact gs1, fun q q1 q2 => by rw [e_up_n q1]; exact gf q q1 q2, gnl⟩) ?_
                       · unfold e_fu
                         split
                         · omega
                         · exact gr1 j j0 j1
                       · unfold e_fu
                         by_cases e8 : j = (c : Int)
                         · rw [if_pos e8, if_pos (by omega), e8]
                           show _ = if (R ki9).A (c : Int) = -1 then -1 else _
                           rw [if_neg c_98]
                         · rw [if_neg e8, ge1 j j0 j1]
                           by_cases e7 : j < (c : Int)
                           · rw [if_pos e7, if_pos (by omega)]
                           · rw [if_neg e7, if_neg (by omega)]
                       · exact (And.intro rfl (And.intro rfl (And.intro rfl (And.intro rfl (And.intro rfl (And.intro rfl (And.intro rfl (trivial)))))))))
                    | (refine e_go (ih (c + 1) wl f1 nl (by omega) ⟨by omega, by omega, gn0, gr1, fun j j0 j1 => ?_, gs1, gf, gnl⟩) ?_
                       · rw [ge1 j j0 j1]
                         by_cases e8 : j = (c : Int)
                         · rw [if_neg (by omega), if_pos (by omega), e8]
                           show _ = if (R ki9).A (c : Int) = -1 then -1 else _
                           rw [if_pos c_98]; exact c_98
                         · by_cases e7 : j < (c : Int)
                           · rw [if_pos e7, if_pos (by omega)]
                           · rw [if_neg e7, if_neg (by omega)]
                       · exact (And.intro rfl (And.intro rfl (And.intro rfl (And.intro rfl (And.intro rfl (And.intro rfl (And.intro rfl (trivial)))))))))
            refine e_aload_n F dX5_scale_40 rfl ?_
            refine e_get (ci := 5) (fi := 4) (q := (RX5, TX5, 6)) F gY rfl (by decide) w_fl_RX5_18 (by rfl) dX5_scale_41 ?_
            refine e_iload_n F dX5_scale_44 rfl ?_
            refine e_aaldr F gS (by omega) (by omega) (by decide) (hSa) dX5_scale_45 ?_
            refine e_cloneX F (i0 := 0) (ty := .int) (ai := 8) rfl hwa (by omega) (by omega) (e_nmI F) (fun _ _ => rfl) w_ml_RX5_144 w_sa__I_clone w_nat_clone_20 w_im_java_lang_Object_clone___Ljava_lang_Object_ w_sx__I__I_clone___Ljava_lang_Object_ w_ca__I_RJx8e188 dX5_scale_46 (Nat.le_of_ble_eq_true rfl) (by decide) ?_
            refine e_castA F (ai := 8) e_up_s (e_nmI F) w_cl_RX5_17 dX5_scale_49 ?_
            refine e_astore F dX5_scale_52 (by decide) ?_
            refine e_aload_n F dX5_scale_54 rfl ?_
            refine e_get (ci := 5) (fi := 5) (q := (RX5, TX5, 6)) F (show e_up _ n _ y = _ by rw [e_up_n (by omega)]; exact gY) rfl (by decide) w_fl_RX5_22 (by rfl) dX5_scale_55 ?_
            refine e_iload_n F dX5_scale_58 rfl ?_
            refine e_aaldr F (show e_up _ n _ (y + 3) = _ by rw [e_up_n (by omega)]; exact gP) (by omega) (by omega) (by decide) (hPb) dX5_scale_59 ?_
            refine e_ifnonnull F 67 dX5_scale_60 (by decide) ?_
            refine e_aload_n F dX5_scale_67 rfl ?_
            refine e_get (ci := 5) (fi := 5) (q := (RX5, TX5, 6)) F (show e_up _ n _ y = _ by rw [e_up_n (by omega)]; exact gY) rfl (by decide) w_fl_RX5_22 (by rfl) dX5_scale_68 ?_
            refine e_iload_n F dX5_scale_71 rfl ?_
            refine e_aaldr F (show e_up _ n _ (y + 3) = _ by rw [e_up_n (by omega)]; exact gP) (by omega) (by omega) (by decide) (hPb) dX5_scale_72 ?_
            refine e_cloneX F (i0 := 0) (ty := .int) (ai := 8) rfl (show e_up _ n _ b = _ by rw [e_up_n (by have := hdm _ _ hwb; omega)]; exact hwb) (by omega) (by omega) (e_nmI F) (fun _ _ => rfl) w_ml_RX5_144 w_sa__I_clone w_nat_clone_20 w_im_java_lang_Object_clone___Ljava_lang_Object_ w_sx__I__I_clone___Ljava_lang_Object_ w_ca__I_RJx8e188 dX5_scale_73 (Nat.le_of_ble_eq_true rfl) (by decide) ?_
            refine e_castA F (ai := 8) e_up_s (e_nmI F) w_cl_RX5_17 dX5_scale_76 ?_
            refine e_astore F dX5_scale_79 (by decide) ?_
            refine e_iconst F dX5_scale_81 ?_
            refine e_istore F dX5_scale_82 (by decide) ?_
            exact e_go (l1 10 1 _ f _ (by omega) ⟨by omega, by omega, by rw [e_up_n (by omega)]; exact e_up_s, hfr, fun j j0 j1 => by rw [if_neg (by omega)]; exact hfA j j0 j1, e_up_s, fun q q1 q2 => by rw [e_up_n q2, e_up_n q1], by omega⟩) (And.intro rfl (And.intro rfl (And.intro rfl (And.intro rfl (And.intro rfl (And.intro rfl (And.intro rfl (trivial))))))))
        ·
          rw [b01_0, Classical.not_not] at c_34
          refine e_bipush F dX5_scale_37 (by decide) ?_
          refine e_iret F rfl (by omega) ?_ dX5_scale_39
          rw [if_pos (show (R ki9).dg = -1 from c_34)]
          exact ⟨FM.th, Or.inr ⟨h_i, rfl, gM⟩⟩
      · exact absurd c_24 (by decide)
    ·
      rw [b01_0, Classical.not_not] at c_12
      refine e_iconst F dX5_scale_15 ?_
      refine e_goto F 20 dX5_scale_16 (by decide) ?_
      refine e_iconst F dX5_scale_20 ?_
      refine e_callVV F u_X5_start (by rfl) (c_X5_start hY (by first | exact Or.inl rfl | exact Or.inr rfl) (by decide) (by decide)) hY rfl rfl w_ml_RX5_69 dX5_scale_21 (by rfl) (Nat.le_of_ble_eq_true rfl) (by decide) (by omega) (fun _ _ _ h _ => False.elim h) (fun r_21 w_21 n_21 h_21 hn_21 => ?_)
      obtain ⟨rfl, en_21, ew_21⟩ := h_21
      rw [en_21, ew_21]
      first | rw [if_pos (show (1 : Int) = 1 from rfl)] | rw [if_neg (show ¬ ((0 : Int) = 1) by decide)]
      have gM := hM.th (t2 := 0) (kn2 := kn)
      refine e_if_eq F 29 dX5_scale_24 (by decide) (by decide) (fun c_24 => ?_) (fun c_24 => ?_)
      · exact absurd c_24 (by decide)
      · refine e_iconst F dX5_scale_27 ?_
        refine e_iret F rfl (by omega) ?_ dX5_scale_28
        exact ⟨FM.th, Or.inl ⟨(fun q => by omega), rfl, hM.th⟩⟩
set_option maxHeartbeats 4000000 in
set_option maxRecDepth 100000 in
theorem c_X5_times {K : e_K} {l : Launch} {w : e_W} {n : Nat} {y wh : Nat} {t kn : Int} {R : Nat → RD} (hM : MW w y wh kn t R) {i9 : Int} (hi9 : e_r i9) {j9 : Int} (hj9 : e_r j9) {t9 : Int} (ht9 : e_r t9) : e_Met K l yX5_times (Cond.code yX5_times cX5_times 6 (Option.some .int) :: e_TB) (4) (1) [.ref y, .int (eI i9), .int (eI j9), .int (eI t9)] w n (fun r w' n' => FM w w' y n ∧ ((¬ ((0 ≤ i9 ∧ i9 < 6) ∧ (0 ≤ j9 ∧ j9 < 6) ∧ (0 ≤ t9 ∧ t9 < 6)) ∧ r = some (.int (eI 0)) ∧ MW w' y wh kn 1 R) ∨ (((0 ≤ i9 ∧ i9 < 6) ∧ (0 ≤ j9 ∧ j9 < 6) ∧ (0 ≤ t9 ∧ t9 < 6)) ∧ r = some (.int (eI ((if (R i9.toNat).dg = -1 ∨ (R j9.toNat).dg = -1 ∨ 6 < (R i9.toNat).dg + (R j9.toNat).dg then (-9, R) else (bc (st7 (tiR wh (R i9.toNat) (R j9.toNat)).A), updR R t9.toNat (tiR wh (R i9.toNat) (R j9.toNat)))).1))) ∧ MW w' y wh (kn) 0 ((if (R i9.toNat).dg = -1 ∨ (R j9.toNat).dg = -1 ∨ 6 < (R i9.toNat).dg + (R j9.toNat).dg then (-9, R) else (bc (st7 (tiR wh (R i9.toNat) (R j9.toNat)).A), updR R t9.toNat (tiR wh (R i9.toNat) (R j9.toNat)))).2)))) (e_px0) := by
  refine e_ofV rfl (Nat.le_of_ble_eq_true rfl) ?_
  intro P9 E9 S9 M9 A9 B9 T9 C9 F hnm
  have hwh := hM.2.1
  have hY := hM.1
  have hp := pr_rg wh hwh
  have hho := ho_rg wh hwh
  have hf9 := fl_rg wh hwh
  refine e_aload_n F dX5_times_0 rfl ?_
  refine e_aload_n F dX5_times_1 rfl ?_
  refine e_iload_n F dX5_times_2 rfl ?_
  refine e_iload_n F dX5_times_3 rfl ?_
  refine e_iload_n F dX5_times_4 rfl ?_
  refine e_callVV F u_X5_areNoDeals (by rfl) (c_X5_areNoDeals hi9 hj9 ht9) hY rfl rfl w_ml_RX5_154 dX5_times_5 (by rfl) (Nat.le_of_ble_eq_true rfl) (by decide) (by omega) (fun _ _ _ h _ => False.elim h) (fun r_5 w_5 n_5 h_5 hn_5 => ?_)
  obtain ⟨rfl, ew_5, en_5⟩ := h_5
  rw [ew_5, en_5]
  refine e_iconst F dX5_times_8 ?_
  refine e_callVV F u_X5_start (by rfl) (c_X5_start hY (b01_or _) (by decide) (by decide)) hY rfl rfl w_ml_RX5_69 dX5_times_9 (by rfl) (Nat.le_of_ble_eq_true rfl) (by decide) (by omega) (fun _ _ _ h _ => False.elim h) (fun r_9 w_9 n_9 h_9 hn_9 => ?_)
  obtain ⟨rfl, en_9, ew_9⟩ := h_9
  rw [en_9, ew_9, st1]
  refine e_if_eq F 17 dX5_times_12 (by decide) (b01_r _) (fun c_12 => ?_) (fun c_12 => ?_)
  ·
    rw [b01_0, Classical.not_not] at c_12
    rw [if_pos c_12]
    have gM := hM.th (t2 := 0) (kn2 := kn)
    have h_i := c_12
    obtain ⟨kt9, rfl⟩ : ∃ k : Nat, t9 = (k : Int) := ⟨t9.toNat, by omega⟩
    have hkt9 : kt9 < 6 := by omega
    rw [show ((kt9 : Nat) : Int).toNat = kt9 from rfl]
    obtain ⟨kj9, rfl⟩ : ∃ k : Nat, j9 = (k : Int) := ⟨j9.toNat, by omega⟩
    have hkj9 : kj9 < 6 := by omega
    rw [show ((kj9 : Nat) : Int).toNat = kj9 from rfl]
    obtain ⟨ki9, rfl⟩ : ∃ k : Nat, i9 = (k : Int) := ⟨i9.toNat, by omega⟩
    have hki9 : ki9 < 6 := by omega
    rw [show ((ki9 : Nat) : Int).toNat = ki9 from rfl]
    refine e_dom ?_
    intro hdm
    obtain ⟨gY, _, ⟨G, gG, gGe⟩, ⟨SS, PP, gS, gP, gMD⟩, gRV⟩ := id gM
    have hGi := gGe ki9 hki9
    have hGj := gGe kj9 hkj9
    have hdi := MD.dg (gMD ki9 hki9)
    have hdj := MD.dg (gMD kj9 hkj9)
    have hyn := hdm _ _ gY
    have hgn := hdm _ _ gG
    have hsn := hdm _ _ gS
    have hpn := hdm _ _ gP
    refine e_aload_n F dX5_times_17 rfl ?_
    refine e_iload_n F dX5_times_18 rfl ?_
    refine e_callVV F u_X5_isEmpty (by rfl) (c_X5_isEmpty gM (i := ki9) hki9) gY rfl rfl w_ml_RX5_113 dX5_times_19 (by rfl) (Nat.le_of_ble_eq_true rfl) (by decide) (by omega) (fun _ _ _ h _ => False.elim h) (fun r_19 w_19 n_19 h_19 hn_19 => ?_)
    obtain ⟨rfl, ew_19, en_19⟩ := h_19
    rw [ew_19, en_19]
    refine e_if_ne F 51 dX5_times_22 (by decide) (b01_r _) (fun c_22 => ?_) (fun c_22 => ?_)
    ·
      rw [ne_eq, b01_0, Classical.not_not] at c_22
      refine e_bipush F dX5_times_51 (by decide) ?_
      refine e_iret F rfl (by omega) ?_ dX5_times_53
      rw [if_pos (show (R ki9).dg = -1 ∨ (R kj9).dg = -1 ∨ 6 < (R ki9).dg + (R kj9).dg by omega)]
      exact ⟨FM.th, Or.inr ⟨h_i, rfl, gM⟩⟩
    ·
      rw [b01_0] at c_22
      refine e_aload_n F dX5_times_25 rfl ?_
      refine e_iload_n F dX5_times_26 rfl ?_
      refine e_callVV F u_X5_isEmpty (by rfl) (c_X5_isEmpty gM (i := kj9) hkj9) gY rfl rfl w_ml_RX5_113 dX5_times_27 (by rfl) (Nat.le_of_ble_eq_true rfl) (by decide) (by omega) (fun _ _ _ h _ => False.elim h) (fun r_27 w_27 n_27 h_27 hn_27 => ?_)
      obtain ⟨rfl, ew_27, en_27⟩ := h_27
      rw [ew_27, en_27]
      refine e_if_ne F 51 dX5_times_30 (by decide) (b01_r _) (fun c_30 => ?_) (fun c_30 => ?_)
      ·
        rw [ne_eq, b01_0, Classical.not_not] at c_30
        refine e_bipush F dX5_times_51 (by decide) ?_
        refine e_iret F rfl (by omega) ?_ dX5_times_53
        rw [if_pos (show (R ki9).dg = -1 ∨ (R kj9).dg = -1 ∨ 6 < (R ki9).dg + (R kj9).dg by omega)]
        exact ⟨FM.th, Or.inr ⟨h_i, rfl, gM⟩⟩
      ·
        rw [b01_0] at c_30
        have hne1 := c_22
        have hne2 := c_30
        obtain ⟨a, f, hSa, hya, hwa, hfr, hfA⟩ := MD.row (gMD ki9 hki9) hne1
        obtain ⟨b, g, hSb, hyb, hwb, hgr, hgA⟩ := MD.row (gMD kj9 hkj9) hne2
        have han := hdm _ _ hwa
        have hbn := hdm _ _ hwb
        refine e_aload_n F dX5_times_33 rfl ?_
        refine e_get (ci := 5) (fi := 3) (q := (RX5, TX5, 6)) F gY rfl (by decide) w_fl_RX5_13 (by rfl) dX5_times_34 ?_
        refine e_iload_n F dX5_times_37 rfl ?_
        refine e_iald F gG (by omega) (by omega) (by first | decide | omega) dX5_times_38 ?_
        rw [hGi]
        refine e_aload_n F dX5_times_39 rfl ?_
        refine e_get (ci := 5) (fi := 3) (q := (RX5, TX5, 6)) F gY rfl (by decide) w_fl_RX5_13 (by rfl) dX5_times_40 ?_
        refine e_iload_n F dX5_times_43 rfl ?_
        refine e_iald F gG (by omega) (by omega) (by first | decide | omega) dX5_times_44 ?_
        rw [hGj]
        refine e_iadd F dX5_times_45 ?_
        refine e_bipush F dX5_times_46 (by decide) ?_
        refine e_icmp_le F 54 dX5_times_48 (by decide) (⟨by omega, by omega⟩) (⟨by omega, by omega⟩) (fun c_48 => ?_) (fun c_48 => ?_)
        · refine e_aload_n F dX5_times_54 rfl ?_
          refine e_callVV F u_X5_holders (by rfl) (c_X5_holders gY hwh) gY rfl rfl w_ml_RX5_52 dX5_times_55 (by rfl) (Nat.le_of_ble_eq_true rfl) (by decide) (by omega) (fun _ _ _ h _ => False.elim h) (fun r_55 w_55 n_55 h_55 hn_55 => ?_)
          obtain ⟨rfl, ew_55, en_55⟩ := h_55
          rw [ew_55, en_55]
          refine e_iconst F dX5_times_58 ?_
          refine e_iadd F dX5_times_59 ?_
          refine e_newI F (N := ((ho wh).toNat + 1)) (by omega) (by omega) (by omega) w_ac_int dX5_times_60 ?_
          refine e_astore F dX5_times_62 (by decide) ?_
          refine e_iconst F dX5_times_64 ?_
          refine e_istore F dX5_times_65 (by decide) ?_
          have l1 : ∀ (N : Nat) (c : Nat) (wl : e_W) (f1 : Int → Int) (nl : Nat), 9 - c < N → ((c : Int) ≤ ho wh + 1 ∧ wl n = some (e_ia ((ho wh).toNat + 1) f1) ∧ (∀ j : Int, 0 ≤ j → j < ((((ho wh).toNat + 1) : Nat) : Int) → -1 ≤ f1 j ∧ f1 j < pr wh) ∧ (∀ j : Int, 1 ≤ j → j < (c : Int) → f1 j = (tiR wh (R ki9) (R kj9)).A j) ∧ (∀ q, q ≠ n → wl q = (e_up w y (MO y 0 wh kn)) q) ∧ n ≤ nl) → e_V K P9 l E9 (4) (1) S9 M9 A9 B9 T9 C9 6 (fun r w' n' => FM w w' y n ∧ ((¬ ((0 ≤ ((ki9 : Nat) : Int) ∧ ((ki9 : Nat) : Int) < 6) ∧ (0 ≤ ((kj9 : Nat) : Int) ∧ ((kj9 : Nat) : Int) < 6) ∧ (0 ≤ ((kt9 : Nat) : Int) ∧ ((kt9 : Nat) : Int) < 6)) ∧ r = some (.int (eI 0)) ∧ MW w' y wh kn 1 R) ∨ (((0 ≤ ((ki9 : Nat) : Int) ∧ ((ki9 : Nat) : Int) < 6) ∧ (0 ≤ ((kj9 : Nat) : Int) ∧ ((kj9 : Nat) : Int) < 6) ∧ (0 ≤ ((kt9 : Nat) : Int) ∧ ((kt9 : Nat) : Int) < 6)) ∧ r = some (.int (eI ((if (R ki9).dg = -1 ∨ (R kj9).dg = -1 ∨ 6 < (R ki9).dg + (R kj9).dg then (-9, R) else (bc (st7 (tiR wh (R ki9) (R kj9)).A), updR R kt9 (tiR wh (R ki9) (R kj9)))).1))) ∧ MW w' y wh (kn) 0 ((if (R ki9).dg = -1 ∨ (R kj9).dg = -1 ∨ 6 < (R ki9).dg + (R kj9).dg then (-9, R) else (bc (st7 (tiR wh (R ki9) (R kj9)).A), updR R kt9 (tiR wh (R ki9) (R kj9)))).2)))) (e_px0) 67 [(0, .ref y), (1, .int (eI ((ki9 : Nat) : Int))), (2, .int (eI ((kj9 : Nat) : Int))), (3, .int (eI ((kt9 : Nat) : Int))), (4, .ref n), (5, .int (eI (c : Int)))] [] wl nl (1) := by
            intro N
            induction N with
            | zero => intro c wl f1 nl hN; exact absurd hN (Nat.not_lt_zero _)
            | succ N ih =>
              intro c wl f1 nl hN ⟨hc, gn0, gr1, ge1, gf, gnl⟩
              have e9 : (tiR wh (R ki9) (R kj9)).dg = (R ki9).dg + (R kj9).dg := rfl
              have gY2 : wl y = some (MO y 0 wh kn) := (gf y (by omega)).trans gY
              have gG2 : wl (y + 1) = some (e_ia 6 G) := (gf _ (by omega)).trans gG
              have gS2 : wl (y + 2) = some (e_ra 6 SS) := (gf _ (by omega)).trans gS
              have ha2 : wl a = some (e_ia ((ho wh).toNat + 1) f) := (gf _ (by omega)).trans hwa
              have hb2 : wl b = some (e_ia ((ho wh).toNat + 1) g) := (gf _ (by omega)).trans hwb
              have gM2 : MW wl y wh kn 0 R := gM.to (fun q e q1 => by rw [gf q (by have := hdm q e q1; omega)]; exact q1)
              refine e_iload F dX5_times_67 rfl ?_
              refine e_aload F dX5_times_69 rfl ?_
              refine e_alenI F gn0 dX5_times_71 ?_
              refine e_icmp_ge F 141 dX5_times_72 (by decide) (⟨by omega, by omega⟩) (⟨by omega, by omega⟩) (fun c_72 => ?_) (fun c_72 => ?_)
              ·
                obtain rfl : c = (ho wh).toNat + 1 := by omega
                refine e_aload_n F dX5_times_141 rfl ?_
                refine e_iload_n F dX5_times_142 rfl ?_
                refine e_aload_n F dX5_times_143 rfl ?_
                refine e_get (ci := 5) (fi := 3) (q := (RX5, TX5, 6)) F gY2 rfl (by decide) w_fl_RX5_13 (by rfl) dX5_times_144 ?_
                refine e_iload_n F dX5_times_147 rfl ?_
                refine e_iald F gG2 (by omega) (by omega) (by first | decide | omega) dX5_times_148 ?_
                rw [hGi]
                refine e_aload_n F dX5_times_149 rfl ?_
                refine e_get (ci := 5) (fi := 3) (q := (RX5, TX5, 6)) F gY2 rfl (by decide) w_fl_RX5_13 (by rfl) dX5_times_150 ?_
                refine e_iload_n F dX5_times_153 rfl ?_
                refine e_iald F gG2 (by omega) (by omega) (by first | decide | omega) dX5_times_154 ?_
                rw [hGj]
                refine e_iadd F dX5_times_155 ?_
                refine e_aload F dX5_times_156 rfl ?_
                refine e_null F dX5_times_158 ?_
                refine e_callVV F u_X5_lay (by rfl) (c_X5_layRN gM2 hkt9 (r := (tiR wh (R ki9) (R kj9))) (row_MD (by omega) (by omega) gn0 gr1 (fun j j0 j1 => ge1 j j0 (by omega)) (Or.inl ⟨rfl, rfl⟩)) (tiR_RV hwh (gRV ki9 hki9) (by omega))) gM2.1 rfl rfl w_ml_RX5_140 dX5_times_159 (by rfl) (Nat.le_of_ble_eq_true rfl) (by decide) (by omega) (fun _ _ _ h _ => False.elim h) (fun r_159 w_159 n_159 h_159 hn_159 => ?_)
                obtain ⟨rfl, en_159, gM3, gF3⟩ := h_159
                refine e_iret F rfl (by omega) ?_ dX5_times_162
                rw [if_neg (show ¬ ((R ki9).dg = -1 ∨ (R kj9).dg = -1 ∨ 6 < (R ki9).dg + (R kj9).dg) by omega)]
                exact ⟨FM.tr (n1 := nl) (fun q q1 q2 => (gf q (by omega)).trans (FM.th (n := n) q q1 q2)) gnl gF3, Or.inr ⟨h_i, rfl, gM3⟩⟩
              ·
                have hfr9 := hfr (c : Int) (by omega) (by omega)
                have hgr9 := hgr (c : Int) (by omega) (by omega)
                have ea : 1 ≤ c → f (c : Int) = (R ki9).A (c : Int) := fun q => hfA _ (by omega) (by omega)
                have eb : 1 ≤ c → g (c : Int) = (R kj9).A (c : Int) := fun q => hgA _ (by omega) (by omega)
                refine e_aload F dX5_times_75 rfl ?_
                refine e_iload F dX5_times_77 rfl ?_
                refine e_aload_n F dX5_times_79 rfl ?_
                refine e_get (ci := 5) (fi := 4) (q := (RX5, TX5, 6)) F gY2 rfl (by decide) w_fl_RX5_18 (by rfl) dX5_times_80 ?_
                refine e_iload_n F dX5_times_83 rfl ?_
                refine e_aaldr F gS2 (by omega) (by omega) (by decide) (hSa) dX5_times_84 ?_
                refine e_iload F dX5_times_85 rfl ?_
                refine e_iald F ha2 (by omega) (by omega) (by first | decide | omega) dX5_times_87 ?_
                refine e_iconst F dX5_times_88 ?_
                refine e_icmp_eq F 105 dX5_times_89 (by decide) (⟨by omega, by omega⟩) (⟨by omega, by omega⟩) (fun c_89 => ?_) (fun c_89 => ?_)
                · refine e_iconst F dX5_times_105 ?_
                  refine e_goto F 134 dX5_times_106 (by decide) ?_
                  refine e_iast F gn0 (by omega) (by omega) (by first | decide | omega) dX5_times_134 ?_
                  refine e_iinc F dX5_times_135 rfl (by decide) ?_
                  refine e_goto F 67 dX5_times_138 (by decide) ?_
                  first
                  | (refine e_go (ih (c + 1) _ _ nl (by omega) ⟨by omega, e_up_s, fun j j0 j1 => ?_, fun j j0 j1 => ?_, fun q q1 => by rw [e_up_n q1]; exact gf q q1, gnl⟩) ?_
                     · unfold e_fu
                       split
                       · omega
                       · exact gr1 j j0 j1
                     · unfold e_fu
                       by_cases e8 : j = (c : Int)
                       · have ec : 1 ≤ c := by omega
                         have eac := ea ec
                         have ebc := eb ec
                         rw [if_pos e8, e8]
                         show _ = if (R ki9).A (c : Int) = -1 ∨ (R kj9).A (c : Int) = -1 then -1 else (R ki9).A (c : Int) * (R kj9).A (c : Int) % pr wh
                         rw [← eac, ← ebc, if_neg (show ¬ (f (c : Int) = -1 ∨ g (c : Int) = -1) by omega)]
                       · rw [if_neg e8]
                         exact ge1 j j0 (by omega)
                     · exact (And.intro rfl (And.intro rfl (And.intro rfl (And.intro rfl (And.intro rfl (And.intro rfl (trivial))))))))
                  | (refine e_go (ih (c + 1) _ _ nl (by omega) ⟨by omega, e_up_s, fun j j0 j1 => ?_, fun j j0 j1 => ?_, fun q q1 => by rw [e_up_n q1]; exact gf q q1, gnl⟩) ?_
                     · unfold e_fu
                       split
                       · omega
                       · exact gr1 j j0 j1
                     · unfold e_fu
                       by_cases e8 : j = (c : Int)
                       · have ec : 1 ≤ c := by omega
                         have eac := ea ec
                         have ebc := eb ec
                         rw [if_pos e8, e8]
                         show _ = if (R ki9).A (c : Int) = -1 ∨ (R kj9).A (c : Int) = -1 then -1 else (R ki9).A (c : Int) * (R kj9).A (c : Int) % pr wh
                         rw [← eac, ← ebc, if_pos (show f (c : Int) = -1 ∨ g (c : Int) = -1 by omega)]
                       · rw [if_neg e8]
                         exact ge1 j j0 (by omega)
                     · exact (And.intro rfl (And.intro rfl (And.intro rfl (And.intro rfl (And.intro rfl (And.intro rfl (trivial))))))))
                · refine e_aload_n F dX5_times_92 rfl ?_
                  refine e_get (ci := 5) (fi := 4) (q := (RX5, TX5, 6)) F gY2 rfl (by decide) w_fl_RX5_18 (by rfl) dX5_times_93 ?_
                  refine e_iload_n F dX5_times_96 rfl ?_
                  refine e_aaldr F gS2 (by omega) (by omega) (by decide) (hSb) dX5_times_97 ?_
                  refine e_iload F dX5_times_98 rfl ?_
                  refine e_iald F hb2 (by omega) (by omega) (by first | decide | omega) dX5_times_100 ?_
                  refine e_iconst F dX5_times_101 ?_
                  refine e_icmp_ne F 109 dX5_times_102 (by decide) (⟨by omega, by omega⟩) (⟨by omega, by omega⟩) (fun c_102 => ?_) (fun c_102 => ?_)
                  ·
                    have hmm := mul_rg (m := 1000003) (a := f (c : Int)) (b := g (c : Int)) (by omega) (by omega) (by omega) (by omega) (by omega)
                    have hmv := emod_rg (f (c : Int) * g (c : Int)) hwh
                    refine e_aload_n F dX5_times_109 rfl ?_
                    refine e_aload_n F dX5_times_110 rfl ?_
                    refine e_get (ci := 5) (fi := 4) (q := (RX5, TX5, 6)) F gY2 rfl (by decide) w_fl_RX5_18 (by rfl) dX5_times_111 ?_
                    refine e_iload_n F dX5_times_114 rfl ?_
                    refine e_aaldr F gS2 (by omega) (by omega) (by decide) (hSa) dX5_times_115 ?_
                    refine e_iload F dX5_times_116 rfl ?_
                    refine e_iald F ha2 (by omega) (by omega) (by first | decide | omega) dX5_times_118 ?_
                    refine e_i2l F dX5_times_119 (⟨by omega, by omega⟩) ?_
                    refine e_aload_n F dX5_times_120 rfl ?_
                    refine e_get (ci := 5) (fi := 4) (q := (RX5, TX5, 6)) F gY2 rfl (by decide) w_fl_RX5_18 (by rfl) dX5_times_121 ?_
                    refine e_iload_n F dX5_times_124 rfl ?_
                    refine e_aaldr F gS2 (by omega) (by omega) (by decide) (hSb) dX5_times_125 ?_
                    refine e_iload F dX5_times_126 rfl ?_
                    refine e_iald F hb2 (by omega) (by omega) (by first | decide | omega) dX5_times_128 ?_
                    refine e_i2l F dX5_times_129 (⟨by omega, by omega⟩) ?_
                    refine e_lmul F dX5_times_130 ?_
                    refine e_callVV F u_X5_mod (by rfl) (c_X5_mod gY2 hwh hmm.2) gY2 rfl rfl w_ml_RX5_55 dX5_times_131 (by rfl) (Nat.le_of_ble_eq_true rfl) (by decide) (by omega) (fun _ _ _ h _ => False.elim h) (fun r_131 w_131 n_131 h_131 hn_131 => ?_)
                    obtain ⟨rfl, ew_131, en_131⟩ := h_131
                    rw [ew_131, en_131]
                    refine e_iast F gn0 (by omega) (by omega) (by first | decide | omega) dX5_times_134 ?_
                    refine e_iinc F dX5_times_135 rfl (by decide) ?_
                    refine e_goto F 67 dX5_times_138 (by decide) ?_
                    first
                    | (refine e_go (ih (c + 1) _ _ nl (by omega) ⟨by omega, e_up_s, fun j j0 j1 => ?_, fun j j0 j1 => ?_, fun q q1 => by rw [e_up_n q1]; exact gf q q1, gnl⟩) ?_
                       · unfold e_fu
                         split
                         · omega
                         · exact gr1 j j0 j1
                       · unfold e_fu
                         by_cases e8 : j = (c : Int)
                         · have ec : 1 ≤ c := by omega
                           have eac := ea ec
                           have ebc := eb ec
                           rw [if_pos e8, e8]
                           show _ = if (R ki9).A (c : Int) = -1 ∨ (R kj9).A (c : Int) = -1 then -1 else (R ki9).A (c : Int) * (R kj9).A (c : Int) % pr wh
                           rw [← eac, ← ebc, if_neg (show ¬ (f (c : Int) = -1 ∨ g (c : Int) = -1) by omega)]
                         · rw [if_neg e8]
                           exact ge1 j j0 (by omega)
                       · exact (And.intro rfl (And.intro rfl (And.intro rfl (And.intro rfl (And.intro rfl (And.intro rfl (trivial))))))))
                    | (refine e_go (ih (c + 1) _ _ nl (by omega) ⟨by omega, e_up_s, fun j j0 j1 => ?_, fun j j0 j1 => ?_, fun q q1 => by rw [e_up_n q1]; exact gf q q1, gnl⟩) ?_
                       · unfold e_fu
                         split
                         · omega
                         · exact gr1 j j0 j1
                       · unfold e_fu
                         by_cases e8 : j = (c : Int)
                         · have ec : 1 ≤ c := by omega
                           have eac := ea ec
                           have ebc := eb ec
                           rw [if_pos e8, e8]
                           show _ = if (R ki9).A (c : Int) = -1 ∨ (R kj9).A (c : Int) = -1 then -1 else (R ki9).A (c : Int) * (R kj9).A (c : Int) % pr wh
                           rw [← eac, ← ebc, if_pos (show f (c : Int) = -1 ∨ g (c : Int) = -1 by omega)]
                         · rw [if_neg e8]
                           exact ge1 j j0 (by omega)
                       · exact (And.intro rfl (And.intro rfl (And.intro rfl (And.intro rfl (And.intro rfl (And.intro rfl (trivial))))))))
                  · refine e_iconst F dX5_times_105 ?_
                    refine e_goto F 134 dX5_times_106 (by decide) ?_
                    refine e_iast F gn0 (by omega) (by omega) (by first | decide | omega) dX5_times_134 ?_
                    refine e_iinc F dX5_times_135 rfl (by decide) ?_
                    refine e_goto F 67 dX5_times_138 (by decide) ?_
                    first
                    | (refine e_go (ih (c + 1) _ _ nl (by omega) ⟨by omega, e_up_s, fun j j0 j1 => ?_, fun j j0 j1 => ?_, fun q q1 => by rw [e_up_n q1]; exact gf q q1, gnl⟩) ?_
                       · unfold e_fu
                         split
                         · omega
                         · exact gr1 j j0 j1
                       · unfold e_fu
                         by_cases e8 : j = (c : Int)
                         · have ec : 1 ≤ c := by omega
                           have eac := ea ec
                           have ebc := eb ec
                           rw [if_pos e8, e8]
                           show _ = if (R ki9).A (c : Int) = -1 ∨ (R kj9).A (c : Int) = -1 then -1 else (R ki9).A (c : Int) * (R kj9).A (c : Int) % pr wh
                           rw [← eac, ← ebc, if_neg (show ¬ (f (c : Int) = -1 ∨ g (c : Int) = -1) by omega)]
                         · rw [if_neg e8]
                           exact ge1 j j0 (by omega)
                       · exact (And.intro rfl (And.intro rfl (And.intro rfl (And.intro rfl (And.intro rfl (And.intro rfl (trivial))))))))
                    | (refine e_go (ih (c + 1) _ _ nl (by omega) ⟨by omega, e_up_s, fun j j0 j1 => ?_, fun j j0 j1 => ?_, fun q q1 => by rw [e_up_n q1]; exact gf q q1, gnl⟩) ?_
                       · unfold e_fu
                         split
                         · omega
                         · exact gr1 j j0 j1
                       · unfold e_fu
                         by_cases e8 : j = (c : Int)
                         · have ec : 1 ≤ c := by omega
                           have eac := ea ec
                           have ebc := eb ec
                           rw [if_pos e8, e8]
                           show _ = if (R ki9).A (c : Int) = -1 ∨ (R kj9).A (c : Int) = -1 then -1 else (R ki9).A (c : Int) * (R kj9).A (c : Int) % pr wh
                           rw [← eac, ← ebc, if_pos (show f (c : Int) = -1 ∨ g (c : Int) = -1 by omega)]
                         · rw [if_neg e8]
                           exact ge1 j j0 (by omega)
                       · exact (And.intro rfl (And.intro rfl (And.intro rfl (And.intro rfl (And.intro rfl (And.intro rfl (trivial))))))))
          exact e_go (l1 10 0 _ (fun _ => 0) _ (by omega) ⟨by omega, e_up_s, fun j _ _ => by omega, fun j j0 j1 => by omega, fun q q1 => e_up_n q1, by omega⟩) (And.intro rfl (And.intro rfl (And.intro rfl (And.intro rfl (And.intro rfl (And.intro rfl (trivial)))))))
        · refine e_bipush F dX5_times_51 (by decide) ?_
          refine e_iret F rfl (by omega) ?_ dX5_times_53
          rw [if_pos (show (R ki9).dg = -1 ∨ (R kj9).dg = -1 ∨ 6 < (R ki9).dg + (R kj9).dg by omega)]
          exact ⟨FM.th, Or.inr ⟨h_i, rfl, gM⟩⟩
  ·
    rw [b01_0, Classical.not_not] at c_12
    rw [if_neg c_12]
    refine e_iconst F dX5_times_15 ?_
    refine e_iret F rfl (by omega) ?_ dX5_times_16
    exact ⟨FM.th, Or.inl ⟨c_12, rfl, hM.th⟩⟩
end
-- 55.join.lean.txt
section
/-! the reference: plus, less, pour -/
set_option maxHeartbeats 4000000 in
set_option maxRecDepth 100000 in
theorem c_X5_of {K : e_K} {l : Launch} {w : e_W} {n : Nat} {a Z : Nat} {f : Int → Int} (ha : w a = some (e_ia Z f)) (hZ : Z ≤ 8) {k9 : Int} (h0 : 0 ≤ k9) (h1 : k9 ≤ 8) : e_Met K l yX5_of (Cond.code yX5_of cX5_of 2 (Option.some .int) :: e_TB) (0) (0) [.ref a, .int (eI k9)] w n (fun r w' n' => r = some (.int (eI (if k9 < (Z : Int) then f k9 else 0))) ∧ w' = w ∧ n' = n) (e_px0) := by
  refine e_ofV rfl (Nat.le_of_ble_eq_true rfl) ?_
  intro P9 E9 S9 M9 A9 B9 T9 C9 F hnm
  refine e_iload_n F dX5_of_0 rfl ?_
  refine e_aload_n F dX5_of_1 rfl ?_
  refine e_alenI F (by first | assumption | exact e_up_s | (rw [e_up_n (by first | assumption | omega)]; first | assumption | exact e_up_s | (rw [e_up_n (by first | assumption | omega)]; first | assumption | exact e_up_s | (rw [e_up_n (by first | assumption | omega)]; first | assumption | exact e_up_s))) | exact hD.1 | exact hD1.1 | exact hD2.1 | exact gD.1 | exact gD1.1 | exact gD2.1 | exact gQ.1 | exact hQ.1 | exact gS.1 | exact hS.1 | exact zD.1) dX5_of_2 ?_
  refine e_icmp_ge F 12 dX5_of_3 (by decide) (⟨by omega, by omega⟩) (⟨by omega, by omega⟩) (fun c_3 => ?_) (fun c_3 => ?_)
  · refine e_iconst F dX5_of_12 ?_
    refine e_iret F rfl (by omega) ?_ dX5_of_13
    refine ⟨?_, rfl, rfl⟩
    first | rw [if_pos (by omega)] | rw [if_neg (by omega)]
  · refine e_aload_n F dX5_of_6 rfl ?_
    refine e_iload_n F dX5_of_7 rfl ?_
    refine e_iald F ha (by omega) (by omega) (by first | decide | omega) dX5_of_8 ?_
    refine e_goto F 13 dX5_of_9 (by decide) ?_
    refine e_iret F rfl (by omega) ?_ dX5_of_13
    refine ⟨?_, rfl, rfl⟩
    first | rw [if_pos (by omega)] | rw [if_neg (by omega)]
theorem ofE_rg {wh : Nat} (hwh : wh < 7) {r : RD} (h : RV wh r) (hp : r.hp = 1) {k : Int} (hk : 0 ≤ k) : 0 ≤ ofE r k ∧ ofE r k < pr wh := by
  have := pr_rg wh hwh
  unfold ofE
  split
  · exact h.2.1 hp k hk (by assumption)
  · omega
set_option maxHeartbeats 4000000 in
set_option maxRecDepth 100000 in
theorem c_X5_joined {K : e_K} {l : Launch} {w : e_W} {n : Nat} {y wh : Nat} {t kn : Int} {R : Nat → RD} (hM : MW w y wh kn t R) {i j t9 : Nat} (hi : i < 6) (hj : j < 6) (ht : t9 < 6) {s9 : Int} (hs : s9 = 1 ∨ s9 = -1) : e_Met K l yX5_joined (Cond.code yX5_joined cX5_joined 9 (Option.some .int) :: e_TB) (4) (2) [.ref y, .int (eI (i : Int)), .int (eI (j : Int)), .int (eI (t9 : Int)), .int (eI s9)] w n (fun r w' n' => FM w w' y n ∧ r = some (.int (eI (if (R i).dg = -1 ∨ (R j).dg = -1 then (-9, R) else (bc (st7 (joR wh s9 (R i) (R j)).A), updR R t9 (joR wh s9 (R i) (R j)))).1)) ∧ MW w' y wh kn t (if (R i).dg = -1 ∨ (R j).dg = -1 then (-9, R) else (bc (st7 (joR wh s9 (R i) (R j)).A), updR R t9 (joR wh s9 (R i) (R j)))).2) (e_px0) := by
  refine e_ofV rfl (Nat.le_of_ble_eq_true rfl) ?_
  intro P9 E9 S9 M9 A9 B9 T9 C9 F hnm
  obtain ⟨hY, hwh, ⟨G, hG, hGe⟩, ⟨SS, PP, hS, hP, hMD⟩, hRV⟩ := id hM
  have hp := pr_rg wh hwh
  have hho := ho_rg wh hwh
  refine e_dom ?_
  intro hdom
  have hyn := hdom _ _ hY
  have hgn := hdom _ _ hG
  have hsn := hdom _ _ hS
  have hpn := hdom _ _ hP
  have hGi := hGe i hi
  have hGj := hGe j hj
  have hdi := MD.dg (hMD i hi)
  have hdj := MD.dg (hMD j hj)
  refine e_aload_n F dX5_joined_0 rfl ?_
  refine e_iload_n F dX5_joined_1 rfl ?_
  refine e_callVV F u_X5_isEmpty (by rfl) (c_X5_isEmpty hM (i := i) hi) hY rfl rfl w_ml_RX5_113 dX5_joined_2 (by rfl) (Nat.le_of_ble_eq_true rfl) (by decide) (by omega) (fun _ _ _ h _ => False.elim h) (fun r_2 w_2 n_2 h_2 hn_2 => ?_)
  obtain ⟨rfl, ew_2, en_2⟩ := h_2
  rw [ew_2, en_2]
  refine e_if_ne F 16 dX5_joined_5 (by decide) (b01_r _) (fun c_5 => ?_) (fun c_5 => ?_)
  ·
    rw [ne_eq, b01_0, Classical.not_not] at c_5
    refine e_bipush F dX5_joined_16 (by decide) ?_
    refine e_iret F rfl (by omega) ?_ dX5_joined_18
    rw [if_pos (show (R i).dg = -1 ∨ (R j).dg = -1 by omega)]
    exact ⟨fun _ _ _ => rfl, rfl, hM⟩
  ·
    rw [b01_0] at c_5
    refine e_aload_n F dX5_joined_8 rfl ?_
    refine e_iload_n F dX5_joined_9 rfl ?_
    refine e_callVV F u_X5_isEmpty (by rfl) (c_X5_isEmpty hM (i := j) hj) hY rfl rfl w_ml_RX5_113 dX5_joined_10 (by rfl) (Nat.le_of_ble_eq_true rfl) (by decide) (by omega) (fun _ _ _ h _ => False.elim h) (fun r_10 w_10 n_10 h_10 hn_10 => ?_)
    obtain ⟨rfl, ew_10, en_10⟩ := h_10
    rw [ew_10, en_10]
    refine e_if_eq F 19 dX5_joined_13 (by decide) (b01_r _) (fun c_13 => ?_) (fun c_13 => ?_)
    ·
      rw [b01_0] at c_13
      have hne1 := c_5
      have hne2 := c_13
      obtain ⟨a, f, hSa, hya, hwa, hfr, hfA⟩ := MD.row (hMD i hi) hne1
      obtain ⟨b, g, hSb, hyb, hwb, hgr, hgA⟩ := MD.row (hMD j hj) hne2
      have han := hdom _ _ hwa
      have hbn := hdom _ _ hwb
      refine e_aload_n F dX5_joined_19 rfl ?_
      refine e_get (ci := 5) (fi := 3) (q := (RX5, TX5, 6)) F hY rfl (by decide) w_fl_RX5_13 (by rfl) dX5_joined_20 ?_
      refine e_iload_n F dX5_joined_23 rfl ?_
      refine e_iald F hG (by omega) (by omega) (by first | decide | omega) dX5_joined_24 ?_
      rw [hGi]
      refine e_aload_n F dX5_joined_25 rfl ?_
      refine e_get (ci := 5) (fi := 3) (q := (RX5, TX5, 6)) F hY rfl (by decide) w_fl_RX5_13 (by rfl) dX5_joined_26 ?_
      refine e_iload_n F dX5_joined_29 rfl ?_
      refine e_iald F hG (by omega) (by omega) (by first | decide | omega) dX5_joined_30 ?_
      rw [hGj]
      refine e_mmax F ⟨by omega, by omega⟩ ⟨by omega, by omega⟩ w_ml_RX5_148 w_sm_J9_max_7cf53 w_in_RJ9 w_co_J9_max_7cf53 dX5_joined_31 (Nat.le_of_ble_eq_true rfl) (by decide) (by omega) ?_
      refine e_istore F dX5_joined_34 (by decide) ?_
      refine e_aload_n F dX5_joined_36 rfl ?_
      refine e_callVV F u_X5_holders (by rfl) (c_X5_holders hY hwh) hY rfl rfl w_ml_RX5_52 dX5_joined_37 (by rfl) (Nat.le_of_ble_eq_true rfl) (by decide) (by omega) (fun _ _ _ h _ => False.elim h) (fun r_37 w_37 n_37 h_37 hn_37 => ?_)
      obtain ⟨rfl, ew_37, en_37⟩ := h_37
      rw [ew_37, en_37]
      refine e_iconst F dX5_joined_40 ?_
      refine e_iadd F dX5_joined_41 ?_
      refine e_newI F (N := ((ho wh).toNat + 1)) (by omega) (by omega) (by omega) w_ac_int dX5_joined_42 ?_
      refine e_astore F dX5_joined_44 (by decide) ?_
      refine e_iconst F dX5_joined_46 ?_
      refine e_istore F dX5_joined_47 (by decide) ?_
      have l1 : ∀ (N : Nat) (c : Nat) (wl : e_W) (f1 : Int → Int) (nl : Nat), 9 - c < N → ((c : Int) ≤ ho wh + 1 ∧ wl n = some (e_ia ((ho wh).toNat + 1) f1) ∧ (∀ u : Int, 0 ≤ u → u < ((((ho wh).toNat + 1) : Nat) : Int) → -1 ≤ f1 u ∧ f1 u < pr wh) ∧ (∀ u : Int, 1 ≤ u → u < (c : Int) → f1 u = (joR wh s9 (R i) (R j)).A u) ∧ (∀ q, q ≠ n → wl q = w q) ∧ n < nl) → e_V K P9 l E9 (4) (2) S9 M9 A9 B9 T9 C9 9 (fun r w' n' => FM w w' y n ∧ r = some (.int (eI (if (R i).dg = -1 ∨ (R j).dg = -1 then (-9, R) else (bc (st7 (joR wh s9 (R i) (R j)).A), updR R t9 (joR wh s9 (R i) (R j)))).1)) ∧ MW w' y wh kn t (if (R i).dg = -1 ∨ (R j).dg = -1 then (-9, R) else (bc (st7 (joR wh s9 (R i) (R j)).A), updR R t9 (joR wh s9 (R i) (R j)))).2) (e_px0) 49 [(0, .ref y), (1, .int (eI (i : Int))), (2, .int (eI (j : Int))), (3, .int (eI (t9 : Int))), (4, .int (eI s9)), (5, .int (eI (if (R i).dg < (R j).dg then (R j).dg else (R i).dg))), (6, .ref n), (7, .int (eI (c : Int)))] [] wl nl (1) := by
        intro N
        induction N with
        | zero => intro c wl f1 nl hN; exact absurd hN (Nat.not_lt_zero _)
        | succ N ih =>
          intro c wl f1 nl hN ⟨hc, gn0, gr1, ge1, gf, gnl⟩
          have e9 : (joR wh s9 (R i) (R j)).dg = (if (R i).dg < (R j).dg then (R j).dg else (R i).dg) := rfl
          have gY2 : wl y = some (MO y t wh kn) := (gf y (by omega)).trans hY
          have gS2 : wl (y + 2) = some (e_ra 6 SS) := (gf _ (by omega)).trans hS
          have gP2 : wl (y + 3) = some (e_ra 6 PP) := (gf _ (by omega)).trans hP
          have ha2 : wl a = some (e_ia ((ho wh).toNat + 1) f) := (gf _ (by omega)).trans hwa
          have hb2 : wl b = some (e_ia ((ho wh).toNat + 1) g) := (gf _ (by omega)).trans hwb
          have gM2 : MW wl y wh kn t R := hM.to (fun q e q1 => by rw [gf q (by have := hdom q e q1; omega)]; exact q1)
          refine e_iload F dX5_joined_49 rfl ?_
          refine e_aload F dX5_joined_51 rfl ?_
          refine e_alenI F gn0 dX5_joined_53 ?_
          refine e_icmp_ge F 126 dX5_joined_54 (by decide) (⟨by omega, by omega⟩) (⟨by omega, by omega⟩) (fun c_54 => ?_) (fun c_54 => ?_)
          ·
            obtain rfl : c = (ho wh).toNat + 1 := by omega
            refine e_dom ?_
            intro gdm
            rcases MD.pw (hMD i hi) with ⟨hp0, hPn⟩ | ⟨hp1, ⟨pa, pf, hPb, hypa, hwpa, hpfr, hpfE⟩, hd0⟩
            ·
              refine e_aload_n F dX5_joined_126 rfl ?_
              refine e_get (ci := 5) (fi := 5) (q := (RX5, TX5, 6)) F gY2 rfl (by decide) w_fl_RX5_22 (by rfl) dX5_joined_127 ?_
              refine e_iload_n F dX5_joined_130 rfl ?_
              refine e_aaldn F gP2 (by omega) (by omega) (by decide) (hPn) dX5_joined_131 ?_
              refine e_ifnullN F 144 dX5_joined_132 (by decide) ?_
              refine e_null F dX5_joined_144 ?_
              refine e_goto F 154 dX5_joined_145 (by decide) ?_
              refine e_astoreN F dX5_joined_154 (by decide) ?_
              refine e_iconst F dX5_joined_156 ?_
              refine e_istore F dX5_joined_157 (by decide) ?_
              refine e_aloadN F dX5_joined_159 rfl ?_
              refine e_ifnullN F 214 dX5_joined_161 (by decide) ?_
              refine e_aload_n F dX5_joined_214 rfl ?_
              refine e_iload_n F dX5_joined_215 rfl ?_
              refine e_iload F dX5_joined_216 rfl ?_
              refine e_aload F dX5_joined_218 rfl ?_
              refine e_aloadN F dX5_joined_220 rfl ?_
              refine e_callVV F u_X5_lay (by rfl) (c_X5_layRN gM2 ht (r := (joR wh s9 (R i) (R j))) (row_MD (joR_dg wh s9 (by omega) (by omega)) (by omega) gn0 gr1 (fun u j0 j1 => ge1 u j0 (by omega)) (Or.inl ⟨if_neg (by omega), rfl⟩)) (joR_RV hwh (hRV i hi) (by omega) (by omega))) gM2.1 rfl rfl w_ml_RX5_140 dX5_joined_222 (by rfl) (Nat.le_of_ble_eq_true rfl) (by decide) (by omega) (fun _ _ _ h _ => False.elim h) (fun r_222 w_222 n_222 h_222 hn_222 => ?_)
              obtain ⟨rfl, en_222, gM3, gF3⟩ := h_222
              refine e_iret F rfl (by omega) ?_ dX5_joined_225
              rw [if_neg (show ¬ ((R i).dg = -1 ∨ (R j).dg = -1) by omega)]
              exact ⟨FM.tr (n1 := nl) (fun q q1 q2 => gf q (by omega)) (by omega) gF3, rfl, gM3⟩
            · have hpan := hdom _ _ hwpa
              rcases MD.pw (hMD j hj) with ⟨hq0, hQn⟩ | ⟨hq1, ⟨pb, pg, hQb, hypb, hwpb, hpgr, hpgE⟩, hd1⟩
              ·
                refine e_aload_n F dX5_joined_126 rfl ?_
                refine e_get (ci := 5) (fi := 5) (q := (RX5, TX5, 6)) F gY2 rfl (by decide) w_fl_RX5_22 (by rfl) dX5_joined_127 ?_
                refine e_iload_n F dX5_joined_130 rfl ?_
                refine e_aaldr F gP2 (by omega) (by omega) (by decide) (hPb) dX5_joined_131 ?_
                refine e_ifnull F dX5_joined_132 ?_
                refine e_aload_n F dX5_joined_135 rfl ?_
                refine e_get (ci := 5) (fi := 5) (q := (RX5, TX5, 6)) F gY2 rfl (by decide) w_fl_RX5_22 (by rfl) dX5_joined_136 ?_
                refine e_iload_n F dX5_joined_139 rfl ?_
                refine e_aaldn F gP2 (by omega) (by omega) (by decide) (hQn) dX5_joined_140 ?_
                refine e_ifnonnullN F dX5_joined_141 ?_
                refine e_null F dX5_joined_144 ?_
                refine e_goto F 154 dX5_joined_145 (by decide) ?_
                refine e_astoreN F dX5_joined_154 (by decide) ?_
                refine e_iconst F dX5_joined_156 ?_
                refine e_istore F dX5_joined_157 (by decide) ?_
                refine e_aloadN F dX5_joined_159 rfl ?_
                refine e_ifnullN F 214 dX5_joined_161 (by decide) ?_
                refine e_aload_n F dX5_joined_214 rfl ?_
                refine e_iload_n F dX5_joined_215 rfl ?_
                refine e_iload F dX5_joined_216 rfl ?_
                refine e_aload F dX5_joined_218 rfl ?_
                refine e_aloadN F dX5_joined_220 rfl ?_
                refine e_callVV F u_X5_lay (by rfl) (c_X5_layRN gM2 ht (r := (joR wh s9 (R i) (R j))) (row_MD (joR_dg wh s9 (by omega) (by omega)) (by omega) gn0 gr1 (fun u j0 j1 => ge1 u j0 (by omega)) (Or.inl ⟨if_neg (by omega), rfl⟩)) (joR_RV hwh (hRV i hi) (by omega) (by omega))) gM2.1 rfl rfl w_ml_RX5_140 dX5_joined_222 (by rfl) (Nat.le_of_ble_eq_true rfl) (by decide) (by omega) (fun _ _ _ h _ => False.elim h) (fun r_222 w_222 n_222 h_222 hn_222 => ?_)
                obtain ⟨rfl, en_222, gM3, gF3⟩ := h_222
                refine e_iret F rfl (by omega) ?_ dX5_joined_225
                rw [if_neg (show ¬ ((R i).dg = -1 ∨ (R j).dg = -1) by omega)]
                exact ⟨FM.tr (n1 := nl) (fun q q1 q2 => gf q (by omega)) (by omega) gF3, rfl, gM3⟩
              · have hpbn := hdom _ _ hwpb
                have l2 : ∀ (N : Nat) (c2 : Nat) (w2 : e_W) (g1 : Int → Int) (nm : Nat), 8 - c2 < N → ((c2 : Int) ≤ (if (R i).dg < (R j).dg then (R j).dg else (R i).dg) + 1 ∧ w2 nl = some (e_ia ((if (R i).dg < (R j).dg then (R j).dg else (R i).dg).toNat + 1) g1) ∧ (∀ u : Int, 0 ≤ u → u < (c2 : Int) → g1 u = (joR wh s9 (R i) (R j)).E u) ∧ (∀ q, q ≠ nl → w2 q = wl q) ∧ nl < nm) → e_V K P9 l E9 (4) (2) S9 M9 A9 B9 T9 C9 9 (fun r w' n' => FM w w' y n ∧ r = some (.int (eI (if (R i).dg = -1 ∨ (R j).dg = -1 then (-9, R) else (bc (st7 (joR wh s9 (R i) (R j)).A), updR R t9 (joR wh s9 (R i) (R j)))).1)) ∧ MW w' y wh kn t (if (R i).dg = -1 ∨ (R j).dg = -1 then (-9, R) else (bc (st7 (joR wh s9 (R i) (R j)).A), updR R t9 (joR wh s9 (R i) (R j)))).2) (e_px0) 159 [(0, .ref y), (1, .int (eI (i : Int))), (2, .int (eI (j : Int))), (3, .int (eI (t9 : Int))), (4, .int (eI s9)), (5, .int (eI (if (R i).dg < (R j).dg then (R j).dg else (R i).dg))), (6, .ref n), (7, .ref nl), (8, .int (eI (c2 : Int)))] [] w2 nm (2) := by
                  intro N
                  induction N with
                  | zero => intro c2 w2 g1 nm hN; exact absurd hN (Nat.not_lt_zero _)
                  | succ N ih =>
                    intro c2 w2 g1 nm hN ⟨hc2, un2, ges, gf2, gnm⟩
                    have uY : w2 y = some (MO y t wh kn) := (gf2 y (by omega)).trans gY2
                    have uP : w2 (y + 3) = some (e_ra 6 PP) := (gf2 _ (by omega)).trans gP2
                    have ua : w2 pa = some (e_ia ((R i).dg.toNat + 1) pf) := (gf2 _ (by omega)).trans ((gf _ (by omega)).trans hwpa)
                    have ub : w2 pb = some (e_ia ((R j).dg.toNat + 1) pg) := (gf2 _ (by omega)).trans ((gf _ (by omega)).trans hwpb)
                    have un : w2 n = some (e_ia ((ho wh).toNat + 1) f1) := (gf2 _ (by omega)).trans gn0
                    have uM : MW w2 y wh kn t R := gM2.to (fun q e q1 => by rw [gf2 q (by intro z; subst z; have := gdm q e q1; omega)]; exact q1)
                    have hcc : 0 ≤ (if (R i).dg < (R j).dg then (R j).dg else (R i).dg) ∧ (if (R i).dg < (R j).dg then (R j).dg else (R i).dg) ≤ 6 := by split <;> omega
                    refine e_aload F dX5_joined_159 rfl ?_
                    refine e_ifnull F dX5_joined_161 ?_
                    refine e_iload F dX5_joined_164 rfl ?_
                    refine e_iload F dX5_joined_166 rfl ?_
                    refine e_icmp_gt F 214 dX5_joined_168 (by decide) (⟨by omega, by omega⟩) (⟨by omega, by omega⟩) (fun c_168 => ?_) (fun c_168 => ?_)
                    · refine e_aload_n F dX5_joined_214 rfl ?_
                      refine e_iload_n F dX5_joined_215 rfl ?_
                      refine e_iload F dX5_joined_216 rfl ?_
                      refine e_aload F dX5_joined_218 rfl ?_
                      refine e_aload F dX5_joined_220 rfl ?_
                      refine e_callVV F u_X5_lay (by rfl) (c_X5_layRR uM ht (r := (joR wh s9 (R i) (R j))) (row_MD (joR_dg wh s9 (by omega) (by omega)) (by omega) un gr1 (fun u j0 j1 => ge1 u j0 (by omega)) (Or.inr ⟨if_pos ⟨hp1, hq1⟩, nl, g1, rfl, by omega, un2, fun u j0 j1 => by rw [ges u j0 (by omega)]; have := emod_rg (ofE (R i) u + s9 * ofE (R j) u) hwh; show -1 ≤ (ofE (R i) u + s9 * ofE (R j) u) % pr wh ∧ (ofE (R i) u + s9 * ofE (R j) u) % pr wh < pr wh; exact ⟨by omega, this.2⟩, fun u j0 j1 => ges u j0 (by omega)⟩)) (joR_RV hwh (hRV i hi) (by omega) (by omega))) uM.1 rfl rfl w_ml_RX5_140 dX5_joined_222 (by rfl) (Nat.le_of_ble_eq_true rfl) (by decide) (by omega) (fun _ _ _ h _ => False.elim h) (fun r_222 w_222 n_222 h_222 hn_222 => ?_)
                      obtain ⟨rfl, en_222, gM3, gF3⟩ := h_222
                      refine e_iret F rfl (by omega) ?_ dX5_joined_225
                      rw [if_neg (show ¬ ((R i).dg = -1 ∨ (R j).dg = -1) by omega)]
                      exact ⟨FM.tr (n1 := nm) (fun q q1 q2 => (gf2 q (by omega)).trans (gf q (by omega))) (by omega) gF3, rfl, gM3⟩
                    ·
                      have E1 : (if (c2 : Int) < (((R i).dg.toNat + 1 : Nat) : Int) then pf (c2 : Int) else 0) = ofE (R i) (c2 : Int) := by
                        unfold ofE
                        by_cases q : (c2 : Int) ≤ (R i).dg
                        · rw [if_pos (by omega), if_pos q]; exact hpfE _ (by omega) (by omega)
                        · rw [if_neg (by omega), if_neg q]
                      have E2 : (if (c2 : Int) < (((R j).dg.toNat + 1 : Nat) : Int) then pg (c2 : Int) else 0) = ofE (R j) (c2 : Int) := by
                        unfold ofE
                        by_cases q : (c2 : Int) ≤ (R j).dg
                        · rw [if_pos (by omega), if_pos q]; exact hpgE _ (by omega) (by omega)
                        · rw [if_neg (by omega), if_neg q]
                      have O1 := ofE_rg hwh (hRV i hi) hp1 (k := (c2 : Int)) (by omega)
                      have O2 := ofE_rg hwh (hRV j hj) hq1 (k := (c2 : Int)) (by omega)
                      have O3 : -1000003 ≤ s9 * ofE (R j) (c2 : Int) ∧ s9 * ofE (R j) (c2 : Int) ≤ 1000003 := by rcases hs with z | z <;> rw [z] <;> omega
                      refine e_aload F dX5_joined_171 rfl ?_
                      refine e_iload F dX5_joined_173 rfl ?_
                      refine e_aload_n F dX5_joined_175 rfl ?_
                      refine e_aload_n F dX5_joined_176 rfl ?_
                      refine e_get (ci := 5) (fi := 5) (q := (RX5, TX5, 6)) F uY rfl (by decide) w_fl_RX5_22 (by rfl) dX5_joined_177 ?_
                      refine e_iload_n F dX5_joined_180 rfl ?_
                      refine e_aaldr F uP (by omega) (by omega) (by decide) (hPb) dX5_joined_181 ?_
                      refine e_iload F dX5_joined_182 rfl ?_
                      refine e_callSS F u_X5_of (by rfl) (c_X5_of ua (by omega) (k9 := (c2 : Int)) (by omega) (by omega)) w_ml_RX5_151 dX5_joined_184 (by rfl) (Nat.le_of_ble_eq_true rfl) (by decide) (by omega) (fun _ _ _ h _ => False.elim h) (fun r_184 w_184 n_184 h_184 hn_184 => ?_)
                      obtain ⟨rfl, ew_184, en_184⟩ := h_184
                      rw [ew_184, en_184, E1]
                      refine e_i2l F dX5_joined_187 (⟨by omega, by omega⟩) ?_
                      refine e_iload F dX5_joined_188 rfl ?_
                      refine e_aload_n F dX5_joined_190 rfl ?_
                      refine e_get (ci := 5) (fi := 5) (q := (RX5, TX5, 6)) F uY rfl (by decide) w_fl_RX5_22 (by rfl) dX5_joined_191 ?_
                      refine e_iload_n F dX5_joined_194 rfl ?_
                      refine e_aaldr F uP (by omega) (by omega) (by decide) (hQb) dX5_joined_195 ?_
                      refine e_iload F dX5_joined_196 rfl ?_
                      refine e_callSS F u_X5_of (by rfl) (c_X5_of ub (by omega) (k9 := (c2 : Int)) (by omega) (by omega)) w_ml_RX5_151 dX5_joined_198 (by rfl) (Nat.le_of_ble_eq_true rfl) (by decide) (by omega) (fun _ _ _ h _ => False.elim h) (fun r_198 w_198 n_198 h_198 hn_198 => ?_)
                      obtain ⟨rfl, ew_198, en_198⟩ := h_198
                      rw [ew_198, en_198, E2]
                      refine e_imul F dX5_joined_201 ?_
                      refine e_i2l F dX5_joined_202 (⟨by omega, by omega⟩) ?_
                      refine e_ladd F dX5_joined_203 ?_
                      refine e_callVV F u_X5_mod (by rfl) (c_X5_mod uY hwh (by constructor <;> omega)) uY rfl rfl w_ml_RX5_55 dX5_joined_204 (by rfl) (Nat.le_of_ble_eq_true rfl) (by decide) (by omega) (fun _ _ _ h _ => False.elim h) (fun r_204 w_204 n_204 h_204 hn_204 => ?_)
                      obtain ⟨rfl, ew_204, en_204⟩ := h_204
                      rw [ew_204, en_204]
                      refine e_iast F un2 (by omega) (by omega) (by first | decide | omega) dX5_joined_207 ?_
                      refine e_iinc F dX5_joined_208 rfl (by decide) ?_
                      refine e_goto F 159 dX5_joined_211 (by decide) ?_
                      refine e_go (ih (c2 + 1) _ _ nm (by omega) ⟨by omega, e_up_s, fun j j0 j1 => ?_, fun q q1 => by rw [e_up_n q1]; exact gf2 q q1, gnm⟩) ?_
                      · unfold e_fu
                        by_cases e8 : j = (c2 : Int)
                        · rw [if_pos e8, e8]; rfl
                        · rw [if_neg e8]; exact ges j j0 (by omega)
                      · exact (And.intro rfl (And.intro rfl (And.intro rfl (And.intro rfl (And.intro rfl (And.intro rfl (And.intro rfl (And.intro rfl (And.intro rfl (trivial))))))))))
                refine e_aload_n F dX5_joined_126 rfl ?_
                refine e_get (ci := 5) (fi := 5) (q := (RX5, TX5, 6)) F gY2 rfl (by decide) w_fl_RX5_22 (by rfl) dX5_joined_127 ?_
                refine e_iload_n F dX5_joined_130 rfl ?_
                refine e_aaldr F gP2 (by omega) (by omega) (by decide) (hPb) dX5_joined_131 ?_
                refine e_ifnull F dX5_joined_132 ?_
                refine e_aload_n F dX5_joined_135 rfl ?_
                refine e_get (ci := 5) (fi := 5) (q := (RX5, TX5, 6)) F gY2 rfl (by decide) w_fl_RX5_22 (by rfl) dX5_joined_136 ?_
                refine e_iload_n F dX5_joined_139 rfl ?_
                refine e_aaldr F gP2 (by omega) (by omega) (by decide) (hQb) dX5_joined_140 ?_
                refine e_ifnonnull F 148 dX5_joined_141 (by decide) ?_
                refine e_iload F dX5_joined_148 rfl ?_
                refine e_iconst F dX5_joined_150 ?_
                refine e_iadd F dX5_joined_151 ?_
                refine e_newI F (N := ((if (R i).dg < (R j).dg then (R j).dg else (R i).dg).toNat + 1)) (by split <;> omega) (by split <;> omega) (by omega) w_ac_int dX5_joined_152 ?_
                refine e_astore F dX5_joined_154 (by decide) ?_
                refine e_iconst F dX5_joined_156 ?_
                refine e_istore F dX5_joined_157 (by decide) ?_
                exact e_go (l2 9 0 _ (fun _ => 0) _ (by omega) ⟨by split <;> omega, e_up_s, fun j j0 j1 => by omega, fun q q1 => e_up_n q1, by omega⟩) (And.intro rfl (And.intro rfl (And.intro rfl (And.intro rfl (And.intro rfl (And.intro rfl (And.intro rfl (And.intro rfl (And.intro rfl (trivial))))))))))
          ·
            have hfr9 := hfr (c : Int) (by omega) (by omega)
            have hgr9 := hgr (c : Int) (by omega) (by omega)
            have ea : 1 ≤ c → f (c : Int) = (R i).A (c : Int) := fun q => hfA _ (by omega) (by omega)
            have eb : 1 ≤ c → g (c : Int) = (R j).A (c : Int) := fun q => hgA _ (by omega) (by omega)
            refine e_aload F dX5_joined_57 rfl ?_
            refine e_iload F dX5_joined_59 rfl ?_
            refine e_aload_n F dX5_joined_61 rfl ?_
            refine e_get (ci := 5) (fi := 4) (q := (RX5, TX5, 6)) F gY2 rfl (by decide) w_fl_RX5_18 (by rfl) dX5_joined_62 ?_
            refine e_iload_n F dX5_joined_65 rfl ?_
            refine e_aaldr F gS2 (by omega) (by omega) (by decide) (hSa) dX5_joined_66 ?_
            refine e_iload F dX5_joined_67 rfl ?_
            refine e_iald F ha2 (by omega) (by omega) (by first | decide | omega) dX5_joined_69 ?_
            refine e_iconst F dX5_joined_70 ?_
            refine e_icmp_eq F 87 dX5_joined_71 (by decide) (⟨by omega, by omega⟩) (⟨by omega, by omega⟩) (fun c_71 => ?_) (fun c_71 => ?_)
            · refine e_iconst F dX5_joined_87 ?_
              refine e_goto F 119 dX5_joined_88 (by decide) ?_
              refine e_iast F gn0 (by omega) (by omega) (by first | decide | omega) dX5_joined_119 ?_
              refine e_iinc F dX5_joined_120 rfl (by decide) ?_
              refine e_goto F 49 dX5_joined_123 (by decide) ?_
              first
              | (refine e_go (ih (c + 1) _ _ nl (by omega) ⟨by omega, e_up_s, fun j j0 j1 => ?_, fun j j0 j1 => ?_, fun q q1 => by rw [e_up_n q1]; exact gf q q1, gnl⟩) ?_
                 · unfold e_fu
                   split
                   · omega
                   · exact gr1 j j0 j1
                 · unfold e_fu
                   by_cases e8 : j = (c : Int)
                   · have ec : 1 ≤ c := by omega
                     have eac := ea ec
                     have ebc := eb ec
                     rw [if_pos e8, e8]
                     show _ = if (R i).A (c : Int) = -1 ∨ (R _).A (c : Int) = -1 then -1 else ((R i).A (c : Int) + s9 * (R _).A (c : Int)) % pr wh
                     rw [← eac, ← ebc, if_neg (show ¬ (f (c : Int) = -1 ∨ g (c : Int) = -1) by omega)]
                   · rw [if_neg e8]
                     exact ge1 j j0 (by omega)
                 · exact (And.intro rfl (And.intro rfl (And.intro rfl (And.intro rfl (And.intro rfl (And.intro rfl (And.intro rfl (And.intro rfl (trivial))))))))))
              | (refine e_go (ih (c + 1) _ _ nl (by omega) ⟨by omega, e_up_s, fun j j0 j1 => ?_, fun j j0 j1 => ?_, fun q q1 => by rw [e_up_n q1]; exact gf q q1, gnl⟩) ?_
                 · unfold e_fu
                   split
                   · omega
                   · exact gr1 j j0 j1
                 · unfold e_fu
                   by_cases e8 : j = (c : Int)
                   · have ec : 1 ≤ c := by omega
                     have eac := ea ec
                     have ebc := eb ec
                     rw [if_pos e8, e8]
                     show _ = if (R i).A (c : Int) = -1 ∨ (R _).A (c : Int) = -1 then -1 else ((R i).A (c : Int) + s9 * (R _).A (c : Int)) % pr wh
                     rw [← eac, ← ebc, if_pos (show f (c : Int) = -1 ∨ g (c : Int) = -1 by omega)]
                   · rw [if_neg e8]
                     exact ge1 j j0 (by omega)
                 · exact (And.intro rfl (And.intro rfl (And.intro rfl (And.intro rfl (And.intro rfl (And.intro rfl (And.intro rfl (And.intro rfl (trivial))))))))))
            · refine e_aload_n F dX5_joined_74 rfl ?_
              refine e_get (ci := 5) (fi := 4) (q := (RX5, TX5, 6)) F gY2 rfl (by decide) w_fl_RX5_18 (by rfl) dX5_joined_75 ?_
              refine e_iload_n F dX5_joined_78 rfl ?_
              refine e_aaldr F gS2 (by omega) (by omega) (by decide) (hSb) dX5_joined_79 ?_
              refine e_iload F dX5_joined_80 rfl ?_
              refine e_iald F hb2 (by omega) (by omega) (by first | decide | omega) dX5_joined_82 ?_
              refine e_iconst F dX5_joined_83 ?_
              refine e_icmp_ne F 91 dX5_joined_84 (by decide) (⟨by omega, by omega⟩) (⟨by omega, by omega⟩) (fun c_84 => ?_) (fun c_84 => ?_)
              ·
                have hsg : -1000003 ≤ s9 * g (c : Int) ∧ s9 * g (c : Int) ≤ 1000003 := by rcases hs with z | z <;> rw [z] <;> omega
                have hmv := emod_rg (f (c : Int) + s9 * g (c : Int)) hwh
                refine e_aload_n F dX5_joined_91 rfl ?_
                refine e_aload_n F dX5_joined_92 rfl ?_
                refine e_get (ci := 5) (fi := 4) (q := (RX5, TX5, 6)) F gY2 rfl (by decide) w_fl_RX5_18 (by rfl) dX5_joined_93 ?_
                refine e_iload_n F dX5_joined_96 rfl ?_
                refine e_aaldr F gS2 (by omega) (by omega) (by decide) (hSa) dX5_joined_97 ?_
                refine e_iload F dX5_joined_98 rfl ?_
                refine e_iald F ha2 (by omega) (by omega) (by first | decide | omega) dX5_joined_100 ?_
                refine e_i2l F dX5_joined_101 (⟨by omega, by omega⟩) ?_
                refine e_iload F dX5_joined_102 rfl ?_
                refine e_aload_n F dX5_joined_104 rfl ?_
                refine e_get (ci := 5) (fi := 4) (q := (RX5, TX5, 6)) F gY2 rfl (by decide) w_fl_RX5_18 (by rfl) dX5_joined_105 ?_
                refine e_iload_n F dX5_joined_108 rfl ?_
                refine e_aaldr F gS2 (by omega) (by omega) (by decide) (hSb) dX5_joined_109 ?_
                refine e_iload F dX5_joined_110 rfl ?_
                refine e_iald F hb2 (by omega) (by omega) (by first | decide | omega) dX5_joined_112 ?_
                refine e_imul F dX5_joined_113 ?_
                refine e_i2l F dX5_joined_114 (⟨by omega, by omega⟩) ?_
                refine e_ladd F dX5_joined_115 ?_
                refine e_callVV F u_X5_mod (by rfl) (c_X5_mod gY2 hwh (by constructor <;> omega)) gY2 rfl rfl w_ml_RX5_55 dX5_joined_116 (by rfl) (Nat.le_of_ble_eq_true rfl) (by decide) (by omega) (fun _ _ _ h _ => False.elim h) (fun r_116 w_116 n_116 h_116 hn_116 => ?_)
                obtain ⟨rfl, ew_116, en_116⟩ := h_116
                rw [ew_116, en_116]
                refine e_iast F gn0 (by omega) (by omega) (by first | decide | omega) dX5_joined_119 ?_
                refine e_iinc F dX5_joined_120 rfl (by decide) ?_
                refine e_goto F 49 dX5_joined_123 (by decide) ?_
                first
                | (refine e_go (ih (c + 1) _ _ nl (by omega) ⟨by omega, e_up_s, fun j j0 j1 => ?_, fun j j0 j1 => ?_, fun q q1 => by rw [e_up_n q1]; exact gf q q1, gnl⟩) ?_
                   · unfold e_fu
                     split
                     · omega
                     · exact gr1 j j0 j1
                   · unfold e_fu
                     by_cases e8 : j = (c : Int)
                     · have ec : 1 ≤ c := by omega
                       have eac := ea ec
                       have ebc := eb ec
                       rw [if_pos e8, e8]
                       show _ = if (R i).A (c : Int) = -1 ∨ (R _).A (c : Int) = -1 then -1 else ((R i).A (c : Int) + s9 * (R _).A (c : Int)) % pr wh
                       rw [← eac, ← ebc, if_neg (show ¬ (f (c : Int) = -1 ∨ g (c : Int) = -1) by omega)]
                     · rw [if_neg e8]
                       exact ge1 j j0 (by omega)
                   · exact (And.intro rfl (And.intro rfl (And.intro rfl (And.intro rfl (And.intro rfl (And.intro rfl (And.intro rfl (And.intro rfl (trivial))))))))))
                | (refine e_go (ih (c + 1) _ _ nl (by omega) ⟨by omega, e_up_s, fun j j0 j1 => ?_, fun j j0 j1 => ?_, fun q q1 => by rw [e_up_n q1]; exact gf q q1, gnl⟩) ?_
                   · unfold e_fu
                     split
                     · omega
                     · exact gr1 j j0 j1
                   · unfold e_fu
                     by_cases e8 : j = (c : Int)
                     · have ec : 1 ≤ c := by omega
                       have eac := ea ec
                       have ebc := eb ec
                       rw [if_pos e8, e8]
                       show _ = if (R i).A (c : Int) = -1 ∨ (R _).A (c : Int) = -1 then -1 else ((R i).A (c : Int) + s9 * (R _).A (c : Int)) % pr wh
                       rw [← eac, ← ebc, if_pos (show f (c : Int) = -1 ∨ g (c : Int) = -1 by omega)]
                     · rw [if_neg e8]
                       exact ge1 j j0 (by omega)
                   · exact (And.intro rfl (And.intro rfl (And.intro rfl (And.intro rfl (And.intro rfl (And.intro rfl (And.intro rfl (And.intro rfl (trivial))))))))))
              · refine e_iconst F dX5_joined_87 ?_
                refine e_goto F 119 dX5_joined_88 (by decide) ?_
                refine e_iast F gn0 (by omega) (by omega) (by first | decide | omega) dX5_joined_119 ?_
                refine e_iinc F dX5_joined_120 rfl (by decide) ?_
                refine e_goto F 49 dX5_joined_123 (by decide) ?_
                first
                | (refine e_go (ih (c + 1) _ _ nl (by omega) ⟨by omega, e_up_s, fun j j0 j1 => ?_, fun j j0 j1 => ?_, fun q q1 => by rw [e_up_n q1]; exact gf q q1, gnl⟩) ?_
                   · unfold e_fu
                     split
                     · omega
                     · exact gr1 j j0 j1
                   · unfold e_fu
                     by_cases e8 : j = (c : Int)
                     · have ec : 1 ≤ c := by omega
                       have eac := ea ec
                       have ebc := eb ec
                       rw [if_pos e8, e8]
                       show _ = if (R i).A (c : Int) = -1 ∨ (R _).A (c : Int) = -1 then -1 else ((R i).A (c : Int) + s9 * (R _).A (c : Int)) % pr wh
                       rw [← eac, ← ebc, if_neg (show ¬ (f (c : Int) = -1 ∨ g (c : Int) = -1) by omega)]
                     · rw [if_neg e8]
                       exact ge1 j j0 (by omega)
                   · exact (And.intro rfl (And.intro rfl (And.intro rfl (And.intro rfl (And.intro rfl (And.intro rfl (And.intro rfl (And.intro rfl (trivial))))))))))
                | (refine e_go (ih (c + 1) _ _ nl (by omega) ⟨by omega, e_up_s, fun j j0 j1 => ?_, fun j j0 j1 => ?_, fun q q1 => by rw [e_up_n q1]; exact gf q q1, gnl⟩) ?_
                   · unfold e_fu
                     split
                     · omega
                     · exact gr1 j j0 j1
                   · unfold e_fu
                     by_cases e8 : j = (c : Int)
                     · have ec : 1 ≤ c := by omega
                       have eac := ea ec
                       have ebc := eb ec
                       rw [if_pos e8, e8]
                       show _ = if (R i).A (c : Int) = -1 ∨ (R _).A (c : Int) = -1 then -1 else ((R i).A (c : Int) + s9 * (R _).A (c : Int)) % pr wh
                       rw [← eac, ← ebc, if_pos (show f (c : Int) = -1 ∨ g (c : Int) = -1 by omega)]
                     · rw [if_neg e8]
                       exact ge1 j j0 (by omega)
                   · exact (And.intro rfl (And.intro rfl (And.intro rfl (And.intro rfl (And.intro rfl (And.intro rfl (And.intro rfl (And.intro rfl (trivial))))))))))
      exact e_go (l1 10 0 _ (fun _ => 0) _ (by omega) ⟨by omega, e_up_s, fun j _ _ => by omega, fun j j0 j1 => by omega, fun q q1 => e_up_n q1, by omega⟩) (And.intro rfl (And.intro rfl (And.intro rfl (And.intro rfl (And.intro rfl (And.intro rfl (And.intro rfl (And.intro rfl (trivial)))))))))
    ·
      rw [b01_0, Classical.not_not] at c_13
      refine e_bipush F dX5_joined_16 (by decide) ?_
      refine e_iret F rfl (by omega) ?_ dX5_joined_18
      rw [if_pos (show (R i).dg = -1 ∨ (R j).dg = -1 by omega)]
      exact ⟨fun _ _ _ => rfl, rfl, hM⟩
set_option maxHeartbeats 4000000 in
set_option maxRecDepth 100000 in
theorem c_X5_plus {K : e_K} {l : Launch} {w : e_W} {n : Nat} {y wh : Nat} {t kn : Int} {R : Nat → RD} (hM : MW w y wh kn t R) {i9 : Int} (hi9 : e_r i9) {j9 : Int} (hj9 : e_r j9) {t9 : Int} (ht9 : e_r t9) : e_Met K l yX5_plus (Cond.code yX5_plus cX5_plus 4 (Option.some .int) :: e_TB) (5) (2) [.ref y, .int (eI i9), .int (eI j9), .int (eI t9)] w n (fun r w' n' => FM w w' y n ∧ ((¬ ((0 ≤ i9 ∧ i9 < 6) ∧ (0 ≤ j9 ∧ j9 < 6) ∧ (0 ≤ t9 ∧ t9 < 6)) ∧ r = some (.int (eI 0)) ∧ MW w' y wh kn 1 R) ∨ (((0 ≤ i9 ∧ i9 < 6) ∧ (0 ≤ j9 ∧ j9 < 6) ∧ (0 ≤ t9 ∧ t9 < 6)) ∧ r = some (.int (eI ((if (R i9.toNat).dg = -1 ∨ (R j9.toNat).dg = -1 then (-9, R) else (bc (st7 (joR wh 1 (R i9.toNat) (R j9.toNat)).A), updR R t9.toNat (joR wh 1 (R i9.toNat) (R j9.toNat)))).1))) ∧ MW w' y wh (kn) 0 ((if (R i9.toNat).dg = -1 ∨ (R j9.toNat).dg = -1 then (-9, R) else (bc (st7 (joR wh 1 (R i9.toNat) (R j9.toNat)).A), updR R t9.toNat (joR wh 1 (R i9.toNat) (R j9.toNat)))).2)))) (e_px0) := by
  refine e_ofV rfl (Nat.le_of_ble_eq_true rfl) ?_
  intro P9 E9 S9 M9 A9 B9 T9 C9 F hnm
  have hwh := hM.2.1
  have hY := hM.1
  have hp := pr_rg wh hwh
  have hho := ho_rg wh hwh
  have hf9 := fl_rg wh hwh
  refine e_aload_n F dX5_plus_0 rfl ?_
  refine e_aload_n F dX5_plus_1 rfl ?_
  refine e_iload_n F dX5_plus_2 rfl ?_
  refine e_iload_n F dX5_plus_3 rfl ?_
  refine e_iload_n F dX5_plus_4 rfl ?_
  refine e_callVV F u_X5_areNoDeals (by rfl) (c_X5_areNoDeals hi9 hj9 ht9) hY rfl rfl w_ml_RX5_154 dX5_plus_5 (by rfl) (Nat.le_of_ble_eq_true rfl) (by decide) (by omega) (fun _ _ _ h _ => False.elim h) (fun r_5 w_5 n_5 h_5 hn_5 => ?_)
  obtain ⟨rfl, ew_5, en_5⟩ := h_5
  rw [ew_5, en_5]
  refine e_iconst F dX5_plus_8 ?_
  refine e_callVV F u_X5_start (by rfl) (c_X5_start hY (b01_or _) (by decide) (by decide)) hY rfl rfl w_ml_RX5_69 dX5_plus_9 (by rfl) (Nat.le_of_ble_eq_true rfl) (by decide) (by omega) (fun _ _ _ h _ => False.elim h) (fun r_9 w_9 n_9 h_9 hn_9 => ?_)
  obtain ⟨rfl, en_9, ew_9⟩ := h_9
  rw [en_9, ew_9, st1]
  refine e_if_eq F 19 dX5_plus_12 (by decide) (b01_r _) (fun c_12 => ?_) (fun c_12 => ?_)
  ·
    rw [b01_0, Classical.not_not] at c_12
    rw [if_pos c_12]
    have gM := hM.th (t2 := 0) (kn2 := kn)
    have h_i := c_12
    obtain ⟨kt9, rfl⟩ : ∃ k : Nat, t9 = (k : Int) := ⟨t9.toNat, by omega⟩
    have hkt9 : kt9 < 6 := by omega
    rw [show ((kt9 : Nat) : Int).toNat = kt9 from rfl]
    obtain ⟨kj9, rfl⟩ : ∃ k : Nat, j9 = (k : Int) := ⟨j9.toNat, by omega⟩
    have hkj9 : kj9 < 6 := by omega
    rw [show ((kj9 : Nat) : Int).toNat = kj9 from rfl]
    obtain ⟨ki9, rfl⟩ : ∃ k : Nat, i9 = (k : Int) := ⟨i9.toNat, by omega⟩
    have hki9 : ki9 < 6 := by omega
    rw [show ((ki9 : Nat) : Int).toNat = ki9 from rfl]
    refine e_aload_n F dX5_plus_19 rfl ?_
    refine e_iload_n F dX5_plus_20 rfl ?_
    refine e_iload_n F dX5_plus_21 rfl ?_
    refine e_iload_n F dX5_plus_22 rfl ?_
    refine e_iconst F dX5_plus_23 ?_
    refine e_callVV F u_X5_joined (by rfl) (c_X5_joined gM hki9 hkj9 hkt9 (s9 := 1) (by decide)) gM.1 rfl rfl w_ml_RX5_157 dX5_plus_24 (by rfl) (Nat.le_of_ble_eq_true rfl) (by decide) (by omega) (fun _ _ _ h _ => False.elim h) (fun r_24 w_24 n_24 h_24 hn_24 => ?_)
    obtain ⟨gF3, rfl, gM3⟩ := h_24
    refine e_iret F rfl (by omega) ?_ dX5_plus_27
    first
    | exact ⟨FM.th, Or.inl ⟨c_12, rfl, hM.th⟩⟩
    | exact ⟨FM.th.tr (Nat.le_refl _) gF3, Or.inr ⟨h_i, rfl, gM3⟩⟩
  ·
    rw [b01_0, Classical.not_not] at c_12
    rw [if_neg c_12]
    refine e_iconst F dX5_plus_15 ?_
    refine e_goto F 27 dX5_plus_16 (by decide) ?_
    refine e_iret F rfl (by omega) ?_ dX5_plus_27
    first
    | exact ⟨FM.th, Or.inl ⟨c_12, rfl, hM.th⟩⟩
    | exact ⟨FM.th.tr (Nat.le_refl _) gF3, Or.inr ⟨h_i, rfl, gM3⟩⟩
set_option maxHeartbeats 4000000 in
set_option maxRecDepth 100000 in
theorem c_X5_less {K : e_K} {l : Launch} {w : e_W} {n : Nat} {y wh : Nat} {t kn : Int} {R : Nat → RD} (hM : MW w y wh kn t R) {i9 : Int} (hi9 : e_r i9) {j9 : Int} (hj9 : e_r j9) {t9 : Int} (ht9 : e_r t9) : e_Met K l yX5_less (Cond.code yX5_less cX5_less 4 (Option.some .int) :: e_TB) (5) (2) [.ref y, .int (eI i9), .int (eI j9), .int (eI t9)] w n (fun r w' n' => FM w w' y n ∧ ((¬ ((0 ≤ i9 ∧ i9 < 6) ∧ (0 ≤ j9 ∧ j9 < 6) ∧ (0 ≤ t9 ∧ t9 < 6)) ∧ r = some (.int (eI 0)) ∧ MW w' y wh kn 1 R) ∨ (((0 ≤ i9 ∧ i9 < 6) ∧ (0 ≤ j9 ∧ j9 < 6) ∧ (0 ≤ t9 ∧ t9 < 6)) ∧ r = some (.int (eI ((if (R i9.toNat).dg = -1 ∨ (R j9.toNat).dg = -1 then (-9, R) else (bc (st7 (joR wh (-1) (R i9.toNat) (R j9.toNat)).A), updR R t9.toNat (joR wh (-1) (R i9.toNat) (R j9.toNat)))).1))) ∧ MW w' y wh (kn) 0 ((if (R i9.toNat).dg = -1 ∨ (R j9.toNat).dg = -1 then (-9, R) else (bc (st7 (joR wh (-1) (R i9.toNat) (R j9.toNat)).A), updR R t9.toNat (joR wh (-1) (R i9.toNat) (R j9.toNat)))).2)))) (e_px0) := by
  refine e_ofV rfl (Nat.le_of_ble_eq_true rfl) ?_
  intro P9 E9 S9 M9 A9 B9 T9 C9 F hnm
  have hwh := hM.2.1
  have hY := hM.1
  have hp := pr_rg wh hwh
  have hho := ho_rg wh hwh
  have hf9 := fl_rg wh hwh
  refine e_aload_n F dX5_less_0 rfl ?_
  refine e_aload_n F dX5_less_1 rfl ?_
  refine e_iload_n F dX5_less_2 rfl ?_
  refine e_iload_n F dX5_less_3 rfl ?_
  refine e_iload_n F dX5_less_4 rfl ?_
  refine e_callVV F u_X5_areNoDeals (by rfl) (c_X5_areNoDeals hi9 hj9 ht9) hY rfl rfl w_ml_RX5_154 dX5_less_5 (by rfl) (Nat.le_of_ble_eq_true rfl) (by decide) (by omega) (fun _ _ _ h _ => False.elim h) (fun r_5 w_5 n_5 h_5 hn_5 => ?_)
  obtain ⟨rfl, ew_5, en_5⟩ := h_5
  rw [ew_5, en_5]
  refine e_iconst F dX5_less_8 ?_
  refine e_callVV F u_X5_start (by rfl) (c_X5_start hY (b01_or _) (by decide) (by decide)) hY rfl rfl w_ml_RX5_69 dX5_less_9 (by rfl) (Nat.le_of_ble_eq_true rfl) (by decide) (by omega) (fun _ _ _ h _ => False.elim h) (fun r_9 w_9 n_9 h_9 hn_9 => ?_)
  obtain ⟨rfl, en_9, ew_9⟩ := h_9
  rw [en_9, ew_9, st1]
  refine e_if_eq F 19 dX5_less_12 (by decide) (b01_r _) (fun c_12 => ?_) (fun c_12 => ?_)
  ·
    rw [b01_0, Classical.not_not] at c_12
    rw [if_pos c_12]
    have gM := hM.th (t2 := 0) (kn2 := kn)
    have h_i := c_12
    obtain ⟨kt9, rfl⟩ : ∃ k : Nat, t9 = (k : Int) := ⟨t9.toNat, by omega⟩
    have hkt9 : kt9 < 6 := by omega
    rw [show ((kt9 : Nat) : Int).toNat = kt9 from rfl]
    obtain ⟨kj9, rfl⟩ : ∃ k : Nat, j9 = (k : Int) := ⟨j9.toNat, by omega⟩
    have hkj9 : kj9 < 6 := by omega
    rw [show ((kj9 : Nat) : Int).toNat = kj9 from rfl]
    obtain ⟨ki9, rfl⟩ : ∃ k : Nat, i9 = (k : Int) := ⟨i9.toNat, by omega⟩
    have hki9 : ki9 < 6 := by omega
    rw [show ((ki9 : Nat) : Int).toNat = ki9 from rfl]
    refine e_aload_n F dX5_less_19 rfl ?_
    refine e_iload_n F dX5_less_20 rfl ?_
    refine e_iload_n F dX5_less_21 rfl ?_
    refine e_iload_n F dX5_less_22 rfl ?_
    refine e_iconst F dX5_less_23 ?_
    refine e_callVV F u_X5_joined (by rfl) (c_X5_joined gM hki9 hkj9 hkt9 (s9 := (-1)) (by decide)) gM.1 rfl rfl w_ml_RX5_157 dX5_less_24 (by rfl) (Nat.le_of_ble_eq_true rfl) (by decide) (by omega) (fun _ _ _ h _ => False.elim h) (fun r_24 w_24 n_24 h_24 hn_24 => ?_)
    obtain ⟨gF3, rfl, gM3⟩ := h_24
    refine e_iret F rfl (by omega) ?_ dX5_less_27
    first
    | exact ⟨FM.th, Or.inl ⟨c_12, rfl, hM.th⟩⟩
    | exact ⟨FM.th.tr (Nat.le_refl _) gF3, Or.inr ⟨h_i, rfl, gM3⟩⟩
  ·
    rw [b01_0, Classical.not_not] at c_12
    rw [if_neg c_12]
    refine e_iconst F dX5_less_15 ?_
    refine e_goto F 27 dX5_less_16 (by decide) ?_
    refine e_iret F rfl (by omega) ?_ dX5_less_27
    first
    | exact ⟨FM.th, Or.inl ⟨c_12, rfl, hM.th⟩⟩
    | exact ⟨FM.th.tr (Nat.le_refl _) gF3, Or.inr ⟨h_i, rfl, gM3⟩⟩
end
-- 56.pour.lean.txt
section
/-! the reference: pour, handOn -/
def hnP (wh : Nat) (set : Int) (A : Int → Int) (a b : Int) : Int → Int := fun k => if k = 0 then atV wh set A 0 else atV wh set (fun h => (a * h + b * k) % pr wh) 0
theorem hnP_rg {wh : Nat} (hwh : wh < 7) (set : Int) (A : Int → Int) (a b k : Int) : 0 ≤ hnP wh set A a b k ∧ hnP wh set A a b k < pr wh := by
  unfold hnP
  split
  · exact atV_rg hwh _ _ _
  · exact atV_rg hwh _ _ _
theorem mulS_rg {a h : Int} (ha : e_r a) (h0 : 0 ≤ h) (h1 : h ≤ 8) : -17179869184 ≤ a * h ∧ a * h ≤ 17179869184 := by
  obtain ⟨a1, a2⟩ := ha
  rcases (show h = 0 ∨ h = 1 ∨ h = 2 ∨ h = 3 ∨ h = 4 ∨ h = 5 ∨ h = 6 ∨ h = 7 ∨ h = 8 by omega) with z | z | z | z | z | z | z | z | z <;> subst z <;> omega
set_option maxHeartbeats 4000000 in
set_option maxRecDepth 100000 in
theorem c_X5_pour {K : e_K} {l : Launch} {w : e_W} {n : Nat} {y wh : Nat} {t kn : Int} {R : Nat → RD} (hM : MW w y wh kn t R) {i9 : Int} (hi9 : e_r i9) {a9 : Int} (ha9 : e_r a9) {b9 : Int} (hb9 : e_r b9) {c9 : Int} (hc9 : e_r c9) {d9 : Int} (hd9 : e_r d9) : e_Met K l yX5_pour (Cond.code yX5_pour cX5_pour 10 (Option.some .int) :: e_TB) (4) (4) [.ref y, .int (eI i9), .int (eI a9), .int (eI b9), .int (eI c9), .int (eI d9)] w n (fun r w' n' => FM w w' y n ∧ ((¬ (0 ≤ i9 ∧ i9 < 6) ∧ r = some (.int (eI 0)) ∧ MW w' y wh kn 1 R) ∨ ((0 ≤ i9 ∧ i9 < 6) ∧ r = some (.int (eI ((if (R i9.toNat).dg = -1 then (-9, R) else (bc (st7 (poR wh (R i9.toNat) (bcm (pr wh) (R i9.toNat).dg a9 b9 c9 d9)).A), updR R i9.toNat (poR wh (R i9.toNat) (bcm (pr wh) (R i9.toNat).dg a9 b9 c9 d9)))).1))) ∧ MW w' y wh (kn) 0 ((if (R i9.toNat).dg = -1 then (-9, R) else (bc (st7 (poR wh (R i9.toNat) (bcm (pr wh) (R i9.toNat).dg a9 b9 c9 d9)).A), updR R i9.toNat (poR wh (R i9.toNat) (bcm (pr wh) (R i9.toNat).dg a9 b9 c9 d9)))).2)))) (e_px0) := by
  refine e_ofV rfl (Nat.le_of_ble_eq_true rfl) ?_
  intro P9 E9 S9 M9 A9 B9 T9 C9 F hnm
  have hwh := hM.2.1
  have hY := hM.1
  have hp := pr_rg wh hwh
  have hho := ho_rg wh hwh
  have hf9 := fl_rg wh hwh
  refine e_aload_n F dX5_pour_0 rfl ?_
  refine e_iload_n F dX5_pour_1 rfl ?_
  refine e_callSS F u_X5_isNoDeal (by rfl) (c_X5_isNoDeal hi9) w_ml_RX5_129 dX5_pour_2 (by rfl) (Nat.le_of_ble_eq_true rfl) (by decide) (by omega) (fun _ _ _ h _ => False.elim h) (fun r_2 w_2 n_2 h_2 hn_2 => ?_)
  obtain ⟨rfl, ew_2, en_2⟩ := h_2
  rw [ew_2, en_2]
  refine e_iconst F dX5_pour_5 ?_
  refine e_callVV F u_X5_start (by rfl) (c_X5_start hY (b01_or _) (by decide) (by decide)) hY rfl rfl w_ml_RX5_69 dX5_pour_6 (by rfl) (Nat.le_of_ble_eq_true rfl) (by decide) (by omega) (fun _ _ _ h _ => False.elim h) (fun r_6 w_6 n_6 h_6 hn_6 => ?_)
  obtain ⟨rfl, en_6, ew_6⟩ := h_6
  rw [en_6, ew_6, st1]
  refine e_if_eq F 14 dX5_pour_9 (by decide) (b01_r _) (fun c_9 => ?_) (fun c_9 => ?_)
  ·
    rw [b01_0, Classical.not_not] at c_9
    rw [if_pos c_9]
    have gM := hM.th (t2 := 0) (kn2 := kn)
    have h_i := c_9
    obtain ⟨ki9, rfl⟩ : ∃ k : Nat, i9 = (k : Int) := ⟨i9.toNat, by omega⟩
    have hki9 : ki9 < 6 := by omega
    rw [show ((ki9 : Nat) : Int).toNat = ki9 from rfl]
    refine e_dom ?_
    intro hdm
    obtain ⟨gY, _, ⟨G, gG, gGe⟩, ⟨SS, PP, gS, gP, gMD⟩, gRV⟩ := id gM
    have hGi := gGe ki9 hki9
    have hRi := gRV ki9 hki9
    have hyn := hdm _ _ gY
    have hgn := hdm _ _ gG
    have hsn := hdm _ _ gS
    have hpn := hdm _ _ gP
    refine e_aload_n F dX5_pour_14 rfl ?_
    refine e_iload_n F dX5_pour_15 rfl ?_
    refine e_callVV F u_X5_isEmpty (by rfl) (c_X5_isEmpty gM (i := ki9) hki9) gY rfl rfl w_ml_RX5_113 dX5_pour_16 (by rfl) (Nat.le_of_ble_eq_true rfl) (by decide) (by omega) (fun _ _ _ h _ => False.elim h) (fun r_16 w_16 n_16 h_16 hn_16 => ?_)
    obtain ⟨rfl, ew_16, en_16⟩ := h_16
    rw [ew_16, en_16]
    refine e_if_eq F 25 dX5_pour_19 (by decide) (b01_r _) (fun c_19 => ?_) (fun c_19 => ?_)
    ·
      rw [b01_0] at c_19
      have hne := c_19
      have hdd := MD.dg (gMD ki9 hki9)
      refine e_aload_n F dX5_pour_25 rfl ?_
      refine e_aload_n F dX5_pour_26 rfl ?_
      refine e_get (ci := 5) (fi := 3) (q := (RX5, TX5, 6)) F gY rfl (by decide) w_fl_RX5_13 (by rfl) dX5_pour_27 ?_
      refine e_iload_n F dX5_pour_30 rfl ?_
      refine e_iald F gG (by omega) (by omega) (by first | decide | omega) dX5_pour_31 ?_
      rw [hGi]
      refine e_iload_n F dX5_pour_32 rfl ?_
      refine e_iload_n F dX5_pour_33 rfl ?_
      refine e_iload F dX5_pour_34 rfl ?_
      refine e_iload F dX5_pour_36 rfl ?_
      refine e_callVV F u_X5_poly (by rfl) (c_X5_poly gY hwh (g9 := (R ki9).dg) (a9 := a9) (b9 := b9) (c9 := c9) (d9 := d9) (by omega) (by omega) ha9 hb9 hc9 hd9) gY rfl rfl w_ml_RX5_132 dX5_pour_38 (by rfl) (Nat.le_of_ble_eq_true rfl) (by decide) (by omega) (fun _ _ _ h _ => False.elim h) (fun r_38 w_38 n_38 h_38 hn_38 => ?_)
      obtain ⟨rfl, ⟨q9, hq, hqe⟩, gK, en_38⟩ := h_38
      rw [en_38]
      have gM2 := gM.kb hdm gK
      have hbr := fun j => bcm_rg hwh (R ki9).dg a9 b9 c9 d9 j
      obtain ⟨uY, _, ⟨G2, uG, uGe⟩, ⟨S2, P2, uS, uP, uMD⟩, uRV⟩ := id gM2
      have uGi := uGe ki9 hki9
      obtain ⟨a, f, hSa, hya, hwa, hfr, hfA⟩ := MD.row (uMD ki9 hki9) hne
      refine e_dom ?_
      intro hdm2
      have han := hdm2 _ _ hwa
      rcases MD.pw (uMD ki9 hki9) with ⟨hp0, hPn⟩ | ⟨hp1, ⟨b, g, hPb, hyb, hwb, hgr, hgE⟩, hd0⟩
      ·
        have l1 : ∀ (N : Nat) (c : Nat) (wl : e_W) (f1 : Int → Int) (nl : Nat), 9 - c < N → (1 ≤ c ∧ (c : Int) ≤ ho wh + 1 ∧ wl (n + 2) = some (e_ia ((ho wh).toNat + 1) f1) ∧ (∀ j : Int, 0 ≤ j → j < ((((ho wh).toNat + 1) : Nat) : Int) → -1 ≤ f1 j ∧ f1 j < pr wh) ∧ (∀ j : Int, 1 ≤ j → j < ((((ho wh).toNat + 1) : Nat) : Int) → f1 j = if j < (c : Int) then (poR wh (R ki9) (bcm (pr wh) (R ki9).dg a9 b9 c9 d9)).A j else (R ki9).A j) ∧ (∀ q, q ≠ n + 2 → q ≠ n + 2 + 1 → wl q = w_38 q) ∧ n + 2 < nl) → e_V K P9 l E9 (4) (4) S9 M9 A9 B9 T9 C9 10 (fun r w' n' => FM w w' y n ∧ ((¬ (0 ≤ ((ki9 : Nat) : Int) ∧ ((ki9 : Nat) : Int) < 6) ∧ r = some (.int (eI 0)) ∧ MW w' y wh kn 1 R) ∨ ((0 ≤ ((ki9 : Nat) : Int) ∧ ((ki9 : Nat) : Int) < 6) ∧ r = some (.int (eI ((if (R ki9).dg = -1 then (-9, R) else (bc (st7 (poR wh (R ki9) (bcm (pr wh) (R ki9).dg a9 b9 c9 d9)).A), updR R ki9 (poR wh (R ki9) (bcm (pr wh) (R ki9).dg a9 b9 c9 d9)))).1))) ∧ MW w' y wh (kn) 0 ((if (R ki9).dg = -1 then (-9, R) else (bc (st7 (poR wh (R ki9) (bcm (pr wh) (R ki9).dg a9 b9 c9 d9)).A), updR R ki9 (poR wh (R ki9) (bcm (pr wh) (R ki9).dg a9 b9 c9 d9)))).2)))) (e_px0) 83 [(0, .ref y), (1, .int (eI ((ki9 : Nat) : Int))), (6, .ref (n + 1)), (7, .ref (n + 2)), (8, .null), (9, .int (eI (c : Int)))] [] wl nl (3) := by
          intro N
          induction N with
          | zero => intro c wl f1 nl hN; exact absurd hN (Nat.not_lt_zero _)
          | succ N ih =>
            intro c wl f1 nl hN ⟨hc1, hc, gn0, gr1, ge1, gf, gnl⟩
            have e9 : (poR wh (R ki9) (bcm (pr wh) (R ki9).dg a9 b9 c9 d9)).dg = (R ki9).dg := rfl
            have uY2 : wl y = some (MO y 0 wh kn) := (gf y (by omega) (by omega)).trans uY
            have uG2 : wl (y + 1) = some (e_ia 6 G2) := (gf _ (by omega) (by omega)).trans uG
            have uP2 : wl (y + 3) = some (e_ra 6 P2) := (gf _ (by omega) (by omega)).trans uP
            have uq2 : wl (n + 1) = some (e_ia ((R ki9).dg.toNat + 1) q9) := (gf _ (by omega) (by omega)).trans hq
            have gM3 : MW wl y wh kn 0 R := gM2.to (fun q e q1 => by rw [gf q (by have := hdm2 q e q1; omega) (by have := hdm2 q e q1; omega)]; exact q1)
            refine e_iload F dX5_pour_83 rfl ?_
            refine e_aload_n F dX5_pour_85 rfl ?_
            refine e_callVV F u_X5_holders (by rfl) (c_X5_holders uY2 hwh) uY2 rfl rfl w_ml_RX5_52 dX5_pour_86 (by rfl) (Nat.le_of_ble_eq_true rfl) (by decide) (by omega) (fun _ _ _ h _ => False.elim h) (fun r_86 w_86 n_86 h_86 hn_86 => ?_)
            obtain ⟨rfl, ew_86, en_86⟩ := h_86
            rw [ew_86, en_86]
            refine e_icmp_gt F 132 dX5_pour_89 (by decide) (⟨by omega, by omega⟩) (⟨by omega, by omega⟩) (fun c_89 => ?_) (fun c_89 => ?_)
            ·
              obtain rfl : c = (ho wh).toNat + 1 := by omega
              refine e_iconst F dX5_pour_132 ?_
              refine e_istore F dX5_pour_133 (by decide) ?_
              refine e_aloadN F dX5_pour_135 rfl ?_
              refine e_ifnullN F 180 dX5_pour_137 (by decide) ?_
              refine e_aload_n F dX5_pour_180 rfl ?_
              refine e_iload_n F dX5_pour_181 rfl ?_
              refine e_aload_n F dX5_pour_182 rfl ?_
              refine e_get (ci := 5) (fi := 3) (q := (RX5, TX5, 6)) F uY2 rfl (by decide) w_fl_RX5_13 (by rfl) dX5_pour_183 ?_
              refine e_iload_n F dX5_pour_186 rfl ?_
              refine e_iald F uG2 (by omega) (by omega) (by first | decide | omega) dX5_pour_187 ?_
              rw [uGi]
              refine e_aload F dX5_pour_188 rfl ?_
              refine e_aloadN F dX5_pour_190 rfl ?_
              refine e_callVV F u_X5_lay (by rfl) (c_X5_layRN gM3 hki9 (r := (poR wh (R ki9) (bcm (pr wh) (R ki9).dg a9 b9 c9 d9))) (row_MD (by omega) (by omega) gn0 gr1 (fun j j0 j1 => by rw [ge1 j j0 j1, if_pos (by omega)]) (Or.inl ⟨hp0, rfl⟩)) (poR_RV hwh (gRV ki9 hki9) hne (bcm (pr wh) (R ki9).dg a9 b9 c9 d9))) gM3.1 rfl rfl w_ml_RX5_140 dX5_pour_192 (by rfl) (Nat.le_of_ble_eq_true rfl) (by decide) (by omega) (fun _ _ _ h _ => False.elim h) (fun r_192 w_192 n_192 h_192 hn_192 => ?_)
              obtain ⟨rfl, en_192, gM4, gF4⟩ := h_192
              refine e_iret F rfl (by omega) ?_ dX5_pour_195
              rw [if_neg (show ¬ (R ki9).dg = -1 from hne)]
              exact ⟨FM.tr (n1 := nl) (fun q q1 q2 => ((gf q (by omega) (by omega)).trans (gK q (by omega))).trans (FM.th (n := n) q q1 q2)) (by omega) gF4, Or.inr ⟨h_i, rfl, gM4⟩⟩
            ·
              have hA9 := gM.rgA hki9 (j := (c : Int)) (by omega) (by omega)
              have hfc : f1 (c : Int) = (R ki9).A (c : Int) := by rw [ge1 _ (by omega) (by omega), if_neg (by omega)]
              refine e_aload F dX5_pour_92 rfl ?_
              refine e_iload F dX5_pour_94 rfl ?_
              refine e_iald F gn0 (by omega) (by omega) (by first | decide | omega) dX5_pour_96 ?_
              rw [hfc]
              refine e_iconst F dX5_pour_97 ?_
              refine e_icmp_eq F 126 dX5_pour_98 (by decide) (⟨by omega, by omega⟩) (⟨by omega, by omega⟩) (fun c_98 => ?_) (fun c_98 => ?_)
              · refine e_iinc F dX5_pour_126 rfl (by decide) ?_
                refine e_goto F 83 dX5_pour_129 (by decide) ?_
                first
                | (refine e_go (ih (c + 1) _ _ nl (by omega) ⟨by omega, by omega, e_up_s, fun j j0 j1 => ?_, fun j j0 j1 => ?_, fun q q1 q2 => by rw [e_up_n q1]; exact gf q q1 q2, gnl⟩) ?_
                   · unfold e_fu
                     split
                     · omega
                     · exact gr1 j j0 j1
                   · unfold e_fu
                     by_cases e8 : j = (c : Int)
                     · rw [if_pos e8, if_pos (by omega), e8]
                       show _ = if (R ki9).A (c : Int) = -1 then -1 else _
                       rw [if_neg c_98]
                     · rw [if_neg e8, ge1 j j0 j1]
                       by_cases e7 : j < (c : Int)
                       · rw [if_pos e7, if_pos (by omega)]
                       · rw [if_neg e7, if_neg (by omega)]
                   · exact (And.intro rfl (And.intro rfl (And.intro rfl (And.intro rfl (And.intro rfl (And.intro rfl (trivial))))))))
                | (refine e_go (ih (c + 1) wl f1 nl (by omega) ⟨by omega, by omega, gn0, gr1, fun j j0 j1 => ?_, gf, gnl⟩) ?_
                   · rw [ge1 j j0 j1]
                     by_cases e8 : j = (c : Int)
                     · rw [if_neg (by omega), if_pos (by omega), e8]
                       show _ = if (R ki9).A (c : Int) = -1 then -1 else _
                       rw [if_pos c_98]; exact c_98
                     · by_cases e7 : j < (c : Int)
                       · rw [if_pos e7, if_pos (by omega)]
                       · rw [if_neg e7, if_neg (by omega)]
                   · exact (And.intro rfl (And.intro rfl (And.intro rfl (And.intro rfl (And.intro rfl (And.intro rfl (trivial))))))))
              · refine e_aload F dX5_pour_101 rfl ?_
                refine e_iload F dX5_pour_103 rfl ?_
                refine e_aload_n F dX5_pour_105 rfl ?_
                refine e_aload F dX5_pour_106 rfl ?_
                refine e_iload F dX5_pour_108 rfl ?_
                refine e_iald F gn0 (by omega) (by omega) (by first | decide | omega) dX5_pour_110 ?_
                rw [hfc]
                refine e_i2l F dX5_pour_111 (⟨by omega, by omega⟩) ?_
                refine e_aload_n F dX5_pour_112 rfl ?_
                refine e_aload F dX5_pour_113 rfl ?_
                refine e_iload F dX5_pour_115 rfl ?_
                refine e_callVV F u_X5_value (by rfl) (c_X5_value uY2 hwh (x := (c : Int)) uq2 (by omega) (fun j j0 j1 => by rw [hqe j j0 (by omega)]; exact hbr j) (by omega) (by omega)) uY2 rfl rfl w_ml_RX5_91 dX5_pour_117 (by rfl) (Nat.le_of_ble_eq_true rfl) (by decide) (by omega) (fun _ _ _ h _ => False.elim h) (fun r_117 w_117 n_117 h_117 hn_117 => ?_)
                obtain ⟨rfl, ew_117, en_117⟩ := h_117
                have e17 : hv (pr wh) (c : Int) q9 ((((R ki9).dg.toNat + 1) : Nat) : Int) ((R ki9).dg.toNat + 1) = hv (pr wh) (c : Int) (bcm (pr wh) (R ki9).dg a9 b9 c9 d9) ((((R ki9).dg.toNat + 1) : Nat) : Int) ((R ki9).dg.toNat + 1) := hv_congr _ (by omega) (fun j j0 j1 => hqe j j0 (by omega))
                rw [ew_117, en_117, e17]
                have hv17 := hv_rg (x := (c : Int)) (P := (bcm (pr wh) (R ki9).dg a9 b9 c9 d9)) (N := ((((R ki9).dg.toNat + 1) : Nat) : Int)) (show 0 < pr wh by omega) ((R ki9).dg.toNat + 1)
                have hmv := emod_rg ((R ki9).A (c : Int) + hv (pr wh) (c : Int) (bcm (pr wh) (R ki9).dg a9 b9 c9 d9) ((((R ki9).dg.toNat + 1) : Nat) : Int) ((R ki9).dg.toNat + 1)) hwh
                refine e_i2l F dX5_pour_120 (⟨by omega, by omega⟩) ?_
                refine e_ladd F dX5_pour_121 ?_
                refine e_callVV F u_X5_mod (by rfl) (c_X5_mod uY2 hwh (by constructor <;> omega)) uY2 rfl rfl w_ml_RX5_55 dX5_pour_122 (by rfl) (Nat.le_of_ble_eq_true rfl) (by decide) (by omega) (fun _ _ _ h _ => False.elim h) (fun r_122 w_122 n_122 h_122 hn_122 => ?_)
                obtain ⟨rfl, ew_122, en_122⟩ := h_122
                rw [ew_122, en_122]
                refine e_iast F gn0 (by omega) (by omega) (by first | decide | omega) dX5_pour_125 ?_
                refine e_iinc F dX5_pour_126 rfl (by decide) ?_
                refine e_goto F 83 dX5_pour_129 (by decide) ?_
                first
                | (refine e_go (ih (c + 1) _ _ nl (by omega) ⟨by omega, by omega, e_up_s, fun j j0 j1 => ?_, fun j j0 j1 => ?_, fun q q1 q2 => by rw [e_up_n q1]; exact gf q q1 q2, gnl⟩) ?_
                   · unfold e_fu
                     split
                     · omega
                     · exact gr1 j j0 j1
                   · unfold e_fu
                     by_cases e8 : j = (c : Int)
                     · rw [if_pos e8, if_pos (by omega), e8]
                       show _ = if (R ki9).A (c : Int) = -1 then -1 else _
                       rw [if_neg c_98]
                     · rw [if_neg e8, ge1 j j0 j1]
                       by_cases e7 : j < (c : Int)
                       · rw [if_pos e7, if_pos (by omega)]
                       · rw [if_neg e7, if_neg (by omega)]
                   · exact (And.intro rfl (And.intro rfl (And.intro rfl (And.intro rfl (And.intro rfl (And.intro rfl (trivial))))))))
                | (refine e_go (ih (c + 1) wl f1 nl (by omega) ⟨by omega, by omega, gn0, gr1, fun j j0 j1 => ?_, gf, gnl⟩) ?_
                   · rw [ge1 j j0 j1]
                     by_cases e8 : j = (c : Int)
                     · rw [if_neg (by omega), if_pos (by omega), e8]
                       show _ = if (R ki9).A (c : Int) = -1 then -1 else _
                       rw [if_pos c_98]; exact c_98
                     · by_cases e7 : j < (c : Int)
                       · rw [if_pos e7, if_pos (by omega)]
                       · rw [if_neg e7, if_neg (by omega)]
                   · exact (And.intro rfl (And.intro rfl (And.intro rfl (And.intro rfl (And.intro rfl (And.intro rfl (trivial))))))))
        refine e_astore F dX5_pour_41 (by decide) ?_
        refine e_aload_n F dX5_pour_43 rfl ?_
        refine e_get (ci := 5) (fi := 4) (q := (RX5, TX5, 6)) F uY rfl (by decide) w_fl_RX5_18 (by rfl) dX5_pour_44 ?_
        refine e_iload_n F dX5_pour_47 rfl ?_
        refine e_aaldr F uS (by omega) (by omega) (by decide) (hSa) dX5_pour_48 ?_
        refine e_cloneX F (i0 := 0) (ty := .int) (ai := 8) rfl hwa (by omega) (by omega) (e_nmI F) (fun _ _ => rfl) w_ml_RX5_144 w_sa__I_clone w_nat_clone_20 w_im_java_lang_Object_clone___Ljava_lang_Object_ w_sx__I__I_clone___Ljava_lang_Object_ w_ca__I_RJx8e188 dX5_pour_49 (Nat.le_of_ble_eq_true rfl) (by decide) ?_
        refine e_castA F (ai := 8) e_up_s (e_nmI F) w_cl_RX5_17 dX5_pour_52 ?_
        refine e_astore F dX5_pour_55 (by decide) ?_
        refine e_aload_n F dX5_pour_57 rfl ?_
        refine e_get (ci := 5) (fi := 5) (q := (RX5, TX5, 6)) F (show e_up _ (n + 2) _ y = _ by rw [e_up_n (by omega)]; exact uY) rfl (by decide) w_fl_RX5_22 (by rfl) dX5_pour_58 ?_
        refine e_iload_n F dX5_pour_61 rfl ?_
        refine e_aaldn F (show e_up _ (n + 2) _ (y + 3) = _ by rw [e_up_n (by omega)]; exact uP) (by omega) (by omega) (by decide) (hPn) dX5_pour_62 ?_
        refine e_ifnonnullN F dX5_pour_63 ?_
        refine e_null F dX5_pour_66 ?_
        refine e_goto F 78 dX5_pour_67 (by decide) ?_
        refine e_astoreN F dX5_pour_78 (by decide) ?_
        refine e_iconst F dX5_pour_80 ?_
        refine e_istore F dX5_pour_81 (by decide) ?_
        exact e_go (l1 10 1 _ f _ (by omega) ⟨by omega, by omega, e_up_s, hfr, fun j j0 j1 => by rw [if_neg (by omega)]; exact hfA j j0 j1, fun q q1 q2 => e_up_n q1, by omega⟩) (And.intro rfl (And.intro rfl (And.intro rfl (And.intro rfl (And.intro rfl (And.intro rfl (trivial)))))))
      · have hbn := hdm2 _ _ hwb
        have l2 : ∀ (N : Nat) (c : Nat) (wl : e_W) (f1 g1 : Int → Int) (nl : Nat), 8 - c < N → ((c : Int) ≤ (R ki9).dg + 1 ∧ wl (n + 2) = some (e_ia ((ho wh).toNat + 1) f1) ∧ (∀ j : Int, 0 ≤ j → j < ((((ho wh).toNat + 1) : Nat) : Int) → -1 ≤ f1 j ∧ f1 j < pr wh) ∧ (∀ j : Int, 1 ≤ j → j < ((((ho wh).toNat + 1) : Nat) : Int) → f1 j = (poR wh (R ki9) (bcm (pr wh) (R ki9).dg a9 b9 c9 d9)).A j) ∧ wl (n + 2 + 1) = some (e_ia ((R ki9).dg.toNat + 1) g1) ∧ (∀ j : Int, 0 ≤ j → j < (c : Int) → g1 j = (poR wh (R ki9) (bcm (pr wh) (R ki9).dg a9 b9 c9 d9)).E j) ∧ (∀ q, q ≠ n + 2 → q ≠ n + 2 + 1 → wl q = w_38 q) ∧ n + 2 < nl) → e_V K P9 l E9 (4) (4) S9 M9 A9 B9 T9 C9 10 (fun r w' n' => FM w w' y n ∧ ((¬ (0 ≤ ((ki9 : Nat) : Int) ∧ ((ki9 : Nat) : Int) < 6) ∧ r = some (.int (eI 0)) ∧ MW w' y wh kn 1 R) ∨ ((0 ≤ ((ki9 : Nat) : Int) ∧ ((ki9 : Nat) : Int) < 6) ∧ r = some (.int (eI ((if (R ki9).dg = -1 then (-9, R) else (bc (st7 (poR wh (R ki9) (bcm (pr wh) (R ki9).dg a9 b9 c9 d9)).A), updR R ki9 (poR wh (R ki9) (bcm (pr wh) (R ki9).dg a9 b9 c9 d9)))).1))) ∧ MW w' y wh (kn) 0 ((if (R ki9).dg = -1 then (-9, R) else (bc (st7 (poR wh (R ki9) (bcm (pr wh) (R ki9).dg a9 b9 c9 d9)).A), updR R ki9 (poR wh (R ki9) (bcm (pr wh) (R ki9).dg a9 b9 c9 d9)))).2)))) (e_px0) 135 [(0, .ref y), (1, .int (eI ((ki9 : Nat) : Int))), (6, .ref (n + 1)), (7, .ref (n + 2)), (8, .ref (n + 2 + 1)), (9, .int (eI (c : Int)))] [] wl nl (4) := by
          intro N
          induction N with
          | zero => intro c wl f1 g1 nl hN; exact absurd hN (Nat.not_lt_zero _)
          | succ N ih =>
            intro c wl f1 g1 nl hN ⟨hc, gn0, gr1, ge1, gs1, ges, gf, gnl⟩
            have e9 : (poR wh (R ki9) (bcm (pr wh) (R ki9).dg a9 b9 c9 d9)).dg = (R ki9).dg := rfl
            have uY2 : wl y = some (MO y 0 wh kn) := (gf y (by omega) (by omega)).trans uY
            have uG2 : wl (y + 1) = some (e_ia 6 G2) := (gf _ (by omega) (by omega)).trans uG
            have uP2 : wl (y + 3) = some (e_ra 6 P2) := (gf _ (by omega) (by omega)).trans uP
            have uq2 : wl (n + 1) = some (e_ia ((R ki9).dg.toNat + 1) q9) := (gf _ (by omega) (by omega)).trans hq
            have gM3 : MW wl y wh kn 0 R := gM2.to (fun q e q1 => by rw [gf q (by have := hdm2 q e q1; omega) (by have := hdm2 q e q1; omega)]; exact q1)
            have ub2 : wl b = some (e_ia ((R ki9).dg.toNat + 1) g) := (gf _ (by omega) (by omega)).trans hwb
            refine e_aload F dX5_pour_135 rfl ?_
            refine e_ifnull F dX5_pour_137 ?_
            refine e_iload F dX5_pour_140 rfl ?_
            refine e_aload F dX5_pour_142 rfl ?_
            refine e_alenI F gs1 dX5_pour_144 ?_
            refine e_icmp_ge F 180 dX5_pour_145 (by decide) (⟨by omega, by omega⟩) (⟨by omega, by omega⟩) (fun c_145 => ?_) (fun c_145 => ?_)
            · refine e_aload_n F dX5_pour_180 rfl ?_
              refine e_iload_n F dX5_pour_181 rfl ?_
              refine e_aload_n F dX5_pour_182 rfl ?_
              refine e_get (ci := 5) (fi := 3) (q := (RX5, TX5, 6)) F uY2 rfl (by decide) w_fl_RX5_13 (by rfl) dX5_pour_183 ?_
              refine e_iload_n F dX5_pour_186 rfl ?_
              refine e_iald F uG2 (by omega) (by omega) (by first | decide | omega) dX5_pour_187 ?_
              rw [uGi]
              refine e_aload F dX5_pour_188 rfl ?_
              refine e_aload F dX5_pour_190 rfl ?_
              refine e_callVV F u_X5_lay (by rfl) (c_X5_layRR gM3 hki9 (r := (poR wh (R ki9) (bcm (pr wh) (R ki9).dg a9 b9 c9 d9))) (row_MD (by omega) (by omega) gn0 gr1 ge1 (Or.inr ⟨hp1, n + 2 + 1, g1, rfl, by omega, gs1, fun j j0 j1 => by rw [ges j j0 (by omega)]; have := emod_rg ((bcm (pr wh) (R ki9).dg a9 b9 c9 d9) j + (R ki9).E j) hwh; show -1 ≤ ((bcm (pr wh) (R ki9).dg a9 b9 c9 d9) j + (R ki9).E j) % pr wh ∧ ((bcm (pr wh) (R ki9).dg a9 b9 c9 d9) j + (R ki9).E j) % pr wh < pr wh; exact ⟨by omega, this.2⟩, fun j j0 j1 => ges j j0 (by omega)⟩)) (poR_RV hwh (gRV ki9 hki9) hne (bcm (pr wh) (R ki9).dg a9 b9 c9 d9))) gM3.1 rfl rfl w_ml_RX5_140 dX5_pour_192 (by rfl) (Nat.le_of_ble_eq_true rfl) (by decide) (by omega) (fun _ _ _ h _ => False.elim h) (fun r_192 w_192 n_192 h_192 hn_192 => ?_)
              obtain ⟨rfl, en_192, gM4, gF4⟩ := h_192
              refine e_iret F rfl (by omega) ?_ dX5_pour_195
              rw [if_neg (show ¬ (R ki9).dg = -1 from hne)]
              exact ⟨FM.tr (n1 := nl) (fun q q1 q2 => ((gf q (by omega) (by omega)).trans (gK q (by omega))).trans (FM.th (n := n) q q1 q2)) (by omega) gF4, Or.inr ⟨h_i, rfl, gM4⟩⟩
            ·
              have hE9 := hRi.2.1 hp1 (c : Int) (by omega) (by omega)
              have hgE9 := hgE (c : Int) (by omega) (by omega)
              have hqe9 := hqe (c : Int) (by omega) (by omega)
              have hbr9 := hbr (c : Int)
              refine e_aload F dX5_pour_148 rfl ?_
              refine e_iload F dX5_pour_150 rfl ?_
              refine e_aload_n F dX5_pour_152 rfl ?_
              refine e_aload F dX5_pour_153 rfl ?_
              refine e_iload F dX5_pour_155 rfl ?_
              refine e_iald F uq2 (by omega) (by omega) (by first | decide | omega) dX5_pour_157 ?_
              rw [hqe9]
              refine e_i2l F dX5_pour_158 (⟨by omega, by omega⟩) ?_
              refine e_aload_n F dX5_pour_159 rfl ?_
              refine e_get (ci := 5) (fi := 5) (q := (RX5, TX5, 6)) F uY2 rfl (by decide) w_fl_RX5_22 (by rfl) dX5_pour_160 ?_
              refine e_iload_n F dX5_pour_163 rfl ?_
              refine e_aaldr F uP2 (by omega) (by omega) (by decide) (hPb) dX5_pour_164 ?_
              refine e_iload F dX5_pour_165 rfl ?_
              refine e_iald F ub2 (by omega) (by omega) (by first | decide | omega) dX5_pour_167 ?_
              rw [hgE9]
              refine e_i2l F dX5_pour_168 (⟨by omega, by omega⟩) ?_
              refine e_ladd F dX5_pour_169 ?_
              refine e_callVV F u_X5_mod (by rfl) (c_X5_mod uY2 hwh (by constructor <;> omega)) uY2 rfl rfl w_ml_RX5_55 dX5_pour_170 (by rfl) (Nat.le_of_ble_eq_true rfl) (by decide) (by omega) (fun _ _ _ h _ => False.elim h) (fun r_170 w_170 n_170 h_170 hn_170 => ?_)
              obtain ⟨rfl, ew_170, en_170⟩ := h_170
              rw [ew_170, en_170]
              refine e_iast F gs1 (by omega) (by omega) (by first | decide | omega) dX5_pour_173 ?_
              refine e_iinc F dX5_pour_174 rfl (by decide) ?_
              refine e_goto F 135 dX5_pour_177 (by decide) ?_
              refine e_go (ih (c + 1) _ f1 _ nl (by omega) ⟨by omega, by rw [e_up_n (by omega)]; exact gn0, gr1, ge1, e_up_s, fun j j0 j1 => ?_, fun q q1 q2 => by rw [e_up_n q2]; exact gf q q1 q2, gnl⟩) ?_
              · unfold e_fu
                by_cases e8 : j = (c : Int)
                · rw [if_pos e8, e8]; rfl
                · rw [if_neg e8]; exact ges j j0 (by omega)
              · exact (And.intro rfl (And.intro rfl (And.intro rfl (And.intro rfl (And.intro rfl (And.intro rfl (trivial)))))))
        have l1 : ∀ (N : Nat) (c : Nat) (wl : e_W) (f1 : Int → Int) (nl : Nat), 9 - c < N → (1 ≤ c ∧ (c : Int) ≤ ho wh + 1 ∧ wl (n + 2) = some (e_ia ((ho wh).toNat + 1) f1) ∧ (∀ j : Int, 0 ≤ j → j < ((((ho wh).toNat + 1) : Nat) : Int) → -1 ≤ f1 j ∧ f1 j < pr wh) ∧ (∀ j : Int, 1 ≤ j → j < ((((ho wh).toNat + 1) : Nat) : Int) → f1 j = if j < (c : Int) then (poR wh (R ki9) (bcm (pr wh) (R ki9).dg a9 b9 c9 d9)).A j else (R ki9).A j) ∧ wl (n + 2 + 1) = some (e_ia ((R ki9).dg.toNat + 1) q9) ∧ (∀ q, q ≠ n + 2 → q ≠ n + 2 + 1 → wl q = w_38 q) ∧ n + 2 < nl) → e_V K P9 l E9 (4) (4) S9 M9 A9 B9 T9 C9 10 (fun r w' n' => FM w w' y n ∧ ((¬ (0 ≤ ((ki9 : Nat) : Int) ∧ ((ki9 : Nat) : Int) < 6) ∧ r = some (.int (eI 0)) ∧ MW w' y wh kn 1 R) ∨ ((0 ≤ ((ki9 : Nat) : Int) ∧ ((ki9 : Nat) : Int) < 6) ∧ r = some (.int (eI ((if (R ki9).dg = -1 then (-9, R) else (bc (st7 (poR wh (R ki9) (bcm (pr wh) (R ki9).dg a9 b9 c9 d9)).A), updR R ki9 (poR wh (R ki9) (bcm (pr wh) (R ki9).dg a9 b9 c9 d9)))).1))) ∧ MW w' y wh (kn) 0 ((if (R ki9).dg = -1 then (-9, R) else (bc (st7 (poR wh (R ki9) (bcm (pr wh) (R ki9).dg a9 b9 c9 d9)).A), updR R ki9 (poR wh (R ki9) (bcm (pr wh) (R ki9).dg a9 b9 c9 d9)))).2)))) (e_px0) 83 [(0, .ref y), (1, .int (eI ((ki9 : Nat) : Int))), (6, .ref (n + 1)), (7, .ref (n + 2)), (8, .ref (n + 2 + 1)), (9, .int (eI (c : Int)))] [] wl nl (4) := by
          intro N
          induction N with
          | zero => intro c wl f1 nl hN; exact absurd hN (Nat.not_lt_zero _)
          | succ N ih =>
            intro c wl f1 nl hN ⟨hc1, hc, gn0, gr1, ge1, gs1, gf, gnl⟩
            have e9 : (poR wh (R ki9) (bcm (pr wh) (R ki9).dg a9 b9 c9 d9)).dg = (R ki9).dg := rfl
            have uY2 : wl y = some (MO y 0 wh kn) := (gf y (by omega) (by omega)).trans uY
            have uG2 : wl (y + 1) = some (e_ia 6 G2) := (gf _ (by omega) (by omega)).trans uG
            have uP2 : wl (y + 3) = some (e_ra 6 P2) := (gf _ (by omega) (by omega)).trans uP
            have uq2 : wl (n + 1) = some (e_ia ((R ki9).dg.toNat + 1) q9) := (gf _ (by omega) (by omega)).trans hq
            have gM3 : MW wl y wh kn 0 R := gM2.to (fun q e q1 => by rw [gf q (by have := hdm2 q e q1; omega) (by have := hdm2 q e q1; omega)]; exact q1)
            refine e_iload F dX5_pour_83 rfl ?_
            refine e_aload_n F dX5_pour_85 rfl ?_
            refine e_callVV F u_X5_holders (by rfl) (c_X5_holders uY2 hwh) uY2 rfl rfl w_ml_RX5_52 dX5_pour_86 (by rfl) (Nat.le_of_ble_eq_true rfl) (by decide) (by omega) (fun _ _ _ h _ => False.elim h) (fun r_86 w_86 n_86 h_86 hn_86 => ?_)
            obtain ⟨rfl, ew_86, en_86⟩ := h_86
            rw [ew_86, en_86]
            refine e_icmp_gt F 132 dX5_pour_89 (by decide) (⟨by omega, by omega⟩) (⟨by omega, by omega⟩) (fun c_89 => ?_) (fun c_89 => ?_)
            ·
              obtain rfl : c = (ho wh).toNat + 1 := by omega
              refine e_iconst F dX5_pour_132 ?_
              refine e_istore F dX5_pour_133 (by decide) ?_
              exact e_go (l2 9 0 wl f1 q9 nl (by omega) ⟨by omega, gn0, gr1, fun j j0 j1 => by rw [ge1 j j0 j1, if_pos (by omega)], gs1, fun j j0 j1 => by omega, gf, gnl⟩) (And.intro rfl (And.intro rfl (And.intro rfl (And.intro rfl (And.intro rfl (And.intro rfl (trivial)))))))
            ·
              have hA9 := gM.rgA hki9 (j := (c : Int)) (by omega) (by omega)
              have hfc : f1 (c : Int) = (R ki9).A (c : Int) := by rw [ge1 _ (by omega) (by omega), if_neg (by omega)]
              refine e_aload F dX5_pour_92 rfl ?_
              refine e_iload F dX5_pour_94 rfl ?_
              refine e_iald F gn0 (by omega) (by omega) (by first | decide | omega) dX5_pour_96 ?_
              rw [hfc]
              refine e_iconst F dX5_pour_97 ?_
              refine e_icmp_eq F 126 dX5_pour_98 (by decide) (⟨by omega, by omega⟩) (⟨by omega, by omega⟩) (fun c_98 => ?_) (fun c_98 => ?_)
              · refine e_iinc F dX5_pour_126 rfl (by decide) ?_
                refine e_goto F 83 dX5_pour_129 (by decide) ?_
                first
                | (refine e_go (ih (c + 1) _ _ nl (by omega) ⟨by omega, by omega, e_up_s, fun j j0 j1 => ?_, fun j j0 j1 => ?_, by rw [e_up_n (by omega)]; exact gs1, fun q q1 q2 => by rw [e_up_n q1]; exact gf q q1 q2, gnl⟩) ?_
                   · unfold e_fu
                     split
                     · omega
                     · exact gr1 j j0 j1
                   · unfold e_fu
                     by_cases e8 : j = (c : Int)
                     · rw [if_pos e8, if_pos (by omega), e8]
                       show _ = if (R ki9).A (c : Int) = -1 then -1 else _
                       rw [if_neg c_98]
                     · rw [if_neg e8, ge1 j j0 j1]
                       by_cases e7 : j < (c : Int)
                       · rw [if_pos e7, if_pos (by omega)]
                       · rw [if_neg e7, if_neg (by omega)]
                   · exact (And.intro rfl (And.intro rfl (And.intro rfl (And.intro rfl (And.intro rfl (And.intro rfl (trivial))))))))
                | (refine e_go (ih (c + 1) wl f1 nl (by omega) ⟨by omega, by omega, gn0, gr1, fun j j0 j1 => ?_, gs1, gf, gnl⟩) ?_
                   · rw [ge1 j j0 j1]
                     by_cases e8 : j = (c : Int)
                     · rw [if_neg (by omega), if_pos (by omega), e8]
                       show _ = if (R ki9).A (c : Int) = -1 then -1 else _
                       rw [if_pos c_98]; exact c_98
                     · by_cases e7 : j < (c : Int)
                       · rw [if_pos e7, if_pos (by omega)]
                       · rw [if_neg e7, if_neg (by omega)]
                   · exact (And.intro rfl (And.intro rfl (And.intro rfl (And.intro rfl (And.intro rfl (And.intro rfl (trivial))))))))
              · refine e_aload F dX5_pour_101 rfl ?_
                refine e_iload F dX5_pour_103 rfl ?_
                refine e_aload_n F dX5_pour_105 rfl ?_
                refine e_aload F dX5_pour_106 rfl ?_
                refine e_iload F dX5_pour_108 rfl ?_
                refine e_iald F gn0 (by omega) (by omega) (by first | decide | omega) dX5_pour_110 ?_
                rw [hfc]
                refine e_i2l F dX5_pour_111 (⟨by omega, by omega⟩) ?_
                refine e_aload_n F dX5_pour_112 rfl ?_
                refine e_aload F dX5_pour_113 rfl ?_
                refine e_iload F dX5_pour_115 rfl ?_
                refine e_callVV F u_X5_value (by rfl) (c_X5_value uY2 hwh (x := (c : Int)) uq2 (by omega) (fun j j0 j1 => by rw [hqe j j0 (by omega)]; exact hbr j) (by omega) (by omega)) uY2 rfl rfl w_ml_RX5_91 dX5_pour_117 (by rfl) (Nat.le_of_ble_eq_true rfl) (by decide) (by omega) (fun _ _ _ h _ => False.elim h) (fun r_117 w_117 n_117 h_117 hn_117 => ?_)
                obtain ⟨rfl, ew_117, en_117⟩ := h_117
                have e17 : hv (pr wh) (c : Int) q9 ((((R ki9).dg.toNat + 1) : Nat) : Int) ((R ki9).dg.toNat + 1) = hv (pr wh) (c : Int) (bcm (pr wh) (R ki9).dg a9 b9 c9 d9) ((((R ki9).dg.toNat + 1) : Nat) : Int) ((R ki9).dg.toNat + 1) := hv_congr _ (by omega) (fun j j0 j1 => hqe j j0 (by omega))
                rw [ew_117, en_117, e17]
                have hv17 := hv_rg (x := (c : Int)) (P := (bcm (pr wh) (R ki9).dg a9 b9 c9 d9)) (N := ((((R ki9).dg.toNat + 1) : Nat) : Int)) (show 0 < pr wh by omega) ((R ki9).dg.toNat + 1)
                have hmv := emod_rg ((R ki9).A (c : Int) + hv (pr wh) (c : Int) (bcm (pr wh) (R ki9).dg a9 b9 c9 d9) ((((R ki9).dg.toNat + 1) : Nat) : Int) ((R ki9).dg.toNat + 1)) hwh
                refine e_i2l F dX5_pour_120 (⟨by omega, by omega⟩) ?_
                refine e_ladd F dX5_pour_121 ?_
                refine e_callVV F u_X5_mod (by rfl) (c_X5_mod uY2 hwh (by constructor <;> omega)) uY2 rfl rfl w_ml_RX5_55 dX5_pour_122 (by rfl) (Nat.le_of_ble_eq_true rfl) (by decide) (by omega) (fun _ _ _ h _ => False.elim h) (fun r_122 w_122 n_122 h_122 hn_122 => ?_)
                obtain ⟨rfl, ew_122, en_122⟩ := h_122
                rw [ew_122, en_122]
                refine e_iast F gn0 (by omega) (by omega) (by first | decide | omega) dX5_pour_125 ?_
                refine e_iinc F dX5_pour_126 rfl (by decide) ?_
                refine e_goto F 83 dX5_pour_129 (by decide) ?_
                first
                | (refine e_go (ih (c + 1) _ _ nl (by omega) ⟨by omega, by omega, e_up_s, fun j j0 j1 => ?_, fun j j0 j1 => ?_, by rw [e_up_n (by omega)]; exact gs1, fun q q1 q2 => by rw [e_up_n q1]; exact gf q q1 q2, gnl⟩) ?_
                   · unfold e_fu
                     split
                     · omega
                     · exact gr1 j j0 j1
                   · unfold e_fu
                     by_cases e8 : j = (c : Int)
                     · rw [if_pos e8, if_pos (by omega), e8]
                       show _ = if (R ki9).A (c : Int) = -1 then -1 else _
                       rw [if_neg c_98]
                     · rw [if_neg e8, ge1 j j0 j1]
                       by_cases e7 : j < (c : Int)
                       · rw [if_pos e7, if_pos (by omega)]
                       · rw [if_neg e7, if_neg (by omega)]
                   · exact (And.intro rfl (And.intro rfl (And.intro rfl (And.intro rfl (And.intro rfl (And.intro rfl (trivial))))))))
                | (refine e_go (ih (c + 1) wl f1 nl (by omega) ⟨by omega, by omega, gn0, gr1, fun j j0 j1 => ?_, gs1, gf, gnl⟩) ?_
                   · rw [ge1 j j0 j1]
                     by_cases e8 : j = (c : Int)
                     · rw [if_neg (by omega), if_pos (by omega), e8]
                       show _ = if (R ki9).A (c : Int) = -1 then -1 else _
                       rw [if_pos c_98]; exact c_98
                     · by_cases e7 : j < (c : Int)
                       · rw [if_pos e7, if_pos (by omega)]
                       · rw [if_neg e7, if_neg (by omega)]
                   · exact (And.intro rfl (And.intro rfl (And.intro rfl (And.intro rfl (And.intro rfl (And.intro rfl (trivial))))))))
        refine e_astore F dX5_pour_41 (by decide) ?_
        refine e_aload_n F dX5_pour_43 rfl ?_
        refine e_get (ci := 5) (fi := 4) (q := (RX5, TX5, 6)) F uY rfl (by decide) w_fl_RX5_18 (by rfl) dX5_pour_44 ?_
        refine e_iload_n F dX5_pour_47 rfl ?_
        refine e_aaldr F uS (by omega) (by omega) (by decide) (hSa) dX5_pour_48 ?_
        refine e_cloneX F (i0 := 0) (ty := .int) (ai := 8) rfl hwa (by omega) (by omega) (e_nmI F) (fun _ _ => rfl) w_ml_RX5_144 w_sa__I_clone w_nat_clone_20 w_im_java_lang_Object_clone___Ljava_lang_Object_ w_sx__I__I_clone___Ljava_lang_Object_ w_ca__I_RJx8e188 dX5_pour_49 (Nat.le_of_ble_eq_true rfl) (by decide) ?_
        refine e_castA F (ai := 8) e_up_s (e_nmI F) w_cl_RX5_17 dX5_pour_52 ?_
        refine e_astore F dX5_pour_55 (by decide) ?_
        refine e_aload_n F dX5_pour_57 rfl ?_
        refine e_get (ci := 5) (fi := 5) (q := (RX5, TX5, 6)) F (show e_up _ (n + 2) _ y = _ by rw [e_up_n (by omega)]; exact uY) rfl (by decide) w_fl_RX5_22 (by rfl) dX5_pour_58 ?_
        refine e_iload_n F dX5_pour_61 rfl ?_
        refine e_aaldr F (show e_up _ (n + 2) _ (y + 3) = _ by rw [e_up_n (by omega)]; exact uP) (by omega) (by omega) (by decide) (hPb) dX5_pour_62 ?_
        refine e_ifnonnull F 70 dX5_pour_63 (by decide) ?_
        refine e_aload F dX5_pour_70 rfl ?_
        refine e_cloneX F (i0 := 0) (ty := .int) (ai := 8) rfl (show e_up w_38 (n + 2) _ (n + 1) = _ by rw [e_up_n (by omega)]; exact hq) (by omega) (by omega) (e_nmI F) (fun _ _ => rfl) w_ml_RX5_144 w_sa__I_clone w_nat_clone_20 w_im_java_lang_Object_clone___Ljava_lang_Object_ w_sx__I__I_clone___Ljava_lang_Object_ w_ca__I_RJx8e188 dX5_pour_72 (Nat.le_of_ble_eq_true rfl) (by decide) ?_
        refine e_castA F (ai := 8) e_up_s (e_nmI F) w_cl_RX5_17 dX5_pour_75 ?_
        refine e_astore F dX5_pour_78 (by decide) ?_
        refine e_iconst F dX5_pour_80 ?_
        refine e_istore F dX5_pour_81 (by decide) ?_
        exact e_go (l1 10 1 _ f _ (by omega) ⟨by omega, by omega, by rw [e_up_n (by omega)]; exact e_up_s, hfr, fun j j0 j1 => by rw [if_neg (by omega)]; exact hfA j j0 j1, e_up_s, fun q q1 q2 => by rw [e_up_n q2, e_up_n q1], by omega⟩) (And.intro rfl (And.intro rfl (And.intro rfl (And.intro rfl (And.intro rfl (And.intro rfl (trivial)))))))
      
    ·
      rw [b01_0, Classical.not_not] at c_19
      refine e_bipush F dX5_pour_22 (by decide) ?_
      refine e_iret F rfl (by omega) ?_ dX5_pour_24
      rw [if_pos (show (R ki9).dg = -1 from c_19)]
      exact ⟨FM.th, Or.inr ⟨h_i, rfl, gM⟩⟩
  ·
    rw [b01_0, Classical.not_not] at c_9
    rw [if_neg c_9]
    refine e_iconst F dX5_pour_12 ?_
    refine e_iret F rfl (by omega) ?_ dX5_pour_13
    exact ⟨FM.th, Or.inl ⟨c_9, rfl, hM.th⟩⟩
set_option maxHeartbeats 4000000 in
set_option maxRecDepth 100000 in
theorem c_X5_handOn {K : e_K} {l : Launch} {w : e_W} {n : Nat} {y wh : Nat} {t kn : Int} {R : Nat → RD} (hM : MW w y wh kn t R) {i9 : Int} (hi9 : e_r i9) {a9 : Int} (ha9 : e_r a9) {t9 : Int} (ht9 : e_r t9) {g9 : Int} (hg9 : e_r g9) {b9 : Int} (hb9 : e_r b9) {c9 : Int} (hc9 : e_r c9) : e_Met K l yX5_handOn (Cond.code yX5_handOn cX5_handOn 11 (Option.some .int) :: e_TB) (6) (20) [.ref y, .int (eI i9), .int (eI a9), .int (eI t9), .int (eI g9), .int (eI b9), .int (eI c9)] w n (fun r w' n' => FM w w' y n ∧ ((¬ ((0 ≤ i9 ∧ i9 < 6) ∧ (0 ≤ t9 ∧ t9 < 6)) ∧ r = some (.int (eI 0)) ∧ MW w' y wh kn 1 R) ∨ (((0 ≤ i9 ∧ i9 < 6) ∧ (0 ≤ t9 ∧ t9 < 6)) ∧ ¬ ((1 ≤ a9 ∧ a9 ≤ fl wh) ∧ (0 ≤ g9 ∧ g9 ≤ 3)) ∧ r = some (.int (eI 0)) ∧ MW w' y wh kn 2 R) ∨ (((0 ≤ i9 ∧ i9 < 6) ∧ (0 ≤ t9 ∧ t9 < 6)) ∧ ((1 ≤ a9 ∧ a9 ≤ fl wh) ∧ (0 ≤ g9 ∧ g9 ≤ 3)) ∧ r = some (.int (eI ((if (thQ wh (R i9.toNat) a9 ∧ (R i9.toNat).dg < bc a9) then (bc (st7 (lpR wh g9 (hnP wh a9 (R i9.toNat).A b9 c9)).A), updR R t9.toNat (lpR wh g9 (hnP wh a9 (R i9.toNat).A b9 c9))) else (-9, R)).1))) ∧ MW w' y wh (kn) 0 ((if (thQ wh (R i9.toNat) a9 ∧ (R i9.toNat).dg < bc a9) then (bc (st7 (lpR wh g9 (hnP wh a9 (R i9.toNat).A b9 c9)).A), updR R t9.toNat (lpR wh g9 (hnP wh a9 (R i9.toNat).A b9 c9))) else (-9, R)).2)))) (e_px0) := by
  refine e_ofV rfl (Nat.le_of_ble_eq_true rfl) ?_
  intro P9 E9 S9 M9 A9 B9 T9 C9 F hnm
  have hwh := hM.2.1
  have hY := hM.1
  have hp := pr_rg wh hwh
  have hho := ho_rg wh hwh
  have hf9 := fl_rg wh hwh
  refine e_aload_n F dX5_handOn_0 rfl ?_
  refine e_iload_n F dX5_handOn_1 rfl ?_
  refine e_callSS F u_X5_isNoDeal (by rfl) (c_X5_isNoDeal hi9) w_ml_RX5_129 dX5_handOn_2 (by rfl) (Nat.le_of_ble_eq_true rfl) (by decide) (by omega) (fun _ _ _ h _ => False.elim h) (fun r_2 w_2 n_2 h_2 hn_2 => ?_)
  obtain ⟨rfl, ew_2, en_2⟩ := h_2
  rw [ew_2, en_2]
  refine e_if_ne F 15 dX5_handOn_5 (by decide) (b01_r _) (fun c_5 => ?_) (fun c_5 => ?_)
  ·
    rw [ne_eq, b01_0, Classical.not_not] at c_5
    refine e_iconst F dX5_handOn_15 ?_
    refine e_goto F 20 dX5_handOn_16 (by decide) ?_
    refine e_iconst F dX5_handOn_20 ?_
    refine e_callVV F u_X5_start (by rfl) (c_X5_start hY (by first | exact Or.inl rfl | exact Or.inr rfl) (by decide) (by decide)) hY rfl rfl w_ml_RX5_69 dX5_handOn_21 (by rfl) (Nat.le_of_ble_eq_true rfl) (by decide) (by omega) (fun _ _ _ h _ => False.elim h) (fun r_21 w_21 n_21 h_21 hn_21 => ?_)
    obtain ⟨rfl, en_21, ew_21⟩ := h_21
    rw [en_21, ew_21]
    first | rw [if_pos (show (1 : Int) = 1 from rfl)] | rw [if_neg (show ¬ ((0 : Int) = 1) by decide)]
    have gM := hM.th (t2 := 0) (kn2 := kn)
    refine e_if_ne F 58 dX5_handOn_24 (by decide) (by decide) (fun c_24 => ?_) (fun c_24 => ?_)
    · refine e_iconst F dX5_handOn_58 ?_
      refine e_iret F rfl (by omega) ?_ dX5_handOn_59
      first
      | exact ⟨FM.th, Or.inr (Or.inl ⟨h_i, (fun q => by omega), rfl, hM.th⟩)⟩
      | exact ⟨FM.th, Or.inl ⟨(fun q => by omega), rfl, hM.th⟩⟩
    · exact absurd c_24 (by decide)
  ·
    rw [b01_0, Classical.not_not] at c_5
    refine e_iload_n F dX5_handOn_8 rfl ?_
    refine e_callSS F u_X5_isNoDeal (by rfl) (c_X5_isNoDeal ht9) w_ml_RX5_129 dX5_handOn_9 (by rfl) (Nat.le_of_ble_eq_true rfl) (by decide) (by omega) (fun _ _ _ h _ => False.elim h) (fun r_9 w_9 n_9 h_9 hn_9 => ?_)
    obtain ⟨rfl, ew_9, en_9⟩ := h_9
    rw [ew_9, en_9]
    refine e_if_eq F 19 dX5_handOn_12 (by decide) (b01_r _) (fun c_12 => ?_) (fun c_12 => ?_)
    ·
      rw [b01_0, Classical.not_not] at c_12
      refine e_iconst F dX5_handOn_19 ?_
      refine e_iconst F dX5_handOn_20 ?_
      refine e_callVV F u_X5_start (by rfl) (c_X5_start hY (by first | exact Or.inl rfl | exact Or.inr rfl) (by decide) (by decide)) hY rfl rfl w_ml_RX5_69 dX5_handOn_21 (by rfl) (Nat.le_of_ble_eq_true rfl) (by decide) (by omega) (fun _ _ _ h _ => False.elim h) (fun r_21 w_21 n_21 h_21 hn_21 => ?_)
      obtain ⟨rfl, en_21, ew_21⟩ := h_21
      rw [en_21, ew_21]
      first | rw [if_pos (show (1 : Int) = 1 from rfl)] | rw [if_neg (show ¬ ((0 : Int) = 1) by decide)]
      have gM := hM.th (t2 := 0) (kn2 := kn)
      refine e_if_ne F 58 dX5_handOn_24 (by decide) (by decide) (fun c_24 => ?_) (fun c_24 => ?_)
      · exact absurd c_24 (by decide)
      · have h_i : (0 ≤ i9 ∧ i9 < 6) ∧ (0 ≤ t9 ∧ t9 < 6) := by omega
        refine e_aload_n F dX5_handOn_27 rfl ?_
        refine e_aload_n F dX5_handOn_28 rfl ?_
        refine e_iload_n F dX5_handOn_29 rfl ?_
        refine e_callVV F u_X5_isNoSet (by rfl) (c_X5_isNoSet gM.1 hwh ha9) gM.1 rfl rfl w_ml_RX5_103 dX5_handOn_30 (by rfl) (Nat.le_of_ble_eq_true rfl) (by decide) (by omega) (fun _ _ _ h _ => False.elim h) (fun r_30 w_30 n_30 h_30 hn_30 => ?_)
        obtain ⟨rfl, ew_30, en_30⟩ := h_30
        rw [ew_30, en_30]
        refine e_if_ne F 46 dX5_handOn_33 (by decide) (b01_r _) (fun c_33 => ?_) (fun c_33 => ?_)
        ·
          rw [ne_eq, b01_0, Classical.not_not] at c_33
          refine e_iconst F dX5_handOn_46 ?_
          refine e_goto F 51 dX5_handOn_47 (by decide) ?_
          refine e_iconst F dX5_handOn_51 ?_
          refine e_callVV F u_X5_refuse (by rfl) (c_X5_refuse gM.1 (by decide) (by decide) (by first | exact Or.inl rfl | exact Or.inr rfl) (by decide) (by decide)) gM.1 rfl rfl w_ml_RX5_28 dX5_handOn_52 (by rfl) (Nat.le_of_ble_eq_true rfl) (by decide) (by omega) (fun _ _ _ h _ => False.elim h) (fun r_52 w_52 n_52 h_52 hn_52 => ?_)
          obtain ⟨rfl, en_52, ew_52⟩ := h_52
          rw [en_52, ew_52, e_up_up]
          first | (rw [if_pos (show (1 : Int) = 1 ∧ (0 : Int) = 0 by decide), b01_t (by decide)]) | (rw [if_neg (show ¬ ((0 : Int) = 1 ∧ (0 : Int) = 0) by decide), b01_f (by decide)])
          refine e_if_eq F 60 dX5_handOn_55 (by decide) (by decide) (fun c_55 => ?_) (fun c_55 => ?_)
          · exact absurd c_55 (by decide)
          · refine e_iconst F dX5_handOn_58 ?_
            refine e_iret F rfl (by omega) ?_ dX5_handOn_59
            first
            | exact ⟨FM.th, Or.inr (Or.inl ⟨h_i, (fun q => by omega), rfl, hM.th⟩)⟩
            | exact ⟨FM.th, Or.inl ⟨(fun q => by omega), rfl, hM.th⟩⟩
        ·
          rw [b01_0, Classical.not_not] at c_33
          refine e_iload F dX5_handOn_36 rfl ?_
          refine e_iconst F dX5_handOn_38 ?_
          refine e_iconst F dX5_handOn_39 ?_
          refine e_callSS F u_X5_isIn (by rfl) (c_X5_isIn (v := g9) (a := 0) (b := 3) hg9 (by decide) (by decide)) w_ml_RX5_48 dX5_handOn_40 (by rfl) (Nat.le_of_ble_eq_true rfl) (by decide) (by omega) (fun _ _ _ h _ => False.elim h) (fun r_40 w_40 n_40 h_40 hn_40 => ?_)
          obtain ⟨rfl, ew_40, en_40⟩ := h_40
          rw [ew_40, en_40]
          refine e_if_ne F 50 dX5_handOn_43 (by decide) (b01_r _) (fun c_43 => ?_) (fun c_43 => ?_)
          ·
            rw [ne_eq, b01_0, Classical.not_not] at c_43
            refine e_iconst F dX5_handOn_50 ?_
            refine e_iconst F dX5_handOn_51 ?_
            refine e_callVV F u_X5_refuse (by rfl) (c_X5_refuse gM.1 (by decide) (by decide) (by first | exact Or.inl rfl | exact Or.inr rfl) (by decide) (by decide)) gM.1 rfl rfl w_ml_RX5_28 dX5_handOn_52 (by rfl) (Nat.le_of_ble_eq_true rfl) (by decide) (by omega) (fun _ _ _ h _ => False.elim h) (fun r_52 w_52 n_52 h_52 hn_52 => ?_)
            obtain ⟨rfl, en_52, ew_52⟩ := h_52
            rw [en_52, ew_52, e_up_up]
            first | (rw [if_pos (show (1 : Int) = 1 ∧ (0 : Int) = 0 by decide), b01_t (by decide)]) | (rw [if_neg (show ¬ ((0 : Int) = 1 ∧ (0 : Int) = 0) by decide), b01_f (by decide)])
            refine e_if_eq F 60 dX5_handOn_55 (by decide) (by decide) (fun c_55 => ?_) (fun c_55 => ?_)
            · have h_c : (1 ≤ a9 ∧ a9 ≤ fl wh) ∧ (0 ≤ g9 ∧ g9 ≤ 3) := by omega
              obtain ⟨kt9, rfl⟩ : ∃ k : Nat, t9 = (k : Int) := ⟨t9.toNat, by omega⟩
              have hkt9 : kt9 < 6 := by omega
              rw [show ((kt9 : Nat) : Int).toNat = kt9 from rfl]
              obtain ⟨ki9, rfl⟩ : ∃ k : Nat, i9 = (k : Int) := ⟨i9.toNat, by omega⟩
              have hki9 : ki9 < 6 := by omega
              rw [show ((ki9 : Nat) : Int).toNat = ki9 from rfl]
              refine e_dom ?_
              intro hdm
              obtain ⟨gY, _, ⟨G, gG, gGe⟩, ⟨SS, PP, gS, gP, gMD⟩, gRV⟩ := id gM
              have hyn := hdm _ _ gY
              have hgn := hdm _ _ gG
              have hsn := hdm _ _ gS
              have hpn := hdm _ _ gP
              refine e_aload_n F dX5_handOn_60 rfl ?_
              refine e_iload_n F dX5_handOn_61 rfl ?_
              refine e_iload_n F dX5_handOn_62 rfl ?_
              refine e_callVV F u_X5_isEnough (by rfl) (c_X5_isEnough gM hki9 (set := a9) (by omega) (by omega)) gY rfl rfl w_ml_RX5_161 dX5_handOn_63 (by rfl) (Nat.le_of_ble_eq_true rfl) (by decide) (by omega) (fun _ _ _ h _ => False.elim h) (fun r_63 w_63 n_63 h_63 hn_63 => ?_)
              obtain ⟨rfl, ew_63, en_63⟩ := h_63
              rw [ew_63, en_63]
              refine e_if_ne F 72 dX5_handOn_66 (by decide) (b01_r _) (fun c_66 => ?_) (fun c_66 => ?_)
              ·
                rw [ne_eq, b01_0, Classical.not_not] at c_66
                have hen := c_66
                obtain ⟨a, f, hSa, hya, hwa, hfr, hfA⟩ := MD.row (gMD ki9 hki9) hen.1.2
                have han := hdm _ _ hwa
                refine e_iload F dX5_handOn_72 rfl ?_
                refine e_iconst F dX5_handOn_74 ?_
                refine e_iadd F dX5_handOn_75 ?_
                refine e_newI F (N := (g9.toNat + 1)) (by omega) (by omega) (by omega) w_ac_int dX5_handOn_76 ?_
                refine e_astore F dX5_handOn_78 (by decide) ?_
                refine e_aload F dX5_handOn_80 rfl ?_
                refine e_iconst F dX5_handOn_82 ?_
                refine e_aload_n F dX5_handOn_83 rfl ?_
                refine e_aload_n F dX5_handOn_84 rfl ?_
                refine e_get (ci := 5) (fi := 4) (q := (RX5, TX5, 6)) F (show e_up _ n _ y = _ by rw [e_up_n (by omega)]; exact gY) rfl (by decide) w_fl_RX5_18 (by rfl) dX5_handOn_85 ?_
                refine e_iload_n F dX5_handOn_88 rfl ?_
                refine e_aaldr F (show e_up _ n _ (y + 2) = _ by rw [e_up_n (by omega)]; exact gS) (by omega) (by omega) (by decide) (hSa) dX5_handOn_89 ?_
                refine e_iload_n F dX5_handOn_90 rfl ?_
                refine e_iconst F dX5_handOn_91 ?_
                have vY : e_up (e_up w y (MO y 0 wh kn)) n (e_ia (g9.toNat + 1) (fun _ => 0)) y = some (MO y 0 wh kn) := by rw [e_up_n (by omega)]; exact gY
                refine e_callVV F u_X5_at (by rfl) (c_X5_at vY hwh (a := a) (f := f) (by rw [e_up_n (by omega)]; exact hwa) (by omega) hfr (set := a9) (x := 0) (by omega) (by omega) (by decide)) vY rfl rfl w_ml_RX5_106 dX5_handOn_92 (by rfl) (Nat.le_of_ble_eq_true rfl) (by decide) (by omega) (fun _ _ _ h _ => False.elim h) (fun r_92 w_92 n_92 h_92 hn_92 => ?_)
                obtain ⟨rfl, gK⟩ := h_92
                have eT0 : atV wh a9 f 0 = atV wh a9 (R ki9).A 0 := by
                  unfold atV
                  rw [trK_congr (A2 := (R ki9).A) (ho wh).toNat (fun j j0 j1 => hfA j j0 (by omega))]
                rw [eT0]
                have gK1 : ∀ q, q < n → w_92 q = e_up w y (MO y 0 wh kn) q := fun q q1 => by rw [gK q (by omega), e_up_n (by omega)]
                have vn : w_92 n = some (e_ia (g9.toNat + 1) (fun _ => 0)) := by rw [gK n (by omega)]; exact e_up_s
                refine e_iast F vn (by omega) (by omega) (by first | decide | omega) dX5_handOn_95 ?_
                refine e_aload_n F dX5_handOn_96 rfl ?_
                refine e_callVV F u_X5_holders (by rfl) (c_X5_holders (show e_up w_92 n _ y = some (MO y 0 wh kn) by rw [e_up_n (by omega), gK1 y (by omega)]; exact gY) hwh) (show e_up w_92 n _ y = _ by rw [e_up_n (by omega), gK1 y (by omega)]; exact gY) rfl rfl w_ml_RX5_52 dX5_handOn_97 (by rfl) (Nat.le_of_ble_eq_true rfl) (by decide) (by omega) (fun _ _ _ h _ => False.elim h) (fun r_97 w_97 n_97 h_97 hn_97 => ?_)
                obtain ⟨rfl, ew_97, en_97⟩ := h_97
                rw [ew_97, en_97]
                refine e_iconst F dX5_handOn_100 ?_
                refine e_iadd F dX5_handOn_101 ?_
                refine e_newI F (N := ((ho wh).toNat + 1)) (by omega) (by omega) (by omega) w_ac_int dX5_handOn_102 ?_
                refine e_astore F dX5_handOn_104 (by decide) ?_
                refine e_iconst F dX5_handOn_106 ?_
                refine e_istore F dX5_handOn_107 (by decide) ?_
                have lo : ∀ (N : Nat) (k : Nat) (wl : e_W) (q1 f1 : Int → Int) (nl : Nat), 9 - k < N → (1 ≤ k ∧ (k : Int) ≤ g9 + 1 ∧ wl n = some (e_ia (g9.toNat + 1) q1) ∧ (∀ u : Int, 0 ≤ u → u < (k : Int) → q1 u = (hnP wh a9 (R ki9).A b9 c9) u) ∧ wl n_92 = some (e_ia ((ho wh).toNat + 1) f1) ∧ f1 0 = 0 ∧ (∀ q, q < n → wl q = (e_up w y (MO y 0 wh kn)) q) ∧ n_92 < nl) → e_V K P9 l E9 (6) (20) S9 M9 A9 B9 T9 C9 11 (fun r w' n' => FM w w' y n ∧ ((¬ ((0 ≤ ((ki9 : Nat) : Int) ∧ ((ki9 : Nat) : Int) < 6) ∧ (0 ≤ ((kt9 : Nat) : Int) ∧ ((kt9 : Nat) : Int) < 6)) ∧ r = some (.int (eI 0)) ∧ MW w' y wh kn 1 R) ∨ (((0 ≤ ((ki9 : Nat) : Int) ∧ ((ki9 : Nat) : Int) < 6) ∧ (0 ≤ ((kt9 : Nat) : Int) ∧ ((kt9 : Nat) : Int) < 6)) ∧ ¬ ((1 ≤ a9 ∧ a9 ≤ fl wh) ∧ (0 ≤ g9 ∧ g9 ≤ 3)) ∧ r = some (.int (eI 0)) ∧ MW w' y wh kn 2 R) ∨ (((0 ≤ ((ki9 : Nat) : Int) ∧ ((ki9 : Nat) : Int) < 6) ∧ (0 ≤ ((kt9 : Nat) : Int) ∧ ((kt9 : Nat) : Int) < 6)) ∧ ((1 ≤ a9 ∧ a9 ≤ fl wh) ∧ (0 ≤ g9 ∧ g9 ≤ 3)) ∧ r = some (.int (eI ((if (thQ wh (R ki9) a9 ∧ (R ki9).dg < bc a9) then (bc (st7 (lpR wh g9 (hnP wh a9 (R ki9).A b9 c9)).A), updR R kt9 (lpR wh g9 (hnP wh a9 (R ki9).A b9 c9))) else (-9, R)).1))) ∧ MW w' y wh (kn) 0 ((if (thQ wh (R ki9) a9 ∧ (R ki9).dg < bc a9) then (bc (st7 (lpR wh g9 (hnP wh a9 (R ki9).A b9 c9)).A), updR R kt9 (lpR wh g9 (hnP wh a9 (R ki9).A b9 c9))) else (-9, R)).2)))) (e_px0) 109 [(0, .ref y), (2, .int (eI a9)), (3, .int (eI ((kt9 : Nat) : Int))), (4, .int (eI g9)), (5, .int (eI b9)), (6, .int (eI c9)), (7, .ref n), (8, .ref n_92), (9, .int (eI (k : Int)))] [] wl nl ((2 + 2 * k)) := by
                  intro N
                  induction N with
                  | zero => intro k wl q1 f1 nl hN; exact absurd hN (Nat.not_lt_zero _)
                  | succ N ih =>
                    intro k wl q1 f1 nl hN ⟨hk1, hk, gn0, gq, gnr, gz, gf, gnl⟩
                    have uY : wl y = some (MO y 0 wh kn) := (gf y (by omega)).trans gY
                    have gM3 : MW wl y wh kn 0 R := gM.to (fun q e q1 => by rw [gf q (hdm q e q1)]; exact q1)
                    have iho := ih
                    have li : (k : Int) ≤ g9 → ∀ (N : Nat) (h : Nat) (w2 : e_W) (f2 : Int → Int), 9 - h < N → (1 ≤ h ∧ (h : Int) ≤ ho wh + 1 ∧ w2 n_92 = some (e_ia ((ho wh).toNat + 1) f2) ∧ f2 0 = 0 ∧ (∀ u : Int, 1 ≤ u → u < (h : Int) → f2 u = (fun h => (b9 * h + c9 * (k : Int)) % pr wh) u) ∧ (∀ q, q ≠ n_92 → w2 q = wl q)) → e_V K P9 l E9 (6) (20) S9 M9 A9 B9 T9 C9 11 (fun r w' n' => FM w w' y n ∧ ((¬ ((0 ≤ ((ki9 : Nat) : Int) ∧ ((ki9 : Nat) : Int) < 6) ∧ (0 ≤ ((kt9 : Nat) : Int) ∧ ((kt9 : Nat) : Int) < 6)) ∧ r = some (.int (eI 0)) ∧ MW w' y wh kn 1 R) ∨ (((0 ≤ ((ki9 : Nat) : Int) ∧ ((ki9 : Nat) : Int) < 6) ∧ (0 ≤ ((kt9 : Nat) : Int) ∧ ((kt9 : Nat) : Int) < 6)) ∧ ¬ ((1 ≤ a9 ∧ a9 ≤ fl wh) ∧ (0 ≤ g9 ∧ g9 ≤ 3)) ∧ r = some (.int (eI 0)) ∧ MW w' y wh kn 2 R) ∨ (((0 ≤ ((ki9 : Nat) : Int) ∧ ((ki9 : Nat) : Int) < 6) ∧ (0 ≤ ((kt9 : Nat) : Int) ∧ ((kt9 : Nat) : Int) < 6)) ∧ ((1 ≤ a9 ∧ a9 ≤ fl wh) ∧ (0 ≤ g9 ∧ g9 ≤ 3)) ∧ r = some (.int (eI ((if (thQ wh (R ki9) a9 ∧ (R ki9).dg < bc a9) then (bc (st7 (lpR wh g9 (hnP wh a9 (R ki9).A b9 c9)).A), updR R kt9 (lpR wh g9 (hnP wh a9 (R ki9).A b9 c9))) else (-9, R)).1))) ∧ MW w' y wh (kn) 0 ((if (thQ wh (R ki9) a9 ∧ (R ki9).dg < bc a9) then (bc (st7 (lpR wh g9 (hnP wh a9 (R ki9).A b9 c9)).A), updR R kt9 (lpR wh g9 (hnP wh a9 (R ki9).A b9 c9))) else (-9, R)).2)))) (e_px0) 119 [(0, .ref y), (2, .int (eI a9)), (3, .int (eI ((kt9 : Nat) : Int))), (4, .int (eI g9)), (5, .int (eI b9)), (6, .int (eI c9)), (7, .ref n), (8, .ref n_92), (9, .int (eI (k : Int))), (10, .int (eI (h : Int)))] [] w2 nl ((2 + 2 * k)) := by
                      intro hpre N
                      induction N with
                      | zero => intro h w2 f2 hN; exact absurd hN (Nat.not_lt_zero _)
                      | succ N ih =>
                        intro h w2 f2 hN ⟨hh1, hh, gn2, gz2, ge2, gf2⟩
                        have vY : w2 y = some (MO y 0 wh kn) := (gf2 y (by omega)).trans uY
                        have vn : w2 n = some (e_ia (g9.toNat + 1) q1) := (gf2 n (by omega)).trans gn0
                        refine e_iload F dX5_handOn_119 rfl ?_
                        refine e_aload F dX5_handOn_121 rfl ?_
                        refine e_alenI F gn2 dX5_handOn_123 ?_
                        refine e_icmp_ge F 157 dX5_handOn_124 (by decide) (⟨by omega, by omega⟩) (⟨by omega, by omega⟩) (fun c_124 => ?_) (fun c_124 => ?_)
                        ·
                          obtain rfl : h = (ho wh).toNat + 1 := by omega
                          refine e_aload F dX5_handOn_157 rfl ?_
                          refine e_iload F dX5_handOn_159 rfl ?_
                          refine e_aload_n F dX5_handOn_161 rfl ?_
                          refine e_aload F dX5_handOn_162 rfl ?_
                          refine e_iload_n F dX5_handOn_164 rfl ?_
                          refine e_iconst F dX5_handOn_165 ?_
                          refine e_dom ?_
                          intro hdm3
                          refine e_callVV F u_X5_at (by rfl) (c_X5_at vY hwh gn2 (by omega) (fun j j0 j1 => by by_cases z : j = 0; rw [z, gz2]; omega; rw [ge2 j (by omega) (by omega)]; have := emod_rg (b9 * j + c9 * (k : Int)) hwh; show -1 ≤ (b9 * j + c9 * (k : Int)) % pr wh ∧ (b9 * j + c9 * (k : Int)) % pr wh < pr wh; exact ⟨by omega, this.2⟩) (set := a9) (x := 0) (by omega) (by omega) (by decide)) vY rfl rfl w_ml_RX5_106 dX5_handOn_166 (by rfl) (Nat.le_of_ble_eq_true rfl) (by decide) (by omega) (fun _ _ _ h _ => False.elim h) (fun r_166 w_166 n_166 h_166 hn_166 => ?_)
                          obtain ⟨rfl, gK4⟩ := h_166
                          have eT : atV wh a9 f2 0 = (hnP wh a9 (R ki9).A b9 c9) (k : Int) := by
                            unfold hnP
                            rw [if_neg (by omega)]
                            unfold atV
                            rw [trK_congr (A2 := (fun h => (b9 * h + c9 * (k : Int)) % pr wh)) (ho wh).toNat (fun j j0 j1 => ge2 j j0 (by omega))]
                          rw [eT]
                          have h4 : ∀ q, q < nl → w_166 q = w2 q := fun q q1 => gK4 q (by omega)
                          refine e_iast F (show w_166 n = _ by rw [h4 n (by omega)]; exact vn) (by omega) (by omega) (by first | decide | omega) dX5_handOn_169 ?_
                          refine e_iinc F dX5_handOn_170 rfl (by decide) ?_
                          refine e_goto F 109 dX5_handOn_173 (by decide) ?_
                          refine e_wid (by omega) (e_go (iho (k + 1) _ _ _ n_166 (by omega) ⟨by omega, by omega, e_up_s, fun u j0 j1 => ?_, by rw [e_up_n (by omega), h4 n_92 (by omega)]; exact gn2, gz2, fun q q1 => by rw [e_up_n (by omega), h4 q (by omega), gf2 q (by omega)]; exact gf q q1, by omega⟩) ?_)
                          · unfold e_fu
                            by_cases e8 : u = (k : Int)
                            · rw [if_pos e8, e8]
                            · rw [if_neg e8]; exact gq u j0 (by omega)
                          · exact (And.intro rfl (And.intro rfl (And.intro rfl (And.intro rfl (And.intro rfl (And.intro rfl (And.intro rfl (And.intro rfl (And.intro rfl (trivial))))))))))
                        ·
                          have hm1 := mulS_rg (h := (h : Int)) hb9 (by omega) (by omega)
                          have hm2 := mulS_rg (h := (k : Int)) hc9 (by omega) (by omega)
                          refine e_aload F dX5_handOn_127 rfl ?_
                          refine e_iload F dX5_handOn_129 rfl ?_
                          refine e_aload_n F dX5_handOn_131 rfl ?_
                          refine e_iload F dX5_handOn_132 rfl ?_
                          refine e_i2l F dX5_handOn_134 (hb9) ?_
                          refine e_iload F dX5_handOn_135 rfl ?_
                          refine e_i2l F dX5_handOn_137 (⟨by omega, by omega⟩) ?_
                          refine e_lmul F dX5_handOn_138 ?_
                          refine e_iload F dX5_handOn_139 rfl ?_
                          refine e_i2l F dX5_handOn_141 (hc9) ?_
                          refine e_iload F dX5_handOn_142 rfl ?_
                          refine e_i2l F dX5_handOn_144 (⟨by omega, by omega⟩) ?_
                          refine e_lmul F dX5_handOn_145 ?_
                          refine e_ladd F dX5_handOn_146 ?_
                          refine e_callVV F u_X5_mod (by rfl) (c_X5_mod vY hwh (by constructor <;> omega)) vY rfl rfl w_ml_RX5_55 dX5_handOn_147 (by rfl) (Nat.le_of_ble_eq_true rfl) (by decide) (by omega) (fun _ _ _ h _ => False.elim h) (fun r_147 w_147 n_147 h_147 hn_147 => ?_)
                          obtain ⟨rfl, ew_147, en_147⟩ := h_147
                          rw [ew_147, en_147]
                          refine e_iast F gn2 (by omega) (by omega) (by first | decide | omega) dX5_handOn_150 ?_
                          refine e_iinc F dX5_handOn_151 rfl (by decide) ?_
                          refine e_goto F 119 dX5_handOn_154 (by decide) ?_
                          refine e_go (ih (h + 1) _ _ (by omega) ⟨by omega, by omega, e_up_s, ?_, fun u j0 j1 => ?_, fun q q1 => by rw [e_up_n q1]; exact gf2 q q1⟩) ?_
                          · unfold e_fu
                            rw [if_neg (by omega)]; exact gz2
                          · unfold e_fu
                            by_cases e8 : u = (h : Int)
                            · rw [if_pos e8, e8]
                            · rw [if_neg e8]; exact ge2 u j0 (by omega)
                          · exact (And.intro rfl (And.intro rfl (And.intro rfl (And.intro rfl (And.intro rfl (And.intro rfl (And.intro rfl (And.intro rfl (And.intro rfl (And.intro rfl (trivial)))))))))))
                    refine e_iload F dX5_handOn_109 rfl ?_
                    refine e_iload F dX5_handOn_111 rfl ?_
                    refine e_icmp_gt F 176 dX5_handOn_113 (by decide) (⟨by omega, by omega⟩) (⟨by omega, by omega⟩) (fun c_113 => ?_) (fun c_113 => ?_)
                    ·
                      obtain rfl : k = g9.toNat + 1 := by omega
                      refine e_aload_n F dX5_handOn_176 rfl ?_
                      refine e_iload_n F dX5_handOn_177 rfl ?_
                      refine e_iload F dX5_handOn_178 rfl ?_
                      refine e_aload_n F dX5_handOn_180 rfl ?_
                      refine e_aload F dX5_handOn_181 rfl ?_
                      refine e_dom ?_
                      intro hdm3
                      have hPr := fun u => hnP_rg hwh a9 (R ki9).A b9 c9 u
                      refine e_callVV F u_X5_values (by rfl) (c_X5_values uY hwh gn0 (by omega) (fun j j0 j1 => by rw [gq j j0 (by omega)]; exact hPr j)) uY rfl rfl w_ml_RX5_136 dX5_handOn_183 (by rfl) (Nat.le_of_ble_eq_true rfl) (by decide) (by omega) (fun _ _ _ h _ => False.elim h) (fun r_183 w_183 n_183 h_183 hn_183 => ?_)
                      obtain ⟨rfl, ⟨f, hf, hf0, hfe⟩, gK5, en_183⟩ := h_183
                      rw [en_183]
                      have gM5 := gM3.kb hdm3 gK5
                      have hq5 : w_183 n = _ := (gK5 _ (by omega)).trans gn0
                      refine e_aload F dX5_handOn_186 rfl ?_
                      refine e_callVV F u_X5_lay (by rfl) (c_X5_layRR gM5 hkt9 (a := nl) (b := n) (r := lpR wh g9 (hnP wh a9 (R ki9).A b9 c9)) (lpR_MD hwh (by omega) (by omega) (by omega) hf hf0 (fun j j0 j1 => by rw [hfe j j0 j1]; exact hv_congr _ (by omega) (fun k k0 k1 => gq k k0 (by omega))) hq5 (fun j j0 j1 => gq j j0 (by omega)) (fun j _ _ => hPr j)) (lpR_RV hwh (by omega) (fun j _ _ => hPr j))) gM5.1 rfl rfl w_ml_RX5_140 dX5_handOn_188 (by rfl) (Nat.le_of_ble_eq_true rfl) (by decide) (by omega) (fun _ _ _ h _ => False.elim h) (fun r_188 w_188 n_188 h_188 hn_188 => ?_)
                      obtain ⟨rfl, en_188, gM6, gF6⟩ := h_188
                      refine e_iret F rfl (by omega) ?_ dX5_handOn_191
                      have q9 : (thQ wh (R ki9) a9 ∧ (R ki9).dg < bc a9) := hen
                      rw [if_pos q9]
                      exact ⟨FM.tr (n1 := nl + 1) (fun q q1 q2 => ((gK5 q (by omega)).trans (gf q q1)).trans (FM.th (n := n) q q1 q2)) (by omega) gF6, Or.inr (Or.inr ⟨h_i, h_c, rfl, gM6⟩)⟩
                    · refine e_iconst F dX5_handOn_116 ?_
                      refine e_istore F dX5_handOn_117 (by decide) ?_
                      exact e_wid (by omega) (e_go (li (by omega) 10 1 wl f1 (by omega) ⟨by omega, by omega, gnr, gz, fun u j0 j1 => by omega, fun _ _ => rfl⟩) (And.intro rfl (And.intro rfl (And.intro rfl (And.intro rfl (And.intro rfl (And.intro rfl (And.intro rfl (And.intro rfl (And.intro rfl (And.intro rfl (trivial))))))))))))
                exact e_wid (by omega) (e_go (lo 10 1 _ _ (fun _ => 0) _ (by omega) ⟨by omega, by omega, by rw [e_up_n (by omega)]; exact e_up_s, fun u j0 j1 => by rw [show u = 0 by omega]; rfl, e_up_s, rfl, fun q q1 => by rw [e_up_n (by omega), e_up_n (by omega)]; exact gK1 q q1, by omega⟩) (And.intro rfl (And.intro rfl (And.intro rfl (And.intro rfl (And.intro rfl (And.intro rfl (And.intro rfl (And.intro rfl (And.intro rfl (trivial)))))))))))
              ·
                rw [b01_0] at c_66
                refine e_bipush F dX5_handOn_69 (by decide) ?_
                refine e_iret F rfl (by omega) ?_ dX5_handOn_71
                have q9 : ¬ (thQ wh (R ki9) a9 ∧ (R ki9).dg < bc a9) := c_66
                rw [if_neg q9]
                exact ⟨FM.th, Or.inr (Or.inr ⟨h_i, h_c, rfl, gM⟩)⟩
            · exact absurd c_55 (by decide)
          ·
            rw [b01_0] at c_43
            refine e_iconst F dX5_handOn_46 ?_
            refine e_goto F 51 dX5_handOn_47 (by decide) ?_
            refine e_iconst F dX5_handOn_51 ?_
            refine e_callVV F u_X5_refuse (by rfl) (c_X5_refuse gM.1 (by decide) (by decide) (by first | exact Or.inl rfl | exact Or.inr rfl) (by decide) (by decide)) gM.1 rfl rfl w_ml_RX5_28 dX5_handOn_52 (by rfl) (Nat.le_of_ble_eq_true rfl) (by decide) (by omega) (fun _ _ _ h _ => False.elim h) (fun r_52 w_52 n_52 h_52 hn_52 => ?_)
            obtain ⟨rfl, en_52, ew_52⟩ := h_52
            rw [en_52, ew_52, e_up_up]
            first | (rw [if_pos (show (1 : Int) = 1 ∧ (0 : Int) = 0 by decide), b01_t (by decide)]) | (rw [if_neg (show ¬ ((0 : Int) = 1 ∧ (0 : Int) = 0) by decide), b01_f (by decide)])
            refine e_if_eq F 60 dX5_handOn_55 (by decide) (by decide) (fun c_55 => ?_) (fun c_55 => ?_)
            · exact absurd c_55 (by decide)
            · refine e_iconst F dX5_handOn_58 ?_
              refine e_iret F rfl (by omega) ?_ dX5_handOn_59
              first
              | exact ⟨FM.th, Or.inr (Or.inl ⟨h_i, (fun q => by omega), rfl, hM.th⟩)⟩
              | exact ⟨FM.th, Or.inl ⟨(fun q => by omega), rfl, hM.th⟩⟩
    ·
      rw [b01_0, Classical.not_not] at c_12
      refine e_iconst F dX5_handOn_15 ?_
      refine e_goto F 20 dX5_handOn_16 (by decide) ?_
      refine e_iconst F dX5_handOn_20 ?_
      refine e_callVV F u_X5_start (by rfl) (c_X5_start hY (by first | exact Or.inl rfl | exact Or.inr rfl) (by decide) (by decide)) hY rfl rfl w_ml_RX5_69 dX5_handOn_21 (by rfl) (Nat.le_of_ble_eq_true rfl) (by decide) (by omega) (fun _ _ _ h _ => False.elim h) (fun r_21 w_21 n_21 h_21 hn_21 => ?_)
      obtain ⟨rfl, en_21, ew_21⟩ := h_21
      rw [en_21, ew_21]
      first | rw [if_pos (show (1 : Int) = 1 from rfl)] | rw [if_neg (show ¬ ((0 : Int) = 1) by decide)]
      have gM := hM.th (t2 := 0) (kn2 := kn)
      refine e_if_ne F 58 dX5_handOn_24 (by decide) (by decide) (fun c_24 => ?_) (fun c_24 => ?_)
      · refine e_iconst F dX5_handOn_58 ?_
        refine e_iret F rfl (by omega) ?_ dX5_handOn_59
        first
        | exact ⟨FM.th, Or.inr (Or.inl ⟨h_i, (fun q => by omega), rfl, hM.th⟩)⟩
        | exact ⟨FM.th, Or.inl ⟨(fun q => by omega), rfl, hM.th⟩⟩
      · exact absurd c_24 (by decide)
end
-- 57.text.lean.txt
section
/-! the reference: texts, its making -/
set_option maxHeartbeats 4000000 in
set_option maxRecDepth 100000 in
theorem c_X5_text {K : e_K} {l : Launch} {w : e_W} {n : Nat} {y wh : Nat} {t kn : Int} {R : Nat → RD} (hM : MW w y wh kn t R) {i9 : Int} (hi9 : e_r i9) : e_Met K l yX5_text (Cond.code yX5_text cX5_text 4 (Option.some (.object "java/lang/String")) :: e_TB) (7) (24) [.ref y, .int (eI i9)] w n (fun r w' n' => FM w w' y n ∧ ((¬ (0 ≤ i9 ∧ i9 < 6) ∧ (∃ q : Nat, r = some (.ref q)) ∧ MW w' y wh kn 1 R) ∨ ((0 ≤ i9 ∧ i9 < 6) ∧ (∃ q : Nat, r = some (.ref q)) ∧ MW w' y wh (kn) 0 (R)))) (e_px0) := by
  refine e_ofV rfl (Nat.le_of_ble_eq_true rfl) ?_
  intro P9 E9 S9 M9 A9 B9 T9 C9 F hnm
  have hwh := hM.2.1
  have hY := hM.1
  have hp := pr_rg wh hwh
  have hho := ho_rg wh hwh
  have hf9 := fl_rg wh hwh
  refine e_aload_n F dX5_text_0 rfl ?_
  refine e_iload_n F dX5_text_1 rfl ?_
  refine e_callSS F u_X5_isNoDeal (by rfl) (c_X5_isNoDeal hi9) w_ml_RX5_129 dX5_text_2 (by rfl) (Nat.le_of_ble_eq_true rfl) (by decide) (by omega) (fun _ _ _ h _ => False.elim h) (fun r_2 w_2 n_2 h_2 hn_2 => ?_)
  obtain ⟨rfl, ew_2, en_2⟩ := h_2
  rw [ew_2, en_2]
  refine e_iconst F dX5_text_5 ?_
  refine e_callVV F u_X5_start (by rfl) (c_X5_start hY (b01_or _) (by decide) (by decide)) hY rfl rfl w_ml_RX5_69 dX5_text_6 (by rfl) (Nat.le_of_ble_eq_true rfl) (by decide) (by omega) (fun _ _ _ h _ => False.elim h) (fun r_6 w_6 n_6 h_6 hn_6 => ?_)
  obtain ⟨rfl, en_6, ew_6⟩ := h_6
  rw [en_6, ew_6, st1]
  refine e_if_ne F 20 dX5_text_9 (by decide) (b01_r _) (fun c_9 => ?_) (fun c_9 => ?_)
  ·
    rw [ne_eq, b01_0, Classical.not_not] at c_9
    rw [if_neg c_9]
    refine e_ldcS F (text := "") (by decide +kernel) dX5_text_20 (fun s_20 => ?_)
    refine e_aret F rfl (Or.inl ⟨_, rfl⟩) (Or.inr ⟨_, rfl⟩) (by omega) ?_ dX5_text_22
    first
    | exact ⟨FM.th, Or.inl ⟨c_9, ⟨_, rfl⟩, hM.th⟩⟩
    | exact ⟨FM.th, Or.inr ⟨h_i, ⟨_, rfl⟩, gM⟩⟩
  ·
    rw [b01_0, Classical.not_not] at c_9
    rw [if_pos c_9]
    have gM := hM.th (t2 := 0) (kn2 := kn)
    have h_i := c_9
    obtain ⟨ki9, rfl⟩ : ∃ k : Nat, i9 = (k : Int) := ⟨i9.toNat, by omega⟩
    have hki9 : ki9 < 6 := by omega
    try rw [show ((ki9 : Nat) : Int).toNat = ki9 from rfl]
    refine e_dom ?_
    intro hdm
    obtain ⟨gY, _, ⟨G, gG, gGe⟩, ⟨SS, PP, gS, gP, gMD⟩, gRV⟩ := id gM
    have hyn := hdm _ _ gY
    have hgn := hdm _ _ gG
    have hsn := hdm _ _ gS
    have hpn := hdm _ _ gP
    refine e_aload_n F dX5_text_12 rfl ?_
    refine e_iload_n F dX5_text_13 rfl ?_
    refine e_callVV F u_X5_isEmpty (by rfl) (c_X5_isEmpty gM (i := ki9) hki9) gY rfl rfl w_ml_RX5_113 dX5_text_14 (by rfl) (Nat.le_of_ble_eq_true rfl) (by decide) (by omega) (fun _ _ _ h _ => False.elim h) (fun r_14 w_14 n_14 h_14 hn_14 => ?_)
    obtain ⟨rfl, ew_14, en_14⟩ := h_14
    rw [ew_14, en_14]
    refine e_if_eq F 23 dX5_text_17 (by decide) (b01_r _) (fun c_17 => ?_) (fun c_17 => ?_)
    ·
      rw [b01_0] at c_17
      have hne := c_17
      obtain ⟨a, f, hSa, hya, hwa, hfr, hfA⟩ := MD.row (gMD ki9 hki9) hne
      have han := hdm _ _ hwa
      have lp : ∀ (N k nl : Nat) (c : Int) (wl : e_W), 8 - k < N → ((k : Int) ≤ ho wh ∧ SB wl n c ∧ c ≤ 9 * k ∧ KB (e_up w y (MO y 0 wh kn)) wl n ∧ n ≤ nl) → e_V K P9 l E9 (7) (24) S9 M9 A9 B9 T9 C9 4 (fun r w' n' => FM w w' y n ∧ ((¬ (0 ≤ ((ki9 : Nat) : Int) ∧ ((ki9 : Nat) : Int) < 6) ∧ (∃ q : Nat, r = some (.ref q)) ∧ MW w' y wh kn 1 R) ∨ ((0 ≤ ((ki9 : Nat) : Int) ∧ ((ki9 : Nat) : Int) < 6) ∧ (∃ q : Nat, r = some (.ref q)) ∧ MW w' y wh (kn) 0 (R)))) (e_px0) 33 [(0, .ref y), (1, .int (eI ((ki9 : Nat) : Int))), (2, .ref n), (3, .int (eI ((k : Int) + 1)))] [] wl nl ((2 + 2 * k)) := by
        intro N
        induction N with
        | zero => intro k nl c wl hN; exact absurd hN (Nat.not_lt_zero _)
        | succ N ih =>
          intro k nl c wl hN ⟨hk, gS9, gc, gK, gn⟩
          have hc0 := gS9.pos
          have gM2 := gM.kb hdm gK
          have l53 : (k : Int) < ho wh → ∀ (c2 : Int) (w2 : e_W) (n2 : Nat), SB w2 n c2 → c2 ≤ 9 * k + 1 → KB (e_up w y (MO y 0 wh kn)) w2 n → n ≤ n2 → e_V K P9 l E9 (7) (24) S9 M9 A9 B9 T9 C9 4 (fun r w' n' => FM w w' y n ∧ ((¬ (0 ≤ ((ki9 : Nat) : Int) ∧ ((ki9 : Nat) : Int) < 6) ∧ (∃ q : Nat, r = some (.ref q)) ∧ MW w' y wh kn 1 R) ∨ ((0 ≤ ((ki9 : Nat) : Int) ∧ ((ki9 : Nat) : Int) < 6) ∧ (∃ q : Nat, r = some (.ref q)) ∧ MW w' y wh (kn) 0 (R)))) (e_px0) 53 [(0, .ref y), (1, .int (eI ((ki9 : Nat) : Int))), (2, .ref n), (3, .int (eI ((k : Int) + 1)))] [] w2 n2 ((3 + 2 * k)) := by
            intro hlt c2 w2 n2 hS2 hc2 hK2 hn2
            have hc0 := hS2.pos
            have uY : w2 y = some (MO y 0 wh kn) := (hK2 y (by omega)).trans gY
            have uS : w2 (y + 2) = some (e_ra 6 SS) := (hK2 _ (by omega)).trans gS
            have ua : w2 a = some (e_ia ((ho wh).toNat + 1) f) := (hK2 _ (by omega)).trans hwa
            have hA9 := gM.rgA hki9 (j := (k : Int) + 1) (by omega) (by omega)
            refine e_aload_n F dX5_text_53 rfl ?_
            refine e_get (ci := 5) (fi := 4) (q := (RX5, TX5, 6)) F uY rfl (by decide) w_fl_RX5_18 (by rfl) dX5_text_54 ?_
            refine e_iload_n F dX5_text_57 rfl ?_
            refine e_aaldr F uS (by omega) (by omega) (by decide) (hSa) dX5_text_58 ?_
            refine e_iload_n F dX5_text_59 rfl ?_
            refine e_iald F ua (by omega) (by omega) (by first | decide | omega) dX5_text_60 ?_
            rw [hfA _ (by omega) (by omega)]
            refine e_iconst F dX5_text_61 ?_
            refine e_icmp_ne F 75 dX5_text_62 (by decide) (⟨by omega, by omega⟩) (⟨by omega, by omega⟩) (fun c_62 => ?_) (fun c_62 => ?_)
            · refine e_aload_n F dX5_text_75 rfl ?_
              refine e_aload_n F dX5_text_76 rfl ?_
              refine e_get (ci := 5) (fi := 4) (q := (RX5, TX5, 6)) F uY rfl (by decide) w_fl_RX5_18 (by rfl) dX5_text_77 ?_
              refine e_iload_n F dX5_text_80 rfl ?_
              refine e_aaldr F uS (by omega) (by omega) (by decide) (hSa) dX5_text_81 ?_
              refine e_iload_n F dX5_text_82 rfl ?_
              refine e_iald F ua (by omega) (by omega) (by first | decide | omega) dX5_text_83 ?_
              rw [hfA _ (by omega) (by omega)]
              obtain ⟨q84, b84⟩ := hS2.cell
              refine e_callVV F u_J4_append_bf812 (by rfl) (c_J4_append_bf812 (c := c2) (x := (R ki9).A ((k : Int) + 1)) hS2 (by omega) (by omega) (by omega)) b84 rfl rfl w_ml_RX5_209 dX5_text_84 (by rfl) (Nat.le_of_ble_eq_true rfl) (by decide) (by omega) (fun _ _ _ h _ => False.elim h) (fun r_84 w_84 n_84 h_84 hn_84 => ?_)
              obtain ⟨rfl, ⟨c84, l84, u84, S84⟩, K84⟩ := h_84
              refine e_pop F dX5_text_87 rfl ?_
              refine e_iinc F dX5_text_88 rfl (by decide) ?_
              refine e_goto F 33 dX5_text_91 (by decide) ?_
              first
              | exact e_wid (by omega) (e_go (ih (k + 1) _ _ _ (by omega) ⟨by omega, S84, by omega, hK2.tr K84, by omega⟩) (And.intro rfl (And.intro rfl (And.intro rfl (And.intro rfl (trivial))))))
              | exact e_wid (by omega) (e_go (ih (k + 1) _ _ _ (by omega) ⟨by omega, S68, by omega, hK2.tr K68, by omega⟩) (And.intro rfl (And.intro rfl (And.intro rfl (And.intro rfl (trivial))))))
            · refine e_aload_n F dX5_text_65 rfl ?_
              refine e_bipush F dX5_text_66 (by decide) ?_
              obtain ⟨q68, b68⟩ := hS2.cell
              refine e_callVV F u_J4_append_cf468 (by rfl) (c_J4_append_cf468 (c := c2) (x := 45) hS2 (by omega) (by omega) (by omega)) b68 rfl rfl w_ml_RX5_205 dX5_text_68 (by rfl) (Nat.le_of_ble_eq_true rfl) (by decide) (by omega) (fun _ _ _ h _ => False.elim h) (fun r_68 w_68 n_68 h_68 hn_68 => ?_)
              obtain ⟨rfl, S68, K68⟩ := h_68
              refine e_pop F dX5_text_71 rfl ?_
              refine e_goto F 88 dX5_text_72 (by decide) ?_
              refine e_iinc F dX5_text_88 rfl (by decide) ?_
              refine e_goto F 33 dX5_text_91 (by decide) ?_
              first
              | exact e_wid (by omega) (e_go (ih (k + 1) _ _ _ (by omega) ⟨by omega, S84, by omega, hK2.tr K84, by omega⟩) (And.intro rfl (And.intro rfl (And.intro rfl (And.intro rfl (trivial))))))
              | exact e_wid (by omega) (e_go (ih (k + 1) _ _ _ (by omega) ⟨by omega, S68, by omega, hK2.tr K68, by omega⟩) (And.intro rfl (And.intro rfl (And.intro rfl (And.intro rfl (trivial))))))
          refine e_iload_n F dX5_text_33 rfl ?_
          refine e_aload_n F dX5_text_34 rfl ?_
          refine e_callVV F u_X5_holders (by rfl) (c_X5_holders gM2.1 hwh) gM2.1 rfl rfl w_ml_RX5_52 dX5_text_35 (by rfl) (Nat.le_of_ble_eq_true rfl) (by decide) (by omega) (fun _ _ _ h _ => False.elim h) (fun r_35 w_35 n_35 h_35 hn_35 => ?_)
          obtain ⟨rfl, ew_35, en_35⟩ := h_35
          rw [ew_35, en_35]
          refine e_icmp_gt F 94 dX5_text_38 (by decide) (⟨by omega, by omega⟩) (⟨by omega, by omega⟩) (fun c_38 => ?_) (fun c_38 => ?_)
          · refine e_aload_n F dX5_text_94 rfl ?_
            obtain ⟨q95, b95⟩ := gS9.cell
            refine e_callVV F u_J4_toString_0e30d (by rfl) (c_J4_toString_0e30d gS9) b95 rfl rfl w_ml_RX5_212 dX5_text_95 (by rfl) (Nat.le_of_ble_eq_true rfl) (by decide) (by omega) (fun _ _ _ h _ => False.elim h) (fun r_95 w_95 n_95 h_95 hn_95 => ?_)
            obtain ⟨rfl, en_95, t1_95, t2_95, K95⟩ := h_95
            refine e_aret F rfl (Or.inl ⟨_, rfl⟩) (Or.inr ⟨_, rfl⟩) (by omega) ?_ dX5_text_98
            exact ⟨FM.th.kb (Nat.le_refl _) (gK.tr (fun j hj => K95 j (by omega))), Or.inr ⟨h_i, ⟨_, rfl⟩, gM.kb hdm (gK.tr (fun j hj => K95 j (by omega)))⟩⟩
          · refine e_iload_n F dX5_text_41 rfl ?_
            refine e_iconst F dX5_text_42 ?_
            refine e_icmp_le F 53 dX5_text_43 (by decide) (⟨by omega, by omega⟩) (⟨by omega, by omega⟩) (fun c_43 => ?_) (fun c_43 => ?_)
            · first
              | exact e_wid (by omega) (e_go (l53 (by omega) _ _ _ S49 (by omega) (gK.tr K49) (by omega)) (And.intro rfl (And.intro rfl (And.intro rfl (And.intro rfl (trivial))))))
              | exact e_wid (by omega) (e_go (l53 (by omega) _ _ _ gS9 (by omega) gK gn) (And.intro rfl (And.intro rfl (And.intro rfl (And.intro rfl (trivial))))))
            · refine e_aload_n F dX5_text_46 rfl ?_
              refine e_bipush F dX5_text_47 (by decide) ?_
              obtain ⟨q49, b49⟩ := gS9.cell
              refine e_callVV F u_J4_append_cf468 (by rfl) (c_J4_append_cf468 (c := c) (x := 32) gS9 (by omega) (by omega) (by omega)) b49 rfl rfl w_ml_RX5_205 dX5_text_49 (by rfl) (Nat.le_of_ble_eq_true rfl) (by decide) (by omega) (fun _ _ _ h _ => False.elim h) (fun r_49 w_49 n_49 h_49 hn_49 => ?_)
              obtain ⟨rfl, S49, K49⟩ := h_49
              refine e_pop F dX5_text_52 rfl ?_
              first
              | exact e_wid (by omega) (e_go (l53 (by omega) _ _ _ S49 (by omega) (gK.tr K49) (by omega)) (And.intro rfl (And.intro rfl (And.intro rfl (And.intro rfl (trivial))))))
              | exact e_wid (by omega) (e_go (l53 (by omega) _ _ _ gS9 (by omega) gK gn) (And.intro rfl (And.intro rfl (And.intro rfl (And.intro rfl (trivial))))))
      refine e_newO F (ci := 6) (q := (RJ4, TJ4, 4)) (fs := [.null, .int (eI 0), .int (eI 0), .int (eI 0)]) rfl (by omega) w_cl_RX5_202 w_is_RJ4 w_in_RJ4 (by decide) (by intro j hj; have hj9 : j < 4 := hj; rcases j with _ | _ | _ | _ | j <;> first | rfl | omega) dX5_text_23 ?_
      refine e_dup F dX5_text_26 rfl ?_
      refine e_callII F u_J4_init_da8c8 (by rfl) (c_J4_init_da8c8 e_up_s) w_ml_RX5_204 dX5_text_27 (by rfl) (Nat.le_of_ble_eq_true rfl) (by decide) (by omega) (fun _ _ _ h _ => False.elim h) (fun r_27 w_27 n_27 h_27 hn_27 => ?_)
      obtain ⟨rfl, en_27, S0, K0⟩ := h_27
      rw [en_27]
      have K1 : KB (e_up w y (MO y 0 wh kn)) w_27 n := fun j hj => by rw [K0 j (by omega) (by omega), e_up_n (by omega)]
      refine e_astore_n F dX5_text_30 (by decide) ?_
      refine e_iconst F dX5_text_31 ?_
      refine e_istore_n F dX5_text_32 (by decide) ?_
      exact e_wid (by omega) (e_go (lp 9 0 _ 0 _ (by omega) ⟨by omega, S0, by omega, K1, by omega⟩) (And.intro rfl (And.intro rfl (And.intro rfl (And.intro rfl (trivial))))))
    ·
      rw [b01_0, Classical.not_not] at c_17
      refine e_ldcS F (text := "") (by decide +kernel) dX5_text_20 (fun s_20 => ?_)
      refine e_aret F rfl (Or.inl ⟨_, rfl⟩) (Or.inr ⟨_, rfl⟩) (by omega) ?_ dX5_text_22
      first
      | exact ⟨FM.th, Or.inl ⟨c_9, ⟨_, rfl⟩, hM.th⟩⟩
      | exact ⟨FM.th, Or.inr ⟨h_i, ⟨_, rfl⟩, gM⟩⟩
set_option maxHeartbeats 4000000 in
set_option maxRecDepth 100000 in
theorem c_X5_seals {K : e_K} {l : Launch} {w : e_W} {n : Nat} {y wh : Nat} {t kn : Int} {R : Nat → RD} (hM : MW w y wh kn t R) {i9 : Int} (hi9 : e_r i9) : e_Met K l yX5_seals (Cond.code yX5_seals cX5_seals 4 (Option.some (.object "java/lang/String")) :: e_TB) (7) (24) [.ref y, .int (eI i9)] w n (fun r w' n' => FM w w' y n ∧ ((¬ (0 ≤ i9 ∧ i9 < 6) ∧ (∃ q : Nat, r = some (.ref q)) ∧ MW w' y wh kn 1 R) ∨ ((0 ≤ i9 ∧ i9 < 6) ∧ (∃ q : Nat, r = some (.ref q)) ∧ MW w' y wh (kn) 0 (R)))) (e_px0) := by
  refine e_ofV rfl (Nat.le_of_ble_eq_true rfl) ?_
  intro P9 E9 S9 M9 A9 B9 T9 C9 F hnm
  have hwh := hM.2.1
  have hY := hM.1
  have hp := pr_rg wh hwh
  have hho := ho_rg wh hwh
  have hf9 := fl_rg wh hwh
  refine e_aload_n F dX5_seals_0 rfl ?_
  refine e_iload_n F dX5_seals_1 rfl ?_
  refine e_callSS F u_X5_isNoDeal (by rfl) (c_X5_isNoDeal hi9) w_ml_RX5_129 dX5_seals_2 (by rfl) (Nat.le_of_ble_eq_true rfl) (by decide) (by omega) (fun _ _ _ h _ => False.elim h) (fun r_2 w_2 n_2 h_2 hn_2 => ?_)
  obtain ⟨rfl, ew_2, en_2⟩ := h_2
  rw [ew_2, en_2]
  refine e_iconst F dX5_seals_5 ?_
  refine e_callVV F u_X5_start (by rfl) (c_X5_start hY (b01_or _) (by decide) (by decide)) hY rfl rfl w_ml_RX5_69 dX5_seals_6 (by rfl) (Nat.le_of_ble_eq_true rfl) (by decide) (by omega) (fun _ _ _ h _ => False.elim h) (fun r_6 w_6 n_6 h_6 hn_6 => ?_)
  obtain ⟨rfl, en_6, ew_6⟩ := h_6
  rw [en_6, ew_6, st1]
  refine e_if_ne F 21 dX5_seals_9 (by decide) (b01_r _) (fun c_9 => ?_) (fun c_9 => ?_)
  ·
    rw [ne_eq, b01_0, Classical.not_not] at c_9
    rw [if_neg c_9]
    refine e_ldcS F (text := "") (by decide +kernel) dX5_seals_21 (fun s_21 => ?_)
    refine e_aret F rfl (Or.inl ⟨_, rfl⟩) (Or.inr ⟨_, rfl⟩) (by omega) ?_ dX5_seals_23
    exact ⟨FM.th, Or.inl ⟨c_9, ⟨_, rfl⟩, hM.th⟩⟩
  ·
    rw [b01_0, Classical.not_not] at c_9
    rw [if_pos c_9]
    have gM := hM.th (t2 := 0) (kn2 := kn)
    have h_i := c_9
    obtain ⟨ki9, rfl⟩ : ∃ k : Nat, i9 = (k : Int) := ⟨i9.toNat, by omega⟩
    have hki9 : ki9 < 6 := by omega
    try rw [show ((ki9 : Nat) : Int).toNat = ki9 from rfl]
    refine e_dom ?_
    intro hdm
    obtain ⟨gY, _, ⟨G, gG, gGe⟩, ⟨SS, PP, gS, gP, gMD⟩, gRV⟩ := id gM
    have hyn := hdm _ _ gY
    have hgn := hdm _ _ gG
    have hsn := hdm _ _ gS
    have hpn := hdm _ _ gP
    rcases MD.pw (gMD ki9 hki9) with ⟨hp0, hPn⟩ | ⟨hp1, ⟨b, g, hPb, hyb, hwb, hgr, hgE⟩, hd0⟩
    ·
      refine e_aload_n F dX5_seals_12 rfl ?_
      refine e_get (ci := 5) (fi := 5) (q := (RX5, TX5, 6)) F gY rfl (by decide) w_fl_RX5_22 (by rfl) dX5_seals_13 ?_
      refine e_iload_n F dX5_seals_16 rfl ?_
      refine e_aaldn F gP (by omega) (by omega) (by decide) (hPn) dX5_seals_17 ?_
      refine e_ifnonnullN F dX5_seals_18 ?_
      refine e_ldcS F (text := "") (by decide +kernel) dX5_seals_21 (fun s_21 => ?_)
      refine e_aret F rfl (Or.inl ⟨_, rfl⟩) (Or.inr ⟨_, rfl⟩) (by omega) ?_ dX5_seals_23
      exact ⟨FM.th, Or.inr ⟨h_i, ⟨_, rfl⟩, gM⟩⟩
    · have hbn := hdm _ _ hwb
      have hdd := MD.dg (gMD ki9 hki9)
      have lp : ∀ (N k nl : Nat) (c : Int) (wl : e_W), 8 - k < N → ((k : Int) ≤ (((R ki9).dg.toNat + 1 : Nat) : Int) ∧ SB wl n c ∧ c ≤ 9 * k ∧ KB (e_up w y (MO y 0 wh kn)) wl n ∧ n ≤ nl) → e_V K P9 l E9 (7) (24) S9 M9 A9 B9 T9 C9 4 (fun r w' n' => FM w w' y n ∧ ((¬ (0 ≤ ((ki9 : Nat) : Int) ∧ ((ki9 : Nat) : Int) < 6) ∧ (∃ q : Nat, r = some (.ref q)) ∧ MW w' y wh kn 1 R) ∨ ((0 ≤ ((ki9 : Nat) : Int) ∧ ((ki9 : Nat) : Int) < 6) ∧ (∃ q : Nat, r = some (.ref q)) ∧ MW w' y wh (kn) 0 (R)))) (e_px0) 34 [(0, .ref y), (1, .int (eI ((ki9 : Nat) : Int))), (2, .ref n), (3, .int (eI (k : Int)))] [] wl nl ((2 + 2 * k)) := by
        intro N
        induction N with
        | zero => intro k nl c wl hN; exact absurd hN (Nat.not_lt_zero _)
        | succ N ih =>
          intro k nl c wl hN ⟨hk, gS9, gc, gK, gn⟩
          have hc0 := gS9.pos
          have gM2 := gM.kb hdm gK
          have l56 : (k : Int) < (((R ki9).dg.toNat + 1 : Nat) : Int) → ∀ (c2 : Int) (w2 : e_W) (n2 : Nat), SB w2 n c2 → c2 ≤ 9 * k + 1 → KB (e_up w y (MO y 0 wh kn)) w2 n → n ≤ n2 → e_V K P9 l E9 (7) (24) S9 M9 A9 B9 T9 C9 4 (fun r w' n' => FM w w' y n ∧ ((¬ (0 ≤ ((ki9 : Nat) : Int) ∧ ((ki9 : Nat) : Int) < 6) ∧ (∃ q : Nat, r = some (.ref q)) ∧ MW w' y wh kn 1 R) ∨ ((0 ≤ ((ki9 : Nat) : Int) ∧ ((ki9 : Nat) : Int) < 6) ∧ (∃ q : Nat, r = some (.ref q)) ∧ MW w' y wh (kn) 0 (R)))) (e_px0) 56 [(0, .ref y), (1, .int (eI ((ki9 : Nat) : Int))), (2, .ref n), (3, .int (eI (k : Int)))] [] w2 n2 ((3 + 2 * k)) := by
            intro hlt c2 w2 n2 hS2 hc2 hK2 hn2
            have hc0 := hS2.pos
            have uM := gM.kb hdm hK2
            have hsv := stV_rg hwh (R ki9) (k : Int)
            have hs1 := hsv.2.2 hp1 (by omega)
            have hg9 := gr_rg wh hwh
            refine e_aload_n F dX5_seals_56 rfl ?_
            refine e_aload_n F dX5_seals_57 rfl ?_
            refine e_iload_n F dX5_seals_58 rfl ?_
            refine e_iload_n F dX5_seals_59 rfl ?_
            refine e_callVV F u_X5_sealTold (by rfl) (c_X5_sealTold uM hki9 (k9 := (k : Int)) (by omega) (by omega)) uM.1 rfl rfl w_ml_RX5_194 dX5_seals_60 (by rfl) (Nat.le_of_ble_eq_true rfl) (by decide) (by omega) (fun _ _ _ h _ => False.elim h) (fun r_60 w_60 n_60 h_60 hn_60 => ?_)
            obtain ⟨rfl, ew_60, en_60⟩ := h_60
            rw [ew_60, en_60]
            obtain ⟨q63, b63⟩ := hS2.cell
            refine e_callVV F u_J4_append_bf812 (by rfl) (c_J4_append_bf812 (c := c2) (x := stV wh (R ki9) (k : Int)) hS2 (by omega) (by omega) (by omega)) b63 rfl rfl w_ml_RX5_209 dX5_seals_63 (by rfl) (Nat.le_of_ble_eq_true rfl) (by decide) (by omega) (fun _ _ _ h _ => False.elim h) (fun r_63 w_63 n_63 h_63 hn_63 => ?_)
            obtain ⟨rfl, ⟨c63, l63, u63, S63⟩, K63⟩ := h_63
            refine e_pop F dX5_seals_66 rfl ?_
            refine e_iinc F dX5_seals_67 rfl (by decide) ?_
            refine e_goto F 34 dX5_seals_70 (by decide) ?_
            exact e_wid (by omega) (e_go (ih (k + 1) _ _ _ (by omega) ⟨by omega, S63, by omega, hK2.tr K63, by omega⟩) (And.intro rfl (And.intro rfl (And.intro rfl (And.intro rfl (trivial))))))
          have uY : wl y = some (MO y 0 wh kn) := (gK y (by omega)).trans gY
          have uP : wl (y + 3) = some (e_ra 6 PP) := (gK _ (by omega)).trans gP
          have ub : wl b = some (e_ia ((R ki9).dg.toNat + 1) g) := (gK _ (by omega)).trans hwb
          refine e_iload_n F dX5_seals_34 rfl ?_
          refine e_aload_n F dX5_seals_35 rfl ?_
          refine e_get (ci := 5) (fi := 5) (q := (RX5, TX5, 6)) F uY rfl (by decide) w_fl_RX5_22 (by rfl) dX5_seals_36 ?_
          refine e_iload_n F dX5_seals_39 rfl ?_
          refine e_aaldr F uP (by omega) (by omega) (by decide) (hPb) dX5_seals_40 ?_
          refine e_alenI F ub dX5_seals_41 ?_
          refine e_icmp_ge F 73 dX5_seals_42 (by decide) (⟨by omega, by omega⟩) (⟨by omega, by omega⟩) (fun c_42 => ?_) (fun c_42 => ?_)
          · refine e_aload_n F dX5_seals_73 rfl ?_
            obtain ⟨q74, b74⟩ := gS9.cell
            refine e_callVV F u_J4_toString_0e30d (by rfl) (c_J4_toString_0e30d gS9) b74 rfl rfl w_ml_RX5_212 dX5_seals_74 (by rfl) (Nat.le_of_ble_eq_true rfl) (by decide) (by omega) (fun _ _ _ h _ => False.elim h) (fun r_74 w_74 n_74 h_74 hn_74 => ?_)
            obtain ⟨rfl, en_74, t1_74, t2_74, K74⟩ := h_74
            refine e_aret F rfl (Or.inl ⟨_, rfl⟩) (Or.inr ⟨_, rfl⟩) (by omega) ?_ dX5_seals_77
            exact ⟨FM.th.kb (Nat.le_refl _) (gK.tr (fun j hj => K74 j (by omega))), Or.inr ⟨h_i, ⟨_, rfl⟩, gM.kb hdm (gK.tr (fun j hj => K74 j (by omega)))⟩⟩
          · refine e_iload_n F dX5_seals_45 rfl ?_
            refine e_if_le F 56 dX5_seals_46 (by decide) (⟨by omega, by omega⟩) (fun c_46 => ?_) (fun c_46 => ?_)
            · first
              | exact e_wid (by omega) (e_go (l56 (by omega) _ _ _ S52 (by omega) (gK.tr K52) (by omega)) (And.intro rfl (And.intro rfl (And.intro rfl (And.intro rfl (trivial))))))
              | exact e_wid (by omega) (e_go (l56 (by omega) _ _ _ gS9 (by omega) gK gn) (And.intro rfl (And.intro rfl (And.intro rfl (And.intro rfl (trivial))))))
            · refine e_aload_n F dX5_seals_49 rfl ?_
              refine e_bipush F dX5_seals_50 (by decide) ?_
              obtain ⟨q52, b52⟩ := gS9.cell
              refine e_callVV F u_J4_append_cf468 (by rfl) (c_J4_append_cf468 (c := c) (x := 32) gS9 (by omega) (by omega) (by omega)) b52 rfl rfl w_ml_RX5_205 dX5_seals_52 (by rfl) (Nat.le_of_ble_eq_true rfl) (by decide) (by omega) (fun _ _ _ h _ => False.elim h) (fun r_52 w_52 n_52 h_52 hn_52 => ?_)
              obtain ⟨rfl, S52, K52⟩ := h_52
              refine e_pop F dX5_seals_55 rfl ?_
              first
              | exact e_wid (by omega) (e_go (l56 (by omega) _ _ _ S52 (by omega) (gK.tr K52) (by omega)) (And.intro rfl (And.intro rfl (And.intro rfl (And.intro rfl (trivial))))))
              | exact e_wid (by omega) (e_go (l56 (by omega) _ _ _ gS9 (by omega) gK gn) (And.intro rfl (And.intro rfl (And.intro rfl (And.intro rfl (trivial))))))
      refine e_aload_n F dX5_seals_12 rfl ?_
      refine e_get (ci := 5) (fi := 5) (q := (RX5, TX5, 6)) F gY rfl (by decide) w_fl_RX5_22 (by rfl) dX5_seals_13 ?_
      refine e_iload_n F dX5_seals_16 rfl ?_
      refine e_aaldr F gP (by omega) (by omega) (by decide) (hPb) dX5_seals_17 ?_
      refine e_ifnonnull F 24 dX5_seals_18 (by decide) ?_
      refine e_newO F (ci := 6) (q := (RJ4, TJ4, 4)) (fs := [.null, .int (eI 0), .int (eI 0), .int (eI 0)]) rfl (by omega) w_cl_RX5_202 w_is_RJ4 w_in_RJ4 (by decide) (by intro j hj; have hj9 : j < 4 := hj; rcases j with _ | _ | _ | _ | j <;> first | rfl | omega) dX5_seals_24 ?_
      refine e_dup F dX5_seals_27 rfl ?_
      refine e_callII F u_J4_init_da8c8 (by rfl) (c_J4_init_da8c8 e_up_s) w_ml_RX5_204 dX5_seals_28 (by rfl) (Nat.le_of_ble_eq_true rfl) (by decide) (by omega) (fun _ _ _ h _ => False.elim h) (fun r_28 w_28 n_28 h_28 hn_28 => ?_)
      obtain ⟨rfl, en_28, S0, K0⟩ := h_28
      rw [en_28]
      have K1 : KB (e_up w y (MO y 0 wh kn)) w_28 n := fun j hj => by rw [K0 j (by omega) (by omega), e_up_n (by omega)]
      refine e_astore_n F dX5_seals_31 (by decide) ?_
      refine e_iconst F dX5_seals_32 ?_
      refine e_istore_n F dX5_seals_33 (by decide) ?_
      exact e_wid (by omega) (e_go (lp 9 0 _ 0 _ (by omega) ⟨by omega, S0, by omega, K1, by omega⟩) (And.intro rfl (And.intro rfl (And.intro rfl (And.intro rfl (trivial))))))
set_option maxHeartbeats 4000000 in
set_option maxRecDepth 100000 in
theorem c_X5_init {K : e_K} {l : Launch} {w : e_W} {n : Nat} {y : Nat} (h0 : w y = some (.inl (5, [.int (eI 0), .int (eI 0), .int (eI 0), .null, .null, .null]))) (hn : n = y + 1) : e_Met K l yX5_init (Cond.code yX5_init cX5_init 1 none :: e_TB) (1) (3) [.ref y] w n (fun r w' n' => r = none ∧ n' = y + 4 ∧ MW w' y 3 0 0 (fun _ => ((-1, 0, fun _ => -1, fun _ => 0) : RD)) ∧ ∀ q, q < y → w' q = w q) (e_px0) := by
  refine e_ofV rfl (Nat.le_of_ble_eq_true rfl) ?_
  intro P9 E9 S9 M9 A9 B9 T9 C9 F hnm
  subst hn
  refine e_aload_n F dX5_init_0 rfl ?_
  refine e_oinit F w_ml_RX5_1 w_im_java_lang_Object__init____V w_co_oinit (Nat.le_of_ble_eq_true rfl) (by decide) dX5_init_1 ?_
  refine e_aload_n F dX5_init_4 rfl ?_
  refine e_iconst F dX5_init_5 ?_
  refine e_set (host := "") (ci := 5) (fi := 1) (q := (RX5, TX5, 6)) F h0 rfl (by decide) w_fl_RX5_7 rfl (by rfl) (by rfl) (Nat.le_of_ble_eq_true rfl) dX5_init_6 ?_
  refine e_aload_n F dX5_init_9 rfl ?_
  refine e_bipush F dX5_init_10 (by decide) ?_
  refine e_newI F (N := 6) (by first | rfl | omega) (by decide) (by omega) w_ac_int dX5_init_12 ?_
  refine e_dup F dX5_init_14 rfl ?_
  refine e_iconst F dX5_init_15 ?_
  refine e_iconst F dX5_init_16 ?_
  refine e_iast F e_up_s (by omega) (by omega) (by first | decide | omega) dX5_init_17 ?_
  refine e_dup F dX5_init_18 rfl ?_
  refine e_iconst F dX5_init_19 ?_
  refine e_iconst F dX5_init_20 ?_
  refine e_iast F e_up_s (by omega) (by omega) (by first | decide | omega) dX5_init_21 ?_
  refine e_dup F dX5_init_22 rfl ?_
  refine e_iconst F dX5_init_23 ?_
  refine e_iconst F dX5_init_24 ?_
  refine e_iast F e_up_s (by omega) (by omega) (by first | decide | omega) dX5_init_25 ?_
  refine e_dup F dX5_init_26 rfl ?_
  refine e_iconst F dX5_init_27 ?_
  refine e_iconst F dX5_init_28 ?_
  refine e_iast F e_up_s (by omega) (by omega) (by first | decide | omega) dX5_init_29 ?_
  refine e_dup F dX5_init_30 rfl ?_
  refine e_iconst F dX5_init_31 ?_
  refine e_iconst F dX5_init_32 ?_
  refine e_iast F e_up_s (by omega) (by omega) (by first | decide | omega) dX5_init_33 ?_
  refine e_dup F dX5_init_34 rfl ?_
  refine e_iconst F dX5_init_35 ?_
  refine e_iconst F dX5_init_36 ?_
  refine e_iast F e_up_s (by omega) (by omega) (by first | decide | omega) dX5_init_37 ?_
  refine e_setF (host := "") (ci := 5) (fi := 3) (q := (RX5, TX5, 6)) F (by repeat (first | exact e_up_s | rw [e_up_n (by omega)])) rfl (by decide) w_fl_RX5_13 hnm rfl rfl rfl (by rfl) (Nat.le_of_ble_eq_true rfl) dX5_init_38 ?_
  refine e_aload_n F dX5_init_41 rfl ?_
  refine e_bipush F dX5_init_42 (by decide) ?_
  refine e_newA10 F (N := 6) (by rfl) (by decide) (by omega) w_cl_RX5_17 w_ao_int dX5_init_44 ?_
  refine e_setF (host := "") (ci := 5) (fi := 4) (q := (RX5, TX5, 6)) F (by rw [e_up_n (by omega)]; exact e_up_s) rfl (by decide) w_fl_RX5_18 hnm rfl rfl rfl (by rfl) (Nat.le_of_ble_eq_true rfl) dX5_init_47 ?_
  refine e_aload_n F dX5_init_50 rfl ?_
  refine e_bipush F dX5_init_51 (by decide) ?_
  refine e_newA10 F (N := 6) (by rfl) (by decide) (by omega) w_cl_RX5_17 w_ao_int dX5_init_53 ?_
  refine e_setF (host := "") (ci := 5) (fi := 5) (q := (RX5, TX5, 6)) F (by rw [e_up_n (by omega)]; exact e_up_s) rfl (by decide) w_fl_RX5_22 hnm rfl rfl rfl (by rfl) (Nat.le_of_ble_eq_true rfl) dX5_init_56 ?_
  refine e_vret F rfl (by omega) ?_ dX5_init_59
  refine ⟨rfl, rfl, ⟨e_up_s, by omega, ⟨e_fu (e_fu (e_fu (e_fu (e_fu (e_fu (fun _ => 0) 0 (-1)) 1 (-1)) 2 (-1)) 3 (-1)) 4 (-1)) 5 (-1), by repeat (first | exact e_up_s | rw [e_up_n (by omega)]), fun j hj => ?_⟩, ⟨fun _ => none, fun _ => none, by repeat (first | exact e_up_s | rw [e_up_n (by omega)]), by repeat (first | exact e_up_s | rw [e_up_n (by omega)]), fun j hj => Or.inl ⟨rfl, rfl, rfl, rfl⟩⟩, fun j hj => ⟨fun _ _ _ => Or.inl rfl, fun h => absurd h (show ¬ ((0 : Int) = 1) by decide), fun _ _ _ _ => rfl⟩⟩, fun q hq => ?_⟩
  · rcases (show j = 0 ∨ j = 1 ∨ j = 2 ∨ j = 3 ∨ j = 4 ∨ j = 5 by omega) with rfl | rfl | rfl | rfl | rfl | rfl <;> rfl
  · have h1 : q ≠ y := by omega
    have h2 : q ≠ y + 1 := by omega
    have h3 : q ≠ y + 1 + 1 := by omega
    have h4 : q ≠ y + 1 + 1 + 1 := by omega
    simp only [e_up, if_neg h1, if_neg h2, if_neg h3, if_neg h4]
set_option maxHeartbeats 4000000 in
set_option maxRecDepth 100000 in
theorem c_X4_init {K : e_K} {l : Launch} {w : e_W} {n : Nat} {o : Nat} : e_Met K l yX4_init (Cond.code yX4_init cX4_init 1 none :: e_TB) (1) (0) [.ref o] w n (fun r w' n' => r = none ∧ n' = n ∧ w' = w) (e_px0) := by
  refine e_ofV rfl (Nat.le_of_ble_eq_true rfl) ?_
  intro P9 E9 S9 M9 A9 B9 T9 C9 F hnm
  refine e_aload_n F dX4_init_0 rfl ?_
  refine e_oinit F w_ml_RX4_1 w_im_java_lang_Object__init____V w_co_oinit (Nat.le_of_ble_eq_true rfl) (by decide) dX4_init_1 ?_
  refine e_vret F rfl (by omega) ?_ dX4_init_4
  exact ⟨rfl, rfl, rfl⟩
end
-- 58.ways.lean.txt
section
/-! the reference: ways -/
def lfD (p m : Int) : Nat → Int
  | 0 => m
  | k + 1 => lfD p m k / p
theorem lfD_rg {p m : Int} (hp : 1 ≤ p) (h0 : 0 ≤ m) (h1 : m ≤ 1000) (k : Nat) : 0 ≤ lfD p m k ∧ lfD p m k ≤ 1000 := by
  induction k with
  | zero => exact ⟨h0, h1⟩
  | succ k ih =>
    show 0 ≤ lfD p m k / p ∧ lfD p m k / p ≤ 1000
    exact ⟨Int.ediv_nonneg ih.1 (by omega), Int.le_trans (Int.ediv_le_self _ ih.1) ih.2⟩
def itD (p num m : Int) : Int → Int := fun j => if j = 0 then num % p else lfD p m (j - 1).toNat % p
def okW (wh : Nat) (r : RD) (E : Int → Int) (set : Int) : Nat → Bool
  | 0 => true
  | k + 1 => okW wh r E set k && (!decide (hs set ((k : Int) + 1)) || decide (hv (pr wh) ((k : Int) + 1) E ((r.dg.toNat + 1 : Nat) : Int) (r.dg.toNat + 1) = r.A ((k : Int) + 1)))
def wcK (wh : Nat) (r : RD) (num set : Int) : Nat → Int
  | 0 => 0
  | m + 1 => wcK wh r num set m + b01 (okW wh r (itD (pr wh) num (m : Int)) set (ho wh).toNat = true)
theorem wcK_rg (wh : Nat) (r : RD) (num set : Int) (m : Nat) : 0 ≤ wcK wh r num set m ∧ wcK wh r num set m ≤ m := by
  induction m with
  | zero => unfold wcK; decide
  | succ m ih =>
    have h := b01_or (okW wh r (itD (pr wh) num (m : Int)) set (ho wh).toNat = true)
    unfold wcK
    omega
def waV (wh : Nat) (r : RD) (num set : Int) : Int := if 125 < pbK (pr wh) r.dg.toNat then -9 else wcK wh r num set (pbK (pr wh) r.dg.toNat).toNat
theorem e_cmp_gt (a b : Int) : (0 < e_cmp a b) ↔ b < a := by unfold e_cmp; split <;> (try split) <;> omega
set_option maxHeartbeats 4000000 in
set_option maxRecDepth 100000 in
theorem c_X5_ways {K : e_K} {l : Launch} {w : e_W} {n : Nat} {y wh : Nat} {t kn : Int} {R : Nat → RD} (hM : MW w y wh kn t R) {i9 : Int} (hi9 : e_r i9) {a9 : Int} (ha9 : e_r a9) {c9 : Int} (hc9 : e_r c9) : e_Met K l yX5_ways (Cond.code yX5_ways cX5_ways 12 (Option.some .int) :: e_TB) (4) (1) [.ref y, .int (eI i9), .int (eI a9), .int (eI c9)] w n (fun r w' n' => FM w w' y n ∧ ((¬ (0 ≤ i9 ∧ i9 < 6) ∧ r = some (.int (eI 0)) ∧ MW w' y wh kn 1 R) ∨ ((0 ≤ i9 ∧ i9 < 6) ∧ ¬ (1 ≤ a9 ∧ a9 ≤ fl wh) ∧ r = some (.int (eI 0)) ∧ MW w' y wh kn 2 R) ∨ ((0 ≤ i9 ∧ i9 < 6) ∧ (1 ≤ a9 ∧ a9 ≤ fl wh) ∧ r = some (.int (eI (if (thQ wh (R i9.toNat) a9) then waV wh (R i9.toNat) c9 a9 else -9))) ∧ MW w' y wh (kn) 0 (R)))) (e_px0) := by
  refine e_ofV rfl (Nat.le_of_ble_eq_true rfl) ?_
  intro P9 E9 S9 M9 A9 B9 T9 C9 F hnm
  have hwh := hM.2.1
  have hY := hM.1
  have hp := pr_rg wh hwh
  have hho := ho_rg wh hwh
  have hf9 := fl_rg wh hwh
  refine e_aload_n F dX5_ways_0 rfl ?_
  refine e_iload_n F dX5_ways_1 rfl ?_
  refine e_iload_n F dX5_ways_2 rfl ?_
  refine e_callVV F u_X5_isNo (by rfl) (c_X5_isNo hY hwh hi9 ha9) hY rfl rfl w_ml_RX5_189 dX5_ways_3 (by rfl) (Nat.le_of_ble_eq_true rfl) (by decide) (by omega) (fun _ _ _ h _ => False.elim h) (fun r_3 w_3 n_3 h_3 hn_3 => ?_)
  obtain ⟨rfl, en_3, ew_3⟩ := h_3
  rw [en_3, ew_3]
  refine e_if_eq F 11 dX5_ways_6 (by decide) (b01_r _) (fun c_6 => ?_) (fun c_6 => ?_)
  ·
    rw [b01_0, Classical.not_not] at c_6
    rw [noT_ok c_6]
    have gM := hM.th (t2 := 0) (kn2 := kn)
    obtain ⟨h_i, h_s⟩ := c_6
    obtain ⟨ki9, rfl⟩ : ∃ k : Nat, i9 = (k : Int) := ⟨i9.toNat, by omega⟩
    have hki9 : ki9 < 6 := by omega
    rw [show ((ki9 : Nat) : Int).toNat = ki9 from rfl]
    refine e_dom ?_
    intro hdm
    obtain ⟨gY, _, ⟨G, gG, gGe⟩, ⟨SS, PP, gS, gP, gMD⟩, gRV⟩ := id gM
    refine e_aload_n F dX5_ways_11 rfl ?_
    refine e_iload_n F dX5_ways_12 rfl ?_
    refine e_iload_n F dX5_ways_13 rfl ?_
    refine e_callVV F u_X5_isThere (by rfl) (c_X5_isThere gM hki9 (set := a9) (by omega) (by omega)) gY rfl rfl w_ml_RX5_122 dX5_ways_14 (by rfl) (Nat.le_of_ble_eq_true rfl) (by decide) (by omega) (fun _ _ _ h _ => False.elim h) (fun r_14 w_14 n_14 h_14 hn_14 => ?_)
    obtain ⟨rfl, ew_14, en_14⟩ := h_14
    rw [ew_14, en_14]
    refine e_if_ne F 23 dX5_ways_17 (by decide) (b01_r _) (fun c_17 => ?_) (fun c_17 => ?_)
    ·
      rw [ne_eq, b01_0, Classical.not_not] at c_17
      have hth := c_17
      obtain ⟨a, f, hSa, hya, hwa, hfr, hfA⟩ := MD.row (gMD ki9 hki9) hth.2
      have han := hdm _ _ hwa
      have hdd := MD.dg (gMD ki9 hki9)
      have hGi := gGe ki9 hki9
      have hyn := hdm _ _ gY
      have hgn := hdm _ _ gG
      have hsn := hdm _ _ gS
      have hpn := hdm _ _ gP
      have hdg0 : 0 ≤ (R ki9).dg := by have := hth.2; omega
      have hpb9 := pbK_rg (p := pr wh) (by omega) (by omega) (R ki9).dg.toNat
      have lm : ∀ (N : Nat) (m : Nat) (wl : e_W) (g1 : Int → Int), 200 - m < N → ((m : Int) ≤ (pbK (pr wh) (R ki9).dg.toNat) ∧ (pbK (pr wh) (R ki9).dg.toNat) ≤ 125 ∧ wl n = some (e_ia ((R ki9).dg.toNat + 1) g1) ∧ (∀ u : Int, 0 ≤ u → u < ((((R ki9).dg.toNat + 1) : Nat) : Int) → 0 ≤ g1 u ∧ g1 u < pr wh) ∧ g1 0 = c9 % pr wh ∧ (∀ q, q ≠ n → wl q = (e_up w y (MO y 0 wh kn)) q)) → e_V K P9 l E9 (4) (1) S9 M9 A9 B9 T9 C9 12 (fun r w' n' => FM w w' y n ∧ ((¬ (0 ≤ ((ki9 : Nat) : Int) ∧ ((ki9 : Nat) : Int) < 6) ∧ r = some (.int (eI 0)) ∧ MW w' y wh kn 1 R) ∨ ((0 ≤ ((ki9 : Nat) : Int) ∧ ((ki9 : Nat) : Int) < 6) ∧ ¬ (1 ≤ a9 ∧ a9 ≤ fl wh) ∧ r = some (.int (eI 0)) ∧ MW w' y wh kn 2 R) ∨ ((0 ≤ ((ki9 : Nat) : Int) ∧ ((ki9 : Nat) : Int) < 6) ∧ (1 ≤ a9 ∧ a9 ≤ fl wh) ∧ r = some (.int (eI (if (thQ wh (R ki9) a9) then waV wh (R ki9) c9 a9 else -9))) ∧ MW w' y wh (kn) 0 (R)))) (e_px0) 105 [(0, .ref y), (1, .int (eI ((ki9 : Nat) : Int))), (2, .int (eI a9)), (4, .long (eJ (pbK (pr wh) (R ki9).dg.toNat))), (6, .ref n), (7, .int (eI (wcK wh (R ki9) c9 a9 m))), (8, .int (eI (m : Int)))] [] wl (n + 1) (1) := by
        intro N
        induction N with
        | zero => intro m wl g1 hN; exact absurd hN (Nat.not_lt_zero _)
        | succ N ih =>
          intro m wl g1 hN ⟨hm, hpb5, un, hr1, hz1, uf⟩
          have uY : wl y = some (MO y 0 wh kn) := (uf y (by omega)).trans gY
          have uS : wl (y + 2) = some (e_ra 6 SS) := (uf _ (by omega)).trans gS
          have ua : wl a = some (e_ia ((ho wh).toNat + 1) f) := (uf _ (by omega)).trans hwa
          have hwc := wcK_rg wh (R ki9) c9 a9 m
          have ihm := ih
          have lh : ∀ (g1 : Int → Int), (m : Int) < (pbK (pr wh) (R ki9).dg.toNat) → (∀ u : Int, 0 ≤ u → u < ((((R ki9).dg.toNat + 1) : Nat) : Int) → 0 ≤ g1 u ∧ g1 u < pr wh) → g1 0 = c9 % pr wh → (∀ u : Int, 0 ≤ u → u ≤ (R ki9).dg → g1 u = (itD (pr wh) c9 (m : Int)) u) → ∀ (N : Nat) (h : Nat) (w2 : e_W), 8 - h < N → ((h : Int) ≤ ho wh ∧ w2 n = some (e_ia ((R ki9).dg.toNat + 1) g1) ∧ (∀ q, q ≠ n → w2 q = (e_up w y (MO y 0 wh kn)) q)) → e_V K P9 l E9 (4) (1) S9 M9 A9 B9 T9 C9 12 (fun r w' n' => FM w w' y n ∧ ((¬ (0 ≤ ((ki9 : Nat) : Int) ∧ ((ki9 : Nat) : Int) < 6) ∧ r = some (.int (eI 0)) ∧ MW w' y wh kn 1 R) ∨ ((0 ≤ ((ki9 : Nat) : Int) ∧ ((ki9 : Nat) : Int) < 6) ∧ ¬ (1 ≤ a9 ∧ a9 ≤ fl wh) ∧ r = some (.int (eI 0)) ∧ MW w' y wh kn 2 R) ∨ ((0 ≤ ((ki9 : Nat) : Int) ∧ ((ki9 : Nat) : Int) < 6) ∧ (1 ≤ a9 ∧ a9 ≤ fl wh) ∧ r = some (.int (eI (if (thQ wh (R ki9) a9) then waV wh (R ki9) c9 a9 else -9))) ∧ MW w' y wh (kn) 0 (R)))) (e_px0) 162 [(0, .ref y), (1, .int (eI ((ki9 : Nat) : Int))), (2, .int (eI a9)), (4, .long (eJ (pbK (pr wh) (R ki9).dg.toNat))), (6, .ref n), (7, .int (eI (wcK wh (R ki9) c9 a9 m))), (8, .int (eI (m : Int))), (10, .int (eI (b01 (okW wh (R ki9) (itD (pr wh) c9 (m : Int)) a9 h = true)))), (11, .int (eI ((h : Int) + 1)))] [] w2 (n + 1) (1) := by
            intro g1 hmb hg1 hg0 hge N
            induction N with
            | zero => intro h w2 hN; exact absurd hN (Nat.not_lt_zero _)
            | succ N ih =>
              intro h w2 hN ⟨hh, vn, vf⟩
              have vY : w2 y = some (MO y 0 wh kn) := (vf y (by omega)).trans gY
              have vS : w2 (y + 2) = some (e_ra 6 SS) := (vf _ (by omega)).trans gS
              have va : w2 a = some (e_ia ((ho wh).toNat + 1) f) := (vf _ (by omega)).trans hwa
              have hob := b01_or (okW wh (R ki9) (itD (pr wh) c9 (m : Int)) a9 h = true)
              have e6 : okW wh (R ki9) (itD (pr wh) c9 (m : Int)) a9 (h + 1) = (okW wh (R ki9) (itD (pr wh) c9 (m : Int)) a9 h && (!decide (hs a9 ((h : Int) + 1)) || decide (hv (pr wh) ((h : Int) + 1) (itD (pr wh) c9 (m : Int)) ((((R ki9).dg.toNat + 1) : Nat) : Int) ((R ki9).dg.toNat + 1) = (R ki9).A ((h : Int) + 1)))) := rfl
              refine e_iload F dX5_ways_162 rfl ?_
              refine e_aload_n F dX5_ways_164 rfl ?_
              refine e_callVV F u_X5_holders (by rfl) (c_X5_holders vY hwh) vY rfl rfl w_ml_RX5_52 dX5_ways_165 (by rfl) (Nat.le_of_ble_eq_true rfl) (by decide) (by omega) (fun _ _ _ h _ => False.elim h) (fun r_165 w_165 n_165 h_165 hn_165 => ?_)
              obtain ⟨rfl, ew_165, en_165⟩ := h_165
              rw [ew_165, en_165]
              refine e_icmp_gt F 216 dX5_ways_168 (by decide) (⟨by omega, by omega⟩) (⟨by omega, by omega⟩) (fun c_168 => ?_) (fun c_168 => ?_)
              ·
                obtain rfl : h = (ho wh).toNat := by omega
                refine e_iload F dX5_ways_216 rfl ?_
                refine e_iload F dX5_ways_218 rfl ?_
                refine e_callSS F u_X5_one (by rfl) (c_X5_one (b01_or _)) w_ml_RX5_80 dX5_ways_220 (by rfl) (Nat.le_of_ble_eq_true rfl) (by decide) (by omega) (fun _ _ _ h _ => False.elim h) (fun r_220 w_220 n_220 h_220 hn_220 => ?_)
                obtain ⟨rfl, ew_220, en_220⟩ := h_220
                rw [ew_220, en_220]
                refine e_iadd F dX5_ways_223 ?_
                refine e_istore F dX5_ways_224 (by decide) ?_
                refine e_iinc F dX5_ways_226 rfl (by decide) ?_
                refine e_goto F 105 dX5_ways_229 (by decide) ?_
                exact e_go (ihm (m + 1) w2 g1 (by omega) ⟨by omega, hpb5, vn, hg1, hg0, vf⟩) (And.intro rfl (And.intro rfl (And.intro rfl (And.intro rfl (And.intro rfl (And.intro rfl (And.intro rfl (trivial))))))))
              ·
                have hA9 := gM.rgA hki9 (j := (h : Int) + 1) (by omega) (by omega)
                refine e_iload F dX5_ways_171 rfl ?_
                refine e_iload_n F dX5_ways_173 rfl ?_
                refine e_iload F dX5_ways_174 rfl ?_
                refine e_callSS F u_X5_has (by rfl) (c_X5_has (s9 := a9) (by omega) (by omega) (h := (h : Int) + 1) (by omega) (by omega)) w_ml_RX5_87 dX5_ways_176 (by rfl) (Nat.le_of_ble_eq_true rfl) (by decide) (by omega) (fun _ _ _ h _ => False.elim h) (fun r_176 w_176 n_176 h_176 hn_176 => ?_)
                obtain ⟨rfl, ew_176, en_176⟩ := h_176
                rw [ew_176, en_176]
                refine e_if_eq F 202 dX5_ways_179 (by decide) (b01_r _) (fun c_179 => ?_) (fun c_179 => ?_)
                ·
                  rw [b01_0] at c_179
                  refine e_iconst F dX5_ways_202 ?_
                  refine e_goto F 207 dX5_ways_203 (by decide) ?_
                  refine e_iand F dX5_ways_207 (by first | exact e_and1 hob | exact e_and0 hob) ?_
                  refine e_istore F dX5_ways_208 (by decide) ?_
                  refine e_iinc F dX5_ways_210 rfl (by decide) ?_
                  refine e_goto F 162 dX5_ways_213 (by decide) ?_
                  first
                  | (have e7 : okW wh (R ki9) (itD (pr wh) c9 (m : Int)) a9 (h + 1) = okW wh (R ki9) (itD (pr wh) c9 (m : Int)) a9 h := by
                       rw [e6, decide_eq_false c_179, Bool.not_false, Bool.true_or, Bool.and_true]
                     have l9 := ih (h + 1) w2 (by omega) ⟨by omega, vn, vf⟩
                     rw [e7] at l9
                     exact e_go l9 (And.intro rfl (And.intro rfl (And.intro rfl (And.intro rfl (And.intro rfl (And.intro rfl (And.intro rfl (And.intro rfl (And.intro rfl (trivial)))))))))))
                  | (have e7 : okW wh (R ki9) (itD (pr wh) c9 (m : Int)) a9 (h + 1) = okW wh (R ki9) (itD (pr wh) c9 (m : Int)) a9 h := by
                       rw [e6, decide_eq_true c_199, Bool.or_true, Bool.and_true]
                     have l9 := ih (h + 1) w2 (by omega) ⟨by omega, vn, vf⟩
                     rw [e7] at l9
                     exact e_go l9 (And.intro rfl (And.intro rfl (And.intro rfl (And.intro rfl (And.intro rfl (And.intro rfl (And.intro rfl (And.intro rfl (And.intro rfl (trivial)))))))))))
                  | (have e7 : okW wh (R ki9) (itD (pr wh) c9 (m : Int)) a9 (h + 1) = false := by
                       rw [e6, decide_eq_true c_179, decide_eq_false c_199, Bool.not_true, Bool.or_false, Bool.and_false]
                     have l9 := ih (h + 1) w2 (by omega) ⟨by omega, vn, vf⟩
                     rw [e7] at l9
                     exact e_go l9 (And.intro rfl (And.intro rfl (And.intro rfl (And.intro rfl (And.intro rfl (And.intro rfl (And.intro rfl (And.intro rfl (And.intro rfl (trivial)))))))))))
                ·
                  rw [b01_0, Classical.not_not] at c_179
                  refine e_aload_n F dX5_ways_182 rfl ?_
                  refine e_aload F dX5_ways_183 rfl ?_
                  refine e_iload F dX5_ways_185 rfl ?_
                  refine e_callVV F u_X5_value (by rfl) (c_X5_value vY hwh (x := (h : Int) + 1) vn (by omega) hg1 (by omega) (by omega)) vY rfl rfl w_ml_RX5_91 dX5_ways_187 (by rfl) (Nat.le_of_ble_eq_true rfl) (by decide) (by omega) (fun _ _ _ h _ => False.elim h) (fun r_187 w_187 n_187 h_187 hn_187 => ?_)
                  obtain ⟨rfl, ew_187, en_187⟩ := h_187
                  have e8 : hv (pr wh) ((h : Int) + 1) g1 ((((R ki9).dg.toNat + 1) : Nat) : Int) ((R ki9).dg.toNat + 1) = hv (pr wh) ((h : Int) + 1) (itD (pr wh) c9 (m : Int)) ((((R ki9).dg.toNat + 1) : Nat) : Int) ((R ki9).dg.toNat + 1) := hv_congr _ (by omega) (fun j j0 j1 => hge j j0 (by omega))
                  rw [ew_187, en_187, e8]
                  have hvv := hv_rg (x := (h : Int) + 1) (P := (itD (pr wh) c9 (m : Int))) (N := ((((R ki9).dg.toNat + 1) : Nat) : Int)) (show 0 < pr wh by omega) ((R ki9).dg.toNat + 1)
                  refine e_aload_n F dX5_ways_190 rfl ?_
                  refine e_get (ci := 5) (fi := 4) (q := (RX5, TX5, 6)) F vY rfl (by decide) w_fl_RX5_18 (by rfl) dX5_ways_191 ?_
                  refine e_iload_n F dX5_ways_194 rfl ?_
                  refine e_aaldr F vS (by omega) (by omega) (by decide) (hSa) dX5_ways_195 ?_
                  refine e_iload F dX5_ways_196 rfl ?_
                  refine e_iald F va (by omega) (by omega) (by first | decide | omega) dX5_ways_198 ?_
                  rw [hfA _ (by omega) (by omega)]
                  refine e_icmp_ne F 206 dX5_ways_199 (by decide) (⟨by omega, by omega⟩) (⟨by omega, by omega⟩) (fun c_199 => ?_) (fun c_199 => ?_)
                  · refine e_iconst F dX5_ways_206 ?_
                    refine e_iand F dX5_ways_207 (by first | exact e_and1 hob | exact e_and0 hob) ?_
                    refine e_istore F dX5_ways_208 (by decide) ?_
                    refine e_iinc F dX5_ways_210 rfl (by decide) ?_
                    refine e_goto F 162 dX5_ways_213 (by decide) ?_
                    first
                    | (have e7 : okW wh (R ki9) (itD (pr wh) c9 (m : Int)) a9 (h + 1) = okW wh (R ki9) (itD (pr wh) c9 (m : Int)) a9 h := by
                         rw [e6, decide_eq_false c_179, Bool.not_false, Bool.true_or, Bool.and_true]
                       have l9 := ih (h + 1) w2 (by omega) ⟨by omega, vn, vf⟩
                       rw [e7] at l9
                       exact e_go l9 (And.intro rfl (And.intro rfl (And.intro rfl (And.intro rfl (And.intro rfl (And.intro rfl (And.intro rfl (And.intro rfl (And.intro rfl (trivial)))))))))))
                    | (have e7 : okW wh (R ki9) (itD (pr wh) c9 (m : Int)) a9 (h + 1) = okW wh (R ki9) (itD (pr wh) c9 (m : Int)) a9 h := by
                         rw [e6, decide_eq_true c_199, Bool.or_true, Bool.and_true]
                       have l9 := ih (h + 1) w2 (by omega) ⟨by omega, vn, vf⟩
                       rw [e7] at l9
                       exact e_go l9 (And.intro rfl (And.intro rfl (And.intro rfl (And.intro rfl (And.intro rfl (And.intro rfl (And.intro rfl (And.intro rfl (And.intro rfl (trivial)))))))))))
                    | (have e7 : okW wh (R ki9) (itD (pr wh) c9 (m : Int)) a9 (h + 1) = false := by
                         rw [e6, decide_eq_true c_179, decide_eq_false c_199, Bool.not_true, Bool.or_false, Bool.and_false]
                       have l9 := ih (h + 1) w2 (by omega) ⟨by omega, vn, vf⟩
                       rw [e7] at l9
                       exact e_go l9 (And.intro rfl (And.intro rfl (And.intro rfl (And.intro rfl (And.intro rfl (And.intro rfl (And.intro rfl (And.intro rfl (And.intro rfl (trivial)))))))))))
                  · refine e_iconst F dX5_ways_202 ?_
                    refine e_goto F 207 dX5_ways_203 (by decide) ?_
                    refine e_iand F dX5_ways_207 (by first | exact e_and1 hob | exact e_and0 hob) ?_
                    refine e_istore F dX5_ways_208 (by decide) ?_
                    refine e_iinc F dX5_ways_210 rfl (by decide) ?_
                    refine e_goto F 162 dX5_ways_213 (by decide) ?_
                    first
                    | (have e7 : okW wh (R ki9) (itD (pr wh) c9 (m : Int)) a9 (h + 1) = okW wh (R ki9) (itD (pr wh) c9 (m : Int)) a9 h := by
                         rw [e6, decide_eq_false c_179, Bool.not_false, Bool.true_or, Bool.and_true]
                       have l9 := ih (h + 1) w2 (by omega) ⟨by omega, vn, vf⟩
                       rw [e7] at l9
                       exact e_go l9 (And.intro rfl (And.intro rfl (And.intro rfl (And.intro rfl (And.intro rfl (And.intro rfl (And.intro rfl (And.intro rfl (And.intro rfl (trivial)))))))))))
                    | (have e7 : okW wh (R ki9) (itD (pr wh) c9 (m : Int)) a9 (h + 1) = okW wh (R ki9) (itD (pr wh) c9 (m : Int)) a9 h := by
                         rw [e6, decide_eq_true c_199, Bool.or_true, Bool.and_true]
                       have l9 := ih (h + 1) w2 (by omega) ⟨by omega, vn, vf⟩
                       rw [e7] at l9
                       exact e_go l9 (And.intro rfl (And.intro rfl (And.intro rfl (And.intro rfl (And.intro rfl (And.intro rfl (And.intro rfl (And.intro rfl (And.intro rfl (trivial)))))))))))
                    | (have e7 : okW wh (R ki9) (itD (pr wh) c9 (m : Int)) a9 (h + 1) = false := by
                         rw [e6, decide_eq_true c_179, decide_eq_false c_199, Bool.not_true, Bool.or_false, Bool.and_false]
                       have l9 := ih (h + 1) w2 (by omega) ⟨by omega, vn, vf⟩
                       rw [e7] at l9
                       exact e_go l9 (And.intro rfl (And.intro rfl (And.intro rfl (And.intro rfl (And.intro rfl (And.intro rfl (And.intro rfl (And.intro rfl (And.intro rfl (trivial)))))))))))
          have lk : (m : Int) < (pbK (pr wh) (R ki9).dg.toNat) → ∀ (N : Nat) (k : Nat) (w2 : e_W) (g2 : Int → Int), 8 - k < N → ((k : Int) ≤ (R ki9).dg ∧ w2 n = some (e_ia ((R ki9).dg.toNat + 1) g2) ∧ (∀ u : Int, 0 ≤ u → u < ((((R ki9).dg.toNat + 1) : Nat) : Int) → 0 ≤ g2 u ∧ g2 u < pr wh) ∧ g2 0 = c9 % pr wh ∧ (∀ u : Int, 1 ≤ u → u ≤ (k : Int) → g2 u = (itD (pr wh) c9 (m : Int)) u) ∧ (∀ q, q ≠ n → w2 q = (e_up w y (MO y 0 wh kn)) q)) → e_V K P9 l E9 (4) (1) S9 M9 A9 B9 T9 C9 12 (fun r w' n' => FM w w' y n ∧ ((¬ (0 ≤ ((ki9 : Nat) : Int) ∧ ((ki9 : Nat) : Int) < 6) ∧ r = some (.int (eI 0)) ∧ MW w' y wh kn 1 R) ∨ ((0 ≤ ((ki9 : Nat) : Int) ∧ ((ki9 : Nat) : Int) < 6) ∧ ¬ (1 ≤ a9 ∧ a9 ≤ fl wh) ∧ r = some (.int (eI 0)) ∧ MW w' y wh kn 2 R) ∨ ((0 ≤ ((ki9 : Nat) : Int) ∧ ((ki9 : Nat) : Int) < 6) ∧ (1 ≤ a9 ∧ a9 ≤ fl wh) ∧ r = some (.int (eI (if (thQ wh (R ki9) a9) then waV wh (R ki9) c9 a9 else -9))) ∧ MW w' y wh (kn) 0 (R)))) (e_px0) 121 [(0, .ref y), (1, .int (eI ((ki9 : Nat) : Int))), (2, .int (eI a9)), (4, .long (eJ (pbK (pr wh) (R ki9).dg.toNat))), (6, .ref n), (7, .int (eI (wcK wh (R ki9) c9 a9 m))), (8, .int (eI (m : Int))), (9, .int (eI (lfD (pr wh) (m : Int) k))), (10, .int (eI ((k : Int) + 1)))] [] w2 (n + 1) (1) := by
            intro hmb N
            induction N with
            | zero => intro k w2 g2 hN; exact absurd hN (Nat.not_lt_zero _)
            | succ N ih =>
              intro k w2 g2 hN ⟨hk, vn, hr2, hz2, hi2, vf⟩
              have vY : w2 y = some (MO y 0 wh kn) := (vf y (by omega)).trans gY
              have vS : w2 (y + 2) = some (e_ra 6 SS) := (vf _ (by omega)).trans gS
              have va : w2 a = some (e_ia ((ho wh).toNat + 1) f) := (vf _ (by omega)).trans hwa
              have hlf := lfD_rg (p := pr wh) (m := (m : Int)) (by omega) (by omega) (by omega) k
              refine e_iload F dX5_ways_121 rfl ?_
              refine e_aload F dX5_ways_123 rfl ?_
              refine e_alenI F vn dX5_ways_125 ?_
              refine e_icmp_ge F 156 dX5_ways_126 (by decide) (⟨by omega, by omega⟩) (⟨by omega, by omega⟩) (fun c_126 => ?_) (fun c_126 => ?_)
              · refine e_iconst F dX5_ways_156 ?_
                refine e_istore F dX5_ways_157 (by decide) ?_
                refine e_iconst F dX5_ways_159 ?_
                refine e_istore F dX5_ways_160 (by decide) ?_
                refine e_go (lh g2 (by omega) hr2 hz2 (fun u u0 u1 => ?_) 9 0 w2 (by omega) ⟨by omega, vn, vf⟩) (And.intro rfl (And.intro rfl (And.intro rfl (And.intro rfl (And.intro rfl (And.intro rfl (And.intro rfl (And.intro rfl (And.intro rfl (trivial))))))))))
                by_cases e8 : u = 0
                · rw [e8, hz2]; rfl
                · exact hi2 u (by omega) (by omega)
              · refine e_aload F dX5_ways_129 rfl ?_
                refine e_iload F dX5_ways_131 rfl ?_
                refine e_iload F dX5_ways_133 rfl ?_
                refine e_aload_n F dX5_ways_135 rfl ?_
                refine e_callVV F u_X5_p (by rfl) (c_X5_p vY hwh) vY rfl rfl w_ml_RX5_38 dX5_ways_136 (by rfl) (Nat.le_of_ble_eq_true rfl) (by decide) (by omega) (fun _ _ _ h _ => False.elim h) (fun r_136 w_136 n_136 h_136 hn_136 => ?_)
                obtain ⟨rfl, ew_136, en_136⟩ := h_136
                rw [ew_136, en_136]
                refine e_irem F dX5_ways_139 (⟨by omega, by omega⟩) (⟨by omega, by omega⟩) (by omega) ?_
                rw [Int.tmod_eq_emod_of_nonneg hlf.1]
                have hem := emod_rg (lfD (pr wh) (m : Int) k) hwh
                refine e_iast F vn (by omega) (by omega) (by first | decide | omega) dX5_ways_140 ?_
                refine e_iload F dX5_ways_141 rfl ?_
                refine e_aload_n F dX5_ways_143 rfl ?_
                refine e_callVV F u_X5_p (by rfl) (c_X5_p (show e_up w2 n _ y = some (MO y 0 wh kn) by rw [e_up_n (by omega)]; exact vY) hwh) (show e_up w2 n _ y = some (MO y 0 wh kn) by rw [e_up_n (by omega)]; exact vY) rfl rfl w_ml_RX5_38 dX5_ways_144 (by rfl) (Nat.le_of_ble_eq_true rfl) (by decide) (by omega) (fun _ _ _ h _ => False.elim h) (fun r_144 w_144 n_144 h_144 hn_144 => ?_)
                obtain ⟨rfl, ew_144, en_144⟩ := h_144
                rw [ew_144, en_144]
                refine e_idiv F dX5_ways_147 (⟨by omega, by omega⟩) (⟨by omega, by omega⟩) (by omega) ?_
                rw [Int.tdiv_eq_ediv_of_nonneg hlf.1]
                refine e_istore F dX5_ways_148 (by decide) ?_
                refine e_iinc F dX5_ways_150 rfl (by decide) ?_
                refine e_goto F 121 dX5_ways_153 (by decide) ?_
                refine e_go (ih (k + 1) _ _ (by omega) ⟨by omega, e_up_s, fun u u0 u1 => ?_, ?_, fun u u0 u1 => ?_, fun q q1 => by rw [e_up_n q1]; exact vf q q1⟩) ?_
                · unfold e_fu
                  split
                  · exact hem
                  · exact hr2 u u0 u1
                · unfold e_fu
                  rw [if_neg (by omega)]; exact hz2
                · unfold e_fu
                  by_cases e8 : u = (k : Int) + 1
                  · rw [if_pos e8, e8]
                    show _ = if _ then _ else _
                    rw [if_neg (show ¬ ((k : Int) + 1 = 0) by omega), show ((k : Int) + 1 - 1).toNat = k by omega]
                  · rw [if_neg e8]; exact hi2 u u0 (by omega)
                · exact (And.intro rfl (And.intro rfl (And.intro rfl (And.intro rfl (And.intro rfl (And.intro rfl (And.intro rfl (And.intro rfl (And.intro rfl (trivial))))))))))
          refine e_iload F dX5_ways_105 rfl ?_
          refine e_i2l F dX5_ways_107 (⟨by omega, by omega⟩) ?_
          refine e_lload F dX5_ways_108 rfl ?_
          refine e_lcmp F dX5_ways_110 (⟨by omega, by omega⟩) (⟨by omega, by omega⟩) ?_
          refine e_if_ge F 232 dX5_ways_111 (by decide) (e_cmp_r _ _) (fun c_111 => ?_) (fun c_111 => ?_)
          ·
            rw [e_cmp_ge] at c_111
            obtain rfl : m = (pbK (pr wh) (R ki9).dg.toNat).toNat := by omega
            refine e_iload F dX5_ways_232 rfl ?_
            refine e_iret F rfl (by omega) ?_ dX5_ways_234
            rw [if_pos (show thQ wh (R ki9) a9 from hth)]
            have e5 : waV wh (R ki9) c9 a9 = wcK wh (R ki9) c9 a9 (pbK (pr wh) (R ki9).dg.toNat).toNat := if_neg (by omega)
            rw [e5]
            exact ⟨fun q q1 q2 => (uf q (by omega)).trans (FM.th (n := n) q q1 q2), Or.inr (Or.inr ⟨h_i, h_s, rfl, gM.to (fun q e q1 => by rw [uf q (by have := hdm q e q1; omega)]; exact q1)⟩)⟩
          ·
            rw [e_cmp_ge] at c_111
            refine e_iload F dX5_ways_114 rfl ?_
            refine e_istore F dX5_ways_116 (by decide) ?_
            refine e_iconst F dX5_ways_118 ?_
            refine e_istore F dX5_ways_119 (by decide) ?_
            exact e_go (lk (by omega) 9 0 wl g1 (by omega) ⟨by omega, un, hr1, hz1, fun u u0 u1 => by omega, uf⟩) (And.intro rfl (And.intro rfl (And.intro rfl (And.intro rfl (And.intro rfl (And.intro rfl (And.intro rfl (And.intro rfl (And.intro rfl (trivial))))))))))
      have l65 : e_V K P9 l E9 (4) (1) S9 M9 A9 B9 T9 C9 12 (fun r w' n' => FM w w' y n ∧ ((¬ (0 ≤ ((ki9 : Nat) : Int) ∧ ((ki9 : Nat) : Int) < 6) ∧ r = some (.int (eI 0)) ∧ MW w' y wh kn 1 R) ∨ ((0 ≤ ((ki9 : Nat) : Int) ∧ ((ki9 : Nat) : Int) < 6) ∧ ¬ (1 ≤ a9 ∧ a9 ≤ fl wh) ∧ r = some (.int (eI 0)) ∧ MW w' y wh kn 2 R) ∨ ((0 ≤ ((ki9 : Nat) : Int) ∧ ((ki9 : Nat) : Int) < 6) ∧ (1 ≤ a9 ∧ a9 ≤ fl wh) ∧ r = some (.int (eI (if (thQ wh (R ki9) a9) then waV wh (R ki9) c9 a9 else -9))) ∧ MW w' y wh (kn) 0 (R)))) (e_px0) 65 [(0, .ref y), (1, .int (eI ((ki9 : Nat) : Int))), (2, .int (eI a9)), (3, .int (eI c9)), (4, .long (eJ (pbK (pr wh) (R ki9).dg.toNat)))] [] (e_up w y (MO y 0 wh kn)) n (0) := by
        refine e_lload F dX5_ways_65 rfl ?_
        refine e_ldc2 F dX5_ways_67 w_kl_RX5_192 ?_
        refine e_lcmp F dX5_ways_70 (⟨by omega, by omega⟩) (by decide) ?_
        refine e_if_le F 77 dX5_ways_71 (by decide) (e_cmp_r _ _) (fun c_71 => ?_) (fun c_71 => ?_)
        ·
          rw [e_cmp_le] at c_71
          refine e_aload_n F dX5_ways_77 rfl ?_
          refine e_get (ci := 5) (fi := 3) (q := (RX5, TX5, 6)) F gY rfl (by decide) w_fl_RX5_13 (by rfl) dX5_ways_78 ?_
          refine e_iload_n F dX5_ways_81 rfl ?_
          refine e_iald F gG (by omega) (by omega) (by first | decide | omega) dX5_ways_82 ?_
          rw [hGi]
          refine e_iconst F dX5_ways_83 ?_
          refine e_iadd F dX5_ways_84 ?_
          refine e_newI F (N := ((R ki9).dg.toNat + 1)) (by omega) (by omega) (by omega) w_ac_int dX5_ways_85 ?_
          refine e_astore F dX5_ways_87 (by decide) ?_
          refine e_aload F dX5_ways_89 rfl ?_
          refine e_iconst F dX5_ways_91 ?_
          refine e_aload_n F dX5_ways_92 rfl ?_
          refine e_iload_n F dX5_ways_93 rfl ?_
          refine e_i2l F dX5_ways_94 (hc9) ?_
          have vY : e_up (e_up w y (MO y 0 wh kn)) n (e_ia ((R ki9).dg.toNat + 1) (fun _ => 0)) y = some (MO y 0 wh kn) := by rw [e_up_n (by omega)]; exact gY
          refine e_callVV F u_X5_mod (by rfl) (c_X5_mod vY hwh (v := c9) (by constructor <;> omega)) vY rfl rfl w_ml_RX5_55 dX5_ways_95 (by rfl) (Nat.le_of_ble_eq_true rfl) (by decide) (by omega) (fun _ _ _ h _ => False.elim h) (fun r_95 w_95 n_95 h_95 hn_95 => ?_)
          obtain ⟨rfl, ew_95, en_95⟩ := h_95
          rw [ew_95, en_95]
          have hcm := emod_rg c9 hwh
          refine e_iast F e_up_s (by omega) (by omega) (by first | decide | omega) dX5_ways_98 ?_
          refine e_iconst F dX5_ways_99 ?_
          refine e_istore F dX5_ways_100 (by decide) ?_
          refine e_iconst F dX5_ways_102 ?_
          refine e_istore F dX5_ways_103 (by decide) ?_
          exact e_go (lm 201 0 _ _ (by omega) ⟨by omega, by omega, e_up_s, fun u u0 u1 => by rw [show e_fu (fun _ => (0 : Int)) 0 (c9 % pr wh) u = if u = 0 then c9 % pr wh else 0 from rfl]; split <;> omega, rfl, fun q q1 => by rw [e_up_n q1, e_up_n q1]⟩) (And.intro rfl (And.intro rfl (And.intro rfl (And.intro rfl (And.intro rfl (And.intro rfl (And.intro rfl (trivial))))))))
        ·
          rw [e_cmp_le] at c_71
          refine e_bipush F dX5_ways_74 (by decide) ?_
          refine e_iret F rfl (by omega) ?_ dX5_ways_76
          rw [if_pos (show thQ wh (R ki9) a9 from hth)]
          have e5 : waV wh (R ki9) c9 a9 = -9 := if_pos (by omega)
          rw [e5]
          exact ⟨FM.th, Or.inr (Or.inr ⟨h_i, h_s, rfl, gM⟩)⟩
      have la : ∀ (N k : Nat), 8 - k < N → (k : Int) ≤ (R ki9).dg → e_V K P9 l E9 (4) (1) S9 M9 A9 B9 T9 C9 12 (fun r w' n' => FM w w' y n ∧ ((¬ (0 ≤ ((ki9 : Nat) : Int) ∧ ((ki9 : Nat) : Int) < 6) ∧ r = some (.int (eI 0)) ∧ MW w' y wh kn 1 R) ∨ ((0 ≤ ((ki9 : Nat) : Int) ∧ ((ki9 : Nat) : Int) < 6) ∧ ¬ (1 ≤ a9 ∧ a9 ≤ fl wh) ∧ r = some (.int (eI 0)) ∧ MW w' y wh kn 2 R) ∨ ((0 ≤ ((ki9 : Nat) : Int) ∧ ((ki9 : Nat) : Int) < 6) ∧ (1 ≤ a9 ∧ a9 ≤ fl wh) ∧ r = some (.int (eI (if (thQ wh (R ki9) a9) then waV wh (R ki9) c9 a9 else -9))) ∧ MW w' y wh (kn) 0 (R)))) (e_px0) 29 [(0, .ref y), (1, .int (eI ((ki9 : Nat) : Int))), (2, .int (eI a9)), (3, .int (eI c9)), (4, .long (eJ (pbK (pr wh) k))), (6, .int (eI (k : Int)))] [] (e_up w y (MO y 0 wh kn)) n (0) := by
        intro N
        induction N with
        | zero => intro k hN; exact absurd hN (Nat.not_lt_zero _)
        | succ N ih =>
          intro k hN hk0
          have hpb := pbK_rg (p := pr wh) (by omega) (by omega) k
          have hk : (k : Int) ≤ (R ki9).dg := hk0
          refine e_iload F dX5_ways_29 rfl ?_
          refine e_aload_n F dX5_ways_31 rfl ?_
          refine e_get (ci := 5) (fi := 3) (q := (RX5, TX5, 6)) F gY rfl (by decide) w_fl_RX5_13 (by rfl) dX5_ways_32 ?_
          refine e_iload_n F dX5_ways_35 rfl ?_
          refine e_iald F gG (by omega) (by omega) (by first | decide | omega) dX5_ways_36 ?_
          rw [hGi]
          refine e_icmp_ge F 65 dX5_ways_37 (by decide) (⟨by omega, by omega⟩) (⟨by omega, by omega⟩) (fun c_37 => ?_) (fun c_37 => ?_)
          ·
            have es : pbK (pr wh) k = pbK (pr wh) (R ki9).dg.toNat := by rw [show k = (R ki9).dg.toNat by omega]
            rw [← es] at l65
            exact e_go l65 (And.intro rfl (And.intro rfl (And.intro rfl (And.intro rfl (And.intro rfl (trivial))))))
          · refine e_lload F dX5_ways_40 rfl ?_
            refine e_ldc2 F dX5_ways_42 w_kl_RX5_192 ?_
            refine e_lcmp F dX5_ways_45 (⟨by omega, by omega⟩) (by decide) ?_
            refine e_if_gt F 65 dX5_ways_46 (by decide) (e_cmp_r _ _) (fun c_46 => ?_) (fun c_46 => ?_)
            ·
              rw [e_cmp_gt] at c_46
              have es : pbK (pr wh) k = pbK (pr wh) (R ki9).dg.toNat := (pbK_stop (p := pr wh) (k := k) (by omega) (R ki9).dg.toNat (by omega)).symm
              rw [← es] at l65
              exact e_go l65 (And.intro rfl (And.intro rfl (And.intro rfl (And.intro rfl (And.intro rfl (trivial))))))
            ·
              rw [e_cmp_gt] at c_46
              refine e_lload F dX5_ways_49 rfl ?_
              refine e_aload_n F dX5_ways_51 rfl ?_
              refine e_callVV F u_X5_p (by rfl) (c_X5_p gY hwh) gY rfl rfl w_ml_RX5_38 dX5_ways_52 (by rfl) (Nat.le_of_ble_eq_true rfl) (by decide) (by omega) (fun _ _ _ h _ => False.elim h) (fun r_52 w_52 n_52 h_52 hn_52 => ?_)
              obtain ⟨rfl, ew_52, en_52⟩ := h_52
              rw [ew_52, en_52]
              refine e_i2l F dX5_ways_55 (⟨by omega, by omega⟩) ?_
              refine e_lmul F dX5_ways_56 ?_
              refine e_lstore F dX5_ways_57 (by decide) ?_
              refine e_iinc F dX5_ways_59 rfl (by decide) ?_
              refine e_goto F 29 dX5_ways_62 (by decide) ?_
              have e9 : pbK (pr wh) (k + 1) = pbK (pr wh) k * pr wh := if_pos (by omega)
              refine e_go (ih (k + 1) (by omega) (by omega)) ?_
              rw [e9]
              exact (And.intro rfl (And.intro rfl (And.intro rfl (And.intro rfl (And.intro rfl (And.intro rfl (trivial)))))))
      refine e_lconst F dX5_ways_23 (y := 1) (by decide) ?_
      refine e_lstore F dX5_ways_24 (by decide) ?_
      refine e_iconst F dX5_ways_26 ?_
      refine e_istore F dX5_ways_27 (by decide) ?_
      exact e_go (la 9 0 (by omega) (by omega)) (And.intro rfl (And.intro rfl (And.intro rfl (And.intro rfl (And.intro rfl (And.intro rfl (trivial)))))))
    ·
      rw [b01_0] at c_17
      refine e_bipush F dX5_ways_20 (by decide) ?_
      refine e_iret F rfl (by omega) ?_ dX5_ways_22
      have q9 : ¬ thQ wh (R ki9) a9 := c_17
      rw [if_neg q9]
      exact ⟨FM.th, Or.inr (Or.inr ⟨h_i, h_s, rfl, gM⟩)⟩
  ·
    rw [b01_0, Classical.not_not] at c_6
    refine e_iconst F dX5_ways_9 ?_
    refine e_iret F rfl (by omega) ?_ dX5_ways_10
    by_cases q : 0 ≤ i9 ∧ i9 < 6
    · by_cases q2 : 1 ≤ a9 ∧ a9 ≤ fl wh
      · exact absurd (And.intro q q2) c_6
      · rw [noT_2 q q2]; exact ⟨FM.th, Or.inr (Or.inl ⟨q, q2, rfl, hM.th⟩)⟩
    · rw [noT_1 q]; exact ⟨FM.th, Or.inl ⟨q, rfl, hM.th⟩⟩
end
