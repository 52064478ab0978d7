/-! the reference: ways -/
def lfD (p m : Int) : Nat → Int
  | 0 => m
  | k + 1 => lfD p m k / p
theorem lfD_rg {p m : Int} (hp : 1 ≤ p) (h0 : 0 ≤ m) (h1 : m ≤ 1000) (k : Nat) : 0 ≤ lfD p m k ∧ lfD p m k ≤ 1000 := by
  induction k with
  | zero => exact ⟨h0, h1⟩
  | succ k ih =>
    show 0 ≤ lfD p m k / p ∧ lfD p m k / p ≤ 1000
    exact ⟨Int.ediv_nonneg ih.1 (by omega), Int.le_trans (Int.ediv_le_self _ ih.1) ih.2⟩
def itD (p num m : Int) : Int → Int := fun j => if j = 0 then num % p else lfD p m (j - 1).toNat % p
def okW (wh : Nat) (r : RD) (E : Int → Int) (set : Int) : Nat → Bool
  | 0 => true
  | k + 1 => okW wh r E set k && (!decide (hs set ((k : Int) + 1)) || decide (hv (pr wh) ((k : Int) + 1) E ((r.dg.toNat + 1 : Nat) : Int) (r.dg.toNat + 1) = r.A ((k : Int) + 1)))
def wcK (wh : Nat) (r : RD) (num set : Int) : Nat → Int
  | 0 => 0
  | m + 1 => wcK wh r num set m + b01 (okW wh r (itD (pr wh) num (m : Int)) set (ho wh).toNat = true)
theorem wcK_rg (wh : Nat) (r : RD) (num set : Int) (m : Nat) : 0 ≤ wcK wh r num set m ∧ wcK wh r num set m ≤ m := by
  induction m with
  | zero => unfold wcK; decide
  | succ m ih =>
    have h := b01_or (okW wh r (itD (pr wh) num (m : Int)) set (ho wh).toNat = true)
    unfold wcK
    omega
def waV (wh : Nat) (r : RD) (num set : Int) : Int := if 125 < pbK (pr wh) r.dg.toNat then -9 else wcK wh r num set (pbK (pr wh) r.dg.toNat).toNat
theorem e_cmp_gt (a b : Int) : (0 < e_cmp a b) ↔ b < a := by unfold e_cmp; split <;> (try split) <;> omega
set_option maxHeartbeats 4000000 in
set_option maxRecDepth 100000 in
theorem c_X5_ways {K : e_K} {l : Launch} {w : e_W} {n : Nat} {y wh : Nat} {t kn : Int} {R : Nat → RD} (hM : MW w y wh kn t R) {i9 : Int} (hi9 : e_r i9) {a9 : Int} (ha9 : e_r a9) {c9 : Int} (hc9 : e_r c9) : e_Met K l yX5_ways (Cond.code yX5_ways cX5_ways 12 (Option.some .int) :: e_TB) (4) (1) [.ref y, .int (eI i9), .int (eI a9), .int (eI c9)] w n (fun r w' n' => FM w w' y n ∧ ((¬ (0 ≤ i9 ∧ i9 < 6) ∧ r = some (.int (eI 0)) ∧ MW w' y wh kn 1 R) ∨ ((0 ≤ i9 ∧ i9 < 6) ∧ ¬ (1 ≤ a9 ∧ a9 ≤ fl wh) ∧ r = some (.int (eI 0)) ∧ MW w' y wh kn 2 R) ∨ ((0 ≤ i9 ∧ i9 < 6) ∧ (1 ≤ a9 ∧ a9 ≤ fl wh) ∧ r = some (.int (eI (if (thQ wh (R i9.toNat) a9) then waV wh (R i9.toNat) c9 a9 else -9))) ∧ MW w' y wh (kn) 0 (R)))) (e_px0) := by
  refine e_ofV rfl (Nat.le_of_ble_eq_true rfl) ?_
  intro P9 E9 S9 M9 A9 B9 T9 C9 F hnm
  have hwh := hM.2.1
  have hY := hM.1
  have hp := pr_rg wh hwh
  have hho := ho_rg wh hwh
  have hf9 := fl_rg wh hwh
  refine e_aload_n F dX5_ways_0 rfl ?_
  refine e_iload_n F dX5_ways_1 rfl ?_
  refine e_iload_n F dX5_ways_2 rfl ?_
  refine e_callVV F u_X5_isNo (by rfl) (c_X5_isNo hY hwh hi9 ha9) hY rfl rfl w_ml_RX5_189 dX5_ways_3 (by rfl) (Nat.le_of_ble_eq_true rfl) (by decide) (by omega) (fun _ _ _ h _ => False.elim h) (fun r_3 w_3 n_3 h_3 hn_3 => ?_)
  obtain ⟨rfl, en_3, ew_3⟩ := h_3
  rw [en_3, ew_3]
  refine e_if_eq F 11 dX5_ways_6 (by decide) (b01_r _) (fun c_6 => ?_) (fun c_6 => ?_)
  ·
    rw [b01_0, Classical.not_not] at c_6
    rw [noT_ok c_6]
    have gM := hM.th (t2 := 0) (kn2 := kn)
    obtain ⟨h_i, h_s⟩ := c_6
    obtain ⟨ki9, rfl⟩ : ∃ k : Nat, i9 = (k : Int) := ⟨i9.toNat, by omega⟩
    have hki9 : ki9 < 6 := by omega
    rw [show ((ki9 : Nat) : Int).toNat = ki9 from rfl]
    refine e_dom ?_
    intro hdm
    obtain ⟨gY, _, ⟨G, gG, gGe⟩, ⟨SS, PP, gS, gP, gMD⟩, gRV⟩ := id gM
    refine e_aload_n F dX5_ways_11 rfl ?_
    refine e_iload_n F dX5_ways_12 rfl ?_
    refine e_iload_n F dX5_ways_13 rfl ?_
    refine e_callVV F u_X5_isThere (by rfl) (c_X5_isThere gM hki9 (set := a9) (by omega) (by omega)) gY rfl rfl w_ml_RX5_122 dX5_ways_14 (by rfl) (Nat.le_of_ble_eq_true rfl) (by decide) (by omega) (fun _ _ _ h _ => False.elim h) (fun r_14 w_14 n_14 h_14 hn_14 => ?_)
    obtain ⟨rfl, ew_14, en_14⟩ := h_14
    rw [ew_14, en_14]
    refine e_if_ne F 23 dX5_ways_17 (by decide) (b01_r _) (fun c_17 => ?_) (fun c_17 => ?_)
    ·
      rw [ne_eq, b01_0, Classical.not_not] at c_17
      have hth := c_17
      obtain ⟨a, f, hSa, hya, hwa, hfr, hfA⟩ := MD.row (gMD ki9 hki9) hth.2
      have han := hdm _ _ hwa
      have hdd := MD.dg (gMD ki9 hki9)
      have hGi := gGe ki9 hki9
      have hyn := hdm _ _ gY
      have hgn := hdm _ _ gG
      have hsn := hdm _ _ gS
      have hpn := hdm _ _ gP
      have hdg0 : 0 ≤ (R ki9).dg := by have := hth.2; omega
      have hpb9 := pbK_rg (p := pr wh) (by omega) (by omega) (R ki9).dg.toNat
      have lm : ∀ (N : Nat) (m : Nat) (wl : e_W) (g1 : Int → Int), 200 - m < N → ((m : Int) ≤ (pbK (pr wh) (R ki9).dg.toNat) ∧ (pbK (pr wh) (R ki9).dg.toNat) ≤ 125 ∧ wl n = some (e_ia ((R ki9).dg.toNat + 1) g1) ∧ (∀ u : Int, 0 ≤ u → u < ((((R ki9).dg.toNat + 1) : Nat) : Int) → 0 ≤ g1 u ∧ g1 u < pr wh) ∧ g1 0 = c9 % pr wh ∧ (∀ q, q ≠ n → wl q = (e_up w y (MO y 0 wh kn)) q)) → e_V K P9 l E9 (4) (1) S9 M9 A9 B9 T9 C9 12 (fun r w' n' => FM w w' y n ∧ ((¬ (0 ≤ ((ki9 : Nat) : Int) ∧ ((ki9 : Nat) : Int) < 6) ∧ r = some (.int (eI 0)) ∧ MW w' y wh kn 1 R) ∨ ((0 ≤ ((ki9 : Nat) : Int) ∧ ((ki9 : Nat) : Int) < 6) ∧ ¬ (1 ≤ a9 ∧ a9 ≤ fl wh) ∧ r = some (.int (eI 0)) ∧ MW w' y wh kn 2 R) ∨ ((0 ≤ ((ki9 : Nat) : Int) ∧ ((ki9 : Nat) : Int) < 6) ∧ (1 ≤ a9 ∧ a9 ≤ fl wh) ∧ r = some (.int (eI (if (thQ wh (R ki9) a9) then waV wh (R ki9) c9 a9 else -9))) ∧ MW w' y wh (kn) 0 (R)))) (e_px0) 105 [(0, .ref y), (1, .int (eI ((ki9 : Nat) : Int))), (2, .int (eI a9)), (4, .long (eJ (pbK (pr wh) (R ki9).dg.toNat))), (6, .ref n), (7, .int (eI (wcK wh (R ki9) c9 a9 m))), (8, .int (eI (m : Int)))] [] wl (n + 1) (1) := by
        intro N
        induction N with
        | zero => intro m wl g1 hN; exact absurd hN (Nat.not_lt_zero _)
        | succ N ih =>
          intro m wl g1 hN ⟨hm, hpb5, un, hr1, hz1, uf⟩
          have uY : wl y = some (MO y 0 wh kn) := (uf y (by omega)).trans gY
          have uS : wl (y + 2) = some (e_ra 6 SS) := (uf _ (by omega)).trans gS
          have ua : wl a = some (e_ia ((ho wh).toNat + 1) f) := (uf _ (by omega)).trans hwa
          have hwc := wcK_rg wh (R ki9) c9 a9 m
          have ihm := ih
          have lh : ∀ (g1 : Int → Int), (m : Int) < (pbK (pr wh) (R ki9).dg.toNat) → (∀ u : Int, 0 ≤ u → u < ((((R ki9).dg.toNat + 1) : Nat) : Int) → 0 ≤ g1 u ∧ g1 u < pr wh) → g1 0 = c9 % pr wh → (∀ u : Int, 0 ≤ u → u ≤ (R ki9).dg → g1 u = (itD (pr wh) c9 (m : Int)) u) → ∀ (N : Nat) (h : Nat) (w2 : e_W), 8 - h < N → ((h : Int) ≤ ho wh ∧ w2 n = some (e_ia ((R ki9).dg.toNat + 1) g1) ∧ (∀ q, q ≠ n → w2 q = (e_up w y (MO y 0 wh kn)) q)) → e_V K P9 l E9 (4) (1) S9 M9 A9 B9 T9 C9 12 (fun r w' n' => FM w w' y n ∧ ((¬ (0 ≤ ((ki9 : Nat) : Int) ∧ ((ki9 : Nat) : Int) < 6) ∧ r = some (.int (eI 0)) ∧ MW w' y wh kn 1 R) ∨ ((0 ≤ ((ki9 : Nat) : Int) ∧ ((ki9 : Nat) : Int) < 6) ∧ ¬ (1 ≤ a9 ∧ a9 ≤ fl wh) ∧ r = some (.int (eI 0)) ∧ MW w' y wh kn 2 R) ∨ ((0 ≤ ((ki9 : Nat) : Int) ∧ ((ki9 : Nat) : Int) < 6) ∧ (1 ≤ a9 ∧ a9 ≤ fl wh) ∧ r = some (.int (eI (if (thQ wh (R ki9) a9) then waV wh (R ki9) c9 a9 else -9))) ∧ MW w' y wh (kn) 0 (R)))) (e_px0) 162 [(0, .ref y), (1, .int (eI ((ki9 : Nat) : Int))), (2, .int (eI a9)), (4, .long (eJ (pbK (pr wh) (R ki9).dg.toNat))), (6, .ref n), (7, .int (eI (wcK wh (R ki9) c9 a9 m))), (8, .int (eI (m : Int))), (10, .int (eI (b01 (okW wh (R ki9) (itD (pr wh) c9 (m : Int)) a9 h = true)))), (11, .int (eI ((h : Int) + 1)))] [] w2 (n + 1) (1) := by
            intro g1 hmb hg1 hg0 hge N
            induction N with
            | zero => intro h w2 hN; exact absurd hN (Nat.not_lt_zero _)
            | succ N ih =>
              intro h w2 hN ⟨hh, vn, vf⟩
              have vY : w2 y = some (MO y 0 wh kn) := (vf y (by omega)).trans gY
              have vS : w2 (y + 2) = some (e_ra 6 SS) := (vf _ (by omega)).trans gS
              have va : w2 a = some (e_ia ((ho wh).toNat + 1) f) := (vf _ (by omega)).trans hwa
              have hob := b01_or (okW wh (R ki9) (itD (pr wh) c9 (m : Int)) a9 h = true)
              have e6 : okW wh (R ki9) (itD (pr wh) c9 (m : Int)) a9 (h + 1) = (okW wh (R ki9) (itD (pr wh) c9 (m : Int)) a9 h && (!decide (hs a9 ((h : Int) + 1)) || decide (hv (pr wh) ((h : Int) + 1) (itD (pr wh) c9 (m : Int)) ((((R ki9).dg.toNat + 1) : Nat) : Int) ((R ki9).dg.toNat + 1) = (R ki9).A ((h : Int) + 1)))) := rfl
              refine e_iload F dX5_ways_162 rfl ?_
              refine e_aload_n F dX5_ways_164 rfl ?_
              refine e_callVV F u_X5_holders (by rfl) (c_X5_holders vY hwh) vY rfl rfl w_ml_RX5_52 dX5_ways_165 (by rfl) (Nat.le_of_ble_eq_true rfl) (by decide) (by omega) (fun _ _ _ h _ => False.elim h) (fun r_165 w_165 n_165 h_165 hn_165 => ?_)
              obtain ⟨rfl, ew_165, en_165⟩ := h_165
              rw [ew_165, en_165]
              refine e_icmp_gt F 216 dX5_ways_168 (by decide) (⟨by omega, by omega⟩) (⟨by omega, by omega⟩) (fun c_168 => ?_) (fun c_168 => ?_)
              ·
                obtain rfl : h = (ho wh).toNat := by omega
                refine e_iload F dX5_ways_216 rfl ?_
                refine e_iload F dX5_ways_218 rfl ?_
                refine e_callSS F u_X5_one (by rfl) (c_X5_one (b01_or _)) w_ml_RX5_80 dX5_ways_220 (by rfl) (Nat.le_of_ble_eq_true rfl) (by decide) (by omega) (fun _ _ _ h _ => False.elim h) (fun r_220 w_220 n_220 h_220 hn_220 => ?_)
                obtain ⟨rfl, ew_220, en_220⟩ := h_220
                rw [ew_220, en_220]
                refine e_iadd F dX5_ways_223 ?_
                refine e_istore F dX5_ways_224 (by decide) ?_
                refine e_iinc F dX5_ways_226 rfl (by decide) ?_
                refine e_goto F 105 dX5_ways_229 (by decide) ?_
                exact e_go (ihm (m + 1) w2 g1 (by omega) ⟨by omega, hpb5, vn, hg1, hg0, vf⟩) (And.intro rfl (And.intro rfl (And.intro rfl (And.intro rfl (And.intro rfl (And.intro rfl (And.intro rfl (trivial))))))))
              ·
                have hA9 := gM.rgA hki9 (j := (h : Int) + 1) (by omega) (by omega)
                refine e_iload F dX5_ways_171 rfl ?_
                refine e_iload_n F dX5_ways_173 rfl ?_
                refine e_iload F dX5_ways_174 rfl ?_
                refine e_callSS F u_X5_has (by rfl) (c_X5_has (s9 := a9) (by omega) (by omega) (h := (h : Int) + 1) (by omega) (by omega)) w_ml_RX5_87 dX5_ways_176 (by rfl) (Nat.le_of_ble_eq_true rfl) (by decide) (by omega) (fun _ _ _ h _ => False.elim h) (fun r_176 w_176 n_176 h_176 hn_176 => ?_)
                obtain ⟨rfl, ew_176, en_176⟩ := h_176
                rw [ew_176, en_176]
                refine e_if_eq F 202 dX5_ways_179 (by decide) (b01_r _) (fun c_179 => ?_) (fun c_179 => ?_)
                ·
                  rw [b01_0] at c_179
                  refine e_iconst F dX5_ways_202 ?_
                  refine e_goto F 207 dX5_ways_203 (by decide) ?_
                  refine e_iand F dX5_ways_207 (by first | exact e_and1 hob | exact e_and0 hob) ?_
                  refine e_istore F dX5_ways_208 (by decide) ?_
                  refine e_iinc F dX5_ways_210 rfl (by decide) ?_
                  refine e_goto F 162 dX5_ways_213 (by decide) ?_
                  first
                  | (have e7 : okW wh (R ki9) (itD (pr wh) c9 (m : Int)) a9 (h + 1) = okW wh (R ki9) (itD (pr wh) c9 (m : Int)) a9 h := by
                       rw [e6, decide_eq_false c_179, Bool.not_false, Bool.true_or, Bool.and_true]
                     have l9 := ih (h + 1) w2 (by omega) ⟨by omega, vn, vf⟩
                     rw [e7] at l9
                     exact e_go l9 (And.intro rfl (And.intro rfl (And.intro rfl (And.intro rfl (And.intro rfl (And.intro rfl (And.intro rfl (And.intro rfl (And.intro rfl (trivial)))))))))))
                  | (have e7 : okW wh (R ki9) (itD (pr wh) c9 (m : Int)) a9 (h + 1) = okW wh (R ki9) (itD (pr wh) c9 (m : Int)) a9 h := by
                       rw [e6, decide_eq_true c_199, Bool.or_true, Bool.and_true]
                     have l9 := ih (h + 1) w2 (by omega) ⟨by omega, vn, vf⟩
                     rw [e7] at l9
                     exact e_go l9 (And.intro rfl (And.intro rfl (And.intro rfl (And.intro rfl (And.intro rfl (And.intro rfl (And.intro rfl (And.intro rfl (And.intro rfl (trivial)))))))))))
                  | (have e7 : okW wh (R ki9) (itD (pr wh) c9 (m : Int)) a9 (h + 1) = false := by
                       rw [e6, decide_eq_true c_179, decide_eq_false c_199, Bool.not_true, Bool.or_false, Bool.and_false]
                     have l9 := ih (h + 1) w2 (by omega) ⟨by omega, vn, vf⟩
                     rw [e7] at l9
                     exact e_go l9 (And.intro rfl (And.intro rfl (And.intro rfl (And.intro rfl (And.intro rfl (And.intro rfl (And.intro rfl (And.intro rfl (And.intro rfl (trivial)))))))))))
                ·
                  rw [b01_0, Classical.not_not] at c_179
                  refine e_aload_n F dX5_ways_182 rfl ?_
                  refine e_aload F dX5_ways_183 rfl ?_
                  refine e_iload F dX5_ways_185 rfl ?_
                  refine e_callVV F u_X5_value (by rfl) (c_X5_value vY hwh (x := (h : Int) + 1) vn (by omega) hg1 (by omega) (by omega)) vY rfl rfl w_ml_RX5_91 dX5_ways_187 (by rfl) (Nat.le_of_ble_eq_true rfl) (by decide) (by omega) (fun _ _ _ h _ => False.elim h) (fun r_187 w_187 n_187 h_187 hn_187 => ?_)
                  obtain ⟨rfl, ew_187, en_187⟩ := h_187
                  have e8 : hv (pr wh) ((h : Int) + 1) g1 ((((R ki9).dg.toNat + 1) : Nat) : Int) ((R ki9).dg.toNat + 1) = hv (pr wh) ((h : Int) + 1) (itD (pr wh) c9 (m : Int)) ((((R ki9).dg.toNat + 1) : Nat) : Int) ((R ki9).dg.toNat + 1) := hv_congr _ (by omega) (fun j j0 j1 => hge j j0 (by omega))
                  rw [ew_187, en_187, e8]
                  have hvv := hv_rg (x := (h : Int) + 1) (P := (itD (pr wh) c9 (m : Int))) (N := ((((R ki9).dg.toNat + 1) : Nat) : Int)) (show 0 < pr wh by omega) ((R ki9).dg.toNat + 1)
                  refine e_aload_n F dX5_ways_190 rfl ?_
                  refine e_get (ci := 5) (fi := 4) (q := (RX5, TX5, 6)) F vY rfl (by decide) w_fl_RX5_18 (by rfl) dX5_ways_191 ?_
                  refine e_iload_n F dX5_ways_194 rfl ?_
                  refine e_aaldr F vS (by omega) (by omega) (by decide) (hSa) dX5_ways_195 ?_
                  refine e_iload F dX5_ways_196 rfl ?_
                  refine e_iald F va (by omega) (by omega) (by first | decide | omega) dX5_ways_198 ?_
                  rw [hfA _ (by omega) (by omega)]
                  refine e_icmp_ne F 206 dX5_ways_199 (by decide) (⟨by omega, by omega⟩) (⟨by omega, by omega⟩) (fun c_199 => ?_) (fun c_199 => ?_)
                  · refine e_iconst F dX5_ways_206 ?_
                    refine e_iand F dX5_ways_207 (by first | exact e_and1 hob | exact e_and0 hob) ?_
                    refine e_istore F dX5_ways_208 (by decide) ?_
                    refine e_iinc F dX5_ways_210 rfl (by decide) ?_
                    refine e_goto F 162 dX5_ways_213 (by decide) ?_
                    first
                    | (have e7 : okW wh (R ki9) (itD (pr wh) c9 (m : Int)) a9 (h + 1) = okW wh (R ki9) (itD (pr wh) c9 (m : Int)) a9 h := by
                         rw [e6, decide_eq_false c_179, Bool.not_false, Bool.true_or, Bool.and_true]
                       have l9 := ih (h + 1) w2 (by omega) ⟨by omega, vn, vf⟩
                       rw [e7] at l9
                       exact e_go l9 (And.intro rfl (And.intro rfl (And.intro rfl (And.intro rfl (And.intro rfl (And.intro rfl (And.intro rfl (And.intro rfl (And.intro rfl (trivial)))))))))))
                    | (have e7 : okW wh (R ki9) (itD (pr wh) c9 (m : Int)) a9 (h + 1) = okW wh (R ki9) (itD (pr wh) c9 (m : Int)) a9 h := by
                         rw [e6, decide_eq_true c_199, Bool.or_true, Bool.and_true]
                       have l9 := ih (h + 1) w2 (by omega) ⟨by omega, vn, vf⟩
                       rw [e7] at l9
                       exact e_go l9 (And.intro rfl (And.intro rfl (And.intro rfl (And.intro rfl (And.intro rfl (And.intro rfl (And.intro rfl (And.intro rfl (And.intro rfl (trivial)))))))))))
                    | (have e7 : okW wh (R ki9) (itD (pr wh) c9 (m : Int)) a9 (h + 1) = false := by
                         rw [e6, decide_eq_true c_179, decide_eq_false c_199, Bool.not_true, Bool.or_false, Bool.and_false]
                       have l9 := ih (h + 1) w2 (by omega) ⟨by omega, vn, vf⟩
                       rw [e7] at l9
                       exact e_go l9 (And.intro rfl (And.intro rfl (And.intro rfl (And.intro rfl (And.intro rfl (And.intro rfl (And.intro rfl (And.intro rfl (And.intro rfl (trivial)))))))))))
                  · refine e_iconst F dX5_ways_202 ?_
                    refine e_goto F 207 dX5_ways_203 (by decide) ?_
                    refine e_iand F dX5_ways_207 (by first | exact e_and1 hob | exact e_and0 hob) ?_
                    refine e_istore F dX5_ways_208 (by decide) ?_
                    refine e_iinc F dX5_ways_210 rfl (by decide) ?_
                    refine e_goto F 162 dX5_ways_213 (by decide) ?_
                    first
                    | (have e7 : okW wh (R ki9) (itD (pr wh) c9 (m : Int)) a9 (h + 1) = okW wh (R ki9) (itD (pr wh) c9 (m : Int)) a9 h := by
                         rw [e6, decide_eq_false c_179, Bool.not_false, Bool.true_or, Bool.and_true]
                       have l9 := ih (h + 1) w2 (by omega) ⟨by omega, vn, vf⟩
                       rw [e7] at l9
                       exact e_go l9 (And.intro rfl (And.intro rfl (And.intro rfl (And.intro rfl (And.intro rfl (And.intro rfl (And.intro rfl (And.intro rfl (And.intro rfl (trivial)))))))))))
                    | (have e7 : okW wh (R ki9) (itD (pr wh) c9 (m : Int)) a9 (h + 1) = okW wh (R ki9) (itD (pr wh) c9 (m : Int)) a9 h := by
                         rw [e6, decide_eq_true c_199, Bool.or_true, Bool.and_true]
                       have l9 := ih (h + 1) w2 (by omega) ⟨by omega, vn, vf⟩
                       rw [e7] at l9
                       exact e_go l9 (And.intro rfl (And.intro rfl (And.intro rfl (And.intro rfl (And.intro rfl (And.intro rfl (And.intro rfl (And.intro rfl (And.intro rfl (trivial)))))))))))
                    | (have e7 : okW wh (R ki9) (itD (pr wh) c9 (m : Int)) a9 (h + 1) = false := by
                         rw [e6, decide_eq_true c_179, decide_eq_false c_199, Bool.not_true, Bool.or_false, Bool.and_false]
                       have l9 := ih (h + 1) w2 (by omega) ⟨by omega, vn, vf⟩
                       rw [e7] at l9
                       exact e_go l9 (And.intro rfl (And.intro rfl (And.intro rfl (And.intro rfl (And.intro rfl (And.intro rfl (And.intro rfl (And.intro rfl (And.intro rfl (trivial)))))))))))
          have lk : (m : Int) < (pbK (pr wh) (R ki9).dg.toNat) → ∀ (N : Nat) (k : Nat) (w2 : e_W) (g2 : Int → Int), 8 - k < N → ((k : Int) ≤ (R ki9).dg ∧ w2 n = some (e_ia ((R ki9).dg.toNat + 1) g2) ∧ (∀ u : Int, 0 ≤ u → u < ((((R ki9).dg.toNat + 1) : Nat) : Int) → 0 ≤ g2 u ∧ g2 u < pr wh) ∧ g2 0 = c9 % pr wh ∧ (∀ u : Int, 1 ≤ u → u ≤ (k : Int) → g2 u = (itD (pr wh) c9 (m : Int)) u) ∧ (∀ q, q ≠ n → w2 q = (e_up w y (MO y 0 wh kn)) q)) → e_V K P9 l E9 (4) (1) S9 M9 A9 B9 T9 C9 12 (fun r w' n' => FM w w' y n ∧ ((¬ (0 ≤ ((ki9 : Nat) : Int) ∧ ((ki9 : Nat) : Int) < 6) ∧ r = some (.int (eI 0)) ∧ MW w' y wh kn 1 R) ∨ ((0 ≤ ((ki9 : Nat) : Int) ∧ ((ki9 : Nat) : Int) < 6) ∧ ¬ (1 ≤ a9 ∧ a9 ≤ fl wh) ∧ r = some (.int (eI 0)) ∧ MW w' y wh kn 2 R) ∨ ((0 ≤ ((ki9 : Nat) : Int) ∧ ((ki9 : Nat) : Int) < 6) ∧ (1 ≤ a9 ∧ a9 ≤ fl wh) ∧ r = some (.int (eI (if (thQ wh (R ki9) a9) then waV wh (R ki9) c9 a9 else -9))) ∧ MW w' y wh (kn) 0 (R)))) (e_px0) 121 [(0, .ref y), (1, .int (eI ((ki9 : Nat) : Int))), (2, .int (eI a9)), (4, .long (eJ (pbK (pr wh) (R ki9).dg.toNat))), (6, .ref n), (7, .int (eI (wcK wh (R ki9) c9 a9 m))), (8, .int (eI (m : Int))), (9, .int (eI (lfD (pr wh) (m : Int) k))), (10, .int (eI ((k : Int) + 1)))] [] w2 (n + 1) (1) := by
            intro hmb N
            induction N with
            | zero => intro k w2 g2 hN; exact absurd hN (Nat.not_lt_zero _)
            | succ N ih =>
              intro k w2 g2 hN ⟨hk, vn, hr2, hz2, hi2, vf⟩
              have vY : w2 y = some (MO y 0 wh kn) := (vf y (by omega)).trans gY
              have vS : w2 (y + 2) = some (e_ra 6 SS) := (vf _ (by omega)).trans gS
              have va : w2 a = some (e_ia ((ho wh).toNat + 1) f) := (vf _ (by omega)).trans hwa
              have hlf := lfD_rg (p := pr wh) (m := (m : Int)) (by omega) (by omega) (by omega) k
              refine e_iload F dX5_ways_121 rfl ?_
              refine e_aload F dX5_ways_123 rfl ?_
              refine e_alenI F vn dX5_ways_125 ?_
              refine e_icmp_ge F 156 dX5_ways_126 (by decide) (⟨by omega, by omega⟩) (⟨by omega, by omega⟩) (fun c_126 => ?_) (fun c_126 => ?_)
              · refine e_iconst F dX5_ways_156 ?_
                refine e_istore F dX5_ways_157 (by decide) ?_
                refine e_iconst F dX5_ways_159 ?_
                refine e_istore F dX5_ways_160 (by decide) ?_
                refine e_go (lh g2 (by omega) hr2 hz2 (fun u u0 u1 => ?_) 9 0 w2 (by omega) ⟨by omega, vn, vf⟩) (And.intro rfl (And.intro rfl (And.intro rfl (And.intro rfl (And.intro rfl (And.intro rfl (And.intro rfl (And.intro rfl (And.intro rfl (trivial))))))))))
                by_cases e8 : u = 0
                · rw [e8, hz2]; rfl
                · exact hi2 u (by omega) (by omega)
              · refine e_aload F dX5_ways_129 rfl ?_
                refine e_iload F dX5_ways_131 rfl ?_
                refine e_iload F dX5_ways_133 rfl ?_
                refine e_aload_n F dX5_ways_135 rfl ?_
                refine e_callVV F u_X5_p (by rfl) (c_X5_p vY hwh) vY rfl rfl w_ml_RX5_38 dX5_ways_136 (by rfl) (Nat.le_of_ble_eq_true rfl) (by decide) (by omega) (fun _ _ _ h _ => False.elim h) (fun r_136 w_136 n_136 h_136 hn_136 => ?_)
                obtain ⟨rfl, ew_136, en_136⟩ := h_136
                rw [ew_136, en_136]
                refine e_irem F dX5_ways_139 (⟨by omega, by omega⟩) (⟨by omega, by omega⟩) (by omega) ?_
                rw [Int.tmod_eq_emod_of_nonneg hlf.1]
                have hem := emod_rg (lfD (pr wh) (m : Int) k) hwh
                refine e_iast F vn (by omega) (by omega) (by first | decide | omega) dX5_ways_140 ?_
                refine e_iload F dX5_ways_141 rfl ?_
                refine e_aload_n F dX5_ways_143 rfl ?_
                refine e_callVV F u_X5_p (by rfl) (c_X5_p (show e_up w2 n _ y = some (MO y 0 wh kn) by rw [e_up_n (by omega)]; exact vY) hwh) (show e_up w2 n _ y = some (MO y 0 wh kn) by rw [e_up_n (by omega)]; exact vY) rfl rfl w_ml_RX5_38 dX5_ways_144 (by rfl) (Nat.le_of_ble_eq_true rfl) (by decide) (by omega) (fun _ _ _ h _ => False.elim h) (fun r_144 w_144 n_144 h_144 hn_144 => ?_)
                obtain ⟨rfl, ew_144, en_144⟩ := h_144
                rw [ew_144, en_144]
                refine e_idiv F dX5_ways_147 (⟨by omega, by omega⟩) (⟨by omega, by omega⟩) (by omega) ?_
                rw [Int.tdiv_eq_ediv_of_nonneg hlf.1]
                refine e_istore F dX5_ways_148 (by decide) ?_
                refine e_iinc F dX5_ways_150 rfl (by decide) ?_
                refine e_goto F 121 dX5_ways_153 (by decide) ?_
                refine e_go (ih (k + 1) _ _ (by omega) ⟨by omega, e_up_s, fun u u0 u1 => ?_, ?_, fun u u0 u1 => ?_, fun q q1 => by rw [e_up_n q1]; exact vf q q1⟩) ?_
                · unfold e_fu
                  split
                  · exact hem
                  · exact hr2 u u0 u1
                · unfold e_fu
                  rw [if_neg (by omega)]; exact hz2
                · unfold e_fu
                  by_cases e8 : u = (k : Int) + 1
                  · rw [if_pos e8, e8]
                    show _ = if _ then _ else _
                    rw [if_neg (show ¬ ((k : Int) + 1 = 0) by omega), show ((k : Int) + 1 - 1).toNat = k by omega]
                  · rw [if_neg e8]; exact hi2 u u0 (by omega)
                · exact (And.intro rfl (And.intro rfl (And.intro rfl (And.intro rfl (And.intro rfl (And.intro rfl (And.intro rfl (And.intro rfl (And.intro rfl (trivial))))))))))
          refine e_iload F dX5_ways_105 rfl ?_
          refine e_i2l F dX5_ways_107 (⟨by omega, by omega⟩) ?_
          refine e_lload F dX5_ways_108 rfl ?_
          refine e_lcmp F dX5_ways_110 (⟨by omega, by omega⟩) (⟨by omega, by omega⟩) ?_
          refine e_if_ge F 232 dX5_ways_111 (by decide) (e_cmp_r _ _) (fun c_111 => ?_) (fun c_111 => ?_)
          ·
            rw [e_cmp_ge] at c_111
            obtain rfl : m = (pbK (pr wh) (R ki9).dg.toNat).toNat := by omega
            refine e_iload F dX5_ways_232 rfl ?_
            refine e_iret F rfl (by omega) ?_ dX5_ways_234
            rw [if_pos (show thQ wh (R ki9) a9 from hth)]
            have e5 : waV wh (R ki9) c9 a9 = wcK wh (R ki9) c9 a9 (pbK (pr wh) (R ki9).dg.toNat).toNat := if_neg (by omega)
            rw [e5]
            exact ⟨fun q q1 q2 => (uf q (by omega)).trans (FM.th (n := n) q q1 q2), Or.inr (Or.inr ⟨h_i, h_s, rfl, gM.to (fun q e q1 => by rw [uf q (by have := hdm q e q1; omega)]; exact q1)⟩)⟩
          ·
            rw [e_cmp_ge] at c_111
            refine e_iload F dX5_ways_114 rfl ?_
            refine e_istore F dX5_ways_116 (by decide) ?_
            refine e_iconst F dX5_ways_118 ?_
            refine e_istore F dX5_ways_119 (by decide) ?_
            exact e_go (lk (by omega) 9 0 wl g1 (by omega) ⟨by omega, un, hr1, hz1, fun u u0 u1 => by omega, uf⟩) (And.intro rfl (And.intro rfl (And.intro rfl (And.intro rfl (And.intro rfl (And.intro rfl (And.intro rfl (And.intro rfl (And.intro rfl (trivial))))))))))
      have l65 : e_V K P9 l E9 (4) (1) S9 M9 A9 B9 T9 C9 12 (fun r w' n' => FM w w' y n ∧ ((¬ (0 ≤ ((ki9 : Nat) : Int) ∧ ((ki9 : Nat) : Int) < 6) ∧ r = some (.int (eI 0)) ∧ MW w' y wh kn 1 R) ∨ ((0 ≤ ((ki9 : Nat) : Int) ∧ ((ki9 : Nat) : Int) < 6) ∧ ¬ (1 ≤ a9 ∧ a9 ≤ fl wh) ∧ r = some (.int (eI 0)) ∧ MW w' y wh kn 2 R) ∨ ((0 ≤ ((ki9 : Nat) : Int) ∧ ((ki9 : Nat) : Int) < 6) ∧ (1 ≤ a9 ∧ a9 ≤ fl wh) ∧ r = some (.int (eI (if (thQ wh (R ki9) a9) then waV wh (R ki9) c9 a9 else -9))) ∧ MW w' y wh (kn) 0 (R)))) (e_px0) 65 [(0, .ref y), (1, .int (eI ((ki9 : Nat) : Int))), (2, .int (eI a9)), (3, .int (eI c9)), (4, .long (eJ (pbK (pr wh) (R ki9).dg.toNat)))] [] (e_up w y (MO y 0 wh kn)) n (0) := by
        refine e_lload F dX5_ways_65 rfl ?_
        refine e_ldc2 F dX5_ways_67 w_kl_RX5_192 ?_
        refine e_lcmp F dX5_ways_70 (⟨by omega, by omega⟩) (by decide) ?_
        refine e_if_le F 77 dX5_ways_71 (by decide) (e_cmp_r _ _) (fun c_71 => ?_) (fun c_71 => ?_)
        ·
          rw [e_cmp_le] at c_71
          refine e_aload_n F dX5_ways_77 rfl ?_
          refine e_get (ci := 5) (fi := 3) (q := (RX5, TX5, 6)) F gY rfl (by decide) w_fl_RX5_13 (by rfl) dX5_ways_78 ?_
          refine e_iload_n F dX5_ways_81 rfl ?_
          refine e_iald F gG (by omega) (by omega) (by first | decide | omega) dX5_ways_82 ?_
          rw [hGi]
          refine e_iconst F dX5_ways_83 ?_
          refine e_iadd F dX5_ways_84 ?_
          refine e_newI F (N := ((R ki9).dg.toNat + 1)) (by omega) (by omega) (by omega) w_ac_int dX5_ways_85 ?_
          refine e_astore F dX5_ways_87 (by decide) ?_
          refine e_aload F dX5_ways_89 rfl ?_
          refine e_iconst F dX5_ways_91 ?_
          refine e_aload_n F dX5_ways_92 rfl ?_
          refine e_iload_n F dX5_ways_93 rfl ?_
          refine e_i2l F dX5_ways_94 (hc9) ?_
          have vY : e_up (e_up w y (MO y 0 wh kn)) n (e_ia ((R ki9).dg.toNat + 1) (fun _ => 0)) y = some (MO y 0 wh kn) := by rw [e_up_n (by omega)]; exact gY
          refine e_callVV F u_X5_mod (by rfl) (c_X5_mod vY hwh (v := c9) (by constructor <;> omega)) vY rfl rfl w_ml_RX5_55 dX5_ways_95 (by rfl) (Nat.le_of_ble_eq_true rfl) (by decide) (by omega) (fun _ _ _ h _ => False.elim h) (fun r_95 w_95 n_95 h_95 hn_95 => ?_)
          obtain ⟨rfl, ew_95, en_95⟩ := h_95
          rw [ew_95, en_95]
          have hcm := emod_rg c9 hwh
          refine e_iast F e_up_s (by omega) (by omega) (by first | decide | omega) dX5_ways_98 ?_
          refine e_iconst F dX5_ways_99 ?_
          refine e_istore F dX5_ways_100 (by decide) ?_
          refine e_iconst F dX5_ways_102 ?_
          refine e_istore F dX5_ways_103 (by decide) ?_
          exact e_go (lm 201 0 _ _ (by omega) ⟨by omega, by omega, e_up_s, fun u u0 u1 => by rw [show e_fu (fun _ => (0 : Int)) 0 (c9 % pr wh) u = if u = 0 then c9 % pr wh else 0 from rfl]; split <;> omega, rfl, fun q q1 => by rw [e_up_n q1, e_up_n q1]⟩) (And.intro rfl (And.intro rfl (And.intro rfl (And.intro rfl (And.intro rfl (And.intro rfl (And.intro rfl (trivial))))))))
        ·
          rw [e_cmp_le] at c_71
          refine e_bipush F dX5_ways_74 (by decide) ?_
          refine e_iret F rfl (by omega) ?_ dX5_ways_76
          rw [if_pos (show thQ wh (R ki9) a9 from hth)]
          have e5 : waV wh (R ki9) c9 a9 = -9 := if_pos (by omega)
          rw [e5]
          exact ⟨FM.th, Or.inr (Or.inr ⟨h_i, h_s, rfl, gM⟩)⟩
      have la : ∀ (N k : Nat), 8 - k < N → (k : Int) ≤ (R ki9).dg → e_V K P9 l E9 (4) (1) S9 M9 A9 B9 T9 C9 12 (fun r w' n' => FM w w' y n ∧ ((¬ (0 ≤ ((ki9 : Nat) : Int) ∧ ((ki9 : Nat) : Int) < 6) ∧ r = some (.int (eI 0)) ∧ MW w' y wh kn 1 R) ∨ ((0 ≤ ((ki9 : Nat) : Int) ∧ ((ki9 : Nat) : Int) < 6) ∧ ¬ (1 ≤ a9 ∧ a9 ≤ fl wh) ∧ r = some (.int (eI 0)) ∧ MW w' y wh kn 2 R) ∨ ((0 ≤ ((ki9 : Nat) : Int) ∧ ((ki9 : Nat) : Int) < 6) ∧ (1 ≤ a9 ∧ a9 ≤ fl wh) ∧ r = some (.int (eI (if (thQ wh (R ki9) a9) then waV wh (R ki9) c9 a9 else -9))) ∧ MW w' y wh (kn) 0 (R)))) (e_px0) 29 [(0, .ref y), (1, .int (eI ((ki9 : Nat) : Int))), (2, .int (eI a9)), (3, .int (eI c9)), (4, .long (eJ (pbK (pr wh) k))), (6, .int (eI (k : Int)))] [] (e_up w y (MO y 0 wh kn)) n (0) := by
        intro N
        induction N with
        | zero => intro k hN; exact absurd hN (Nat.not_lt_zero _)
        | succ N ih =>
          intro k hN hk0
          have hpb := pbK_rg (p := pr wh) (by omega) (by omega) k
          have hk : (k : Int) ≤ (R ki9).dg := hk0
          refine e_iload F dX5_ways_29 rfl ?_
          refine e_aload_n F dX5_ways_31 rfl ?_
          refine e_get (ci := 5) (fi := 3) (q := (RX5, TX5, 6)) F gY rfl (by decide) w_fl_RX5_13 (by rfl) dX5_ways_32 ?_
          refine e_iload_n F dX5_ways_35 rfl ?_
          refine e_iald F gG (by omega) (by omega) (by first | decide | omega) dX5_ways_36 ?_
          rw [hGi]
          refine e_icmp_ge F 65 dX5_ways_37 (by decide) (⟨by omega, by omega⟩) (⟨by omega, by omega⟩) (fun c_37 => ?_) (fun c_37 => ?_)
          ·
            have es : pbK (pr wh) k = pbK (pr wh) (R ki9).dg.toNat := by rw [show k = (R ki9).dg.toNat by omega]
            rw [← es] at l65
            exact e_go l65 (And.intro rfl (And.intro rfl (And.intro rfl (And.intro rfl (And.intro rfl (trivial))))))
          · refine e_lload F dX5_ways_40 rfl ?_
            refine e_ldc2 F dX5_ways_42 w_kl_RX5_192 ?_
            refine e_lcmp F dX5_ways_45 (⟨by omega, by omega⟩) (by decide) ?_
            refine e_if_gt F 65 dX5_ways_46 (by decide) (e_cmp_r _ _) (fun c_46 => ?_) (fun c_46 => ?_)
            ·
              rw [e_cmp_gt] at c_46
              have es : pbK (pr wh) k = pbK (pr wh) (R ki9).dg.toNat := (pbK_stop (p := pr wh) (k := k) (by omega) (R ki9).dg.toNat (by omega)).symm
              rw [← es] at l65
              exact e_go l65 (And.intro rfl (And.intro rfl (And.intro rfl (And.intro rfl (And.intro rfl (trivial))))))
            ·
              rw [e_cmp_gt] at c_46
              refine e_lload F dX5_ways_49 rfl ?_
              refine e_aload_n F dX5_ways_51 rfl ?_
              refine e_callVV F u_X5_p (by rfl) (c_X5_p gY hwh) gY rfl rfl w_ml_RX5_38 dX5_ways_52 (by rfl) (Nat.le_of_ble_eq_true rfl) (by decide) (by omega) (fun _ _ _ h _ => False.elim h) (fun r_52 w_52 n_52 h_52 hn_52 => ?_)
              obtain ⟨rfl, ew_52, en_52⟩ := h_52
              rw [ew_52, en_52]
              refine e_i2l F dX5_ways_55 (⟨by omega, by omega⟩) ?_
              refine e_lmul F dX5_ways_56 ?_
              refine e_lstore F dX5_ways_57 (by decide) ?_
              refine e_iinc F dX5_ways_59 rfl (by decide) ?_
              refine e_goto F 29 dX5_ways_62 (by decide) ?_
              have e9 : pbK (pr wh) (k + 1) = pbK (pr wh) k * pr wh := if_pos (by omega)
              refine e_go (ih (k + 1) (by omega) (by omega)) ?_
              rw [e9]
              exact (And.intro rfl (And.intro rfl (And.intro rfl (And.intro rfl (And.intro rfl (And.intro rfl (trivial)))))))
      refine e_lconst F dX5_ways_23 (y := 1) (by decide) ?_
      refine e_lstore F dX5_ways_24 (by decide) ?_
      refine e_iconst F dX5_ways_26 ?_
      refine e_istore F dX5_ways_27 (by decide) ?_
      exact e_go (la 9 0 (by omega) (by omega)) (And.intro rfl (And.intro rfl (And.intro rfl (And.intro rfl (And.intro rfl (And.intro rfl (trivial)))))))
    ·
      rw [b01_0] at c_17
      refine e_bipush F dX5_ways_20 (by decide) ?_
      refine e_iret F rfl (by omega) ?_ dX5_ways_22
      have q9 : ¬ thQ wh (R ki9) a9 := c_17
      rw [if_neg q9]
      exact ⟨FM.th, Or.inr (Or.inr ⟨h_i, h_s, rfl, gM⟩)⟩
  ·
    rw [b01_0, Classical.not_not] at c_6
    refine e_iconst F dX5_ways_9 ?_
    refine e_iret F rfl (by omega) ?_ dX5_ways_10
    by_cases q : 0 ≤ i9 ∧ i9 < 6
    · by_cases q2 : 1 ≤ a9 ∧ a9 ≤ fl wh
      · exact absurd (And.intro q q2) c_6
      · rw [noT_2 q q2]; exact ⟨FM.th, Or.inr (Or.inl ⟨q, q2, rfl, hM.th⟩)⟩
    · rw [noT_1 q]; exact ⟨FM.th, Or.inl ⟨q, rfl, hM.th⟩⟩
