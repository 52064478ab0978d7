/-! the reference: what is done with deals -/
def lpR (wh : Nat) (g : Int) (P : Int → Int) : RD := (g, 1, fun h => if 1 ≤ h ∧ h ≤ ho wh then hv (pr wh) h P ((g.toNat + 1 : Nat) : Int) (g.toNat + 1) else -1, P)
theorem lpR_MD {w : e_W} {y wh a b : Nat} {g : Int} {P f q : Int → Int} (hwh : wh < 7) (hg : 0 ≤ g ∧ g ≤ 6) (hya : y + 3 < a) (hyb : y + 3 < b) (wa : w a = some (e_ia ((ho wh).toNat + 1) f)) (f0 : f 0 = -1) (hf : ∀ j : Int, 1 ≤ j → j ≤ ho wh → f j = hv (pr wh) j P ((g.toNat + 1 : Nat) : Int) (g.toNat + 1)) (wb : w b = some (e_ia (g.toNat + 1) q)) (hq : ∀ j : Int, 0 ≤ j → j ≤ g → q j = P j) (hP : ∀ j : Int, 0 ≤ j → j ≤ g → 0 ≤ P j ∧ P j < pr wh) : MD w y wh (some a) (some b) (lpR wh g P) := by
  have hp := pr_rg wh hwh
  have hho := ho_rg wh hwh
  have eg : (lpR wh g P).dg = g := rfl
  refine Or.inr ⟨hg, ⟨a, f, rfl, hya, wa, fun j j0 j1 => ?_, fun j j0 j1 => ?_⟩, Or.inr ⟨rfl, b, q, rfl, hyb, wb, fun j j0 j1 => ?_, fun j j0 j1 => hq j j0 (by omega)⟩⟩
  · by_cases e : j = 0
    · rw [e, f0]; omega
    · rw [hf j (by omega) (by omega)]
      have := hv_rg (x := j) (P := P) (N := ((g.toNat + 1 : Nat) : Int)) (show 0 < pr wh by omega) (g.toNat + 1)
      omega
  · show f j = if 1 ≤ j ∧ j ≤ ho wh then _ else -1
    rw [if_pos ⟨j0, by omega⟩]
    exact hf j j0 (by omega)
  · rw [hq j j0 (by omega)]
    have := hP j j0 (by omega)
    omega
theorem lpR_RV {wh : Nat} {g : Int} {P : Int → Int} (hwh : wh < 7) (hg : 0 ≤ g ∧ g ≤ 6) (hP : ∀ j : Int, 0 ≤ j → j ≤ g → 0 ≤ P j ∧ P j < pr wh) : RV wh (lpR wh g P) := by
  have hp := pr_rg wh hwh
  refine ⟨fun j j0 j1 => ?_, fun _ => hP, fun q => absurd q (show ¬ g = -1 by omega)⟩
  show (if 1 ≤ j ∧ j ≤ ho wh then hv (pr wh) j P ((g.toNat + 1 : Nat) : Int) (g.toNat + 1) else -1) = -1 ∨ _
  by_cases e : 1 ≤ j ∧ j ≤ ho wh
  · right
    show 0 ≤ (if 1 ≤ j ∧ j ≤ ho wh then hv (pr wh) j P ((g.toNat + 1 : Nat) : Int) (g.toNat + 1) else -1) ∧ (if 1 ≤ j ∧ j ≤ ho wh then hv (pr wh) j P ((g.toNat + 1 : Nat) : Int) (g.toNat + 1) else -1) < pr wh ∧ j ≤ ho wh
    rw [if_pos e]
    have := hv_rg (x := j) (P := P) (N := ((g.toNat + 1 : Nat) : Int)) (show 0 < pr wh by omega) (g.toNat + 1)
    exact ⟨this.1, this.2, e.2⟩
  · exact Or.inl (if_neg e)
theorem bcm_rg {wh : Nat} (hwh : wh < 7) (g a b c d j : Int) : 0 ≤ bcm (pr wh) g a b c d j ∧ bcm (pr wh) g a b c d j < pr wh := by
  have hp := pr_rg wh hwh
  have ha := emod_rg a hwh
  have hb := emod_rg b hwh
  have hc := emod_rg c hwh
  have hd := emod_rg d hwh
  unfold bcm
  split
  · exact ha
  · split
    · split <;> omega
    · split
      · split <;> omega
      · split
        · split <;> omega
        · omega
theorem suK_bs (wh : Nat) (r : RD) (k : Nat) : suK wh r k = bsK (fun j => decide (hs (st7 r.A) ((j : Int) + 1) ∧ agD wh r (st7 r.A - 2 ^ j))) k := by
  induction k with
  | zero => rfl
  | succ k ih =>
    have e1 : suK wh r (k + 1) = if hs (st7 r.A) ((k : Int) + 1) ∧ agD wh r (st7 r.A - 2 ^ k) then suK wh r k + 2 ^ k else suK wh r k := rfl
    have e2 : bsK (fun j => decide (hs (st7 r.A) ((j : Int) + 1) ∧ agD wh r (st7 r.A - 2 ^ j))) (k + 1) = bsK (fun j => decide (hs (st7 r.A) ((j : Int) + 1) ∧ agD wh r (st7 r.A - 2 ^ j))) k + (if decide (hs (st7 r.A) ((k : Int) + 1) ∧ agD wh r (st7 r.A - 2 ^ k)) = true then 2 ^ k else 0) := rfl
    rw [e1, e2, ← ih]
    by_cases h : hs (st7 r.A) ((k : Int) + 1) ∧ agD wh r (st7 r.A - 2 ^ k)
    · rw [if_pos h, if_pos (decide_eq_true h)]
    · rw [if_neg h, if_neg (by rw [decide_eq_false h]; decide), Int.add_zero]
theorem wrV_pos {wh : Nat} (hwh : wh < 7) {r : RD} (h : 0 < wrV wh r) : 1 ≤ wrV wh r ∧ wrV wh r ≤ ho wh ∧ hs (st7 r.A) (wrV wh r) ∧ ¬ r.dg = -1 := by
  have hho := ho_rg wh hwh
  unfold wrV at h ⊢
  by_cases h1 : r.dg = -1
  · rw [if_pos h1] at h; omega
  · rw [if_neg h1] at h ⊢
    by_cases h2 : agD wh r (st7 r.A)
    · rw [if_pos h2] at h; omega
    · rw [if_neg h2] at h ⊢
      by_cases h3 : bc (st7 r.A) < r.dg + 3
      · rw [if_pos h3] at h; omega
      · rw [if_neg h3] at h ⊢
        obtain ⟨a1, a2, a3⟩ := ffd_rg (set := suK wh r (ho wh).toNat) (M := ho wh) (ho wh).toNat (by omega) h
        refine ⟨a2, a3, ?_, h1⟩
        obtain ⟨j, hj⟩ : ∃ j : Nat, ffd (suK wh r (ho wh).toNat) (ho wh) (ho wh).toNat = (j : Int) + 1 := ⟨(ffd (suK wh r (ho wh).toNat) (ho wh) (ho wh).toNat - 1).toNat, by omega⟩
        rw [hj] at a1 ⊢
        rw [suK_bs] at a1
        have := ((bsK_hs _ _).mp a1).2
        exact (of_decide_eq_true this).1
theorem ffd_lo (set M : Int) : ∀ r : Nat, (r : Int) ≤ M → -9 ≤ ffd set M r ∧ ffd set M r ≤ M := by
  intro r
  induction r with
  | zero => intro h; show -9 ≤ (-9 : Int) ∧ (-9 : Int) ≤ M; omega
  | succ r ih =>
    intro h
    show -9 ≤ (if hs set (M - (r : Int)) then M - (r : Int) else ffd set M r) ∧ (if hs set (M - (r : Int)) then M - (r : Int) else ffd set M r) ≤ M
    have := ih (by omega)
    split <;> omega
theorem wrV_rg {wh : Nat} (hwh : wh < 7) (r : RD) : -9 ≤ wrV wh r ∧ wrV wh r ≤ 7 := by
  have hho := ho_rg wh hwh
  have := ffd_lo (suK wh r (ho wh).toNat) (ho wh) (ho wh).toNat (by omega)
  unfold wrV
  split
  · omega
  · split
    · omega
    · split <;> omega
theorem hs_zero (h : Int) : ¬ hs 0 h := by
  show ¬ (0 / 2 ^ (h - 1).toNat % 2 = 1)
  rw [Int.zero_ediv]
  decide
theorem hs_ne {w : e_W} {y wh i : Nat} {kn t : Int} {R : Nat → RD} (h : MW w y wh kn t R) (hi : i < 6) {g : Int} (hg : hs (st7 (R i).A) g) : ¬ (R i).dg = -1 := by
  intro q
  rw [st7_emp ((h.2.2.2.2 i hi).2.2 q)] at hg
  exact hs_zero g hg
set_option maxHeartbeats 4000000 in
set_option maxRecDepth 100000 in
theorem c_X5_emptyW {K : e_K} {l : Launch} {w : e_W} {n : Nat} {y wh : Nat} {t kn : Int} (hY : w y = some (MO y t wh kn)) {G : Int → Int} {SS PP : Int → Option Nat} (hG : w (y + 1) = some (e_ia 6 G)) (hS : w (y + 2) = some (e_ra 6 SS)) (hP : w (y + 3) = some (e_ra 6 PP)) {i : Nat} (hi : i < 6) : e_Met K l yX5_empty (Cond.code yX5_empty cX5_empty 2 none :: e_TB) (0) (0) [.ref y, .int (eI (i : Int))] w n (fun r w' n' => r = none ∧ n' = n ∧ w' = W3 w y G SS PP i (-1) none none) (e_px0) := by
  refine e_ofV rfl (Nat.le_of_ble_eq_true rfl) ?_
  intro P9 E9 S9 M9 A9 B9 T9 C9 F hnm
  refine e_aload_n F dX5_empty_0 rfl ?_
  refine e_get (ci := 5) (fi := 3) (q := (RX5, TX5, 6)) F hY rfl (by decide) w_fl_RX5_13 (by rfl) dX5_empty_1 ?_
  refine e_iload_n F dX5_empty_4 rfl ?_
  refine e_iconst F dX5_empty_5 ?_
  refine e_iast F hG (by omega) (by omega) (by first | decide | omega) dX5_empty_6 ?_
  refine e_aload_n F dX5_empty_7 rfl ?_
  refine e_get (ci := 5) (fi := 4) (q := (RX5, TX5, 6)) F (show e_up w (y + 1) _ y = _ by rw [e_up_n (by omega)]; exact hY) rfl (by decide) w_fl_RX5_18 (by rfl) dX5_empty_8 ?_
  refine e_iload_n F dX5_empty_11 rfl ?_
  refine e_null F dX5_empty_12 ?_
  refine e_aastRN F (f := SS) (show e_up w (y + 1) _ (y + 2) = _ by rw [e_up_n (by omega)]; exact hS) (by omega) (by omega) (by decide) dX5_empty_13 ?_
  refine e_aload_n F dX5_empty_14 rfl ?_
  refine e_get (ci := 5) (fi := 5) (q := (RX5, TX5, 6)) F (show e_up (e_up w (y + 1) _) (y + 2) _ y = _ by rw [e_up_n (by omega), e_up_n (by omega)]; exact hY) rfl (by decide) w_fl_RX5_22 (by rfl) dX5_empty_15 ?_
  refine e_iload_n F dX5_empty_18 rfl ?_
  refine e_null F dX5_empty_19 ?_
  refine e_aastRN F (f := PP) (show e_up (e_up w (y + 1) _) (y + 2) _ (y + 3) = _ by rw [e_up_n (by omega), e_up_n (by omega)]; exact hP) (by omega) (by omega) (by decide) dX5_empty_20 ?_
  refine e_vret F rfl (by omega) ?_ dX5_empty_21
  exact ⟨rfl, rfl, rfl⟩
set_option maxHeartbeats 4000000 in
set_option maxRecDepth 100000 in
theorem c_X5_prime {K : e_K} {l : Launch} {w : e_W} {n : Nat} {y wh : Nat} {t kn : Int} {R : Nat → RD} (hM : MW w y wh kn t R) {v9 : Int} (hv9 : e_r v9) : e_Met K l yX5_prime (Cond.code yX5_prime cX5_prime 4 (Option.some .int) :: e_TB) (2) (0) [.ref y, .int (eI v9)] w n (fun r w' n' => FM w w' y n ∧ ((¬ (0 ≤ v9 ∧ v9 ≤ 6) ∧ r = some (.int (eI 0)) ∧ MW w' y wh kn 1 R) ∨ ((0 ≤ v9 ∧ v9 ≤ 6) ∧ r = some (.int (eI (pr wh))) ∧ MW w' y v9.toNat (kn) 0 (fun j => emR (R j))))) (e_px0) := by
  refine e_ofV rfl (Nat.le_of_ble_eq_true rfl) ?_
  intro P9 E9 S9 M9 A9 B9 T9 C9 F hnm
  have hwh := hM.2.1
  have hY := hM.1
  have hp := pr_rg wh hwh
  have hho := ho_rg wh hwh
  have hf9 := fl_rg wh hwh
  refine e_aload_n F dX5_prime_0 rfl ?_
  refine e_iload_n F dX5_prime_1 rfl ?_
  refine e_iconst F dX5_prime_2 ?_
  refine e_bipush F dX5_prime_3 (by decide) ?_
  refine e_callSS F u_X5_isIn (by rfl) (c_X5_isIn (v := v9) (a := 0) (b := 6) hv9 (by decide) (by decide)) w_ml_RX5_48 dX5_prime_5 (by rfl) (Nat.le_of_ble_eq_true rfl) (by decide) (by omega) (fun _ _ _ h _ => False.elim h) (fun r_5 w_5 n_5 h_5 hn_5 => ?_)
  obtain ⟨rfl, ew_5, en_5⟩ := h_5
  rw [ew_5, en_5]
  refine e_if_ne F 15 dX5_prime_8 (by decide) (b01_r _) (fun c_8 => ?_) (fun c_8 => ?_)
  ·
    rw [ne_eq, b01_0, Classical.not_not] at c_8
    refine e_iconst F dX5_prime_15 ?_
    refine e_iconst F dX5_prime_16 ?_
    refine e_callVV F u_X5_start (by rfl) (c_X5_start hY (by first | exact Or.inl rfl | exact Or.inr rfl) (by decide) (by decide)) hY rfl rfl w_ml_RX5_69 dX5_prime_17 (by rfl) (Nat.le_of_ble_eq_true rfl) (by decide) (by omega) (fun _ _ _ h _ => False.elim h) (fun r_17 w_17 n_17 h_17 hn_17 => ?_)
    obtain ⟨rfl, en_17, ew_17⟩ := h_17
    rw [en_17, ew_17]
    first | rw [if_pos (show (1 : Int) = 1 from rfl)] | rw [if_neg (show ¬ ((0 : Int) = 1) by decide)]
    have gM := hM.th (t2 := 0) (kn2 := kn)
    refine e_if_eq F 25 dX5_prime_20 (by decide) (by decide) (fun c_20 => ?_) (fun c_20 => ?_)
    · have h_v : (0 ≤ v9 ∧ v9 ≤ 6) := c_8
      obtain ⟨kv, rfl⟩ : ∃ k : Nat, v9 = (k : Int) := ⟨v9.toNat, by omega⟩
      rw [show ((kv : Nat) : Int).toNat = kv from rfl]
      obtain ⟨gY, _, ⟨G, gG, gGe⟩, ⟨SS, PP, gS, gP, gMD⟩, gRV⟩ := id gM
      have lp : ∀ (N k : Nat) (wl : e_W) (G : Int → Int) (SS PP : Int → Option Nat), 8 - k < N → (k ≤ 6 ∧ wl y = some (MO y 0 kv kn) ∧ wl (y + 1) = some (e_ia 6 G) ∧ wl (y + 2) = some (e_ra 6 SS) ∧ wl (y + 3) = some (e_ra 6 PP) ∧ (∀ j : Nat, j < k → G (j : Int) = -1 ∧ SS (j : Int) = none ∧ PP (j : Int) = none) ∧ FM w wl y n) → e_V K P9 l E9 (2) (0) S9 M9 A9 B9 T9 C9 4 (fun r w' n' => FM w w' y n ∧ ((¬ (0 ≤ ((kv : Nat) : Int) ∧ ((kv : Nat) : Int) ≤ 6) ∧ r = some (.int (eI 0)) ∧ MW w' y wh kn 1 R) ∨ ((0 ≤ ((kv : Nat) : Int) ∧ ((kv : Nat) : Int) ≤ 6) ∧ r = some (.int (eI (pr wh))) ∧ MW w' y kv (kn) 0 (fun j => emR (R j))))) (e_px0) 37 [(0, .ref y), (2, .int (eI (pr wh))), (3, .int (eI (k : Int)))] [] wl n (0) := by
        intro N
        induction N with
        | zero => intro k wl G SS PP hN; exact absurd hN (Nat.not_lt_zero _)
        | succ N ih =>
          intro k wl G SS PP hN ⟨hk, gY, gG, gS, gP, gj, gF⟩
          refine e_iload_n F dX5_prime_37 rfl ?_
          refine e_bipush F dX5_prime_38 (by decide) ?_
          refine e_icmp_ge F 54 dX5_prime_40 (by decide) (⟨by omega, by omega⟩) (⟨by omega, by omega⟩) (fun c_40 => ?_) (fun c_40 => ?_)
          ·
            obtain rfl : k = 6 := by omega
            refine e_iload_n F dX5_prime_54 rfl ?_
            refine e_iret F rfl (by omega) ?_ dX5_prime_55
            exact ⟨gF, Or.inr ⟨h_v, rfl, ⟨gY, by omega, ⟨G, gG, fun j hj => (gj j hj).1⟩, ⟨SS, PP, gS, gP, fun j hj => by rw [(gj j hj).2.1, (gj j hj).2.2]; exact emR_MD (R j)⟩, fun j hj => emR_RV (R j)⟩⟩⟩
          · refine e_aload_n F dX5_prime_43 rfl ?_
            refine e_iload_n F dX5_prime_44 rfl ?_
            refine e_callVV F u_X5_empty (by rfl) (c_X5_emptyW gY gG gS gP (i := k) (by omega)) gY rfl rfl w_ml_RX5_72 dX5_prime_45 (by rfl) (Nat.le_of_ble_eq_true rfl) (by decide) (by omega) (fun _ _ _ h _ => False.elim h) (fun r_45 w_45 n_45 h_45 hn_45 => ?_)
            obtain ⟨rfl, en_45, ew_45⟩ := h_45
            rw [en_45, ew_45]
            refine e_iinc F dX5_prime_48 rfl (by decide) ?_
            refine e_goto F 37 dX5_prime_51 (by decide) ?_
            refine e_go (ih (k + 1) _ _ _ _ (by omega) ⟨by omega, by rw [W3.n (by omega) (by omega) (by omega)]; exact gY, by unfold W3; rw [e_up_n (by omega), e_up_n (by omega)]; exact e_up_s, by unfold W3; rw [e_up_n (by omega)]; exact e_up_s, by unfold W3; exact e_up_s, fun j hj => ?_, fun q q1 q2 => by rw [W3.n (by omega) (by omega) (by omega)]; exact gF q q1 q2⟩) ?_
            · unfold e_fu
              by_cases e : j = k
              · rw [if_pos (by omega), if_pos (by omega), if_pos (by omega)]; exact ⟨rfl, rfl, rfl⟩
              · rw [if_neg (by omega), if_neg (by omega), if_neg (by omega)]; exact gj j (by omega)
            · exact (And.intro rfl (And.intro rfl (And.intro rfl (trivial))))
      refine e_aload_n F dX5_prime_25 rfl ?_
      refine e_callVV F u_X5_p (by rfl) (c_X5_p gY hwh) gY rfl rfl w_ml_RX5_38 dX5_prime_26 (by rfl) (Nat.le_of_ble_eq_true rfl) (by decide) (by omega) (fun _ _ _ h _ => False.elim h) (fun r_26 w_26 n_26 h_26 hn_26 => ?_)
      obtain ⟨rfl, ew_26, en_26⟩ := h_26
      rw [ew_26, en_26]
      refine e_istore_n F dX5_prime_29 (by decide) ?_
      refine e_aload_n F dX5_prime_30 rfl ?_
      refine e_iload_n F dX5_prime_31 rfl ?_
      refine e_set (host := "") (ci := 5) (fi := 1) (q := (RX5, TX5, 6)) F gY rfl (by decide) w_fl_RX5_7 rfl (by rfl) (by rfl) (Nat.le_of_ble_eq_true rfl) dX5_prime_32 ?_
      refine e_iconst F dX5_prime_35 ?_
      refine e_istore_n F dX5_prime_36 (by decide) ?_
      refine e_go (lp 9 0 _ G SS PP (by omega) ⟨by omega, e_up_s, by rw [e_up_n (by omega)]; exact gG, by rw [e_up_n (by omega)]; exact gS, by rw [e_up_n (by omega)]; exact gP, fun j hj => absurd hj (Nat.not_lt_zero _), fun q q1 q2 => by rw [e_up_n (by omega), e_up_n (by omega)]⟩) (And.intro rfl (And.intro rfl (And.intro rfl (trivial))))
    · exact absurd c_20 (by decide)
  ·
    rw [b01_0] at c_8
    refine e_iconst F dX5_prime_11 ?_
    refine e_goto F 16 dX5_prime_12 (by decide) ?_
    refine e_iconst F dX5_prime_16 ?_
    refine e_callVV F u_X5_start (by rfl) (c_X5_start hY (by first | exact Or.inl rfl | exact Or.inr rfl) (by decide) (by decide)) hY rfl rfl w_ml_RX5_69 dX5_prime_17 (by rfl) (Nat.le_of_ble_eq_true rfl) (by decide) (by omega) (fun _ _ _ h _ => False.elim h) (fun r_17 w_17 n_17 h_17 hn_17 => ?_)
    obtain ⟨rfl, en_17, ew_17⟩ := h_17
    rw [en_17, ew_17]
    first | rw [if_pos (show (1 : Int) = 1 from rfl)] | rw [if_neg (show ¬ ((0 : Int) = 1) by decide)]
    have gM := hM.th (t2 := 0) (kn2 := kn)
    refine e_if_eq F 25 dX5_prime_20 (by decide) (by decide) (fun c_20 => ?_) (fun c_20 => ?_)
    · exact absurd c_20 (by decide)
    · refine e_iconst F dX5_prime_23 ?_
      refine e_iret F rfl (by omega) ?_ dX5_prime_24
      exact ⟨FM.th, Or.inl ⟨c_8, rfl, hM.th⟩⟩
set_option maxHeartbeats 4000000 in
set_option maxRecDepth 100000 in
theorem c_X5_hide {K : e_K} {l : Launch} {w : e_W} {n : Nat} {y wh : Nat} {t kn : Int} {R : Nat → RD} (hM : MW w y wh kn t R) {i9 : Int} (hi9 : e_r i9) {g9 : Int} (hg9 : e_r g9) {a9 : Int} (ha9 : e_r a9) {b9 : Int} (hb9 : e_r b9) {c9 : Int} (hc9 : e_r c9) {d9 : Int} (hd9 : e_r d9) : e_Met K l yX5_hide (Cond.code yX5_hide cX5_hide 8 (Option.some .int) :: e_TB) (4) (3) [.ref y, .int (eI i9), .int (eI g9), .int (eI a9), .int (eI b9), .int (eI c9), .int (eI d9)] w n (fun r w' n' => FM w w' y n ∧ ((¬ (0 ≤ i9 ∧ i9 < 6) ∧ r = some (.int (eI 0)) ∧ MW w' y wh kn 1 R) ∨ ((0 ≤ i9 ∧ i9 < 6) ∧ ¬ (0 ≤ g9 ∧ g9 ≤ 3) ∧ r = some (.int (eI 0)) ∧ MW w' y wh kn 2 R) ∨ ((0 ≤ i9 ∧ i9 < 6) ∧ (0 ≤ g9 ∧ g9 ≤ 3) ∧ r = some (.int (eI ((bc (st7 (lpR wh g9 (bcm (pr wh) g9 a9 b9 c9 d9)).A), updR R i9.toNat (lpR wh g9 (bcm (pr wh) g9 a9 b9 c9 d9))).1))) ∧ MW w' y wh (kn) 0 ((bc (st7 (lpR wh g9 (bcm (pr wh) g9 a9 b9 c9 d9)).A), updR R i9.toNat (lpR wh g9 (bcm (pr wh) g9 a9 b9 c9 d9))).2)))) (e_px0) := by
  refine e_ofV rfl (Nat.le_of_ble_eq_true rfl) ?_
  intro P9 E9 S9 M9 A9 B9 T9 C9 F hnm
  have hwh := hM.2.1
  have hY := hM.1
  have hp := pr_rg wh hwh
  have hho := ho_rg wh hwh
  have hf9 := fl_rg wh hwh
  refine e_aload_n F dX5_hide_0 rfl ?_
  refine e_iload_n F dX5_hide_1 rfl ?_
  refine e_callSS F u_X5_isNoDeal (by rfl) (c_X5_isNoDeal hi9) w_ml_RX5_129 dX5_hide_2 (by rfl) (Nat.le_of_ble_eq_true rfl) (by decide) (by omega) (fun _ _ _ h _ => False.elim h) (fun r_2 w_2 n_2 h_2 hn_2 => ?_)
  obtain ⟨rfl, ew_2, en_2⟩ := h_2
  rw [ew_2, en_2]
  refine e_iconst F dX5_hide_5 ?_
  refine e_callVV F u_X5_start (by rfl) (c_X5_start hY (b01_or _) (by decide) (by decide)) hY rfl rfl w_ml_RX5_69 dX5_hide_6 (by rfl) (Nat.le_of_ble_eq_true rfl) (by decide) (by omega) (fun _ _ _ h _ => False.elim h) (fun r_6 w_6 n_6 h_6 hn_6 => ?_)
  obtain ⟨rfl, en_6, ew_6⟩ := h_6
  rw [en_6, ew_6, st1]
  refine e_if_ne F 34 dX5_hide_9 (by decide) (b01_r _) (fun c_9 => ?_) (fun c_9 => ?_)
  ·
    rw [ne_eq, b01_0, Classical.not_not] at c_9
    rw [if_neg c_9]
    refine e_iconst F dX5_hide_34 ?_
    refine e_iret F rfl (by omega) ?_ dX5_hide_35
    first
    | exact ⟨FM.th, Or.inr (Or.inl ⟨h_i, c_19, rfl, hM.th⟩)⟩
    | exact ⟨FM.th, Or.inl ⟨c_9, rfl, hM.th⟩⟩
  ·
    rw [b01_0, Classical.not_not] at c_9
    rw [if_pos c_9]
    have gM := hM.th (t2 := 0) (kn2 := kn)
    have h_i := c_9
    obtain ⟨ki9, rfl⟩ : ∃ k : Nat, i9 = (k : Int) := ⟨i9.toNat, by omega⟩
    have hki9 : ki9 < 6 := by omega
    rw [show ((ki9 : Nat) : Int).toNat = ki9 from rfl]
    refine e_dom ?_
    intro hdm
    obtain ⟨gY, _, ⟨G, gG, gGe⟩, ⟨SS, PP, gS, gP, gMD⟩, gRV⟩ := id gM
    refine e_aload_n F dX5_hide_12 rfl ?_
    refine e_iload_n F dX5_hide_13 rfl ?_
    refine e_iconst F dX5_hide_14 ?_
    refine e_iconst F dX5_hide_15 ?_
    refine e_callSS F u_X5_isIn (by rfl) (c_X5_isIn (v := g9) (a := 0) (b := 3) hg9 (by decide) (by decide)) w_ml_RX5_48 dX5_hide_16 (by rfl) (Nat.le_of_ble_eq_true rfl) (by decide) (by omega) (fun _ _ _ h _ => False.elim h) (fun r_16 w_16 n_16 h_16 hn_16 => ?_)
    obtain ⟨rfl, ew_16, en_16⟩ := h_16
    rw [ew_16, en_16]
    refine e_if_ne F 26 dX5_hide_19 (by decide) (b01_r _) (fun c_19 => ?_) (fun c_19 => ?_)
    ·
      rw [ne_eq, b01_0, Classical.not_not] at c_19
      refine e_iconst F dX5_hide_26 ?_
      refine e_iconst F dX5_hide_27 ?_
      refine e_callVV F u_X5_refuse (by rfl) (c_X5_refuse gY (by decide) (by decide) (by first | exact Or.inl rfl | exact Or.inr rfl) (by decide) (by decide)) gY rfl rfl w_ml_RX5_28 dX5_hide_28 (by rfl) (Nat.le_of_ble_eq_true rfl) (by decide) (by omega) (fun _ _ _ h _ => False.elim h) (fun r_28 w_28 n_28 h_28 hn_28 => ?_)
      obtain ⟨rfl, en_28, ew_28⟩ := h_28
      rw [en_28, ew_28, e_up_up]
      first | (rw [if_pos (show (1 : Int) = 1 ∧ (0 : Int) = 0 by decide), b01_t (by decide)]) | (rw [if_neg (show ¬ ((0 : Int) = 1 ∧ (0 : Int) = 0) by decide), b01_f (by decide)])
      refine e_if_eq F 36 dX5_hide_31 (by decide) (by decide) (fun c_31 => ?_) (fun c_31 => ?_)
      · refine e_aload_n F dX5_hide_36 rfl ?_
        refine e_iload_n F dX5_hide_37 rfl ?_
        refine e_iload_n F dX5_hide_38 rfl ?_
        refine e_iload F dX5_hide_39 rfl ?_
        refine e_iload F dX5_hide_41 rfl ?_
        refine e_iload F dX5_hide_43 rfl ?_
        refine e_callVV F u_X5_poly (by rfl) (c_X5_poly gY hwh (g9 := g9) (a9 := a9) (b9 := b9) (c9 := c9) (d9 := d9) (by omega) (by omega) ha9 hb9 hc9 hd9) gY rfl rfl w_ml_RX5_132 dX5_hide_45 (by rfl) (Nat.le_of_ble_eq_true rfl) (by decide) (by omega) (fun _ _ _ h _ => False.elim h) (fun r_45 w_45 n_45 h_45 hn_45 => ?_)
        obtain ⟨rfl, ⟨q, hq, hqe⟩, gK, en_45⟩ := h_45
        rw [en_45]
        have gM2 := gM.kb hdm gK
        have hyn := hdm _ _ gY
        have hpn := hdm _ _ gP
        have hbr := fun j => bcm_rg hwh g9 a9 b9 c9 d9 j
        refine e_astore F dX5_hide_48 (by decide) ?_
        refine e_aload_n F dX5_hide_50 rfl ?_
        refine e_iload_n F dX5_hide_51 rfl ?_
        refine e_iload_n F dX5_hide_52 rfl ?_
        refine e_aload_n F dX5_hide_53 rfl ?_
        refine e_aload F dX5_hide_54 rfl ?_
        refine e_dom ?_
        intro hdm2
        refine e_callVV F u_X5_values (by rfl) (c_X5_values gM2.1 hwh hq (by omega) (fun j j0 j1 => by rw [hqe j j0 (by omega)]; exact hbr j)) gM2.1 rfl rfl w_ml_RX5_136 dX5_hide_56 (by rfl) (Nat.le_of_ble_eq_true rfl) (by decide) (by omega) (fun _ _ _ h _ => False.elim h) (fun r_56 w_56 n_56 h_56 hn_56 => ?_)
        obtain ⟨rfl, ⟨f, hf, hf0, hfe⟩, gK2, en_56⟩ := h_56
        rw [en_56]
        have gM3 := gM2.kb hdm2 gK2
        have hq3 : w_56 (n + 1) = _ := (gK2 _ (by omega)).trans hq
        refine e_aload F dX5_hide_59 rfl ?_
        refine e_callVV F u_X5_lay (by rfl) (c_X5_layRR gM3 hki9 (a := n + 2) (b := n + 1) (r := lpR wh g9 (bcm (pr wh) g9 a9 b9 c9 d9)) (lpR_MD hwh (by omega) (by omega) (by omega) hf hf0 (fun j j0 j1 => by rw [hfe j j0 j1]; exact hv_congr _ (by omega) (fun k k0 k1 => hqe k k0 (by omega))) hq3 hqe (fun j _ _ => hbr j)) (lpR_RV hwh (by omega) (fun j _ _ => hbr j))) gM3.1 rfl rfl w_ml_RX5_140 dX5_hide_61 (by rfl) (Nat.le_of_ble_eq_true rfl) (by decide) (by omega) (fun _ _ _ h _ => False.elim h) (fun r_61 w_61 n_61 h_61 hn_61 => ?_)
        obtain ⟨rfl, en_61, gM4, gF4⟩ := h_61
        refine e_iret F rfl (by omega) ?_ dX5_hide_64
        exact ⟨((FM.th.kb (Nat.le_refl _) gK).kb (by omega) gK2).tr (by omega) gF4, Or.inr (Or.inr ⟨h_i, c_19, rfl, gM4⟩)⟩
      · exact absurd c_31 (by decide)
    ·
      rw [b01_0] at c_19
      refine e_iconst F dX5_hide_22 ?_
      refine e_goto F 27 dX5_hide_23 (by decide) ?_
      refine e_iconst F dX5_hide_27 ?_
      refine e_callVV F u_X5_refuse (by rfl) (c_X5_refuse gY (by decide) (by decide) (by first | exact Or.inl rfl | exact Or.inr rfl) (by decide) (by decide)) gY rfl rfl w_ml_RX5_28 dX5_hide_28 (by rfl) (Nat.le_of_ble_eq_true rfl) (by decide) (by omega) (fun _ _ _ h _ => False.elim h) (fun r_28 w_28 n_28 h_28 hn_28 => ?_)
      obtain ⟨rfl, en_28, ew_28⟩ := h_28
      rw [en_28, ew_28, e_up_up]
      first | (rw [if_pos (show (1 : Int) = 1 ∧ (0 : Int) = 0 by decide), b01_t (by decide)]) | (rw [if_neg (show ¬ ((0 : Int) = 1 ∧ (0 : Int) = 0) by decide), b01_f (by decide)])
      refine e_if_eq F 36 dX5_hide_31 (by decide) (by decide) (fun c_31 => ?_) (fun c_31 => ?_)
      · exact absurd c_31 (by decide)
      · refine e_iconst F dX5_hide_34 ?_
        refine e_iret F rfl (by omega) ?_ dX5_hide_35
        first
        | exact ⟨FM.th, Or.inr (Or.inl ⟨h_i, c_19, rfl, hM.th⟩)⟩
        | exact ⟨FM.th, Or.inl ⟨c_9, rfl, hM.th⟩⟩
set_option maxHeartbeats 4000000 in
set_option maxRecDepth 100000 in
theorem c_X5_lose {K : e_K} {l : Launch} {w : e_W} {n : Nat} {y wh : Nat} {t kn : Int} {R : Nat → RD} (hM : MW w y wh kn t R) {i9 : Int} (hi9 : e_r i9) {h9 : Int} (hh9 : e_r h9) : e_Met K l yX5_lose (Cond.code yX5_lose cX5_lose 4 (Option.some .int) :: e_TB) (3) (1) [.ref y, .int (eI i9), .int (eI h9)] w n (fun r w' n' => FM w w' y n ∧ ((¬ ((0 ≤ i9 ∧ i9 < 6) ∧ (1 ≤ h9 ∧ h9 ≤ ho wh)) ∧ r = some (.int (eI 0)) ∧ MW w' y wh kn 1 R) ∨ (((0 ≤ i9 ∧ i9 < 6) ∧ (1 ≤ h9 ∧ h9 ≤ ho wh)) ∧ r = some (.int (eI ((if hs (st7 (R i9.toNat).A) h9 then ((R i9.toNat).A h9, updR R i9.toNat (puR (R i9.toNat) h9 (-1))) else (-9, R)).1))) ∧ MW w' y wh (kn) 0 ((if hs (st7 (R i9.toNat).A) h9 then ((R i9.toNat).A h9, updR R i9.toNat (puR (R i9.toNat) h9 (-1))) else (-9, R)).2)))) (e_px0) := by
  refine e_ofV rfl (Nat.le_of_ble_eq_true rfl) ?_
  intro P9 E9 S9 M9 A9 B9 T9 C9 F hnm
  have hwh := hM.2.1
  have hY := hM.1
  have hp := pr_rg wh hwh
  have hho := ho_rg wh hwh
  have hf9 := fl_rg wh hwh
  refine e_aload_n F dX5_lose_0 rfl ?_
  refine e_iload_n F dX5_lose_1 rfl ?_
  refine e_callSS F u_X5_isNoDeal (by rfl) (c_X5_isNoDeal hi9) w_ml_RX5_129 dX5_lose_2 (by rfl) (Nat.le_of_ble_eq_true rfl) (by decide) (by omega) (fun _ _ _ h _ => False.elim h) (fun r_2 w_2 n_2 h_2 hn_2 => ?_)
  obtain ⟨rfl, ew_2, en_2⟩ := h_2
  rw [ew_2, en_2]
  refine e_if_ne F 16 dX5_lose_5 (by decide) (b01_r _) (fun c_5 => ?_) (fun c_5 => ?_)
  ·
    rw [ne_eq, b01_0, Classical.not_not] at c_5
    refine e_iconst F dX5_lose_16 ?_
    refine e_goto F 21 dX5_lose_17 (by decide) ?_
    refine e_iconst F dX5_lose_21 ?_
    refine e_callVV F u_X5_start (by rfl) (c_X5_start hY (by first | exact Or.inl rfl | exact Or.inr rfl) (by decide) (by decide)) hY rfl rfl w_ml_RX5_69 dX5_lose_22 (by rfl) (Nat.le_of_ble_eq_true rfl) (by decide) (by omega) (fun _ _ _ h _ => False.elim h) (fun r_22 w_22 n_22 h_22 hn_22 => ?_)
    obtain ⟨rfl, en_22, ew_22⟩ := h_22
    rw [en_22, ew_22]
    first | rw [if_pos (show (1 : Int) = 1 from rfl)] | rw [if_neg (show ¬ ((0 : Int) = 1) by decide)]
    have gM := hM.th (t2 := 0) (kn2 := kn)
    refine e_if_eq F 30 dX5_lose_25 (by decide) (by decide) (fun c_25 => ?_) (fun c_25 => ?_)
    · exact absurd c_25 (by decide)
    · refine e_iconst F dX5_lose_28 ?_
      refine e_iret F rfl (by omega) ?_ dX5_lose_29
      exact ⟨FM.th, Or.inl ⟨(fun q => by omega), rfl, hM.th⟩⟩
  ·
    rw [b01_0, Classical.not_not] at c_5
    refine e_aload_n F dX5_lose_8 rfl ?_
    refine e_iload_n F dX5_lose_9 rfl ?_
    refine e_callVV F u_X5_isNoHolder (by rfl) (c_X5_isNoHolder hY hwh hh9) hY rfl rfl w_ml_RX5_99 dX5_lose_10 (by rfl) (Nat.le_of_ble_eq_true rfl) (by decide) (by omega) (fun _ _ _ h _ => False.elim h) (fun r_10 w_10 n_10 h_10 hn_10 => ?_)
    obtain ⟨rfl, ew_10, en_10⟩ := h_10
    rw [ew_10, en_10]
    refine e_if_eq F 20 dX5_lose_13 (by decide) (b01_r _) (fun c_13 => ?_) (fun c_13 => ?_)
    ·
      rw [b01_0, Classical.not_not] at c_13
      refine e_iconst F dX5_lose_20 ?_
      refine e_iconst F dX5_lose_21 ?_
      refine e_callVV F u_X5_start (by rfl) (c_X5_start hY (by first | exact Or.inl rfl | exact Or.inr rfl) (by decide) (by decide)) hY rfl rfl w_ml_RX5_69 dX5_lose_22 (by rfl) (Nat.le_of_ble_eq_true rfl) (by decide) (by omega) (fun _ _ _ h _ => False.elim h) (fun r_22 w_22 n_22 h_22 hn_22 => ?_)
      obtain ⟨rfl, en_22, ew_22⟩ := h_22
      rw [en_22, ew_22]
      first | rw [if_pos (show (1 : Int) = 1 from rfl)] | rw [if_neg (show ¬ ((0 : Int) = 1) by decide)]
      have gM := hM.th (t2 := 0) (kn2 := kn)
      refine e_if_eq F 30 dX5_lose_25 (by decide) (by decide) (fun c_25 => ?_) (fun c_25 => ?_)
      · have h_i : (0 ≤ i9 ∧ i9 < 6) ∧ (1 ≤ h9 ∧ h9 ≤ ho wh) := by omega
        obtain ⟨ki9, rfl⟩ : ∃ k : Nat, i9 = (k : Int) := ⟨i9.toNat, by omega⟩
        have hki9 : ki9 < 6 := by omega
        rw [show ((ki9 : Nat) : Int).toNat = ki9 from rfl]
        refine e_dom ?_
        intro hdm
        obtain ⟨gY, _, ⟨G, gG, gGe⟩, ⟨SS, PP, gS, gP, gMD⟩, gRV⟩ := id gM
        have hst := st7_rg (R ki9).A
        refine e_aload_n F dX5_lose_30 rfl ?_
        refine e_iload_n F dX5_lose_31 rfl ?_
        refine e_callVV F u_X5_setOf (by rfl) (c_X5_setOf gM (i := ki9) hki9) gY rfl rfl w_ml_RX5_116 dX5_lose_32 (by rfl) (Nat.le_of_ble_eq_true rfl) (by decide) (by omega) (fun _ _ _ h _ => False.elim h) (fun r_32 w_32 n_32 h_32 hn_32 => ?_)
        obtain ⟨rfl, ew_32, en_32⟩ := h_32
        rw [ew_32, en_32]
        refine e_iload_n F dX5_lose_35 rfl ?_
        refine e_callSS F u_X5_has (by rfl) (c_X5_has (s9 := st7 (R ki9).A) hst.1 (by omega) (h := h9) (by omega) (by omega)) w_ml_RX5_87 dX5_lose_36 (by rfl) (Nat.le_of_ble_eq_true rfl) (by decide) (by omega) (fun _ _ _ h _ => False.elim h) (fun r_36 w_36 n_36 h_36 hn_36 => ?_)
        obtain ⟨rfl, ew_36, en_36⟩ := h_36
        rw [ew_36, en_36]
        refine e_if_ne F 45 dX5_lose_39 (by decide) (b01_r _) (fun c_39 => ?_) (fun c_39 => ?_)
        ·
          rw [ne_eq, b01_0, Classical.not_not] at c_39
          have hne := hs_ne gM hki9 c_39
          obtain ⟨a, f, hSa, hya, hwa, hfr, hfA⟩ := MD.row (gMD ki9 hki9) hne
          have hA9 := gM.rgA hki9 (j := h9) (by omega) (by omega)
          refine e_aload_n F dX5_lose_45 rfl ?_
          refine e_get (ci := 5) (fi := 4) (q := (RX5, TX5, 6)) F gY rfl (by decide) w_fl_RX5_18 (by rfl) dX5_lose_46 ?_
          refine e_iload_n F dX5_lose_49 rfl ?_
          refine e_aaldr F gS (by omega) (by omega) (by decide) (hSa) dX5_lose_50 ?_
          refine e_iload_n F dX5_lose_51 rfl ?_
          refine e_iald F hwa (by omega) (by omega) (by first | decide | omega) dX5_lose_52 ?_
          rw [hfA _ (by omega) (by omega)]
          refine e_istore_n F dX5_lose_53 (by decide) ?_
          refine e_aload_n F dX5_lose_54 rfl ?_
          refine e_iload_n F dX5_lose_55 rfl ?_
          refine e_iload_n F dX5_lose_56 rfl ?_
          refine e_iconst F dX5_lose_57 ?_
          refine e_callVV F u_X5_put (by rfl) (c_X5_put gM hki9 (h := h9) (by omega) (by omega) (v := -1) (Or.inl rfl) hne) gY rfl rfl w_ml_RX5_164 dX5_lose_58 (by rfl) (Nat.le_of_ble_eq_true rfl) (by decide) (by omega) (fun _ _ _ h _ => False.elim h) (fun r_58 w_58 n_58 h_58 hn_58 => ?_)
          obtain ⟨rfl, gM2, gF2⟩ := h_58
          refine e_iload_n F dX5_lose_61 rfl ?_
          refine e_iret F rfl (by omega) ?_ dX5_lose_62
          have q9 := c_39
          rw [if_pos q9]
          exact ⟨FM.th.tr (Nat.le_refl _) gF2, Or.inr ⟨h_i, rfl, gM2⟩⟩
        ·
          rw [b01_0] at c_39
          refine e_bipush F dX5_lose_42 (by decide) ?_
          refine e_iret F rfl (by omega) ?_ dX5_lose_44
          have q9 := c_39
          rw [if_neg q9]
          exact ⟨FM.th, Or.inr ⟨h_i, rfl, gM⟩⟩
      · exact absurd c_25 (by decide)
    ·
      rw [b01_0, Classical.not_not] at c_13
      refine e_iconst F dX5_lose_16 ?_
      refine e_goto F 21 dX5_lose_17 (by decide) ?_
      refine e_iconst F dX5_lose_21 ?_
      refine e_callVV F u_X5_start (by rfl) (c_X5_start hY (by first | exact Or.inl rfl | exact Or.inr rfl) (by decide) (by decide)) hY rfl rfl w_ml_RX5_69 dX5_lose_22 (by rfl) (Nat.le_of_ble_eq_true rfl) (by decide) (by omega) (fun _ _ _ h _ => False.elim h) (fun r_22 w_22 n_22 h_22 hn_22 => ?_)
      obtain ⟨rfl, en_22, ew_22⟩ := h_22
      rw [en_22, ew_22]
      first | rw [if_pos (show (1 : Int) = 1 from rfl)] | rw [if_neg (show ¬ ((0 : Int) = 1) by decide)]
      have gM := hM.th (t2 := 0) (kn2 := kn)
      refine e_if_eq F 30 dX5_lose_25 (by decide) (by decide) (fun c_25 => ?_) (fun c_25 => ?_)
      · exact absurd c_25 (by decide)
      · refine e_iconst F dX5_lose_28 ?_
        refine e_iret F rfl (by omega) ?_ dX5_lose_29
        exact ⟨FM.th, Or.inl ⟨(fun q => by omega), rfl, hM.th⟩⟩
set_option maxHeartbeats 4000000 in
set_option maxRecDepth 100000 in
theorem c_X5_give {K : e_K} {l : Launch} {w : e_W} {n : Nat} {y wh : Nat} {t kn : Int} {R : Nat → RD} (hM : MW w y wh kn t R) {i9 : Int} (hi9 : e_r i9) {h9 : Int} (hh9 : e_r h9) {v9 : Int} (hv9 : e_r v9) : e_Met K l yX5_give (Cond.code yX5_give cX5_give 5 (Option.some .int) :: e_TB) (3) (1) [.ref y, .int (eI i9), .int (eI h9), .int (eI v9)] w n (fun r w' n' => FM w w' y n ∧ ((¬ ((0 ≤ i9 ∧ i9 < 6) ∧ (1 ≤ h9 ∧ h9 ≤ ho wh)) ∧ r = some (.int (eI 0)) ∧ MW w' y wh kn 1 R) ∨ (((0 ≤ i9 ∧ i9 < 6) ∧ (1 ≤ h9 ∧ h9 ≤ ho wh)) ∧ r = some (.int (eI ((if (R i9.toNat).dg = -1 then (-9, R) else ((R i9.toNat).A h9, updR R i9.toNat (puR (R i9.toNat) h9 (v9 % pr wh)))).1))) ∧ MW w' y wh (kn) 0 ((if (R i9.toNat).dg = -1 then (-9, R) else ((R i9.toNat).A h9, updR R i9.toNat (puR (R i9.toNat) h9 (v9 % pr wh)))).2)))) (e_px0) := by
  refine e_ofV rfl (Nat.le_of_ble_eq_true rfl) ?_
  intro P9 E9 S9 M9 A9 B9 T9 C9 F hnm
  have hwh := hM.2.1
  have hY := hM.1
  have hp := pr_rg wh hwh
  have hho := ho_rg wh hwh
  have hf9 := fl_rg wh hwh
  have hvm := emod_rg v9 hwh
  refine e_aload_n F dX5_give_0 rfl ?_
  refine e_iload_n F dX5_give_1 rfl ?_
  refine e_callSS F u_X5_isNoDeal (by rfl) (c_X5_isNoDeal hi9) w_ml_RX5_129 dX5_give_2 (by rfl) (Nat.le_of_ble_eq_true rfl) (by decide) (by omega) (fun _ _ _ h _ => False.elim h) (fun r_2 w_2 n_2 h_2 hn_2 => ?_)
  obtain ⟨rfl, ew_2, en_2⟩ := h_2
  rw [ew_2, en_2]
  refine e_if_ne F 16 dX5_give_5 (by decide) (b01_r _) (fun c_5 => ?_) (fun c_5 => ?_)
  ·
    rw [ne_eq, b01_0, Classical.not_not] at c_5
    refine e_iconst F dX5_give_16 ?_
    refine e_goto F 21 dX5_give_17 (by decide) ?_
    refine e_iconst F dX5_give_21 ?_
    refine e_callVV F u_X5_start (by rfl) (c_X5_start hY (by first | exact Or.inl rfl | exact Or.inr rfl) (by decide) (by decide)) hY rfl rfl w_ml_RX5_69 dX5_give_22 (by rfl) (Nat.le_of_ble_eq_true rfl) (by decide) (by omega) (fun _ _ _ h _ => False.elim h) (fun r_22 w_22 n_22 h_22 hn_22 => ?_)
    obtain ⟨rfl, en_22, ew_22⟩ := h_22
    rw [en_22, ew_22]
    first | rw [if_pos (show (1 : Int) = 1 from rfl)] | rw [if_neg (show ¬ ((0 : Int) = 1) by decide)]
    have gM := hM.th (t2 := 0) (kn2 := kn)
    refine e_if_eq F 30 dX5_give_25 (by decide) (by decide) (fun c_25 => ?_) (fun c_25 => ?_)
    · exact absurd c_25 (by decide)
    · refine e_iconst F dX5_give_28 ?_
      refine e_iret F rfl (by omega) ?_ dX5_give_29
      exact ⟨FM.th, Or.inl ⟨(fun q => by omega), rfl, hM.th⟩⟩
  ·
    rw [b01_0, Classical.not_not] at c_5
    refine e_aload_n F dX5_give_8 rfl ?_
    refine e_iload_n F dX5_give_9 rfl ?_
    refine e_callVV F u_X5_isNoHolder (by rfl) (c_X5_isNoHolder hY hwh hh9) hY rfl rfl w_ml_RX5_99 dX5_give_10 (by rfl) (Nat.le_of_ble_eq_true rfl) (by decide) (by omega) (fun _ _ _ h _ => False.elim h) (fun r_10 w_10 n_10 h_10 hn_10 => ?_)
    obtain ⟨rfl, ew_10, en_10⟩ := h_10
    rw [ew_10, en_10]
    refine e_if_eq F 20 dX5_give_13 (by decide) (b01_r _) (fun c_13 => ?_) (fun c_13 => ?_)
    ·
      rw [b01_0, Classical.not_not] at c_13
      refine e_iconst F dX5_give_20 ?_
      refine e_iconst F dX5_give_21 ?_
      refine e_callVV F u_X5_start (by rfl) (c_X5_start hY (by first | exact Or.inl rfl | exact Or.inr rfl) (by decide) (by decide)) hY rfl rfl w_ml_RX5_69 dX5_give_22 (by rfl) (Nat.le_of_ble_eq_true rfl) (by decide) (by omega) (fun _ _ _ h _ => False.elim h) (fun r_22 w_22 n_22 h_22 hn_22 => ?_)
      obtain ⟨rfl, en_22, ew_22⟩ := h_22
      rw [en_22, ew_22]
      first | rw [if_pos (show (1 : Int) = 1 from rfl)] | rw [if_neg (show ¬ ((0 : Int) = 1) by decide)]
      have gM := hM.th (t2 := 0) (kn2 := kn)
      refine e_if_eq F 30 dX5_give_25 (by decide) (by decide) (fun c_25 => ?_) (fun c_25 => ?_)
      · have h_i : (0 ≤ i9 ∧ i9 < 6) ∧ (1 ≤ h9 ∧ h9 ≤ ho wh) := by omega
        obtain ⟨ki9, rfl⟩ : ∃ k : Nat, i9 = (k : Int) := ⟨i9.toNat, by omega⟩
        have hki9 : ki9 < 6 := by omega
        rw [show ((ki9 : Nat) : Int).toNat = ki9 from rfl]
        refine e_dom ?_
        intro hdm
        obtain ⟨gY, _, ⟨G, gG, gGe⟩, ⟨SS, PP, gS, gP, gMD⟩, gRV⟩ := id gM
        refine e_aload_n F dX5_give_30 rfl ?_
        refine e_iload_n F dX5_give_31 rfl ?_
        refine e_callVV F u_X5_isEmpty (by rfl) (c_X5_isEmpty gM (i := ki9) hki9) gY rfl rfl w_ml_RX5_113 dX5_give_32 (by rfl) (Nat.le_of_ble_eq_true rfl) (by decide) (by omega) (fun _ _ _ h _ => False.elim h) (fun r_32 w_32 n_32 h_32 hn_32 => ?_)
        obtain ⟨rfl, ew_32, en_32⟩ := h_32
        rw [ew_32, en_32]
        refine e_if_eq F 41 dX5_give_35 (by decide) (b01_r _) (fun c_35 => ?_) (fun c_35 => ?_)
        ·
          rw [b01_0] at c_35
          have hne := c_35
          obtain ⟨a, f, hSa, hya, hwa, hfr, hfA⟩ := MD.row (gMD ki9 hki9) hne
          have hA9 := gM.rgA hki9 (j := h9) (by omega) (by omega)
          refine e_aload_n F dX5_give_41 rfl ?_
          refine e_get (ci := 5) (fi := 4) (q := (RX5, TX5, 6)) F gY rfl (by decide) w_fl_RX5_18 (by rfl) dX5_give_42 ?_
          refine e_iload_n F dX5_give_45 rfl ?_
          refine e_aaldr F gS (by omega) (by omega) (by decide) (hSa) dX5_give_46 ?_
          refine e_iload_n F dX5_give_47 rfl ?_
          refine e_iald F hwa (by omega) (by omega) (by first | decide | omega) dX5_give_48 ?_
          rw [hfA _ (by omega) (by omega)]
          refine e_istore F dX5_give_49 (by decide) ?_
          refine e_aload_n F dX5_give_51 rfl ?_
          refine e_iload_n F dX5_give_52 rfl ?_
          refine e_iload_n F dX5_give_53 rfl ?_
          refine e_aload_n F dX5_give_54 rfl ?_
          refine e_iload_n F dX5_give_55 rfl ?_
          refine e_i2l F dX5_give_56 (hv9) ?_
          refine e_callVV F u_X5_mod (by rfl) (c_X5_mod gY hwh (v := v9) (by constructor <;> omega)) gY rfl rfl w_ml_RX5_55 dX5_give_57 (by rfl) (Nat.le_of_ble_eq_true rfl) (by decide) (by omega) (fun _ _ _ h _ => False.elim h) (fun r_57 w_57 n_57 h_57 hn_57 => ?_)
          obtain ⟨rfl, ew_57, en_57⟩ := h_57
          rw [ew_57, en_57]
          refine e_callVV F u_X5_put (by rfl) (c_X5_put gM hki9 (h := h9) (by omega) (by omega) (v := v9 % pr wh) (Or.inr hvm) hne) gY rfl rfl w_ml_RX5_164 dX5_give_60 (by rfl) (Nat.le_of_ble_eq_true rfl) (by decide) (by omega) (fun _ _ _ h _ => False.elim h) (fun r_60 w_60 n_60 h_60 hn_60 => ?_)
          obtain ⟨rfl, gM2, gF2⟩ := h_60
          refine e_iload F dX5_give_63 rfl ?_
          refine e_iret F rfl (by omega) ?_ dX5_give_65
          have q9 := hne
          rw [if_neg q9]
          exact ⟨FM.th.tr (Nat.le_refl _) gF2, Or.inr ⟨h_i, rfl, gM2⟩⟩
        ·
          rw [b01_0, Classical.not_not] at c_35
          refine e_bipush F dX5_give_38 (by decide) ?_
          refine e_iret F rfl (by omega) ?_ dX5_give_40
          have q9 := c_35
          rw [if_pos q9]
          exact ⟨FM.th, Or.inr ⟨h_i, rfl, gM⟩⟩
      · exact absurd c_25 (by decide)
    ·
      rw [b01_0, Classical.not_not] at c_13
      refine e_iconst F dX5_give_16 ?_
      refine e_goto F 21 dX5_give_17 (by decide) ?_
      refine e_iconst F dX5_give_21 ?_
      refine e_callVV F u_X5_start (by rfl) (c_X5_start hY (by first | exact Or.inl rfl | exact Or.inr rfl) (by decide) (by decide)) hY rfl rfl w_ml_RX5_69 dX5_give_22 (by rfl) (Nat.le_of_ble_eq_true rfl) (by decide) (by omega) (fun _ _ _ h _ => False.elim h) (fun r_22 w_22 n_22 h_22 hn_22 => ?_)
      obtain ⟨rfl, en_22, ew_22⟩ := h_22
      rw [en_22, ew_22]
      first | rw [if_pos (show (1 : Int) = 1 from rfl)] | rw [if_neg (show ¬ ((0 : Int) = 1) by decide)]
      have gM := hM.th (t2 := 0) (kn2 := kn)
      refine e_if_eq F 30 dX5_give_25 (by decide) (by decide) (fun c_25 => ?_) (fun c_25 => ?_)
      · exact absurd c_25 (by decide)
      · refine e_iconst F dX5_give_28 ?_
        refine e_iret F rfl (by omega) ?_ dX5_give_29
        exact ⟨FM.th, Or.inl ⟨(fun q => by omega), rfl, hM.th⟩⟩
set_option maxHeartbeats 4000000 in
set_option maxRecDepth 100000 in
theorem c_X5_regain {K : e_K} {l : Launch} {w : e_W} {n : Nat} {y wh : Nat} {t kn : Int} {R : Nat → RD} (hM : MW w y wh kn t R) {i9 : Int} (hi9 : e_r i9) {h9 : Int} (hh9 : e_r h9) {a9 : Int} (ha9 : e_r a9) : e_Met K l yX5_regain (Cond.code yX5_regain cX5_regain 4 (Option.some .int) :: e_TB) (5) (3) [.ref y, .int (eI i9), .int (eI h9), .int (eI a9)] w n (fun r w' n' => FM w w' y n ∧ ((¬ ((0 ≤ i9 ∧ i9 < 6) ∧ (1 ≤ h9 ∧ h9 ≤ ho wh)) ∧ r = some (.int (eI 0)) ∧ MW w' y wh kn 1 R) ∨ (((0 ≤ i9 ∧ i9 < 6) ∧ (1 ≤ h9 ∧ h9 ≤ ho wh)) ∧ ¬ (1 ≤ a9 ∧ a9 ≤ fl wh) ∧ r = some (.int (eI 0)) ∧ MW w' y wh kn 2 R) ∨ (((0 ≤ i9 ∧ i9 < 6) ∧ (1 ≤ h9 ∧ h9 ≤ ho wh)) ∧ (1 ≤ a9 ∧ a9 ≤ fl wh) ∧ r = some (.int (eI ((if (thQ wh (R i9.toNat) a9 ∧ (R i9.toNat).dg < bc a9) then (atV wh a9 (R i9.toNat).A h9, updR R i9.toNat (puR (R i9.toNat) h9 (atV wh a9 (R i9.toNat).A h9))) else (-9, R)).1))) ∧ MW w' y wh (kn) 0 ((if (thQ wh (R i9.toNat) a9 ∧ (R i9.toNat).dg < bc a9) then (atV wh a9 (R i9.toNat).A h9, updR R i9.toNat (puR (R i9.toNat) h9 (atV wh a9 (R i9.toNat).A h9))) else (-9, R)).2)))) (e_px0) := by
  refine e_ofV rfl (Nat.le_of_ble_eq_true rfl) ?_
  intro P9 E9 S9 M9 A9 B9 T9 C9 F hnm
  have hwh := hM.2.1
  have hY := hM.1
  have hp := pr_rg wh hwh
  have hho := ho_rg wh hwh
  have hf9 := fl_rg wh hwh
  refine e_aload_n F dX5_regain_0 rfl ?_
  refine e_iload_n F dX5_regain_1 rfl ?_
  refine e_callSS F u_X5_isNoDeal (by rfl) (c_X5_isNoDeal hi9) w_ml_RX5_129 dX5_regain_2 (by rfl) (Nat.le_of_ble_eq_true rfl) (by decide) (by omega) (fun _ _ _ h _ => False.elim h) (fun r_2 w_2 n_2 h_2 hn_2 => ?_)
  obtain ⟨rfl, ew_2, en_2⟩ := h_2
  rw [ew_2, en_2]
  refine e_if_ne F 16 dX5_regain_5 (by decide) (b01_r _) (fun c_5 => ?_) (fun c_5 => ?_)
  ·
    rw [ne_eq, b01_0, Classical.not_not] at c_5
    refine e_iconst F dX5_regain_16 ?_
    refine e_goto F 21 dX5_regain_17 (by decide) ?_
    refine e_iconst F dX5_regain_21 ?_
    refine e_callVV F u_X5_start (by rfl) (c_X5_start hY (by first | exact Or.inl rfl | exact Or.inr rfl) (by decide) (by decide)) hY rfl rfl w_ml_RX5_69 dX5_regain_22 (by rfl) (Nat.le_of_ble_eq_true rfl) (by decide) (by omega) (fun _ _ _ h _ => False.elim h) (fun r_22 w_22 n_22 h_22 hn_22 => ?_)
    obtain ⟨rfl, en_22, ew_22⟩ := h_22
    rw [en_22, ew_22]
    first | rw [if_pos (show (1 : Int) = 1 from rfl)] | rw [if_neg (show ¬ ((0 : Int) = 1) by decide)]
    have gM := hM.th (t2 := 0) (kn2 := kn)
    refine e_if_ne F 41 dX5_regain_25 (by decide) (by decide) (fun c_25 => ?_) (fun c_25 => ?_)
    · refine e_iconst F dX5_regain_41 ?_
      refine e_iret F rfl (by omega) ?_ dX5_regain_42
      first
      | exact ⟨FM.th, Or.inr (Or.inl ⟨h_i, c_38, rfl, hM.th⟩)⟩
      | exact ⟨FM.th, Or.inl ⟨(fun q => by omega), rfl, hM.th⟩⟩
    · exact absurd c_25 (by decide)
  ·
    rw [b01_0, Classical.not_not] at c_5
    refine e_aload_n F dX5_regain_8 rfl ?_
    refine e_iload_n F dX5_regain_9 rfl ?_
    refine e_callVV F u_X5_isNoHolder (by rfl) (c_X5_isNoHolder hY hwh hh9) hY rfl rfl w_ml_RX5_99 dX5_regain_10 (by rfl) (Nat.le_of_ble_eq_true rfl) (by decide) (by omega) (fun _ _ _ h _ => False.elim h) (fun r_10 w_10 n_10 h_10 hn_10 => ?_)
    obtain ⟨rfl, ew_10, en_10⟩ := h_10
    rw [ew_10, en_10]
    refine e_if_eq F 20 dX5_regain_13 (by decide) (b01_r _) (fun c_13 => ?_) (fun c_13 => ?_)
    ·
      rw [b01_0, Classical.not_not] at c_13
      refine e_iconst F dX5_regain_20 ?_
      refine e_iconst F dX5_regain_21 ?_
      refine e_callVV F u_X5_start (by rfl) (c_X5_start hY (by first | exact Or.inl rfl | exact Or.inr rfl) (by decide) (by decide)) hY rfl rfl w_ml_RX5_69 dX5_regain_22 (by rfl) (Nat.le_of_ble_eq_true rfl) (by decide) (by omega) (fun _ _ _ h _ => False.elim h) (fun r_22 w_22 n_22 h_22 hn_22 => ?_)
      obtain ⟨rfl, en_22, ew_22⟩ := h_22
      rw [en_22, ew_22]
      first | rw [if_pos (show (1 : Int) = 1 from rfl)] | rw [if_neg (show ¬ ((0 : Int) = 1) by decide)]
      have gM := hM.th (t2 := 0) (kn2 := kn)
      refine e_if_ne F 41 dX5_regain_25 (by decide) (by decide) (fun c_25 => ?_) (fun c_25 => ?_)
      · exact absurd c_25 (by decide)
      · have h_i : (0 ≤ i9 ∧ i9 < 6) ∧ (1 ≤ h9 ∧ h9 ≤ ho wh) := by omega
        refine e_aload_n F dX5_regain_28 rfl ?_
        refine e_aload_n F dX5_regain_29 rfl ?_
        refine e_iload_n F dX5_regain_30 rfl ?_
        refine e_callVV F u_X5_isNoSet (by rfl) (c_X5_isNoSet gM.1 hwh ha9) gM.1 rfl rfl w_ml_RX5_103 dX5_regain_31 (by rfl) (Nat.le_of_ble_eq_true rfl) (by decide) (by omega) (fun _ _ _ h _ => False.elim h) (fun r_31 w_31 n_31 h_31 hn_31 => ?_)
        obtain ⟨rfl, ew_31, en_31⟩ := h_31
        rw [ew_31, en_31]
        refine e_iconst F dX5_regain_34 ?_
        refine e_callVV F u_X5_refuse (by rfl) (c_X5_refuse (t := 0) (kn := kn) (wh := wh) (y := y) gM.1 (by decide) (by decide) (b01_or _) (by decide) (by decide)) gM.1 rfl rfl w_ml_RX5_28 dX5_regain_35 (by rfl) (Nat.le_of_ble_eq_true rfl) (by decide) (by omega) (fun _ _ _ h _ => False.elim h) (fun r_35 w_35 n_35 h_35 hn_35 => ?_)
        obtain ⟨rfl, en_35, ew_35⟩ := h_35
        rw [en_35, ew_35, e_up_up, rf2, rf3]
        refine e_if_eq F 43 dX5_regain_38 (by decide) (b01_r _) (fun c_38 => ?_) (fun c_38 => ?_)
        ·
          rw [b01_0, Classical.not_not] at c_38
          rw [if_pos c_38]
          obtain ⟨ki9, rfl⟩ : ∃ k : Nat, i9 = (k : Int) := ⟨i9.toNat, by omega⟩
          have hki9 : ki9 < 6 := by omega
          rw [show ((ki9 : Nat) : Int).toNat = ki9 from rfl]
          refine e_dom ?_
          intro hdm
          obtain ⟨gY, _, ⟨G, gG, gGe⟩, ⟨SS, PP, gS, gP, gMD⟩, gRV⟩ := id gM
          refine e_aload_n F dX5_regain_43 rfl ?_
          refine e_iload_n F dX5_regain_44 rfl ?_
          refine e_iload_n F dX5_regain_45 rfl ?_
          refine e_callVV F u_X5_isEnough (by rfl) (c_X5_isEnough gM hki9 (set := a9) (by omega) (by omega)) gY rfl rfl w_ml_RX5_161 dX5_regain_46 (by rfl) (Nat.le_of_ble_eq_true rfl) (by decide) (by omega) (fun _ _ _ h _ => False.elim h) (fun r_46 w_46 n_46 h_46 hn_46 => ?_)
          obtain ⟨rfl, ew_46, en_46⟩ := h_46
          rw [ew_46, en_46]
          refine e_if_ne F 55 dX5_regain_49 (by decide) (b01_r _) (fun c_49 => ?_) (fun c_49 => ?_)
          ·
            rw [ne_eq, b01_0, Classical.not_not] at c_49
            have hne := c_49.1.2
            obtain ⟨a, f, hSa, hya, hwa, hfr, hfA⟩ := MD.row (gMD ki9 hki9) hne
            have har := atV_rg hwh a9 (R ki9).A h9
            refine e_aload_n F dX5_regain_55 rfl ?_
            refine e_iload_n F dX5_regain_56 rfl ?_
            refine e_iload_n F dX5_regain_57 rfl ?_
            refine e_aload_n F dX5_regain_58 rfl ?_
            refine e_aload_n F dX5_regain_59 rfl ?_
            refine e_get (ci := 5) (fi := 4) (q := (RX5, TX5, 6)) F gY rfl (by decide) w_fl_RX5_18 (by rfl) dX5_regain_60 ?_
            refine e_iload_n F dX5_regain_63 rfl ?_
            refine e_aaldr F gS (by omega) (by omega) (by decide) (hSa) dX5_regain_64 ?_
            refine e_iload_n F dX5_regain_65 rfl ?_
            refine e_iload_n F dX5_regain_66 rfl ?_
            refine e_callVV F u_X5_at (by rfl) (c_X5_at gY hwh hwa (by omega) hfr (set := a9) (x := h9) (by omega) (by omega) hh9) gY rfl rfl w_ml_RX5_106 dX5_regain_67 (by rfl) (Nat.le_of_ble_eq_true rfl) (by decide) (by omega) (fun _ _ _ h _ => False.elim h) (fun r_67 w_67 n_67 h_67 hn_67 => ?_)
            obtain ⟨rfl, gK⟩ := h_67
            have eT : atV wh (a9) f h9 = atV wh (a9) (R ki9).A h9 := by
              unfold atV
              rw [trK_congr (A2 := (R ki9).A) (ho wh).toNat (fun j j0 j1 => hfA j j0 (by omega))]
            rw [eT]
            have gM2 := gM.kb hdm gK
            refine e_callVV F u_X5_put (by rfl) (c_X5_put gM2 hki9 (h := h9) (by omega) (by omega) (v := atV wh a9 (R ki9).A h9) (Or.inr har) hne) gM2.1 rfl rfl w_ml_RX5_164 dX5_regain_70 (by rfl) (Nat.le_of_ble_eq_true rfl) (by decide) (by omega) (fun _ _ _ h _ => False.elim h) (fun r_70 w_70 n_70 h_70 hn_70 => ?_)
            obtain ⟨rfl, gM3, gF3⟩ := h_70
            obtain ⟨vY, _, _, ⟨S3, P3, vS, vP, vMD⟩, _⟩ := id gM3
            obtain ⟨a3, f3, hSa3, hya3, hwa3, hfr3, hfA3⟩ := MD.row (vMD ki9 hki9) (by rw [updR_s]; exact hne)
            refine e_aload_n F dX5_regain_73 rfl ?_
            refine e_get (ci := 5) (fi := 4) (q := (RX5, TX5, 6)) F vY rfl (by decide) w_fl_RX5_18 (by rfl) dX5_regain_74 ?_
            refine e_iload_n F dX5_regain_77 rfl ?_
            refine e_aaldr F vS (by omega) (by omega) (by decide) (hSa3) dX5_regain_78 ?_
            refine e_iload_n F dX5_regain_79 rfl ?_
            refine e_iald F hwa3 (by omega) (by omega) (by first | decide | omega) dX5_regain_80 ?_
            rw [hfA3 _ (by omega) (by omega), updR_s, show (puR (R ki9) h9 (atV wh a9 (R ki9).A h9)).A h9 = atV wh a9 (R ki9).A h9 from if_pos rfl]
            refine e_iret F rfl (by omega) ?_ dX5_regain_81
            have q9 : (thQ wh (R ki9) a9 ∧ (R ki9).dg < bc a9) := c_49
            rw [if_pos q9]
            exact ⟨(FM.th.kb (Nat.le_refl _) gK).tr hn_67 gF3, Or.inr (Or.inr ⟨h_i, c_38, rfl, gM3⟩)⟩
          ·
            rw [b01_0] at c_49
            refine e_bipush F dX5_regain_52 (by decide) ?_
            refine e_iret F rfl (by omega) ?_ dX5_regain_54
            have q9 : ¬ (thQ wh (R ki9) a9 ∧ (R ki9).dg < bc a9) := c_49
            rw [if_neg q9]
            exact ⟨FM.th, Or.inr (Or.inr ⟨h_i, c_38, rfl, gM⟩)⟩
        ·
          rw [b01_0, Classical.not_not] at c_38
          rw [if_neg c_38]
          refine e_iconst F dX5_regain_41 ?_
          refine e_iret F rfl (by omega) ?_ dX5_regain_42
          first
          | exact ⟨FM.th, Or.inr (Or.inl ⟨h_i, c_38, rfl, hM.th⟩)⟩
          | exact ⟨FM.th, Or.inl ⟨(fun q => by omega), rfl, hM.th⟩⟩
    ·
      rw [b01_0, Classical.not_not] at c_13
      refine e_iconst F dX5_regain_16 ?_
      refine e_goto F 21 dX5_regain_17 (by decide) ?_
      refine e_iconst F dX5_regain_21 ?_
      refine e_callVV F u_X5_start (by rfl) (c_X5_start hY (by first | exact Or.inl rfl | exact Or.inr rfl) (by decide) (by decide)) hY rfl rfl w_ml_RX5_69 dX5_regain_22 (by rfl) (Nat.le_of_ble_eq_true rfl) (by decide) (by omega) (fun _ _ _ h _ => False.elim h) (fun r_22 w_22 n_22 h_22 hn_22 => ?_)
      obtain ⟨rfl, en_22, ew_22⟩ := h_22
      rw [en_22, ew_22]
      first | rw [if_pos (show (1 : Int) = 1 from rfl)] | rw [if_neg (show ¬ ((0 : Int) = 1) by decide)]
      have gM := hM.th (t2 := 0) (kn2 := kn)
      refine e_if_ne F 41 dX5_regain_25 (by decide) (by decide) (fun c_25 => ?_) (fun c_25 => ?_)
      · refine e_iconst F dX5_regain_41 ?_
        refine e_iret F rfl (by omega) ?_ dX5_regain_42
        first
        | exact ⟨FM.th, Or.inr (Or.inl ⟨h_i, c_38, rfl, hM.th⟩)⟩
        | exact ⟨FM.th, Or.inl ⟨(fun q => by omega), rfl, hM.th⟩⟩
      · exact absurd c_25 (by decide)
set_option maxHeartbeats 4000000 in
set_option maxRecDepth 100000 in
theorem c_X5_mend {K : e_K} {l : Launch} {w : e_W} {n : Nat} {y wh : Nat} {t kn : Int} {R : Nat → RD} (hM : MW w y wh kn t R) {i9 : Int} (hi9 : e_r i9) : e_Met K l yX5_mend (Cond.code yX5_mend cX5_mend 3 (Option.some .int) :: e_TB) (7) (20) [.ref y, .int (eI i9)] w n (fun r w' n' => FM w w' y n ∧ ((¬ (0 ≤ i9 ∧ i9 < 6) ∧ r = some (.int (eI 0)) ∧ MW w' y wh kn 1 R) ∨ ((0 ≤ i9 ∧ i9 < 6) ∧ r = some (.int (eI (((wrV wh (R i9.toNat), if 0 < wrV wh (R i9.toNat) then updR R i9.toNat (puR (R i9.toNat) (wrV wh (R i9.toNat)) (atV wh (st7 (R i9.toNat).A - 2 ^ (wrV wh (R i9.toNat) - 1).toNat) (R i9.toNat).A (wrV wh (R i9.toNat)))) else R)).1))) ∧ MW w' y wh (kn) 0 (((wrV wh (R i9.toNat), if 0 < wrV wh (R i9.toNat) then updR R i9.toNat (puR (R i9.toNat) (wrV wh (R i9.toNat)) (atV wh (st7 (R i9.toNat).A - 2 ^ (wrV wh (R i9.toNat) - 1).toNat) (R i9.toNat).A (wrV wh (R i9.toNat)))) else R)).2)))) (e_px0) := by
  refine e_ofV rfl (Nat.le_of_ble_eq_true rfl) ?_
  intro P9 E9 S9 M9 A9 B9 T9 C9 F hnm
  have hwh := hM.2.1
  have hY := hM.1
  have hp := pr_rg wh hwh
  have hho := ho_rg wh hwh
  have hf9 := fl_rg wh hwh
  refine e_aload_n F dX5_mend_0 rfl ?_
  refine e_iload_n F dX5_mend_1 rfl ?_
  refine e_callSS F u_X5_isNoDeal (by rfl) (c_X5_isNoDeal hi9) w_ml_RX5_129 dX5_mend_2 (by rfl) (Nat.le_of_ble_eq_true rfl) (by decide) (by omega) (fun _ _ _ h _ => False.elim h) (fun r_2 w_2 n_2 h_2 hn_2 => ?_)
  obtain ⟨rfl, ew_2, en_2⟩ := h_2
  rw [ew_2, en_2]
  refine e_iconst F dX5_mend_5 ?_
  refine e_callVV F u_X5_start (by rfl) (c_X5_start hY (b01_or _) (by decide) (by decide)) hY rfl rfl w_ml_RX5_69 dX5_mend_6 (by rfl) (Nat.le_of_ble_eq_true rfl) (by decide) (by omega) (fun _ _ _ h _ => False.elim h) (fun r_6 w_6 n_6 h_6 hn_6 => ?_)
  obtain ⟨rfl, en_6, ew_6⟩ := h_6
  rw [en_6, ew_6, st1]
  refine e_if_eq F 14 dX5_mend_9 (by decide) (b01_r _) (fun c_9 => ?_) (fun c_9 => ?_)
  ·
    rw [b01_0, Classical.not_not] at c_9
    rw [if_pos c_9]
    have gM := hM.th (t2 := 0) (kn2 := kn)
    have h_i := c_9
    obtain ⟨ki9, rfl⟩ : ∃ k : Nat, i9 = (k : Int) := ⟨i9.toNat, by omega⟩
    have hki9 : ki9 < 6 := by omega
    rw [show ((ki9 : Nat) : Int).toNat = ki9 from rfl]
    refine e_dom ?_
    intro hdm
    obtain ⟨gY, _, ⟨G, gG, gGe⟩, ⟨SS, PP, gS, gP, gMD⟩, gRV⟩ := id gM
    refine e_aload_n F dX5_mend_14 rfl ?_
    refine e_iload_n F dX5_mend_15 rfl ?_
    refine e_callVV F u_X5_wrongOf (by rfl) (c_X5_wrongOf gM hki9) gY rfl rfl w_ml_RX5_174 dX5_mend_16 (by rfl) (Nat.le_of_ble_eq_true rfl) (by decide) (by omega) (fun _ _ _ h _ => False.elim h) (fun r_16 w_16 n_16 h_16 hn_16 => ?_)
    obtain ⟨rfl, gK⟩ := h_16
    have gM2 := gM.kb hdm gK
    have hwr := wrV_rg hwh (R ki9)
    refine e_istore_n F dX5_mend_19 (by decide) ?_
    refine e_iload_n F dX5_mend_20 rfl ?_
    refine e_if_le F 52 dX5_mend_21 (by decide) (⟨by omega, by omega⟩) (fun c_21 => ?_) (fun c_21 => ?_)
    · refine e_iload_n F dX5_mend_52 rfl ?_
      refine e_iret F rfl (by omega) ?_ dX5_mend_53
      first
      | (rw [if_pos (show 0 < (wrV wh (R ki9)) by omega)]
         exact ⟨((FM.th.kb (Nat.le_refl _) gK).kb hn_16 gK2).tr (by omega) gF4, Or.inr ⟨h_i, rfl, gM4⟩⟩)
      | (rw [if_neg (show ¬ 0 < (wrV wh (R ki9)) by omega)]
         exact ⟨FM.th.kb (Nat.le_refl _) gK, Or.inr ⟨h_i, rfl, gM2⟩⟩)
    ·
      obtain ⟨w1, w2, w3, hne⟩ := wrV_pos hwh (r := R ki9) (by omega)
      obtain ⟨uY, _, _, ⟨S2, P2, uS, uP, uMD⟩, _⟩ := id gM2
      obtain ⟨a, f, hSa, hya, hwa, hfr, hfA⟩ := MD.row (uMD ki9 hki9) hne
      have hst := st7_rg (R ki9).A
      obtain ⟨jj, hjj⟩ : ∃ j : Nat, (wrV wh (R ki9)) = (j : Int) + 1 := ⟨((wrV wh (R ki9)) - 1).toNat, by omega⟩
      have hle : (2 : Int) ^ ((wrV wh (R ki9)) - 1).toNat ≤ st7 (R ki9).A := by
        rw [hjj] at w3
        rw [hjj, show ((jj : Int) + 1 - 1).toNat = jj by omega]
        exact hs_le hst.1 hst.2 (by omega) w3
      have hp0 : (0 : Int) < 2 ^ ((wrV wh (R ki9)) - 1).toNat := Int.pow_pos (by omega)
      have har := atV_rg hwh (st7 (R ki9).A - 2 ^ ((wrV wh (R ki9)) - 1).toNat) (R ki9).A (wrV wh (R ki9))
      refine e_dom ?_
      intro hdm2
      refine e_aload_n F dX5_mend_24 rfl ?_
      refine e_iload_n F dX5_mend_25 rfl ?_
      refine e_iload_n F dX5_mend_26 rfl ?_
      refine e_aload_n F dX5_mend_27 rfl ?_
      refine e_aload_n F dX5_mend_28 rfl ?_
      refine e_get (ci := 5) (fi := 4) (q := (RX5, TX5, 6)) F uY rfl (by decide) w_fl_RX5_18 (by rfl) dX5_mend_29 ?_
      refine e_iload_n F dX5_mend_32 rfl ?_
      refine e_aaldr F uS (by omega) (by omega) (by decide) (hSa) dX5_mend_33 ?_
      refine e_aload_n F dX5_mend_34 rfl ?_
      refine e_iload_n F dX5_mend_35 rfl ?_
      refine e_callVV F u_X5_setOf (by rfl) (c_X5_setOf gM2 (i := ki9) hki9) uY rfl rfl w_ml_RX5_116 dX5_mend_36 (by rfl) (Nat.le_of_ble_eq_true rfl) (by decide) (by omega) (fun _ _ _ h _ => False.elim h) (fun r_36 w_36 n_36 h_36 hn_36 => ?_)
      obtain ⟨rfl, ew_36, en_36⟩ := h_36
      rw [ew_36, en_36]
      refine e_iconst F dX5_mend_39 ?_
      refine e_iload_n F dX5_mend_40 rfl ?_
      refine e_iconst F dX5_mend_41 ?_
      refine e_isub F dX5_mend_42 ?_
      refine e_ishl F dX5_mend_43 (by have := eI_shl1 ((wrV wh (R ki9)) - 1).toNat (by omega); rwa [Int.toNat_of_nonneg (by omega)] at this) ?_
      refine e_isub F dX5_mend_44 ?_
      refine e_iload_n F dX5_mend_45 rfl ?_
      refine e_callVV F u_X5_at (by rfl) (c_X5_at uY hwh hwa (by omega) hfr (set := (st7 (R ki9).A - 2 ^ ((wrV wh (R ki9)) - 1).toNat)) (x := (wrV wh (R ki9))) (by omega) (by omega) ⟨by omega, by omega⟩) uY rfl rfl w_ml_RX5_106 dX5_mend_46 (by rfl) (Nat.le_of_ble_eq_true rfl) (by decide) (by omega) (fun _ _ _ h _ => False.elim h) (fun r_46 w_46 n_46 h_46 hn_46 => ?_)
      obtain ⟨rfl, gK2⟩ := h_46
      have eT : atV wh ((st7 (R ki9).A - 2 ^ ((wrV wh (R ki9)) - 1).toNat)) f (wrV wh (R ki9)) = atV wh ((st7 (R ki9).A - 2 ^ ((wrV wh (R ki9)) - 1).toNat)) (R ki9).A (wrV wh (R ki9)) := by
        unfold atV
        rw [trK_congr (A2 := (R ki9).A) (ho wh).toNat (fun j j0 j1 => hfA j j0 (by omega))]
      rw [eT]
      have gM3 := gM2.kb hdm2 gK2
      refine e_callVV F u_X5_put (by rfl) (c_X5_put gM3 hki9 (h := (wrV wh (R ki9))) (by omega) (by omega) (v := atV wh (st7 (R ki9).A - 2 ^ ((wrV wh (R ki9)) - 1).toNat) (R ki9).A (wrV wh (R ki9))) (Or.inr har) hne) gM3.1 rfl rfl w_ml_RX5_164 dX5_mend_49 (by rfl) (Nat.le_of_ble_eq_true rfl) (by decide) (by omega) (fun _ _ _ h _ => False.elim h) (fun r_49 w_49 n_49 h_49 hn_49 => ?_)
      obtain ⟨rfl, gM4, gF4⟩ := h_49
      refine e_iload_n F dX5_mend_52 rfl ?_
      refine e_iret F rfl (by omega) ?_ dX5_mend_53
      first
      | (rw [if_pos (show 0 < (wrV wh (R ki9)) by omega)]
         exact ⟨((FM.th.kb (Nat.le_refl _) gK).kb hn_16 gK2).tr (by omega) gF4, Or.inr ⟨h_i, rfl, gM4⟩⟩)
      | (rw [if_neg (show ¬ 0 < (wrV wh (R ki9)) by omega)]
         exact ⟨FM.th.kb (Nat.le_refl _) gK, Or.inr ⟨h_i, rfl, gM2⟩⟩)
  ·
    rw [b01_0, Classical.not_not] at c_9
    rw [if_neg c_9]
    refine e_iconst F dX5_mend_12 ?_
    refine e_iret F rfl (by omega) ?_ dX5_mend_13
    exact ⟨FM.th, Or.inl ⟨c_9, rfl, hM.th⟩⟩

set_option maxHeartbeats 4000000 in
set_option maxRecDepth 100000 in
theorem c_X5_drop {K : e_K} {l : Launch} {w : e_W} {n : Nat} {y wh : Nat} {t kn : Int} {R : Nat → RD} (hM : MW w y wh kn t R) {i9 : Int} (hi9 : e_r i9) : e_Met K l yX5_drop (Cond.code yX5_drop cX5_drop 3 (Option.some .int) :: e_TB) (3) (0) [.ref y, .int (eI i9)] w n (fun r w' n' => FM w w' y n ∧ ((¬ (0 ≤ i9 ∧ i9 < 6) ∧ r = some (.int (eI 0)) ∧ MW w' y wh kn 1 R) ∨ ((0 ≤ i9 ∧ i9 < 6) ∧ r = some (.int (eI (((bc (st7 (R i9.toNat).A), updR R i9.toNat (emR (R i9.toNat)))).1))) ∧ MW w' y wh (kn) 0 (((bc (st7 (R i9.toNat).A), updR R i9.toNat (emR (R i9.toNat)))).2)))) (e_px0) := by
  refine e_ofV rfl (Nat.le_of_ble_eq_true rfl) ?_
  intro P9 E9 S9 M9 A9 B9 T9 C9 F hnm
  have hwh := hM.2.1
  have hY := hM.1
  have hp := pr_rg wh hwh
  have hho := ho_rg wh hwh
  have hf9 := fl_rg wh hwh
  refine e_aload_n F dX5_drop_0 rfl ?_
  refine e_iload_n F dX5_drop_1 rfl ?_
  refine e_callSS F u_X5_isNoDeal (by rfl) (c_X5_isNoDeal hi9) w_ml_RX5_129 dX5_drop_2 (by rfl) (Nat.le_of_ble_eq_true rfl) (by decide) (by omega) (fun _ _ _ h _ => False.elim h) (fun r_2 w_2 n_2 h_2 hn_2 => ?_)
  obtain ⟨rfl, ew_2, en_2⟩ := h_2
  rw [ew_2, en_2]
  refine e_iconst F dX5_drop_5 ?_
  refine e_callVV F u_X5_start (by rfl) (c_X5_start hY (b01_or _) (by decide) (by decide)) hY rfl rfl w_ml_RX5_69 dX5_drop_6 (by rfl) (Nat.le_of_ble_eq_true rfl) (by decide) (by omega) (fun _ _ _ h _ => False.elim h) (fun r_6 w_6 n_6 h_6 hn_6 => ?_)
  obtain ⟨rfl, en_6, ew_6⟩ := h_6
  rw [en_6, ew_6, st1]
  refine e_if_eq F 14 dX5_drop_9 (by decide) (b01_r _) (fun c_9 => ?_) (fun c_9 => ?_)
  ·
    rw [b01_0, Classical.not_not] at c_9
    rw [if_pos c_9]
    have gM := hM.th (t2 := 0) (kn2 := kn)
    have h_i := c_9
    obtain ⟨ki9, rfl⟩ : ∃ k : Nat, i9 = (k : Int) := ⟨i9.toNat, by omega⟩
    have hki9 : ki9 < 6 := by omega
    rw [show ((ki9 : Nat) : Int).toNat = ki9 from rfl]
    refine e_dom ?_
    intro hdm
    obtain ⟨gY, _, ⟨G, gG, gGe⟩, ⟨SS, PP, gS, gP, gMD⟩, gRV⟩ := id gM
    have hst := st7_rg (R ki9).A
    refine e_aload_n F dX5_drop_14 rfl ?_
    refine e_iload_n F dX5_drop_15 rfl ?_
    refine e_callVV F u_X5_setOf (by rfl) (c_X5_setOf gM (i := ki9) hki9) gY rfl rfl w_ml_RX5_116 dX5_drop_16 (by rfl) (Nat.le_of_ble_eq_true rfl) (by decide) (by omega) (fun _ _ _ h _ => False.elim h) (fun r_16 w_16 n_16 h_16 hn_16 => ?_)
    obtain ⟨rfl, ew_16, en_16⟩ := h_16
    rw [ew_16, en_16]
    refine e_callSS F u_X5_many (by rfl) (c_X5_many hst.1 hst.2) w_ml_RX5_119 dX5_drop_19 (by rfl) (Nat.le_of_ble_eq_true rfl) (by decide) (by omega) (fun _ _ _ h _ => False.elim h) (fun r_19 w_19 n_19 h_19 hn_19 => ?_)
    obtain ⟨rfl, ew_19, en_19⟩ := h_19
    rw [ew_19, en_19]
    refine e_istore_n F dX5_drop_22 (by decide) ?_
    refine e_aload_n F dX5_drop_23 rfl ?_
    refine e_iload_n F dX5_drop_24 rfl ?_
    refine e_callVV F u_X5_empty (by rfl) (c_X5_empty gM hki9) gY rfl rfl w_ml_RX5_72 dX5_drop_25 (by rfl) (Nat.le_of_ble_eq_true rfl) (by decide) (by omega) (fun _ _ _ h _ => False.elim h) (fun r_25 w_25 n_25 h_25 hn_25 => ?_)
    obtain ⟨rfl, en_25, gM2, gF2⟩ := h_25
    rw [en_25]
    refine e_iload_n F dX5_drop_28 rfl ?_
    refine e_iret F rfl (by omega) ?_ dX5_drop_29
    exact ⟨FM.th.tr (Nat.le_refl _) gF2, Or.inr ⟨h_i, rfl, gM2⟩⟩
  ·
    rw [b01_0, Classical.not_not] at c_9
    rw [if_neg c_9]
    refine e_iconst F dX5_drop_12 ?_
    refine e_iret F rfl (by omega) ?_ dX5_drop_13
    exact ⟨FM.th, Or.inl ⟨c_9, rfl, hM.th⟩⟩
set_option maxHeartbeats 4000000 in
set_option maxRecDepth 100000 in
theorem c_X5_copy {K : e_K} {l : Launch} {w : e_W} {n : Nat} {y wh : Nat} {t kn : Int} {R : Nat → RD} (hM : MW w y wh kn t R) {i9 : Int} (hi9 : e_r i9) {j9 : Int} (hj9 : e_r j9) : e_Met K l yX5_copy (Cond.code yX5_copy cX5_copy 3 (Option.some .int) :: e_TB) (4) (0) [.ref y, .int (eI i9), .int (eI j9)] w n (fun r w' n' => FM w w' y n ∧ ((¬ ((0 ≤ i9 ∧ i9 < 6) ∧ (0 ≤ j9 ∧ j9 < 6)) ∧ r = some (.int (eI 0)) ∧ MW w' y wh kn 1 R) ∨ (((0 ≤ i9 ∧ i9 < 6) ∧ (0 ≤ j9 ∧ j9 < 6)) ∧ r = some (.int (eI (((bc (st7 (R i9.toNat).A), updR R j9.toNat (R i9.toNat))).1))) ∧ MW w' y wh (kn) 0 (((bc (st7 (R i9.toNat).A), updR R j9.toNat (R i9.toNat))).2)))) (e_px0) := by
  refine e_ofV rfl (Nat.le_of_ble_eq_true rfl) ?_
  intro P9 E9 S9 M9 A9 B9 T9 C9 F hnm
  have hwh := hM.2.1
  have hY := hM.1
  have hp := pr_rg wh hwh
  have hho := ho_rg wh hwh
  have hf9 := fl_rg wh hwh
  refine e_aload_n F dX5_copy_0 rfl ?_
  refine e_iload_n F dX5_copy_1 rfl ?_
  refine e_callSS F u_X5_isNoDeal (by rfl) (c_X5_isNoDeal hi9) w_ml_RX5_129 dX5_copy_2 (by rfl) (Nat.le_of_ble_eq_true rfl) (by decide) (by omega) (fun _ _ _ h _ => False.elim h) (fun r_2 w_2 n_2 h_2 hn_2 => ?_)
  obtain ⟨rfl, ew_2, en_2⟩ := h_2
  rw [ew_2, en_2]
  refine e_if_ne F 15 dX5_copy_5 (by decide) (b01_r _) (fun c_5 => ?_) (fun c_5 => ?_)
  ·
    rw [ne_eq, b01_0, Classical.not_not] at c_5
    refine e_iconst F dX5_copy_15 ?_
    refine e_goto F 20 dX5_copy_16 (by decide) ?_
    refine e_iconst F dX5_copy_20 ?_
    refine e_callVV F u_X5_start (by rfl) (c_X5_start hY (by first | exact Or.inl rfl | exact Or.inr rfl) (by decide) (by decide)) hY rfl rfl w_ml_RX5_69 dX5_copy_21 (by rfl) (Nat.le_of_ble_eq_true rfl) (by decide) (by omega) (fun _ _ _ h _ => False.elim h) (fun r_21 w_21 n_21 h_21 hn_21 => ?_)
    obtain ⟨rfl, en_21, ew_21⟩ := h_21
    rw [en_21, ew_21]
    first | rw [if_pos (show (1 : Int) = 1 from rfl)] | rw [if_neg (show ¬ ((0 : Int) = 1) by decide)]
    have gM := hM.th (t2 := 0) (kn2 := kn)
    refine e_if_eq F 29 dX5_copy_24 (by decide) (by decide) (fun c_24 => ?_) (fun c_24 => ?_)
    · exact absurd c_24 (by decide)
    · refine e_iconst F dX5_copy_27 ?_
      refine e_iret F rfl (by omega) ?_ dX5_copy_28
      exact ⟨FM.th, Or.inl ⟨(fun q => by omega), rfl, hM.th⟩⟩
  ·
    rw [b01_0, Classical.not_not] at c_5
    refine e_iload_n F dX5_copy_8 rfl ?_
    refine e_callSS F u_X5_isNoDeal (by rfl) (c_X5_isNoDeal hj9) w_ml_RX5_129 dX5_copy_9 (by rfl) (Nat.le_of_ble_eq_true rfl) (by decide) (by omega) (fun _ _ _ h _ => False.elim h) (fun r_9 w_9 n_9 h_9 hn_9 => ?_)
    obtain ⟨rfl, ew_9, en_9⟩ := h_9
    rw [ew_9, en_9]
    refine e_if_eq F 19 dX5_copy_12 (by decide) (b01_r _) (fun c_12 => ?_) (fun c_12 => ?_)
    ·
      rw [b01_0, Classical.not_not] at c_12
      refine e_iconst F dX5_copy_19 ?_
      refine e_iconst F dX5_copy_20 ?_
      refine e_callVV F u_X5_start (by rfl) (c_X5_start hY (by first | exact Or.inl rfl | exact Or.inr rfl) (by decide) (by decide)) hY rfl rfl w_ml_RX5_69 dX5_copy_21 (by rfl) (Nat.le_of_ble_eq_true rfl) (by decide) (by omega) (fun _ _ _ h _ => False.elim h) (fun r_21 w_21 n_21 h_21 hn_21 => ?_)
      obtain ⟨rfl, en_21, ew_21⟩ := h_21
      rw [en_21, ew_21]
      first | rw [if_pos (show (1 : Int) = 1 from rfl)] | rw [if_neg (show ¬ ((0 : Int) = 1) by decide)]
      have gM := hM.th (t2 := 0) (kn2 := kn)
      refine e_if_eq F 29 dX5_copy_24 (by decide) (by decide) (fun c_24 => ?_) (fun c_24 => ?_)
      · have h_i : (0 ≤ i9 ∧ i9 < 6) ∧ (0 ≤ j9 ∧ j9 < 6) := by omega
        obtain ⟨kj9, rfl⟩ : ∃ k : Nat, j9 = (k : Int) := ⟨j9.toNat, by omega⟩
        have hkj9 : kj9 < 6 := by omega
        rw [show ((kj9 : Nat) : Int).toNat = kj9 from rfl]
        obtain ⟨ki9, rfl⟩ : ∃ k : Nat, i9 = (k : Int) := ⟨i9.toNat, by omega⟩
        have hki9 : ki9 < 6 := by omega
        rw [show ((ki9 : Nat) : Int).toNat = ki9 from rfl]
        refine e_dom ?_
        intro hdm
        obtain ⟨gY, _, ⟨G, gG, gGe⟩, ⟨SS, PP, gS, gP, gMD⟩, gRV⟩ := id gM
        have hGi := gGe ki9 hki9
        have hmi := gMD ki9 hki9
        by_cases hne : (R ki9).dg = -1
        · obtain ⟨hSn, hPn⟩ : SS (ki9 : Int) = none ∧ PP (ki9 : Int) = none := by
            rcases hmi with z | z
            · exact ⟨z.2.1, z.2.2.1⟩
            · exact absurd hne (by omega)
          refine e_aload_n F dX5_copy_29 rfl ?_
          refine e_iload_n F dX5_copy_30 rfl ?_
          refine e_aload_n F dX5_copy_31 rfl ?_
          refine e_get (ci := 5) (fi := 3) (q := (RX5, TX5, 6)) F gY rfl (by decide) w_fl_RX5_13 (by rfl) dX5_copy_32 ?_
          refine e_iload_n F dX5_copy_35 rfl ?_
          refine e_iald F gG (by omega) (by omega) (by first | decide | omega) dX5_copy_36 ?_
          rw [hGi]
          refine e_aload_n F dX5_copy_37 rfl ?_
          refine e_get (ci := 5) (fi := 4) (q := (RX5, TX5, 6)) F gY rfl (by decide) w_fl_RX5_18 (by rfl) dX5_copy_38 ?_
          refine e_iload_n F dX5_copy_41 rfl ?_
          refine e_aaldn F gS (by omega) (by omega) (by decide) (hSn) dX5_copy_42 ?_
          refine e_aload_n F dX5_copy_43 rfl ?_
          refine e_get (ci := 5) (fi := 5) (q := (RX5, TX5, 6)) F gY rfl (by decide) w_fl_RX5_22 (by rfl) dX5_copy_44 ?_
          refine e_iload_n F dX5_copy_47 rfl ?_
          refine e_aaldn F gP (by omega) (by omega) (by decide) (hPn) dX5_copy_48 ?_
          refine e_callVV F u_X5_lay (by rfl) (c_X5_layNN gM hkj9 (r := R ki9) (by rw [hSn, hPn] at hmi; exact hmi) (gRV ki9 hki9)) gY rfl rfl w_ml_RX5_140 dX5_copy_49 (by rfl) (Nat.le_of_ble_eq_true rfl) (by decide) (by omega) (fun _ _ _ h _ => False.elim h) (fun r_49 w_49 n_49 h_49 hn_49 => ?_)
          obtain ⟨rfl, en_49, gM2, gF2⟩ := h_49
          rw [en_49]
          refine e_iret F rfl (by omega) ?_ dX5_copy_52
          exact ⟨FM.th.tr (Nat.le_refl _) gF2, Or.inr ⟨h_i, rfl, gM2⟩⟩
        · obtain ⟨a, f, hSa, hya, hwa, hfr, hfA⟩ := MD.row hmi hne
          rcases MD.pw hmi with ⟨hp0, hPn⟩ | ⟨hp1, ⟨b, g, hPb, hyb, hwb, hgr, hgE⟩, hd0⟩
          ·
            refine e_aload_n F dX5_copy_29 rfl ?_
            refine e_iload_n F dX5_copy_30 rfl ?_
            refine e_aload_n F dX5_copy_31 rfl ?_
            refine e_get (ci := 5) (fi := 3) (q := (RX5, TX5, 6)) F gY rfl (by decide) w_fl_RX5_13 (by rfl) dX5_copy_32 ?_
            refine e_iload_n F dX5_copy_35 rfl ?_
            refine e_iald F gG (by omega) (by omega) (by first | decide | omega) dX5_copy_36 ?_
            rw [hGi]
            refine e_aload_n F dX5_copy_37 rfl ?_
            refine e_get (ci := 5) (fi := 4) (q := (RX5, TX5, 6)) F gY rfl (by decide) w_fl_RX5_18 (by rfl) dX5_copy_38 ?_
            refine e_iload_n F dX5_copy_41 rfl ?_
            refine e_aaldr F gS (by omega) (by omega) (by decide) (hSa) dX5_copy_42 ?_
            refine e_aload_n F dX5_copy_43 rfl ?_
            refine e_get (ci := 5) (fi := 5) (q := (RX5, TX5, 6)) F gY rfl (by decide) w_fl_RX5_22 (by rfl) dX5_copy_44 ?_
            refine e_iload_n F dX5_copy_47 rfl ?_
            refine e_aaldn F gP (by omega) (by omega) (by decide) (hPn) dX5_copy_48 ?_
            refine e_callVV F u_X5_lay (by rfl) (c_X5_layRN gM hkj9 (r := R ki9) (by rw [hSa, hPn] at hmi; exact hmi) (gRV ki9 hki9)) gY rfl rfl w_ml_RX5_140 dX5_copy_49 (by rfl) (Nat.le_of_ble_eq_true rfl) (by decide) (by omega) (fun _ _ _ h _ => False.elim h) (fun r_49 w_49 n_49 h_49 hn_49 => ?_)
            obtain ⟨rfl, en_49, gM2, gF2⟩ := h_49
            rw [en_49]
            refine e_iret F rfl (by omega) ?_ dX5_copy_52
            exact ⟨FM.th.tr (Nat.le_refl _) gF2, Or.inr ⟨h_i, rfl, gM2⟩⟩
          ·
            refine e_aload_n F dX5_copy_29 rfl ?_
            refine e_iload_n F dX5_copy_30 rfl ?_
            refine e_aload_n F dX5_copy_31 rfl ?_
            refine e_get (ci := 5) (fi := 3) (q := (RX5, TX5, 6)) F gY rfl (by decide) w_fl_RX5_13 (by rfl) dX5_copy_32 ?_
            refine e_iload_n F dX5_copy_35 rfl ?_
            refine e_iald F gG (by omega) (by omega) (by first | decide | omega) dX5_copy_36 ?_
            rw [hGi]
            refine e_aload_n F dX5_copy_37 rfl ?_
            refine e_get (ci := 5) (fi := 4) (q := (RX5, TX5, 6)) F gY rfl (by decide) w_fl_RX5_18 (by rfl) dX5_copy_38 ?_
            refine e_iload_n F dX5_copy_41 rfl ?_
            refine e_aaldr F gS (by omega) (by omega) (by decide) (hSa) dX5_copy_42 ?_
            refine e_aload_n F dX5_copy_43 rfl ?_
            refine e_get (ci := 5) (fi := 5) (q := (RX5, TX5, 6)) F gY rfl (by decide) w_fl_RX5_22 (by rfl) dX5_copy_44 ?_
            refine e_iload_n F dX5_copy_47 rfl ?_
            refine e_aaldr F gP (by omega) (by omega) (by decide) (hPb) dX5_copy_48 ?_
            refine e_callVV F u_X5_lay (by rfl) (c_X5_layRR gM hkj9 (r := R ki9) (by rw [hSa, hPb] at hmi; exact hmi) (gRV ki9 hki9)) gY rfl rfl w_ml_RX5_140 dX5_copy_49 (by rfl) (Nat.le_of_ble_eq_true rfl) (by decide) (by omega) (fun _ _ _ h _ => False.elim h) (fun r_49 w_49 n_49 h_49 hn_49 => ?_)
            obtain ⟨rfl, en_49, gM2, gF2⟩ := h_49
            rw [en_49]
            refine e_iret F rfl (by omega) ?_ dX5_copy_52
            exact ⟨FM.th.tr (Nat.le_refl _) gF2, Or.inr ⟨h_i, rfl, gM2⟩⟩
      · exact absurd c_24 (by decide)
    ·
      rw [b01_0, Classical.not_not] at c_12
      refine e_iconst F dX5_copy_15 ?_
      refine e_goto F 20 dX5_copy_16 (by decide) ?_
      refine e_iconst F dX5_copy_20 ?_
      refine e_callVV F u_X5_start (by rfl) (c_X5_start hY (by first | exact Or.inl rfl | exact Or.inr rfl) (by decide) (by decide)) hY rfl rfl w_ml_RX5_69 dX5_copy_21 (by rfl) (Nat.le_of_ble_eq_true rfl) (by decide) (by omega) (fun _ _ _ h _ => False.elim h) (fun r_21 w_21 n_21 h_21 hn_21 => ?_)
      obtain ⟨rfl, en_21, ew_21⟩ := h_21
      rw [en_21, ew_21]
      first | rw [if_pos (show (1 : Int) = 1 from rfl)] | rw [if_neg (show ¬ ((0 : Int) = 1) by decide)]
      have gM := hM.th (t2 := 0) (kn2 := kn)
      refine e_if_eq F 29 dX5_copy_24 (by decide) (by decide) (fun c_24 => ?_) (fun c_24 => ?_)
      · exact absurd c_24 (by decide)
      · refine e_iconst F dX5_copy_27 ?_
        refine e_iret F rfl (by omega) ?_ dX5_copy_28
        exact ⟨FM.th, Or.inl ⟨(fun q => by omega), rfl, hM.th⟩⟩
