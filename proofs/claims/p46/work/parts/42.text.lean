/-! Secretshares: texts -/
theorem CW.kb {w w' : e_W} {x wh N : Nat} {kn : Int} {D : Nat → SD} (h : CW w x wh kn D) (hN : x + 27 ≤ N) (hk : KB w w' N) : CW w' x wh kn D := by
  obtain ⟨hX, hF, hwh, ⟨P, hP⟩, ⟨g, hg, hgj⟩, hDs, s, hS⟩ := h
  exact ⟨by rw [hk x (by omega)]; exact hX, by rw [hk _ (by omega)]; exact hF, hwh, ⟨P, hP.fr (hk _ (by omega)) (hk _ (by omega)) (hk _ (by omega))⟩, ⟨g, by rw [hk _ (by omega)]; exact hg, hgj⟩, fun j hj => ⟨(hDs j hj).1.fr (hk _ (by omega)) (hk _ (by omega)) (hk _ (by omega)), (hDs j hj).2⟩, s, hS.fr (hk _ (by omega)) (hk _ (by omega)) (hk _ (by omega))⟩
theorem CW.top {w : e_W} {x wh n : Nat} {kn : Int} {D : Nat → SD} (h : CW w x wh kn D) (hdom : ∀ q e, w q = some e → q < n) : x + 27 ≤ n := by
  obtain ⟨hX, hF, hwh, _, _, hDs, s, hS⟩ := h
  obtain ⟨f, hf, _⟩ := hS.2.2.1
  have := hdom _ _ hf
  omega
theorem SB.cell {w : e_W} {b : Nat} {c : Int} (h : SB w b c) : ∃ fs, w b = some (.inl (6, fs)) := by
  obtain ⟨v, m, f, hb, _⟩ := h
  exact ⟨_, hb⟩
theorem SB.pos {w : e_W} {b : Nat} {c : Int} (h : SB w b c) : 0 ≤ c := by
  obtain ⟨v, m, f, _, _, _, _, h0, _⟩ := h
  exact h0
theorem KB.tr {w w1 w2 : e_W} {b : Nat} (h : KB w w1 b) (h2 : KB w1 w2 b) : KB w w2 b := fun j hj => (h2 j hj).trans (h j hj)
set_option maxHeartbeats 4000000 in
set_option maxRecDepth 100000 in
theorem c_X3_text {K : e_K} {l : Launch} {w : e_W} {n : Nat} {x wh : Nat} {kn : Int} {D : Nat → SD} (hC : CW w x wh kn D) {i : Int} (hi : e_r i) : e_Met K l yX3_text (Cond.code yX3_text cX3_text 5 (Option.some (.object "java/lang/String")) :: e_TB) (7) (24) [.ref x, .int (eI i)] w n (fun r w' n' => (0 ≤ i ∧ i < 6) ∧ (∃ q : Nat, r = some (.ref q)) ∧ CW w' x wh kn D ∧ KB w w' n) (pxd w (¬ (0 ≤ i ∧ i < 6)) False) := by
  refine e_ofV rfl (Nat.le_of_ble_eq_true rfl) ?_
  intro P9 E9 S9 M9 A9 B9 T9 C9 F hnm
  have hC0 := hC
  have hDA := hC.2.2.2.2.1
  obtain ⟨hX, hF, hwh, ⟨P0, hQ⟩, ⟨ga, hga, hgj⟩, hDs, s0, hS⟩ := hC
  have hp := pr_rg wh hwh
  have ho9 := ho_rg wh hwh
  have hg9 := gr_rg wh hwh
  have hf9 := fl_rg wh hwh
  refine e_dom ?_
  intro hdom
  have htop := hC0.top hdom
  have hok : (0 ≤ i ∧ i < 6) → ∀ w2 : e_W, KB w w2 n → (0 ≤ i ∧ i < 6) ∧ CW w2 x wh kn D ∧ KB w w2 n := fun h w2 hk => ⟨h, hC0.kb htop hk, hk⟩
  have lp : (0 ≤ i ∧ i < 6) → ∀ (N k nl : Nat) (c : Int) (wl : e_W), 8 - k < N → ((k : Int) ≤ ho wh ∧ SB wl n c ∧ c ≤ 9 * k ∧ KB w wl n ∧ n ≤ nl) → e_V K P9 l E9 (7) (24) S9 M9 A9 B9 T9 C9 5 (fun r w' n' => (0 ≤ i ∧ i < 6) ∧ (∃ q : Nat, r = some (.ref q)) ∧ CW w' x wh kn D ∧ KB w w' n) (pxd w (¬ (0 ≤ i ∧ i < 6)) False) 29 [(0, .ref x), (2, .ref (x + 6 + 3 * i.toNat)), (3, .ref n), (4, .int (eI ((k : Int) + 1)))] [] wl nl ((3 + 2 * k)) := by
    intro hi N
    obtain ⟨hD0, hW0⟩ := hDs i.toNat (by omega)
    induction N with
    | zero => intro k nl c wl hN; exact absurd hN (Nat.not_lt_zero _)
    | succ N ih =>
      intro k nl c wl hN ⟨hk, gS, gc, gK, gn⟩
      have l54 : (k : Int) < ho wh → ∀ (c2 : Int) (w2 : e_W) (n2 : Nat), SB w2 n c2 → c2 ≤ 9 * k + 1 → KB w w2 n → n ≤ n2 → e_V K P9 l E9 (7) (24) S9 M9 A9 B9 T9 C9 5 (fun r w' n' => (0 ≤ i ∧ i < 6) ∧ (∃ q : Nat, r = some (.ref q)) ∧ CW w' x wh kn D ∧ KB w w' n) (pxd w (¬ (0 ≤ i ∧ i < 6)) False) 54 [(0, .ref x), (2, .ref (x + 6 + 3 * i.toNat)), (3, .ref n), (4, .int (eI ((k : Int) + 1)))] [] w2 n2 ((4 + 2 * k)) := by
        intro hlt c2 w2 n2 hS2 hc2 hK2 hn2
        have gC := hC0.kb htop hK2
        have gD := (gC.2.2.2.2.2.1 i.toNat (by omega)).1
        have hA9 := hD0.2.2.2.2.2.2.1 ((k : Int) + 1) (by omega) (by omega)
        have hc0 := hS2.pos
        refine e_aload_n F dX3_text_54 rfl ?_
        refine e_iload F dX3_text_55 rfl ?_
        refine e_callVN F u_X0_hasShare (by rfl) (c_X0_hasShare gD (h := (k : Int) + 1) (by omega) (by omega)) gD.1 rfl rfl w_mn_RX3_119 dX3_text_57 (by rfl) (Nat.le_of_ble_eq_true rfl) (by decide) (by omega) (fun _ _ _ h _ => False.elim h) (fun r_57 w_57 n_57 h_57 hn_57 => ?_)
        obtain ⟨rfl, ew_57, en_57⟩ := h_57
        rw [ew_57, en_57]
        refine e_if_eq F 77 dX3_text_60 (by decide) (b01_r _) (fun c_60 => ?_) (fun c_60 => ?_)
        ·
          rw [b01_0] at c_60
          refine e_aload_n F dX3_text_77 rfl ?_
          refine e_bipush F dX3_text_78 (by decide) ?_
          obtain ⟨q80, b80⟩ := hS2.cell
          refine e_callVV F u_J4_append_cf468 (by rfl) (c_J4_append_cf468 (c := c2) (x := 45) hS2 (by omega) (by omega) (by omega)) b80 rfl rfl w_ml_RX3_241 dX3_text_80 (by rfl) (Nat.le_of_ble_eq_true rfl) (by decide) (by omega) (fun _ _ _ h _ => False.elim h) (fun r_80 w_80 n_80 h_80 hn_80 => ?_)
          obtain ⟨rfl, S80, K80⟩ := h_80
          refine e_pop F dX3_text_83 rfl ?_
          refine e_iinc F dX3_text_84 rfl (by decide) ?_
          refine e_goto F 29 dX3_text_87 (by decide) ?_
          first
          | exact e_wid (by omega) (e_go (ih (k + 1) _ _ _ (by omega) ⟨by omega, S70, by omega, hK2.tr K70, by omega⟩) (And.intro rfl (And.intro rfl (And.intro rfl (And.intro rfl (trivial))))))
          | exact e_wid (by omega) (e_go (ih (k + 1) _ _ _ (by omega) ⟨by omega, S80, by omega, hK2.tr K80, by omega⟩) (And.intro rfl (And.intro rfl (And.intro rfl (And.intro rfl (trivial))))))
        ·
          rw [b01_0, Classical.not_not] at c_60
          refine e_aload_n F dX3_text_63 rfl ?_
          refine e_aload_n F dX3_text_64 rfl ?_
          refine e_iload F dX3_text_65 rfl ?_
          refine e_callVN F u_X0_shareAt (by rfl) (c_X0_shareAt gD (h := (k : Int) + 1) (by omega) (by omega)) gD.1 rfl rfl w_mn_RX3_123 dX3_text_67 (by rfl) (Nat.le_of_ble_eq_true rfl) (by decide) (by omega) (fun _ _ _ h _ => False.elim h) (fun r_67 w_67 n_67 h_67 hn_67 => ?_)
          obtain ⟨rfl, ew_67, en_67⟩ := h_67
          rw [ew_67, en_67]
          obtain ⟨q70, b70⟩ := hS2.cell
          refine e_callVV F u_J4_append_bf812 (by rfl) (c_J4_append_bf812 (c := c2) (x := (D i.toNat).A ((k : Int) + 1)) hS2 (by omega) (by omega) (by omega)) b70 rfl rfl w_ml_RX3_245 dX3_text_70 (by rfl) (Nat.le_of_ble_eq_true rfl) (by decide) (by omega) (fun _ _ _ h _ => False.elim h) (fun r_70 w_70 n_70 h_70 hn_70 => ?_)
          obtain ⟨rfl, ⟨c70, l70, u70, S70⟩, K70⟩ := h_70
          refine e_pop F dX3_text_73 rfl ?_
          refine e_goto F 84 dX3_text_74 (by decide) ?_
          refine e_iinc F dX3_text_84 rfl (by decide) ?_
          refine e_goto F 29 dX3_text_87 (by decide) ?_
          first
          | exact e_wid (by omega) (e_go (ih (k + 1) _ _ _ (by omega) ⟨by omega, S70, by omega, hK2.tr K70, by omega⟩) (And.intro rfl (And.intro rfl (And.intro rfl (And.intro rfl (trivial))))))
          | exact e_wid (by omega) (e_go (ih (k + 1) _ _ _ (by omega) ⟨by omega, S80, by omega, hK2.tr K80, by omega⟩) (And.intro rfl (And.intro rfl (And.intro rfl (And.intro rfl (trivial))))))
      have gC := hC0.kb htop gK
      have hc0 := gS.pos
      refine e_iload F dX3_text_29 rfl ?_
      refine e_aload_n F dX3_text_31 rfl ?_
      refine e_get (ci := 3) (fi := 0) (q := (RX3, TX3, 5)) F gC.1 rfl (by decide) w_fl_RX3_10 (by rfl) dX3_text_32 ?_
      refine e_getN (ci := 1) (fi := 4) (q := (RX1, TX1, 5)) F gC.2.1 rfl (by decide) w_fn_RX3_116 (by rfl) dX3_text_35 ?_
      refine e_icmp_gt F 90 dX3_text_38 (by decide) (⟨by omega, by omega⟩) (⟨by omega, by omega⟩) (fun c_38 => ?_) (fun c_38 => ?_)
      · refine e_aload_n F dX3_text_90 rfl ?_
        obtain ⟨q91, b91⟩ := gS.cell
        refine e_callVV F u_J4_toString_0e30d (by rfl) (c_J4_toString_0e30d gS) b91 rfl rfl w_ml_RX3_237 dX3_text_91 (by rfl) (Nat.le_of_ble_eq_true rfl) (by decide) (by omega) (fun _ _ _ h _ => False.elim h) (fun r_91 w_91 n_91 h_91 hn_91 => ?_)
        obtain ⟨rfl, en_91, t1_91, t2_91, K91⟩ := h_91
        refine e_aret F rfl (Or.inl ⟨_, rfl⟩) (Or.inr ⟨_, rfl⟩) (by omega) ?_ dX3_text_94
        obtain ⟨h1, h2, h3⟩ := hok hi w_91 (gK.tr (fun j hj => K91 j (by omega)))
        exact ⟨h1, ⟨_, rfl⟩, h2, h3⟩
      · refine e_iload F dX3_text_41 rfl ?_
        refine e_iconst F dX3_text_43 ?_
        refine e_icmp_le F 54 dX3_text_44 (by decide) (⟨by omega, by omega⟩) (⟨by omega, by omega⟩) (fun c_44 => ?_) (fun c_44 => ?_)
        · first
          | exact e_wid (by omega) (e_go (l54 (by omega) _ _ _ S50 (by omega) (gK.tr K50) (by omega)) (And.intro rfl (And.intro rfl (And.intro rfl (And.intro rfl (trivial))))))
          | exact e_wid (by omega) (e_go (l54 (by omega) _ _ _ gS (by omega) gK gn) (And.intro rfl (And.intro rfl (And.intro rfl (And.intro rfl (trivial))))))
        · refine e_aload_n F dX3_text_47 rfl ?_
          refine e_bipush F dX3_text_48 (by decide) ?_
          obtain ⟨q50, b50⟩ := gS.cell
          refine e_callVV F u_J4_append_cf468 (by rfl) (c_J4_append_cf468 (c := c) (x := 32) gS (by omega) (by omega) (by omega)) b50 rfl rfl w_ml_RX3_241 dX3_text_50 (by rfl) (Nat.le_of_ble_eq_true rfl) (by decide) (by omega) (fun _ _ _ h _ => False.elim h) (fun r_50 w_50 n_50 h_50 hn_50 => ?_)
          obtain ⟨rfl, S50, K50⟩ := h_50
          refine e_pop F dX3_text_53 rfl ?_
          first
          | exact e_wid (by omega) (e_go (l54 (by omega) _ _ _ S50 (by omega) (gK.tr K50) (by omega)) (And.intro rfl (And.intro rfl (And.intro rfl (And.intro rfl (trivial))))))
          | exact e_wid (by omega) (e_go (l54 (by omega) _ _ _ gS (by omega) gK gn) (And.intro rfl (And.intro rfl (And.intro rfl (And.intro rfl (trivial))))))
  refine e_aload_n F dX3_text_0 rfl ?_
  refine e_iload_n F dX3_text_1 rfl ?_
  refine e_callVV F u_X3_dealAt (by rfl) (c_X3_dealAt hX hDA (i := i) hi) hX rfl rfl w_ml_RX3_94 dX3_text_2 (by rfl) (Nat.le_of_ble_eq_true rfl) (by decide) (by omega) (fun E w2 n2 h _ => ⟨Or.inl ⟨h.1, by have q := h.2.1; omega⟩, h.2.2⟩) (fun r_2 w_2 n_2 h_2 hn_2 => ?_)
  obtain ⟨hi1, rfl, ew_2, en_2⟩ := h_2
  rw [ew_2, en_2]
  obtain ⟨hD1, hW1⟩ := hDs i.toNat (by omega)
  refine e_astore_n F dX3_text_5 (by decide) ?_
  refine e_newO F (ci := 6) (q := (RJ4, TJ4, 4)) (fs := [.null, .int (eI 0), .int (eI 0), .int (eI 0)]) rfl (by omega) w_cl_RX3_234 w_is_RJ4 w_in_RJ4 (by decide) (by intro j hj; have hj9 : j < 4 := hj; rcases j with _ | _ | _ | _ | j <;> first | rfl | omega) dX3_text_6 ?_
  refine e_dup F dX3_text_9 rfl ?_
  refine e_callII F u_J4_init_da8c8 (by rfl) (c_J4_init_da8c8 e_up_s) w_ml_RX3_236 dX3_text_10 (by rfl) (Nat.le_of_ble_eq_true rfl) (by decide) (by omega) (fun _ _ _ h _ => False.elim h) (fun r_10 w_10 n_10 h_10 hn_10 => ?_)
  obtain ⟨rfl, en_10, S0, K0⟩ := h_10
  rw [en_10]
  have K1 : KB w w_10 n := fun j hj => by rw [K0 j (by omega) (by omega), e_up_n (by omega)]
  refine e_astore_n F dX3_text_13 (by decide) ?_
  refine e_aload_n F dX3_text_14 rfl ?_
  have hD1b := hD1.fr (w' := w_10) (K1 _ (by omega)) (K1 _ (by omega)) (K1 _ (by omega))
  refine e_callVN F u_X0_isEmpty (by rfl) (c_X0_isEmpty hD1b) hD1b.1 rfl rfl w_mn_RX3_109 dX3_text_15 (by rfl) (Nat.le_of_ble_eq_true rfl) (by decide) (by omega) (fun _ _ _ h _ => False.elim h) (fun r_15 w_15 n_15 h_15 hn_15 => ?_)
  obtain ⟨rfl, ew_15, en_15⟩ := h_15
  rw [ew_15, en_15]
  refine e_if_eq F 26 dX3_text_18 (by decide) (b01_r _) (fun c_18 => ?_) (fun c_18 => ?_)
  · refine e_iconst F dX3_text_26 ?_
    refine e_istore F dX3_text_27 (by decide) ?_
    exact e_wid (by omega) (e_go (lp hi1 9 0 _ 0 _ (by omega) ⟨by omega, S0, by omega, K1, by omega⟩) (And.intro rfl (And.intro rfl (And.intro rfl (And.intro rfl (trivial))))))
  · refine e_aload_n F dX3_text_21 rfl ?_
    obtain ⟨q22, b22⟩ := S0.cell
    refine e_callVV F u_J4_toString_0e30d (by rfl) (c_J4_toString_0e30d S0) b22 rfl rfl w_ml_RX3_237 dX3_text_22 (by rfl) (Nat.le_of_ble_eq_true rfl) (by decide) (by omega) (fun _ _ _ h _ => False.elim h) (fun r_22 w_22 n_22 h_22 hn_22 => ?_)
    obtain ⟨rfl, en_22, t1_22, t2_22, K22⟩ := h_22
    refine e_aret F rfl (Or.inl ⟨_, rfl⟩) (Or.inr ⟨_, rfl⟩) (by omega) ?_ dX3_text_25
    obtain ⟨h1, h2, h3⟩ := hok hi1 w_22 (K1.tr (fun j hj => K22 j (by omega)))
    exact ⟨h1, ⟨_, rfl⟩, h2, h3⟩
