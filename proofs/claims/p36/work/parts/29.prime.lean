set_option maxHeartbeats 4000000 in
set_option maxRecDepth 100000 in
theorem c_X3_prime {K : e_K} {l : Launch} {w : e_W} {n : Nat} {x wh : Nat} {kn : Int} {D : Nat → SD} (hC : CW w x wh kn D) {a : Int} (ha : e_r a) : e_Met K l yX3_prime (Cond.code yX3_prime cX3_prime 4 (Option.some .int) :: e_TB) (7) (1) [.ref x, .int (eI a)] w n (fun r w' n' => (0 ≤ a ∧ a < 7) ∧ r = some (.int (eI (pr wh))) ∧ n' = n ∧ CW w' x a.toNat (kn) (fun _ => SD0) ∧ FR w w' x) (pxd w False (¬ (0 ≤ a ∧ a < 7))) := by
  refine e_ofV rfl (Nat.le_of_ble_eq_true rfl) ?_
  intro P9 E9 S9 M9 A9 B9 T9 C9 F hnm
  have hC0 := hC
  have hDA := hC.2.2.2.2.1
  obtain ⟨hX, hF, hwh, ⟨P0, hQ⟩, ⟨ga, hga, hgj⟩, hDs, s0, hS⟩ := hC
  have hp := pr_rg wh hwh
  have ho9 := ho_rg wh hwh
  have hg9 := gr_rg wh hwh
  have hf9 := fl_rg wh hwh
  refine e_iload_n F dX3_prime_0 rfl ?_
  refine e_if_lt F 12 dX3_prime_1 (by decide) (ha) (fun c_1 => ?_) (fun c_1 => ?_)
  · exact e_throwS (text := "no such prime") F (by decide +kernel) w_cl_RX3_42 w_in_java_lang_IllegalArgumentException (by decide +kernel) hat_ia hgood_ia dX3_prime_12 dX3_prime_15 dX3_prime_16 dX3_prime_18 dX3_prime_21 (Nat.le_of_ble_eq_true rfl) (by decide) (by omega) (fun n2 hn2 => ⟨Or.inr ⟨rfl, by omega⟩, rfl⟩)
  · refine e_iload_n F dX3_prime_4 rfl ?_
    refine e_gets F (i := 0) rfl w_fl_RX3_38 dX3_prime_5 ?_
    refine e_alenS F (i := 0) (by decide) dX3_prime_8 ?_
    refine e_icmp_lt F 22 dX3_prime_9 (by decide) (ha) (⟨by omega, by omega⟩) (fun c_9 => ?_) (fun c_9 => ?_)
    · have hlo : 0 ≤ a := by omega
      have hhi : a < 7 := by omega
      have ha9 : ((a.toNat : Nat) : Int) = a := by omega
      refine e_aload_n F dX3_prime_22 rfl ?_
      refine e_get (ci := 3) (fi := 0) (q := (RX3, TX3, 5)) F (by first | assumption | exact e_up_s | (rw [e_up_n (by first | assumption | omega)]; first | assumption | exact e_up_s | (rw [e_up_n (by first | assumption | omega)]; first | assumption | exact e_up_s | (rw [e_up_n (by first | assumption | omega)]; first | assumption | exact e_up_s))) | exact hD.1 | exact hD1.1 | exact hD2.1 | exact gD.1 | exact gD1.1 | exact gD2.1 | exact gQ.1 | exact hQ.1 | exact gS.1 | exact hS.1 | exact zD.1) rfl (by decide) w_fl_RX3_10 (by rfl) dX3_prime_23 ?_
      refine e_getN (ci := 1) (fi := 1) (q := (RX1, TX1, 5)) F (by first | assumption | exact e_up_s | (rw [e_up_n (by first | assumption | omega)]; first | assumption | exact e_up_s | (rw [e_up_n (by first | assumption | omega)]; first | assumption | exact e_up_s | (rw [e_up_n (by first | assumption | omega)]; first | assumption | exact e_up_s))) | exact hD.1 | exact hD1.1 | exact hD2.1 | exact gD.1 | exact gD1.1 | exact gD2.1 | exact gQ.1 | exact hQ.1 | exact gS.1 | exact hS.1 | exact zD.1) rfl (by decide) w_fn_RX3_49 (by rfl) dX3_prime_26 ?_
      refine e_istore_n F dX3_prime_29 (by decide) ?_
      refine e_aload_n F dX3_prime_30 rfl ?_
      refine e_get (ci := 3) (fi := 0) (q := (RX3, TX3, 5)) F (by first | assumption | exact e_up_s | (rw [e_up_n (by first | assumption | omega)]; first | assumption | exact e_up_s | (rw [e_up_n (by first | assumption | omega)]; first | assumption | exact e_up_s | (rw [e_up_n (by first | assumption | omega)]; first | assumption | exact e_up_s))) | exact hD.1 | exact hD1.1 | exact hD2.1 | exact gD.1 | exact gD1.1 | exact gD2.1 | exact gQ.1 | exact hQ.1 | exact gS.1 | exact hS.1 | exact zD.1) rfl (by decide) w_fl_RX3_10 (by rfl) dX3_prime_31 ?_
      refine e_iload_n F dX3_prime_34 rfl ?_
      have h9 := c_X1_choose (K := K) (l := l) (w := w) (n := n) (wh := a.toNat) hF (by omega)
      rw [ha9] at h9
      refine e_callVN F u_X1_choose (by rfl) (h9) (by first | assumption | exact e_up_s | (rw [e_up_n (by first | assumption | omega)]; first | assumption | exact e_up_s | (rw [e_up_n (by first | assumption | omega)]; first | assumption | exact e_up_s | (rw [e_up_n (by first | assumption | omega)]; first | assumption | exact e_up_s))) | exact hD.1 | exact hD1.1 | exact hD2.1 | exact gD.1 | exact gD1.1 | exact gD2.1 | exact gQ.1 | exact hQ.1 | exact gS.1 | exact hS.1 | exact zD.1) rfl rfl w_mn_RX3_52 dX3_prime_35 (by rfl) (Nat.le_of_ble_eq_true rfl) (by decide) (by omega) (fun _ _ _ h _ => False.elim h) (fun r_35 w_35 n_35 h_35 hn_35 => ?_)
      obtain ⟨rfl, f1, fF, en_35⟩ := h_35
      rw [en_35]
      have lp : ∀ (N : Nat) (k : Nat) (wl : e_W), (6 - k) < N → (k ≤ 6 ∧ wl (x + 1) = some (FO a.toNat) ∧ (∀ q, q ≠ x + 1 → (q < x + 6 ∨ x + 24 ≤ q) → wl q = w q) ∧ ∀ j : Nat, j < 6 → DS wl (x + 6 + 3 * j) (if j < k then SD0 else D j)) → e_V K P9 l E9 (7) (1) S9 M9 A9 B9 T9 C9 4 (fun r w' n' => (0 ≤ a ∧ a < 7) ∧ r = some (.int (eI (pr wh))) ∧ n' = n ∧ CW w' x a.toNat (kn) (fun _ => SD0) ∧ FR w w' x) (pxd w False (¬ (0 ≤ a ∧ a < 7))) 40 [(0, .ref x), (2, .int (eI (pr wh))), (3, .int (eI (k : Int)))] [] wl n ((0 + 0)) := by
        intro N
        induction N with
        | zero => intro k wl hN; exact absurd hN (Nat.not_lt_zero _)
        | succ N ih =>
          intro k wl hN ⟨hk, g1, gF, gD⟩
          have hga2 : wl (x + 5) = some (.inr (9, 6, ga)) := by rw [gF _ (by omega) (by omega)]; exact hga
          have gX : wl x = some (SO x kn) := by rw [gF _ (by omega) (by omega)]; exact hX
          refine e_iload_n F dX3_prime_40 rfl ?_
          refine e_aload_n F dX3_prime_41 rfl ?_
          refine e_get (ci := 3) (fi := 2) (q := (RX3, TX3, 5)) F (by first | assumption | exact e_up_s | (rw [e_up_n (by first | assumption | omega)]; first | assumption | exact e_up_s | (rw [e_up_n (by first | assumption | omega)]; first | assumption | exact e_up_s | (rw [e_up_n (by first | assumption | omega)]; first | assumption | exact e_up_s))) | exact hD.1 | exact hD1.1 | exact hD2.1 | exact gD.1 | exact gD1.1 | exact gD2.1 | exact gQ.1 | exact hQ.1 | exact gS.1 | exact hS.1 | exact zD.1) rfl (by decide) w_fl_RX3_25 (by rfl) dX3_prime_42 ?_
          refine e_alen9 F (by first | assumption | exact e_up_s | (rw [e_up_n (by first | assumption | omega)]; first | assumption | exact e_up_s | (rw [e_up_n (by first | assumption | omega)]; first | assumption | exact e_up_s | (rw [e_up_n (by first | assumption | omega)]; first | assumption | exact e_up_s))) | exact hD.1 | exact hD1.1 | exact hD2.1 | exact gD.1 | exact gD1.1 | exact gD2.1 | exact gQ.1 | exact hQ.1 | exact gS.1 | exact hS.1 | exact zD.1) dX3_prime_45 ?_
          refine e_icmp_ge F 64 dX3_prime_46 (by decide) (⟨by omega, by omega⟩) (⟨by omega, by omega⟩) (fun c_46 => ?_) (fun c_46 => ?_)
          ·
            obtain rfl : k = 6 := by omega
            refine e_iload_n F dX3_prime_64 rfl ?_
            refine e_iret F rfl (by omega) ?_ dX3_prime_65
            refine ⟨⟨hlo, hhi⟩, rfl, rfl, ⟨gX, g1, by omega, ⟨P0, hQ.fr (gF _ (by omega) (by omega)) (gF _ (by omega) (by omega)) (gF _ (by omega) (by omega))⟩, ⟨ga, hga2, hgj⟩, fun j hj => ⟨?_, SD0_SW _⟩, s0, hS.fr (gF _ (by omega) (by omega)) (gF _ (by omega) (by omega)) (gF _ (by omega) (by omega))⟩, fun q hq => gF q (by omega) (by omega)⟩
            have h9 := gD j hj
            rw [if_pos hj] at h9
            exact h9
          · refine e_aload_n F dX3_prime_49 rfl ?_
            refine e_get (ci := 3) (fi := 2) (q := (RX3, TX3, 5)) F (by first | assumption | exact e_up_s | (rw [e_up_n (by first | assumption | omega)]; first | assumption | exact e_up_s | (rw [e_up_n (by first | assumption | omega)]; first | assumption | exact e_up_s | (rw [e_up_n (by first | assumption | omega)]; first | assumption | exact e_up_s))) | exact hD.1 | exact hD1.1 | exact hD2.1 | exact gD.1 | exact gD1.1 | exact gD2.1 | exact gQ.1 | exact hQ.1 | exact gS.1 | exact hS.1 | exact zD.1) rfl (by decide) w_fl_RX3_25 (by rfl) dX3_prime_50 ?_
            refine e_iload_n F dX3_prime_53 rfl ?_
            refine e_aald9 F hga2 (by omega) (by omega) (by decide) (hgj k (by omega)) dX3_prime_54 ?_
            have hDk := gD k (by omega)
            rw [if_neg (Nat.lt_irrefl k)] at hDk
            obtain ⟨qf, qf1, qf2⟩ := hDk.2.1
            refine e_callVN F u_X0_clear (by rfl) (c_X0_clear hDk.1 qf1) hDk.1 rfl rfl w_mn_RX3_56 dX3_prime_55 (by rfl) (Nat.le_of_ble_eq_true rfl) (by decide) (by omega) (fun _ _ _ h _ => False.elim h) (fun r_55 w_55 n_55 h_55 hn_55 => ?_)
            
            refine e_iinc F dX3_prime_58 rfl (by decide) ?_
            refine e_goto F 40 dX3_prime_61 (by decide) ?_
            obtain ⟨rfl, en_55, z0, z1, zF⟩ := h_55
            rw [en_55]
            refine e_go (ih (k + 1) w_55 (by omega) ⟨by omega, by rw [zF _ (by omega) (by omega)]; exact g1, fun q a1 a2 => by rw [zF q (by omega) (by omega)]; exact gF q a1 a2, fun j hj => ?_⟩) (And.intro rfl (And.intro rfl (And.intro rfl (trivial))))
            by_cases e9 : j = k
            · subst e9
              rw [if_pos (Nat.lt_succ_self j)]
              exact clearD (gD j hj) z0 z1 zF
            · have h9 := gD j hj
              by_cases e8 : j < k
              · rw [if_pos e8] at h9
                rw [if_pos (by omega)]
                exact h9.fr (zF _ (by omega) (by omega)) (zF _ (by omega) (by omega)) (zF _ (by omega) (by omega))
              · rw [if_neg e8] at h9
                rw [if_neg (by omega)]
                exact h9.fr (zF _ (by omega) (by omega)) (zF _ (by omega) (by omega)) (zF _ (by omega) (by omega))
      refine e_iconst F dX3_prime_38 ?_
      refine e_istore_n F dX3_prime_39 (by decide) ?_
      exact e_go (lp 7 0 w_35 (by omega) ⟨by omega, f1, fun q a1 _ => fF q a1, fun j hj => by rw [if_neg (Nat.not_lt_zero j)]; exact (hDs j hj).1.fr (fF _ (by omega)) (fF _ (by omega)) (fF _ (by omega))⟩) (And.intro rfl (And.intro rfl (And.intro rfl (trivial))))
    · exact e_throwS (text := "no such prime") F (by decide +kernel) w_cl_RX3_42 w_in_java_lang_IllegalArgumentException (by decide +kernel) hat_ia hgood_ia dX3_prime_12 dX3_prime_15 dX3_prime_16 dX3_prime_18 dX3_prime_21 (Nat.le_of_ble_eq_true rfl) (by decide) (by omega) (fun n2 hn2 => ⟨Or.inr ⟨rfl, by omega⟩, rfl⟩)
