theorem av_if {v u gv : Int} (h : (v < 0 ∧ v = -1 ∧ u = 1) ∨ (0 ≤ v ∧ v < gv ∧ u = v)) : u = (if v < 0 then 1 else v) := by
  rcases h with z | z
  · rw [if_pos z.1]; exact z.2.2
  · rw [if_neg (by omega)]; exact z.2.2
theorem xy_r {a b : Int} (ha : -1 ≤ a ∧ a < 1000003) (hb : -1 ≤ b ∧ b < 1000003) : e_r8 (a * b) := by
  by_cases c : 0 ≤ a
  · exact mul_rg2 c (by omega) (by omega) (by omega)
  · have e : a = -1 := by omega
    rw [e, Int.neg_mul, Int.one_mul]
    constructor <;> omega
section
variable {K : e_K} {p : Program} {l : Launch} {e : Env} {d mc : Nat} {s : State} {m : MethodId} {args : Array Value} {below : List Frame} {meth : Method} {c : Code} {cc : ByteArray} {nL : Nat} {ret : Option FieldType} {own : String} {post : Option Value → e_W → Nat → Prop} {px : String → e_W → Nat → Prop} {pc : Nat} {L : List (Nat × Value)} {st : List Value} {w : e_W} {n k : Nat}
theorem e_icmpq9 (F : e_F K p l s m args meth c cc nL ret own) {u : Int32} {off : Int} (tgt : Nat) (hd : decode cc pc = .ok (.if_icmp .eq off, 3)) (ht : (pc : Int) + off = (tgt : Int)) (kk : e_V K p l e d mc s m args below meth c nL post px tgt L st w n k) : e_V K p l e d mc s m args below meth c nL post px pc L (.int u :: .int u :: st) w n k :=
  fun H locs ls hl hR hz => lv_icmp_eq F.1 F.2.1 hd ht (fun _ => kk H locs ls hl hR hz) (fun h2 => absurd rfl h2)
end
set_option maxHeartbeats 4000000 in
set_option maxRecDepth 100000 in
theorem c_L_areJoined {K : e_K} {l : Launch} {w : e_W} {n : Nat} {x wh : Nat} {D : Nat → SD} (hC : CW w x wh 0 D) (hQ : ∃ R, GG wh D R) {i j : Int} (hi : 0 ≤ i ∧ i < 5) (hj : 0 ≤ j ∧ j < 5) : e_Met K l yL_areJoined (Cond.code yL_areJoined cL_areJoined 16 (Option.some .boolean) :: e_TB) (9) (250) [.ref x, .int (eI i), .int (eI j)] w n (fun r w' n' => r = some (.int (eI 1)) ∧ ∃ D2, QW w' x wh 0 D2 ∧ O5 D D2) (e_px0) := by
  refine e_ofV rfl (Nat.le_of_ble_eq_true rfl) ?_
  intro P9 E9 S9 M9 A9 B9 T9 C9 F hnm
  have hwh := hC.2.2.1
  have hp := pr_rg wh hwh
  have hg9 := gr_rg wh hwh
  have ho9 := ho_rg wh hwh
  have hi6 : i.toNat < 6 := by omega
  have hi5 : i.toNat ≠ 5 := by omega
  have hj6 : j.toNat < 6 := by omega
  have hj5 : j.toNat ≠ 5 := by omega
  have hC0 := hC
  obtain ⟨R, G⟩ := hQ
  have hQ : ∃ R, GG wh D R := ⟨R, G⟩
  have g1 := G.2.2 i.toNat hi6
  have g2 := G.2.2 j.toNat hj6
  have d1 := g1.2.1
  have d2 := g2.2.1
  have s1 := st7_rg (D i.toNat).A
  have s2 := st7_rg (D j.toNat).A
  have hB1 := fun k h0 h1 => (hC0.2.2.2.2.2.1 i.toNat hi6).2.2.1 k h0 h1
  have hB2 := fun k h0 h1 => (hC0.2.2.2.2.2.1 j.toNat hj6).2.2.1 k h0 h1
  have hland : 0 ≤ (((st7 (D i.toNat).A).toNat &&& (st7 (D j.toNat).A).toNat : Nat) : Int) ∧ (((st7 (D i.toNat).A).toNat &&& (st7 (D j.toNat).A).toNat : Nat) : Int) < 128 := by
    have := Nat.and_le_left (n := (st7 (D i.toNat).A).toNat) (m := (st7 (D j.toNat).A).toNat)
    omega
  have bl9 := bc_rg hland.1 hland.2
  obtain ⟨cm, hcm⟩ : ∃ cm, cm = bc (((st7 (D i.toNat).A).toNat &&& (st7 (D j.toNat).A).toNat : Nat) : Int) := ⟨_, rfl⟩
  have x5 := od_r G.1 g1 5
  have y5 := od_r G.1 g2 5
  have l254 : odV wh (D i.toNat) 4 = 1 → odV wh (D j.toNat) 4 = 1 → (D i.toNat).dg < cm → (D j.toNat).dg < cm → ∀ (w1 : e_W) (n1 k1 : Nat) (k9 : Int) (D1 : Nat → SD), QW w1 x wh 0 D1 → O5 D D1 → k1 ≤ 150 → e_V K P9 l E9 (9) (250) S9 M9 A9 B9 T9 C9 16 (fun r w' n' => r = some (.int (eI 1)) ∧ ∃ D2, QW w' x wh 0 D2 ∧ O5 D D2) (e_px0) 254 [(0, .ref x), (1, .int (eI i)), (2, .int (eI j)), (3, .int (eI (pr wh))), (4, .int (eI cm)), (5, .int (eI (D i.toNat).dg)), (6, .int (eI (D j.toNat).dg)), (7, .long (eJ (odV wh (D i.toNat) 5))), (9, .long (eJ (odV wh (D j.toNat) 5))), (11, .int (eI k9))] [] w1 n1 (k1) := by
    intro h41 h42 c1 c2 w1 n1 k1 k9 D1 hQW hO hk1
    obtain ⟨hC, hQ1⟩ := hQW
    have eD := hO i.toNat hi5
    have eE := hO j.toNat hj5
    have f1 := (odV4.mp h41).1
    have f2 := (odV4.mp h42).1
    refine e_aload_n F dL_areJoined_254 rfl ?_
    refine e_iload_n F dL_areJoined_255 rfl ?_
    refine e_iload_n F dL_areJoined_256 rfl ?_
    refine e_iconst F dL_areJoined_257 ?_
    refine e_callVV F u_X3_less (by rfl) (c_X3_less hC (by constructor <;> omega) (by constructor <;> omega) (by constructor <;> omega)) hC.1 rfl rfl w_ml_RL_78 dL_areJoined_258 (by rfl) (Nat.le_of_ble_eq_true rfl) (by decide) (by omega) (fun E w2 n2 h _ => by obtain ⟨⟨-, q⟩ | ⟨-, q⟩, -⟩ := h <;> first | exact q.elim | omega) (fun r_258 w_258 n_258 h_258 hn_258 => ?_)
    obtain ⟨-, rfl, en_258, hC, -⟩ := h_258
    obtain ⟨e258, D2, ⟨hC, hQ2⟩, hO2, h52, h62, -⟩ := n_join (cm := cm) hQ1 hi6 hj6 (Or.inr ⟨rfl, rfl⟩) hC (by rw [eD]; exact h41) (by rw [eE]; exact h42) (by rw [eD, eE]; exact hcm) (by rw [eD]; exact c1) (by rw [eE]; exact c2)
    rw [e258]
    rw [eD, eE] at h62
    have eD2 : D2 i.toNat = D i.toNat := by rw [hO2 _ hi5, eD]
    have eE2 : D2 j.toNat = D j.toNat := by rw [hO2 _ hj5, eE]
    refine e_iload F dL_areJoined_261 rfl ?_
    refine e_icmp_ne F 294 dL_areJoined_263 (by decide) (⟨by omega, by omega⟩) (⟨by omega, by omega⟩) (fun c_263 => ?_) (fun c_263 => ?_)
    · exact absurd rfl c_263
    · refine e_aload_n F dL_areJoined_266 rfl ?_
      refine e_iconst F dL_areJoined_267 ?_
      refine e_iconst F dL_areJoined_268 ?_
      refine e_callVV F u_X3_ofDeal (by rfl) (c_X3_ofDeal hC (by constructor <;> omega) (by constructor <;> omega)) hC.1 rfl rfl w_ml_RL_127 dL_areJoined_269 (by rfl) (Nat.le_of_ble_eq_true rfl) (by decide) (by omega) (fun E w2 n2 h _ => by obtain ⟨⟨-, q⟩ | ⟨-, q⟩, -⟩ := h <;> first | exact q.elim | omega) (fun r_269 w_269 n_269 h_269 hn_269 => ?_)
      obtain ⟨-, rfl, en_269, hC, -⟩ := h_269
      refine e_iconst F dL_areJoined_272 ?_
      refine e_icmp_ne F 294 dL_areJoined_273 (by decide) (od_e5 hQ2 _) (by decide) (fun c_273 => ?_) (fun c_273 => ?_)
      · exact absurd h52 c_273
      · refine e_aload_n F dL_areJoined_276 rfl ?_
        refine e_iconst F dL_areJoined_277 ?_
        refine e_iconst F dL_areJoined_278 ?_
        refine e_callVV F u_X3_ofDeal (by rfl) (c_X3_ofDeal hC (by constructor <;> omega) (by constructor <;> omega)) hC.1 rfl rfl w_ml_RL_127 dL_areJoined_279 (by rfl) (Nat.le_of_ble_eq_true rfl) (by decide) (by omega) (fun E w2 n2 h _ => by obtain ⟨⟨-, q⟩ | ⟨-, q⟩, -⟩ := h <;> first | exact q.elim | omega) (fun r_279 w_279 n_279 h_279 hn_279 => ?_)
        obtain ⟨-, rfl, en_279, hC, -⟩ := h_279
        refine e_lload F dL_areJoined_282 rfl ?_
        refine e_lload F dL_areJoined_284 rfl ?_
        refine e_lsub F dL_areJoined_286 ?_
        refine e_iload_n F dL_areJoined_287 rfl ?_
        refine e_callSS F u_L_mod (by rfl) (c_L_mod (v := odV wh (D i.toNat) 5 - odV wh (D j.toNat) 5) (p9 := pr wh) (by constructor <;> omega) (by omega) (by omega)) w_ml_RL_164 dL_areJoined_288 (by rfl) (Nat.le_of_ble_eq_true rfl) (by decide) (by omega) (fun _ _ _ h _ => False.elim h) (fun r_288 w_288 n_288 h_288 hn_288 => ?_)
        obtain ⟨rfl, ew_288, en_288⟩ := h_288
        rw [ew_288, en_288]
        refine e_icmp_eq F 296 dL_areJoined_291 (by decide) (od_e5 hQ2 _) (by have q := emod_rg (odV wh (D i.toNat) 5 - odV wh (D j.toNat) 5) hwh; constructor <;> omega) (fun c_291 => ?_) (fun c_291 => ?_)
        · refine e_iload F dL_areJoined_296 rfl ?_
          refine e_iload F dL_areJoined_298 rfl ?_
          refine e_iadd F dL_areJoined_300 ?_
          refine e_bipush F dL_areJoined_301 (by decide) ?_
          refine e_icmp_le F 324 dL_areJoined_303 (by decide) (⟨by omega, by omega⟩) (⟨by omega, by omega⟩) (fun c_303 => ?_) (fun c_303 => ?_)
          · refine e_aload_n F dL_areJoined_324 rfl ?_
            refine e_iload_n F dL_areJoined_325 rfl ?_
            refine e_iload_n F dL_areJoined_326 rfl ?_
            refine e_iconst F dL_areJoined_327 ?_
            refine e_callVV F u_X3_times (by rfl) (c_X3_times hC (by constructor <;> omega) (by constructor <;> omega) (by constructor <;> omega)) hC.1 rfl rfl w_ml_RL_81 dL_areJoined_328 (by rfl) (Nat.le_of_ble_eq_true rfl) (by decide) (by omega) (fun E w2 n2 h _ => by obtain ⟨⟨-, q⟩ | ⟨-, q⟩, -⟩ := h <;> first | exact q.elim | omega) (fun r_328 w_328 n_328 h_328 hn_328 => ?_)
            obtain ⟨-, rfl, en_328, hC, -⟩ := h_328
            obtain ⟨e328, D3, ⟨hC, hQ3⟩, hO3, h63⟩ := n_times (cm := cm) hQ2 hi6 hj6 hC (by rw [eD2]; exact h41) (by rw [eE2]; exact h42) (by rw [eD2, eE2]; exact hcm) (by rw [eD2, eE2]; omega)
            rw [e328]
            rw [eD2, eE2] at h63
            refine e_iload F dL_areJoined_331 rfl ?_
            refine e_icmp_eq F 338 dL_areJoined_333 (by decide) (⟨by omega, by omega⟩) (⟨by omega, by omega⟩) (fun c_333 => ?_) (fun c_333 => ?_)
            · refine e_iload F dL_areJoined_338 rfl ?_
              refine e_iload F dL_areJoined_340 rfl ?_
              refine e_iload F dL_areJoined_342 rfl ?_
              refine e_iadd F dL_areJoined_344 ?_
              refine e_icmp_le F 376 dL_areJoined_345 (by decide) (⟨by omega, by omega⟩) (⟨by omega, by omega⟩) (fun c_345 => ?_) (fun c_345 => ?_)
              · refine e_iconst F dL_areJoined_376 ?_
                refine e_goto F 381 dL_areJoined_377 (by decide) ?_
                refine e_zret F rfl (by omega) (by omega) ?_ dL_areJoined_381
                exact ⟨rfl, _, ⟨hC, hQ3⟩, (hO.tr hO2).tr hO3⟩
              · refine e_aload_n F dL_areJoined_348 rfl ?_
                refine e_iconst F dL_areJoined_349 ?_
                refine e_iconst F dL_areJoined_350 ?_
                refine e_callVV F u_X3_ofDeal (by rfl) (c_X3_ofDeal hC (by constructor <;> omega) (by constructor <;> omega)) hC.1 rfl rfl w_ml_RL_127 dL_areJoined_351 (by rfl) (Nat.le_of_ble_eq_true rfl) (by decide) (by omega) (fun E w2 n2 h _ => by obtain ⟨⟨-, q⟩ | ⟨-, q⟩, -⟩ := h <;> first | exact q.elim | omega) (fun r_351 w_351 n_351 h_351 hn_351 => ?_)
                obtain ⟨-, rfl, en_351, hC, -⟩ := h_351
                have k63 := h63 (by omega)
                refine e_iconst F dL_areJoined_354 ?_
                refine e_icmp_ne F 380 dL_areJoined_355 (by decide) (od_e5 hQ3 _) (by decide) (fun c_355 => ?_) (fun c_355 => ?_)
                · exact absurd k63.1 c_355
                · refine e_aload_n F dL_areJoined_358 rfl ?_
                  refine e_iconst F dL_areJoined_359 ?_
                  refine e_iconst F dL_areJoined_360 ?_
                  refine e_callVV F u_X3_ofDeal (by rfl) (c_X3_ofDeal hC (by constructor <;> omega) (by constructor <;> omega)) hC.1 rfl rfl w_ml_RL_127 dL_areJoined_361 (by rfl) (Nat.le_of_ble_eq_true rfl) (by decide) (by omega) (fun E w2 n2 h _ => by obtain ⟨⟨-, q⟩ | ⟨-, q⟩, -⟩ := h <;> first | exact q.elim | omega) (fun r_361 w_361 n_361 h_361 hn_361 => ?_)
                  obtain ⟨-, rfl, en_361, hC, -⟩ := h_361
                  refine e_lload F dL_areJoined_364 rfl ?_
                  refine e_lload F dL_areJoined_366 rfl ?_
                  refine e_lmul F dL_areJoined_368 ?_
                  refine e_iload_n F dL_areJoined_369 rfl ?_
                  refine e_callSS F u_L_mod (by rfl) (c_L_mod (v := odV wh (D i.toNat) 5 * odV wh (D j.toNat) 5) (p9 := pr wh) (xy_r (by omega) (by omega)) (by omega) (by omega)) w_ml_RL_164 dL_areJoined_370 (by rfl) (Nat.le_of_ble_eq_true rfl) (by decide) (by omega) (fun _ _ _ h _ => False.elim h) (fun r_370 w_370 n_370 h_370 hn_370 => ?_)
                  obtain ⟨rfl, ew_370, en_370⟩ := h_370
                  rw [ew_370, en_370]
                  refine e_icmp_ne F 380 dL_areJoined_373 (by decide) (od_e5 hQ3 _) (by have q := emod_rg (odV wh (D i.toNat) 5 * odV wh (D j.toNat) 5) hwh; constructor <;> omega) (fun c_373 => ?_) (fun c_373 => ?_)
                  · exact absurd k63.2 c_373
                  · refine e_iconst F dL_areJoined_376 ?_
                    refine e_goto F 381 dL_areJoined_377 (by decide) ?_
                    refine e_zret F rfl (by omega) (by omega) ?_ dL_areJoined_381
                    exact ⟨rfl, _, ⟨hC, hQ3⟩, (hO.tr hO2).tr hO3⟩
            · exact absurd rfl c_333
          · refine e_aload_n F dL_areJoined_306 rfl ?_
            refine e_iload_n F dL_areJoined_307 rfl ?_
            refine e_iload_n F dL_areJoined_308 rfl ?_
            refine e_iconst F dL_areJoined_309 ?_
            refine e_callVV F u_X3_times (by rfl) (c_X3_times hC (by constructor <;> omega) (by constructor <;> omega) (by constructor <;> omega)) hC.1 rfl rfl w_ml_RL_81 dL_areJoined_310 (by rfl) (Nat.le_of_ble_eq_true rfl) (by decide) (by omega) (fun E w2 n2 h _ => by obtain ⟨⟨-, q⟩ | ⟨-, q⟩, -⟩ := h <;> first | exact q.elim | omega) (fun r_310 w_310 n_310 h_310 hn_310 => ?_)
            obtain ⟨-, rfl, en_310, hC, -⟩ := h_310
            have e310 := n_times9 (wh := wh) (i := i.toNat) (j := j.toNat) (D := D2) (by rw [eD2, eE2]; omega)
            rw [e310] at hC
            rw [e310]
            refine e_bipush F dL_areJoined_313 (by decide) ?_
            refine e_icmp_ne F 322 dL_areJoined_315 (by decide) (⟨by omega, by omega⟩) (⟨by omega, by omega⟩) (fun c_315 => ?_) (fun c_315 => ?_)
            · exact absurd rfl c_315
            · refine e_iconst F dL_areJoined_318 ?_
              refine e_goto F 323 dL_areJoined_319 (by decide) ?_
              refine e_zret F rfl (by omega) (by omega) ?_ dL_areJoined_323
              exact ⟨rfl, _, ⟨hC, hQ2⟩, hO.tr hO2⟩
        · exact absurd (show odV wh (D2 5) 5 = _ from h62.trans (by rw [Int.neg_mul, Int.one_mul, Int.sub_eq_add_neg])) c_291
  have lp : odV wh (D i.toNat) 4 = 1 → odV wh (D j.toNat) 4 = 1 → (D i.toNat).dg < cm → (D j.toNat).dg < cm → ∀ (N k : Nat) (w1 : e_W) (n1 k1 : Nat) (D1 : Nat → SD), 5 - k < N → k ≤ 4 → QW w1 x wh 0 D1 → O5 D D1 → D1 5 = auR wh 0 (D i.toNat) (D j.toNat) → k1 ≤ 50 + 20 * k → e_V K P9 l E9 (9) (250) S9 M9 A9 B9 T9 C9 16 (fun r w' n' => r = some (.int (eI 1)) ∧ ∃ D2, QW w' x wh 0 D2 ∧ O5 D D2) (e_px0) 141 [(0, .ref x), (1, .int (eI i)), (2, .int (eI j)), (3, .int (eI (pr wh))), (4, .int (eI cm)), (5, .int (eI (D i.toNat).dg)), (6, .int (eI (D j.toNat).dg)), (7, .long (eJ (odV wh (D i.toNat) 5))), (9, .long (eJ (odV wh (D j.toNat) 5))), (11, .int (eI (k : Int)))] [] w1 n1 (k1) := by
    intro h41 h42 c1 c2 N
    induction N with
    | zero => intro k w1 n1 k1 D1 hN; exact absurd hN (Nat.not_lt_zero _)
    | succ N ih =>
      intro k w1 n1 k1 D1 hN hk hQW hO e5 hk1
      obtain ⟨hC, hQ1⟩ := hQW
      have eD := hO i.toNat hi5
      have eE := hO j.toNat hj5
      obtain ⟨va, eva, hva⟩ : ∃ v1, (if 0 ≤ (k : Int) ∧ (k : Int) < (D i.toNat).sc then (D i.toNat).B (k : Int) else -1) = v1 ∧ ((v1 < 0 ∧ v1 = -1 ∧ (if (k : Int) < (D i.toNat).sc then (D i.toNat).B (k : Int) else 1) = 1) ∨ (0 ≤ v1 ∧ v1 < gr wh ∧ (if (k : Int) < (D i.toNat).sc then (D i.toNat).B (k : Int) else 1) = v1)) := by
        refine ⟨_, rfl, ?_⟩
        by_cases q : (k : Int) < (D i.toNat).sc
        · have z := (hB1 (k : Int) (by omega) q).1
          rw [if_pos (show 0 ≤ (k : Int) ∧ (k : Int) < (D i.toNat).sc from ⟨by omega, q⟩), if_pos q]; exact Or.inr ⟨z.1, z.2, rfl⟩
        · rw [if_neg (show ¬ (0 ≤ (k : Int) ∧ (k : Int) < (D i.toNat).sc) from fun z => q z.2), if_neg q]; exact Or.inl ⟨by decide, rfl, rfl⟩
      obtain ⟨vb, evb, hvb⟩ : ∃ v1, (if 0 ≤ (k : Int) ∧ (k : Int) < (D j.toNat).sc then (D j.toNat).B (k : Int) else -1) = v1 ∧ ((v1 < 0 ∧ v1 = -1 ∧ (if (k : Int) < (D j.toNat).sc then (D j.toNat).B (k : Int) else 1) = 1) ∨ (0 ≤ v1 ∧ v1 < gr wh ∧ (if (k : Int) < (D j.toNat).sc then (D j.toNat).B (k : Int) else 1) = v1)) := by
        refine ⟨_, rfl, ?_⟩
        by_cases q : (k : Int) < (D j.toNat).sc
        · have z := (hB2 (k : Int) (by omega) q).1
          rw [if_pos (show 0 ≤ (k : Int) ∧ (k : Int) < (D j.toNat).sc from ⟨by omega, q⟩), if_pos q]; exact Or.inr ⟨z.1, z.2, rfl⟩
        · rw [if_neg (show ¬ (0 ≤ (k : Int) ∧ (k : Int) < (D j.toNat).sc) from fun z => q z.2), if_neg q]; exact Or.inl ⟨by decide, rfl, rfl⟩
      refine e_iload F dL_areJoined_141 rfl ?_
      refine e_iconst F dL_areJoined_143 ?_
      refine e_icmp_ge F 254 dL_areJoined_144 (by decide) (⟨by omega, by omega⟩) (⟨by omega, by omega⟩) (fun c_144 => ?_) (fun c_144 => ?_)
      · exact e_go (l254 h41 h42 c1 c2 _ _ _ (k : Int) D1 ⟨hC, hQ1⟩ hO (by omega)) (And.intro rfl (And.intro rfl (And.intro rfl (And.intro rfl (And.intro rfl (And.intro rfl (And.intro rfl (And.intro rfl (And.intro rfl (And.intro rfl (trivial)))))))))))
      · refine e_aload_n F dL_areJoined_147 rfl ?_
        refine e_iconst F dL_areJoined_148 ?_
        refine e_iconst F dL_areJoined_149 ?_
        refine e_callVV F u_X3_ofDeal (by rfl) (c_X3_ofDeal hC (by constructor <;> omega) (by constructor <;> omega)) hC.1 rfl rfl w_ml_RL_127 dL_areJoined_150 (by rfl) (Nat.le_of_ble_eq_true rfl) (by decide) (by omega) (fun E w2 n2 h _ => by obtain ⟨⟨-, q⟩ | ⟨-, q⟩, -⟩ := h <;> first | exact q.elim | omega) (fun r_150 w_150 n_150 h_150 hn_150 => ?_)
        obtain ⟨-, rfl, en_150, hC, -⟩ := h_150
        rw [show odV wh (D1 (5 : Int).toNat) 3 = b01 (0 < (auR wh 0 (D i.toNat) (D j.toNat)).sc) from by show b01 (0 < (D1 5).sc) = _; rw [e5]]
        refine e_iconst F dL_areJoined_153 ?_
        refine e_icmp_ne F 254 dL_areJoined_154 (by decide) (b01_r _) (by decide) (fun c_154 => ?_) (fun c_154 => ?_)
        · exact e_go (l254 h41 h42 c1 c2 _ _ _ (k : Int) D1 ⟨hC, hQ1⟩ hO (by omega)) (And.intro rfl (And.intro rfl (And.intro rfl (And.intro rfl (And.intro rfl (And.intro rfl (And.intro rfl (And.intro rfl (And.intro rfl (And.intro rfl (trivial)))))))))))
        · refine e_aload_n F dL_areJoined_157 rfl ?_
          refine e_iload_n F dL_areJoined_158 rfl ?_
          refine e_iload F dL_areJoined_159 rfl ?_
          refine e_callVV F u_X3_seal (by rfl) (c_X3_seal hC (by constructor <;> omega) (by constructor <;> omega)) hC.1 rfl rfl w_ml_RL_161 dL_areJoined_161 (by rfl) (Nat.le_of_ble_eq_true rfl) (by decide) (by omega) (fun E w2 n2 h _ => by obtain ⟨⟨-, q⟩ | ⟨-, q⟩, -⟩ := h <;> first | exact q.elim | omega) (fun r_161 w_161 n_161 h_161 hn_161 => ?_)
          obtain ⟨-, rfl, en_161, hC, -⟩ := h_161
          rw [eD, eva]
          refine e_if_ge F 171 dL_areJoined_164 (by decide) (by rcases hva with z | z <;> constructor <;> omega) (fun c_164 => ?_) (fun c_164 => ?_)
          · refine e_aload_n F dL_areJoined_171 rfl ?_
            refine e_iload_n F dL_areJoined_172 rfl ?_
            refine e_iload F dL_areJoined_173 rfl ?_
            refine e_callVV F u_X3_seal (by rfl) (c_X3_seal hC (by constructor <;> omega) (by constructor <;> omega)) hC.1 rfl rfl w_ml_RL_161 dL_areJoined_175 (by rfl) (Nat.le_of_ble_eq_true rfl) (by decide) (by omega) (fun E w2 n2 h _ => by obtain ⟨⟨-, q⟩ | ⟨-, q⟩, -⟩ := h <;> first | exact q.elim | omega) (fun r_175 w_175 n_175 h_175 hn_175 => ?_)
            obtain ⟨-, rfl, en_175, hC, -⟩ := h_175
            rw [eD, eva]
            refine e_i2l F dL_areJoined_178 (by rcases hva with z | z <;> constructor <;> omega) ?_
            refine e_lstore F dL_areJoined_179 (by decide) ?_
            refine e_aload_n F dL_areJoined_181 rfl ?_
            refine e_iload_n F dL_areJoined_182 rfl ?_
            refine e_iload F dL_areJoined_183 rfl ?_
            refine e_callVV F u_X3_seal (by rfl) (c_X3_seal hC (by constructor <;> omega) (by constructor <;> omega)) hC.1 rfl rfl w_ml_RL_161 dL_areJoined_185 (by rfl) (Nat.le_of_ble_eq_true rfl) (by decide) (by omega) (fun E w2 n2 h _ => by obtain ⟨⟨-, q⟩ | ⟨-, q⟩, -⟩ := h <;> first | exact q.elim | omega) (fun r_185 w_185 n_185 h_185 hn_185 => ?_)
            obtain ⟨-, rfl, en_185, hC, -⟩ := h_185
            rw [eE, evb]
            refine e_if_ge F 195 dL_areJoined_188 (by decide) (by rcases hvb with z | z <;> constructor <;> omega) (fun c_188 => ?_) (fun c_188 => ?_)
            · refine e_aload_n F dL_areJoined_195 rfl ?_
              refine e_iload_n F dL_areJoined_196 rfl ?_
              refine e_iload F dL_areJoined_197 rfl ?_
              refine e_callVV F u_X3_seal (by rfl) (c_X3_seal hC (by constructor <;> omega) (by constructor <;> omega)) hC.1 rfl rfl w_ml_RL_161 dL_areJoined_199 (by rfl) (Nat.le_of_ble_eq_true rfl) (by decide) (by omega) (fun E w2 n2 h _ => by obtain ⟨⟨-, q⟩ | ⟨-, q⟩, -⟩ := h <;> first | exact q.elim | omega) (fun r_199 w_199 n_199 h_199 hn_199 => ?_)
              obtain ⟨-, rfl, en_199, hC, -⟩ := h_199
              rw [eE, evb]
              refine e_i2l F dL_areJoined_202 (by rcases hvb with z | z <;> constructor <;> omega) ?_
              refine e_lstore F dL_areJoined_203 (by decide) ?_
              refine e_aload_n F dL_areJoined_205 rfl ?_
              refine e_iconst F dL_areJoined_206 ?_
              refine e_iload F dL_areJoined_207 rfl ?_
              refine e_callVV F u_X3_seal (by rfl) (c_X3_seal hC (by constructor <;> omega) (by constructor <;> omega)) hC.1 rfl rfl w_ml_RL_161 dL_areJoined_209 (by rfl) (Nat.le_of_ble_eq_true rfl) (by decide) (by omega) (fun E w2 n2 h _ => by obtain ⟨⟨-, q⟩ | ⟨-, q⟩, -⟩ := h <;> first | exact q.elim | omega) (fun r_209 w_209 n_209 h_209 hn_209 => ?_)
              obtain ⟨-, rfl, en_209, hC, -⟩ := h_209
              have h5s : 0 < (auR wh 0 (D i.toNat) (D j.toNat)).sc := b01_1.mp c_154
              have js := j_seal g1 g2 h5s (k := (k : Int)) (by omega)
              rw [show (if 0 ≤ (k : Int) ∧ (k : Int) < (D1 (5 : Int).toNat).sc then (D1 (5 : Int).toNat).B (k : Int) else -1) = (if (D i.toNat).dg < (k : Int) ∧ (D j.toNat).dg < (k : Int) then -1 else (if (k : Int) < (D i.toNat).sc then (D i.toNat).B (k : Int) else 1) * (if (k : Int) < (D j.toNat).sc then (D j.toNat).B (k : Int) else 1) % gr wh) from by rw [← js]; show (if 0 ≤ (k : Int) ∧ (k : Int) < (D1 5).sc then (D1 5).B (k : Int) else -1) = _; rw [e5]]
              refine e_iload F dL_areJoined_212 rfl ?_
              refine e_iload F dL_areJoined_214 rfl ?_
              refine e_icmp_le F 230 dL_areJoined_216 (by decide) (⟨by omega, by omega⟩) (⟨by omega, by omega⟩) (fun c_216 => ?_) (fun c_216 => ?_)
              · refine e_lload F dL_areJoined_230 rfl ?_
                refine e_lload F dL_areJoined_232 rfl ?_
                refine e_lmul F dL_areJoined_234 ?_
                refine e_aload_n F dL_areJoined_235 rfl ?_
                refine e_iconst F dL_areJoined_236 ?_
                refine e_callVV F u_X3_house (by rfl) (c_X3_house hC (by constructor <;> omega)) hC.1 rfl rfl w_ml_RL_38 dL_areJoined_237 (by rfl) (Nat.le_of_ble_eq_true rfl) (by decide) (by omega) (fun E w2 n2 h _ => by obtain ⟨⟨-, q⟩ | ⟨-, q⟩, -⟩ := h <;> first | exact q.elim | omega) (fun r_237 w_237 n_237 h_237 hn_237 => ?_)
                obtain ⟨-, rfl, en_237, hC, -⟩ := h_237
                rw [show hsV wh 0 D1 2 = gr wh from rfl]
                refine e_i2l F dL_areJoined_240 (⟨by omega, by omega⟩) ?_
                refine e_lrem F dL_areJoined_241 (by first | exact (gt_pos hwh (b := _) ⟨by omega, by omega⟩ ⟨by omega, by omega⟩).2) (⟨by omega, by omega⟩) (by omega) ?_
                rw [Int.tmod_eq_emod_of_nonneg (Int.mul_nonneg (by omega) (by omega))]
                refine e_l2i F dL_areJoined_242 ?_
                have hav : (if (k : Int) < (D i.toNat).sc then (D i.toNat).B (k : Int) else 1) = (if va < 0 then 1 else va) := av_if hva
                have hbv : (if (k : Int) < (D j.toNat).sc then (D j.toNat).B (k : Int) else 1) = (if vb < 0 then 1 else vb) := av_if hvb
                rw [hav, hbv]
                have hgo := ih (k + 1)
                first
                | rw [if_pos (show (D i.toNat).dg < (k : Int) ∧ (D j.toNat).dg < (k : Int) by omega)]
                | (rw [if_neg (show ¬ ((D i.toNat).dg < (k : Int) ∧ (D j.toNat).dg < (k : Int)) by omega)]
                   first
                   | rw [if_pos (show va < 0 by omega), if_pos (show vb < 0 by omega)]
                   | rw [if_pos (show va < 0 by omega), if_neg (show ¬ vb < 0 by omega)]
                   | rw [if_neg (show ¬ va < 0 by omega), if_pos (show vb < 0 by omega)]
                   | rw [if_neg (show ¬ va < 0 by omega), if_neg (show ¬ vb < 0 by omega)])
                all_goals
                  refine e_icmpq9 F 248 dL_areJoined_243 (by decide) ?_
                  refine e_iinc F dL_areJoined_248 rfl (by decide) ?_
                  refine e_goto F 141 dL_areJoined_251 (by decide) ?_
                  refine e_go (hgo _ _ _ D1 (by omega) (by omega) ⟨hC, hQ1⟩ hO e5 (by omega)) ?_
                  exact (And.intro rfl (And.intro rfl (And.intro rfl (And.intro rfl (And.intro rfl (And.intro rfl (And.intro rfl (And.intro rfl (And.intro rfl (And.intro rfl (trivial)))))))))))
              · refine e_iload F dL_areJoined_219 rfl ?_
                refine e_iload F dL_areJoined_221 rfl ?_
                refine e_icmp_le F 230 dL_areJoined_223 (by decide) (⟨by omega, by omega⟩) (⟨by omega, by omega⟩) (fun c_223 => ?_) (fun c_223 => ?_)
                · refine e_lload F dL_areJoined_230 rfl ?_
                  refine e_lload F dL_areJoined_232 rfl ?_
                  refine e_lmul F dL_areJoined_234 ?_
                  refine e_aload_n F dL_areJoined_235 rfl ?_
                  refine e_iconst F dL_areJoined_236 ?_
                  refine e_callVV F u_X3_house (by rfl) (c_X3_house hC (by constructor <;> omega)) hC.1 rfl rfl w_ml_RL_38 dL_areJoined_237 (by rfl) (Nat.le_of_ble_eq_true rfl) (by decide) (by omega) (fun E w2 n2 h _ => by obtain ⟨⟨-, q⟩ | ⟨-, q⟩, -⟩ := h <;> first | exact q.elim | omega) (fun r_237 w_237 n_237 h_237 hn_237 => ?_)
                  obtain ⟨-, rfl, en_237, hC, -⟩ := h_237
                  rw [show hsV wh 0 D1 2 = gr wh from rfl]
                  refine e_i2l F dL_areJoined_240 (⟨by omega, by omega⟩) ?_
                  refine e_lrem F dL_areJoined_241 (by first | exact (gt_pos hwh (b := _) ⟨by omega, by omega⟩ ⟨by omega, by omega⟩).2) (⟨by omega, by omega⟩) (by omega) ?_
                  rw [Int.tmod_eq_emod_of_nonneg (Int.mul_nonneg (by omega) (by omega))]
                  refine e_l2i F dL_areJoined_242 ?_
                  have hav : (if (k : Int) < (D i.toNat).sc then (D i.toNat).B (k : Int) else 1) = (if va < 0 then 1 else va) := av_if hva
                  have hbv : (if (k : Int) < (D j.toNat).sc then (D j.toNat).B (k : Int) else 1) = (if vb < 0 then 1 else vb) := av_if hvb
                  rw [hav, hbv]
                  have hgo := ih (k + 1)
                  first
                  | rw [if_pos (show (D i.toNat).dg < (k : Int) ∧ (D j.toNat).dg < (k : Int) by omega)]
                  | (rw [if_neg (show ¬ ((D i.toNat).dg < (k : Int) ∧ (D j.toNat).dg < (k : Int)) by omega)]
                     first
                     | rw [if_pos (show va < 0 by omega), if_pos (show vb < 0 by omega)]
                     | rw [if_pos (show va < 0 by omega), if_neg (show ¬ vb < 0 by omega)]
                     | rw [if_neg (show ¬ va < 0 by omega), if_pos (show vb < 0 by omega)]
                     | rw [if_neg (show ¬ va < 0 by omega), if_neg (show ¬ vb < 0 by omega)])
                  all_goals
                    refine e_icmpq9 F 248 dL_areJoined_243 (by decide) ?_
                    refine e_iinc F dL_areJoined_248 rfl (by decide) ?_
                    refine e_goto F 141 dL_areJoined_251 (by decide) ?_
                    refine e_go (hgo _ _ _ D1 (by omega) (by omega) ⟨hC, hQ1⟩ hO e5 (by omega)) ?_
                    exact (And.intro rfl (And.intro rfl (And.intro rfl (And.intro rfl (And.intro rfl (And.intro rfl (And.intro rfl (And.intro rfl (And.intro rfl (And.intro rfl (trivial)))))))))))
                · refine e_iconst F dL_areJoined_226 ?_
                  refine e_goto F 243 dL_areJoined_227 (by decide) ?_
                  have hav : (if (k : Int) < (D i.toNat).sc then (D i.toNat).B (k : Int) else 1) = (if va < 0 then 1 else va) := av_if hva
                  have hbv : (if (k : Int) < (D j.toNat).sc then (D j.toNat).B (k : Int) else 1) = (if vb < 0 then 1 else vb) := av_if hvb
                  rw [hav, hbv]
                  have hgo := ih (k + 1)
                  first
                  | rw [if_pos (show (D i.toNat).dg < (k : Int) ∧ (D j.toNat).dg < (k : Int) by omega)]
                  | (rw [if_neg (show ¬ ((D i.toNat).dg < (k : Int) ∧ (D j.toNat).dg < (k : Int)) by omega)]
                     first
                     | rw [if_pos (show va < 0 by omega), if_pos (show vb < 0 by omega)]
                     | rw [if_pos (show va < 0 by omega), if_neg (show ¬ vb < 0 by omega)]
                     | rw [if_neg (show ¬ va < 0 by omega), if_pos (show vb < 0 by omega)]
                     | rw [if_neg (show ¬ va < 0 by omega), if_neg (show ¬ vb < 0 by omega)])
                  all_goals
                    refine e_icmpq9 F 248 dL_areJoined_243 (by decide) ?_
                    refine e_iinc F dL_areJoined_248 rfl (by decide) ?_
                    refine e_goto F 141 dL_areJoined_251 (by decide) ?_
                    refine e_go (hgo _ _ _ D1 (by omega) (by omega) ⟨hC, hQ1⟩ hO e5 (by omega)) ?_
                    exact (And.intro rfl (And.intro rfl (And.intro rfl (And.intro rfl (And.intro rfl (And.intro rfl (And.intro rfl (And.intro rfl (And.intro rfl (And.intro rfl (trivial)))))))))))
            · refine e_lconst F dL_areJoined_191 (y := 1) (by decide) ?_
              refine e_goto F 203 dL_areJoined_192 (by decide) ?_
              refine e_lstore F dL_areJoined_203 (by decide) ?_
              refine e_aload_n F dL_areJoined_205 rfl ?_
              refine e_iconst F dL_areJoined_206 ?_
              refine e_iload F dL_areJoined_207 rfl ?_
              refine e_callVV F u_X3_seal (by rfl) (c_X3_seal hC (by constructor <;> omega) (by constructor <;> omega)) hC.1 rfl rfl w_ml_RL_161 dL_areJoined_209 (by rfl) (Nat.le_of_ble_eq_true rfl) (by decide) (by omega) (fun E w2 n2 h _ => by obtain ⟨⟨-, q⟩ | ⟨-, q⟩, -⟩ := h <;> first | exact q.elim | omega) (fun r_209 w_209 n_209 h_209 hn_209 => ?_)
              obtain ⟨-, rfl, en_209, hC, -⟩ := h_209
              have h5s : 0 < (auR wh 0 (D i.toNat) (D j.toNat)).sc := b01_1.mp c_154
              have js := j_seal g1 g2 h5s (k := (k : Int)) (by omega)
              rw [show (if 0 ≤ (k : Int) ∧ (k : Int) < (D1 (5 : Int).toNat).sc then (D1 (5 : Int).toNat).B (k : Int) else -1) = (if (D i.toNat).dg < (k : Int) ∧ (D j.toNat).dg < (k : Int) then -1 else (if (k : Int) < (D i.toNat).sc then (D i.toNat).B (k : Int) else 1) * (if (k : Int) < (D j.toNat).sc then (D j.toNat).B (k : Int) else 1) % gr wh) from by rw [← js]; show (if 0 ≤ (k : Int) ∧ (k : Int) < (D1 5).sc then (D1 5).B (k : Int) else -1) = _; rw [e5]]
              refine e_iload F dL_areJoined_212 rfl ?_
              refine e_iload F dL_areJoined_214 rfl ?_
              refine e_icmp_le F 230 dL_areJoined_216 (by decide) (⟨by omega, by omega⟩) (⟨by omega, by omega⟩) (fun c_216 => ?_) (fun c_216 => ?_)
              · refine e_lload F dL_areJoined_230 rfl ?_
                refine e_lload F dL_areJoined_232 rfl ?_
                refine e_lmul F dL_areJoined_234 ?_
                refine e_aload_n F dL_areJoined_235 rfl ?_
                refine e_iconst F dL_areJoined_236 ?_
                refine e_callVV F u_X3_house (by rfl) (c_X3_house hC (by constructor <;> omega)) hC.1 rfl rfl w_ml_RL_38 dL_areJoined_237 (by rfl) (Nat.le_of_ble_eq_true rfl) (by decide) (by omega) (fun E w2 n2 h _ => by obtain ⟨⟨-, q⟩ | ⟨-, q⟩, -⟩ := h <;> first | exact q.elim | omega) (fun r_237 w_237 n_237 h_237 hn_237 => ?_)
                obtain ⟨-, rfl, en_237, hC, -⟩ := h_237
                rw [show hsV wh 0 D1 2 = gr wh from rfl]
                refine e_i2l F dL_areJoined_240 (⟨by omega, by omega⟩) ?_
                refine e_lrem F dL_areJoined_241 (by first | exact (gt_pos hwh (b := _) ⟨by omega, by omega⟩ ⟨by omega, by omega⟩).2) (⟨by omega, by omega⟩) (by omega) ?_
                rw [Int.tmod_eq_emod_of_nonneg (Int.mul_nonneg (by omega) (by omega))]
                refine e_l2i F dL_areJoined_242 ?_
                have hav : (if (k : Int) < (D i.toNat).sc then (D i.toNat).B (k : Int) else 1) = (if va < 0 then 1 else va) := av_if hva
                have hbv : (if (k : Int) < (D j.toNat).sc then (D j.toNat).B (k : Int) else 1) = (if vb < 0 then 1 else vb) := av_if hvb
                rw [hav, hbv]
                have hgo := ih (k + 1)
                first
                | rw [if_pos (show (D i.toNat).dg < (k : Int) ∧ (D j.toNat).dg < (k : Int) by omega)]
                | (rw [if_neg (show ¬ ((D i.toNat).dg < (k : Int) ∧ (D j.toNat).dg < (k : Int)) by omega)]
                   first
                   | rw [if_pos (show va < 0 by omega), if_pos (show vb < 0 by omega)]
                   | rw [if_pos (show va < 0 by omega), if_neg (show ¬ vb < 0 by omega)]
                   | rw [if_neg (show ¬ va < 0 by omega), if_pos (show vb < 0 by omega)]
                   | rw [if_neg (show ¬ va < 0 by omega), if_neg (show ¬ vb < 0 by omega)])
                all_goals
                  refine e_icmpq9 F 248 dL_areJoined_243 (by decide) ?_
                  refine e_iinc F dL_areJoined_248 rfl (by decide) ?_
                  refine e_goto F 141 dL_areJoined_251 (by decide) ?_
                  refine e_go (hgo _ _ _ D1 (by omega) (by omega) ⟨hC, hQ1⟩ hO e5 (by omega)) ?_
                  exact (And.intro rfl (And.intro rfl (And.intro rfl (And.intro rfl (And.intro rfl (And.intro rfl (And.intro rfl (And.intro rfl (And.intro rfl (And.intro rfl (trivial)))))))))))
              · refine e_iload F dL_areJoined_219 rfl ?_
                refine e_iload F dL_areJoined_221 rfl ?_
                refine e_icmp_le F 230 dL_areJoined_223 (by decide) (⟨by omega, by omega⟩) (⟨by omega, by omega⟩) (fun c_223 => ?_) (fun c_223 => ?_)
                · refine e_lload F dL_areJoined_230 rfl ?_
                  refine e_lload F dL_areJoined_232 rfl ?_
                  refine e_lmul F dL_areJoined_234 ?_
                  refine e_aload_n F dL_areJoined_235 rfl ?_
                  refine e_iconst F dL_areJoined_236 ?_
                  refine e_callVV F u_X3_house (by rfl) (c_X3_house hC (by constructor <;> omega)) hC.1 rfl rfl w_ml_RL_38 dL_areJoined_237 (by rfl) (Nat.le_of_ble_eq_true rfl) (by decide) (by omega) (fun E w2 n2 h _ => by obtain ⟨⟨-, q⟩ | ⟨-, q⟩, -⟩ := h <;> first | exact q.elim | omega) (fun r_237 w_237 n_237 h_237 hn_237 => ?_)
                  obtain ⟨-, rfl, en_237, hC, -⟩ := h_237
                  rw [show hsV wh 0 D1 2 = gr wh from rfl]
                  refine e_i2l F dL_areJoined_240 (⟨by omega, by omega⟩) ?_
                  refine e_lrem F dL_areJoined_241 (by first | exact (gt_pos hwh (b := _) ⟨by omega, by omega⟩ ⟨by omega, by omega⟩).2) (⟨by omega, by omega⟩) (by omega) ?_
                  rw [Int.tmod_eq_emod_of_nonneg (Int.mul_nonneg (by omega) (by omega))]
                  refine e_l2i F dL_areJoined_242 ?_
                  have hav : (if (k : Int) < (D i.toNat).sc then (D i.toNat).B (k : Int) else 1) = (if va < 0 then 1 else va) := av_if hva
                  have hbv : (if (k : Int) < (D j.toNat).sc then (D j.toNat).B (k : Int) else 1) = (if vb < 0 then 1 else vb) := av_if hvb
                  rw [hav, hbv]
                  have hgo := ih (k + 1)
                  first
                  | rw [if_pos (show (D i.toNat).dg < (k : Int) ∧ (D j.toNat).dg < (k : Int) by omega)]
                  | (rw [if_neg (show ¬ ((D i.toNat).dg < (k : Int) ∧ (D j.toNat).dg < (k : Int)) by omega)]
                     first
                     | rw [if_pos (show va < 0 by omega), if_pos (show vb < 0 by omega)]
                     | rw [if_pos (show va < 0 by omega), if_neg (show ¬ vb < 0 by omega)]
                     | rw [if_neg (show ¬ va < 0 by omega), if_pos (show vb < 0 by omega)]
                     | rw [if_neg (show ¬ va < 0 by omega), if_neg (show ¬ vb < 0 by omega)])
                  all_goals
                    refine e_icmpq9 F 248 dL_areJoined_243 (by decide) ?_
                    refine e_iinc F dL_areJoined_248 rfl (by decide) ?_
                    refine e_goto F 141 dL_areJoined_251 (by decide) ?_
                    refine e_go (hgo _ _ _ D1 (by omega) (by omega) ⟨hC, hQ1⟩ hO e5 (by omega)) ?_
                    exact (And.intro rfl (And.intro rfl (And.intro rfl (And.intro rfl (And.intro rfl (And.intro rfl (And.intro rfl (And.intro rfl (And.intro rfl (And.intro rfl (trivial)))))))))))
                · refine e_iconst F dL_areJoined_226 ?_
                  refine e_goto F 243 dL_areJoined_227 (by decide) ?_
                  have hav : (if (k : Int) < (D i.toNat).sc then (D i.toNat).B (k : Int) else 1) = (if va < 0 then 1 else va) := av_if hva
                  have hbv : (if (k : Int) < (D j.toNat).sc then (D j.toNat).B (k : Int) else 1) = (if vb < 0 then 1 else vb) := av_if hvb
                  rw [hav, hbv]
                  have hgo := ih (k + 1)
                  first
                  | rw [if_pos (show (D i.toNat).dg < (k : Int) ∧ (D j.toNat).dg < (k : Int) by omega)]
                  | (rw [if_neg (show ¬ ((D i.toNat).dg < (k : Int) ∧ (D j.toNat).dg < (k : Int)) by omega)]
                     first
                     | rw [if_pos (show va < 0 by omega), if_pos (show vb < 0 by omega)]
                     | rw [if_pos (show va < 0 by omega), if_neg (show ¬ vb < 0 by omega)]
                     | rw [if_neg (show ¬ va < 0 by omega), if_pos (show vb < 0 by omega)]
                     | rw [if_neg (show ¬ va < 0 by omega), if_neg (show ¬ vb < 0 by omega)])
                  all_goals
                    refine e_icmpq9 F 248 dL_areJoined_243 (by decide) ?_
                    refine e_iinc F dL_areJoined_248 rfl (by decide) ?_
                    refine e_goto F 141 dL_areJoined_251 (by decide) ?_
                    refine e_go (hgo _ _ _ D1 (by omega) (by omega) ⟨hC, hQ1⟩ hO e5 (by omega)) ?_
                    exact (And.intro rfl (And.intro rfl (And.intro rfl (And.intro rfl (And.intro rfl (And.intro rfl (And.intro rfl (And.intro rfl (And.intro rfl (And.intro rfl (trivial)))))))))))
          · refine e_lconst F dL_areJoined_167 (y := 1) (by decide) ?_
            refine e_goto F 179 dL_areJoined_168 (by decide) ?_
            refine e_lstore F dL_areJoined_179 (by decide) ?_
            refine e_aload_n F dL_areJoined_181 rfl ?_
            refine e_iload_n F dL_areJoined_182 rfl ?_
            refine e_iload F dL_areJoined_183 rfl ?_
            refine e_callVV F u_X3_seal (by rfl) (c_X3_seal hC (by constructor <;> omega) (by constructor <;> omega)) hC.1 rfl rfl w_ml_RL_161 dL_areJoined_185 (by rfl) (Nat.le_of_ble_eq_true rfl) (by decide) (by omega) (fun E w2 n2 h _ => by obtain ⟨⟨-, q⟩ | ⟨-, q⟩, -⟩ := h <;> first | exact q.elim | omega) (fun r_185 w_185 n_185 h_185 hn_185 => ?_)
            obtain ⟨-, rfl, en_185, hC, -⟩ := h_185
            rw [eE, evb]
            refine e_if_ge F 195 dL_areJoined_188 (by decide) (by rcases hvb with z | z <;> constructor <;> omega) (fun c_188 => ?_) (fun c_188 => ?_)
            · refine e_aload_n F dL_areJoined_195 rfl ?_
              refine e_iload_n F dL_areJoined_196 rfl ?_
              refine e_iload F dL_areJoined_197 rfl ?_
              refine e_callVV F u_X3_seal (by rfl) (c_X3_seal hC (by constructor <;> omega) (by constructor <;> omega)) hC.1 rfl rfl w_ml_RL_161 dL_areJoined_199 (by rfl) (Nat.le_of_ble_eq_true rfl) (by decide) (by omega) (fun E w2 n2 h _ => by obtain ⟨⟨-, q⟩ | ⟨-, q⟩, -⟩ := h <;> first | exact q.elim | omega) (fun r_199 w_199 n_199 h_199 hn_199 => ?_)
              obtain ⟨-, rfl, en_199, hC, -⟩ := h_199
              rw [eE, evb]
              refine e_i2l F dL_areJoined_202 (by rcases hvb with z | z <;> constructor <;> omega) ?_
              refine e_lstore F dL_areJoined_203 (by decide) ?_
              refine e_aload_n F dL_areJoined_205 rfl ?_
              refine e_iconst F dL_areJoined_206 ?_
              refine e_iload F dL_areJoined_207 rfl ?_
              refine e_callVV F u_X3_seal (by rfl) (c_X3_seal hC (by constructor <;> omega) (by constructor <;> omega)) hC.1 rfl rfl w_ml_RL_161 dL_areJoined_209 (by rfl) (Nat.le_of_ble_eq_true rfl) (by decide) (by omega) (fun E w2 n2 h _ => by obtain ⟨⟨-, q⟩ | ⟨-, q⟩, -⟩ := h <;> first | exact q.elim | omega) (fun r_209 w_209 n_209 h_209 hn_209 => ?_)
              obtain ⟨-, rfl, en_209, hC, -⟩ := h_209
              have h5s : 0 < (auR wh 0 (D i.toNat) (D j.toNat)).sc := b01_1.mp c_154
              have js := j_seal g1 g2 h5s (k := (k : Int)) (by omega)
              rw [show (if 0 ≤ (k : Int) ∧ (k : Int) < (D1 (5 : Int).toNat).sc then (D1 (5 : Int).toNat).B (k : Int) else -1) = (if (D i.toNat).dg < (k : Int) ∧ (D j.toNat).dg < (k : Int) then -1 else (if (k : Int) < (D i.toNat).sc then (D i.toNat).B (k : Int) else 1) * (if (k : Int) < (D j.toNat).sc then (D j.toNat).B (k : Int) else 1) % gr wh) from by rw [← js]; show (if 0 ≤ (k : Int) ∧ (k : Int) < (D1 5).sc then (D1 5).B (k : Int) else -1) = _; rw [e5]]
              refine e_iload F dL_areJoined_212 rfl ?_
              refine e_iload F dL_areJoined_214 rfl ?_
              refine e_icmp_le F 230 dL_areJoined_216 (by decide) (⟨by omega, by omega⟩) (⟨by omega, by omega⟩) (fun c_216 => ?_) (fun c_216 => ?_)
              · refine e_lload F dL_areJoined_230 rfl ?_
                refine e_lload F dL_areJoined_232 rfl ?_
                refine e_lmul F dL_areJoined_234 ?_
                refine e_aload_n F dL_areJoined_235 rfl ?_
                refine e_iconst F dL_areJoined_236 ?_
                refine e_callVV F u_X3_house (by rfl) (c_X3_house hC (by constructor <;> omega)) hC.1 rfl rfl w_ml_RL_38 dL_areJoined_237 (by rfl) (Nat.le_of_ble_eq_true rfl) (by decide) (by omega) (fun E w2 n2 h _ => by obtain ⟨⟨-, q⟩ | ⟨-, q⟩, -⟩ := h <;> first | exact q.elim | omega) (fun r_237 w_237 n_237 h_237 hn_237 => ?_)
                obtain ⟨-, rfl, en_237, hC, -⟩ := h_237
                rw [show hsV wh 0 D1 2 = gr wh from rfl]
                refine e_i2l F dL_areJoined_240 (⟨by omega, by omega⟩) ?_
                refine e_lrem F dL_areJoined_241 (by first | exact (gt_pos hwh (b := _) ⟨by omega, by omega⟩ ⟨by omega, by omega⟩).2) (⟨by omega, by omega⟩) (by omega) ?_
                rw [Int.tmod_eq_emod_of_nonneg (Int.mul_nonneg (by omega) (by omega))]
                refine e_l2i F dL_areJoined_242 ?_
                have hav : (if (k : Int) < (D i.toNat).sc then (D i.toNat).B (k : Int) else 1) = (if va < 0 then 1 else va) := av_if hva
                have hbv : (if (k : Int) < (D j.toNat).sc then (D j.toNat).B (k : Int) else 1) = (if vb < 0 then 1 else vb) := av_if hvb
                rw [hav, hbv]
                have hgo := ih (k + 1)
                first
                | rw [if_pos (show (D i.toNat).dg < (k : Int) ∧ (D j.toNat).dg < (k : Int) by omega)]
                | (rw [if_neg (show ¬ ((D i.toNat).dg < (k : Int) ∧ (D j.toNat).dg < (k : Int)) by omega)]
                   first
                   | rw [if_pos (show va < 0 by omega), if_pos (show vb < 0 by omega)]
                   | rw [if_pos (show va < 0 by omega), if_neg (show ¬ vb < 0 by omega)]
                   | rw [if_neg (show ¬ va < 0 by omega), if_pos (show vb < 0 by omega)]
                   | rw [if_neg (show ¬ va < 0 by omega), if_neg (show ¬ vb < 0 by omega)])
                all_goals
                  refine e_icmpq9 F 248 dL_areJoined_243 (by decide) ?_
                  refine e_iinc F dL_areJoined_248 rfl (by decide) ?_
                  refine e_goto F 141 dL_areJoined_251 (by decide) ?_
                  refine e_go (hgo _ _ _ D1 (by omega) (by omega) ⟨hC, hQ1⟩ hO e5 (by omega)) ?_
                  exact (And.intro rfl (And.intro rfl (And.intro rfl (And.intro rfl (And.intro rfl (And.intro rfl (And.intro rfl (And.intro rfl (And.intro rfl (And.intro rfl (trivial)))))))))))
              · refine e_iload F dL_areJoined_219 rfl ?_
                refine e_iload F dL_areJoined_221 rfl ?_
                refine e_icmp_le F 230 dL_areJoined_223 (by decide) (⟨by omega, by omega⟩) (⟨by omega, by omega⟩) (fun c_223 => ?_) (fun c_223 => ?_)
                · refine e_lload F dL_areJoined_230 rfl ?_
                  refine e_lload F dL_areJoined_232 rfl ?_
                  refine e_lmul F dL_areJoined_234 ?_
                  refine e_aload_n F dL_areJoined_235 rfl ?_
                  refine e_iconst F dL_areJoined_236 ?_
                  refine e_callVV F u_X3_house (by rfl) (c_X3_house hC (by constructor <;> omega)) hC.1 rfl rfl w_ml_RL_38 dL_areJoined_237 (by rfl) (Nat.le_of_ble_eq_true rfl) (by decide) (by omega) (fun E w2 n2 h _ => by obtain ⟨⟨-, q⟩ | ⟨-, q⟩, -⟩ := h <;> first | exact q.elim | omega) (fun r_237 w_237 n_237 h_237 hn_237 => ?_)
                  obtain ⟨-, rfl, en_237, hC, -⟩ := h_237
                  rw [show hsV wh 0 D1 2 = gr wh from rfl]
                  refine e_i2l F dL_areJoined_240 (⟨by omega, by omega⟩) ?_
                  refine e_lrem F dL_areJoined_241 (by first | exact (gt_pos hwh (b := _) ⟨by omega, by omega⟩ ⟨by omega, by omega⟩).2) (⟨by omega, by omega⟩) (by omega) ?_
                  rw [Int.tmod_eq_emod_of_nonneg (Int.mul_nonneg (by omega) (by omega))]
                  refine e_l2i F dL_areJoined_242 ?_
                  have hav : (if (k : Int) < (D i.toNat).sc then (D i.toNat).B (k : Int) else 1) = (if va < 0 then 1 else va) := av_if hva
                  have hbv : (if (k : Int) < (D j.toNat).sc then (D j.toNat).B (k : Int) else 1) = (if vb < 0 then 1 else vb) := av_if hvb
                  rw [hav, hbv]
                  have hgo := ih (k + 1)
                  first
                  | rw [if_pos (show (D i.toNat).dg < (k : Int) ∧ (D j.toNat).dg < (k : Int) by omega)]
                  | (rw [if_neg (show ¬ ((D i.toNat).dg < (k : Int) ∧ (D j.toNat).dg < (k : Int)) by omega)]
                     first
                     | rw [if_pos (show va < 0 by omega), if_pos (show vb < 0 by omega)]
                     | rw [if_pos (show va < 0 by omega), if_neg (show ¬ vb < 0 by omega)]
                     | rw [if_neg (show ¬ va < 0 by omega), if_pos (show vb < 0 by omega)]
                     | rw [if_neg (show ¬ va < 0 by omega), if_neg (show ¬ vb < 0 by omega)])
                  all_goals
                    refine e_icmpq9 F 248 dL_areJoined_243 (by decide) ?_
                    refine e_iinc F dL_areJoined_248 rfl (by decide) ?_
                    refine e_goto F 141 dL_areJoined_251 (by decide) ?_
                    refine e_go (hgo _ _ _ D1 (by omega) (by omega) ⟨hC, hQ1⟩ hO e5 (by omega)) ?_
                    exact (And.intro rfl (And.intro rfl (And.intro rfl (And.intro rfl (And.intro rfl (And.intro rfl (And.intro rfl (And.intro rfl (And.intro rfl (And.intro rfl (trivial)))))))))))
                · refine e_iconst F dL_areJoined_226 ?_
                  refine e_goto F 243 dL_areJoined_227 (by decide) ?_
                  have hav : (if (k : Int) < (D i.toNat).sc then (D i.toNat).B (k : Int) else 1) = (if va < 0 then 1 else va) := av_if hva
                  have hbv : (if (k : Int) < (D j.toNat).sc then (D j.toNat).B (k : Int) else 1) = (if vb < 0 then 1 else vb) := av_if hvb
                  rw [hav, hbv]
                  have hgo := ih (k + 1)
                  first
                  | rw [if_pos (show (D i.toNat).dg < (k : Int) ∧ (D j.toNat).dg < (k : Int) by omega)]
                  | (rw [if_neg (show ¬ ((D i.toNat).dg < (k : Int) ∧ (D j.toNat).dg < (k : Int)) by omega)]
                     first
                     | rw [if_pos (show va < 0 by omega), if_pos (show vb < 0 by omega)]
                     | rw [if_pos (show va < 0 by omega), if_neg (show ¬ vb < 0 by omega)]
                     | rw [if_neg (show ¬ va < 0 by omega), if_pos (show vb < 0 by omega)]
                     | rw [if_neg (show ¬ va < 0 by omega), if_neg (show ¬ vb < 0 by omega)])
                  all_goals
                    refine e_icmpq9 F 248 dL_areJoined_243 (by decide) ?_
                    refine e_iinc F dL_areJoined_248 rfl (by decide) ?_
                    refine e_goto F 141 dL_areJoined_251 (by decide) ?_
                    refine e_go (hgo _ _ _ D1 (by omega) (by omega) ⟨hC, hQ1⟩ hO e5 (by omega)) ?_
                    exact (And.intro rfl (And.intro rfl (And.intro rfl (And.intro rfl (And.intro rfl (And.intro rfl (And.intro rfl (And.intro rfl (And.intro rfl (And.intro rfl (trivial)))))))))))
            · refine e_lconst F dL_areJoined_191 (y := 1) (by decide) ?_
              refine e_goto F 203 dL_areJoined_192 (by decide) ?_
              refine e_lstore F dL_areJoined_203 (by decide) ?_
              refine e_aload_n F dL_areJoined_205 rfl ?_
              refine e_iconst F dL_areJoined_206 ?_
              refine e_iload F dL_areJoined_207 rfl ?_
              refine e_callVV F u_X3_seal (by rfl) (c_X3_seal hC (by constructor <;> omega) (by constructor <;> omega)) hC.1 rfl rfl w_ml_RL_161 dL_areJoined_209 (by rfl) (Nat.le_of_ble_eq_true rfl) (by decide) (by omega) (fun E w2 n2 h _ => by obtain ⟨⟨-, q⟩ | ⟨-, q⟩, -⟩ := h <;> first | exact q.elim | omega) (fun r_209 w_209 n_209 h_209 hn_209 => ?_)
              obtain ⟨-, rfl, en_209, hC, -⟩ := h_209
              have h5s : 0 < (auR wh 0 (D i.toNat) (D j.toNat)).sc := b01_1.mp c_154
              have js := j_seal g1 g2 h5s (k := (k : Int)) (by omega)
              rw [show (if 0 ≤ (k : Int) ∧ (k : Int) < (D1 (5 : Int).toNat).sc then (D1 (5 : Int).toNat).B (k : Int) else -1) = (if (D i.toNat).dg < (k : Int) ∧ (D j.toNat).dg < (k : Int) then -1 else (if (k : Int) < (D i.toNat).sc then (D i.toNat).B (k : Int) else 1) * (if (k : Int) < (D j.toNat).sc then (D j.toNat).B (k : Int) else 1) % gr wh) from by rw [← js]; show (if 0 ≤ (k : Int) ∧ (k : Int) < (D1 5).sc then (D1 5).B (k : Int) else -1) = _; rw [e5]]
              refine e_iload F dL_areJoined_212 rfl ?_
              refine e_iload F dL_areJoined_214 rfl ?_
              refine e_icmp_le F 230 dL_areJoined_216 (by decide) (⟨by omega, by omega⟩) (⟨by omega, by omega⟩) (fun c_216 => ?_) (fun c_216 => ?_)
              · refine e_lload F dL_areJoined_230 rfl ?_
                refine e_lload F dL_areJoined_232 rfl ?_
                refine e_lmul F dL_areJoined_234 ?_
                refine e_aload_n F dL_areJoined_235 rfl ?_
                refine e_iconst F dL_areJoined_236 ?_
                refine e_callVV F u_X3_house (by rfl) (c_X3_house hC (by constructor <;> omega)) hC.1 rfl rfl w_ml_RL_38 dL_areJoined_237 (by rfl) (Nat.le_of_ble_eq_true rfl) (by decide) (by omega) (fun E w2 n2 h _ => by obtain ⟨⟨-, q⟩ | ⟨-, q⟩, -⟩ := h <;> first | exact q.elim | omega) (fun r_237 w_237 n_237 h_237 hn_237 => ?_)
                obtain ⟨-, rfl, en_237, hC, -⟩ := h_237
                rw [show hsV wh 0 D1 2 = gr wh from rfl]
                refine e_i2l F dL_areJoined_240 (⟨by omega, by omega⟩) ?_
                refine e_lrem F dL_areJoined_241 (by first | exact (gt_pos hwh (b := _) ⟨by omega, by omega⟩ ⟨by omega, by omega⟩).2) (⟨by omega, by omega⟩) (by omega) ?_
                rw [Int.tmod_eq_emod_of_nonneg (Int.mul_nonneg (by omega) (by omega))]
                refine e_l2i F dL_areJoined_242 ?_
                have hav : (if (k : Int) < (D i.toNat).sc then (D i.toNat).B (k : Int) else 1) = (if va < 0 then 1 else va) := av_if hva
                have hbv : (if (k : Int) < (D j.toNat).sc then (D j.toNat).B (k : Int) else 1) = (if vb < 0 then 1 else vb) := av_if hvb
                rw [hav, hbv]
                have hgo := ih (k + 1)
                first
                | rw [if_pos (show (D i.toNat).dg < (k : Int) ∧ (D j.toNat).dg < (k : Int) by omega)]
                | (rw [if_neg (show ¬ ((D i.toNat).dg < (k : Int) ∧ (D j.toNat).dg < (k : Int)) by omega)]
                   first
                   | rw [if_pos (show va < 0 by omega), if_pos (show vb < 0 by omega)]
                   | rw [if_pos (show va < 0 by omega), if_neg (show ¬ vb < 0 by omega)]
                   | rw [if_neg (show ¬ va < 0 by omega), if_pos (show vb < 0 by omega)]
                   | rw [if_neg (show ¬ va < 0 by omega), if_neg (show ¬ vb < 0 by omega)])
                all_goals
                  refine e_icmpq9 F 248 dL_areJoined_243 (by decide) ?_
                  refine e_iinc F dL_areJoined_248 rfl (by decide) ?_
                  refine e_goto F 141 dL_areJoined_251 (by decide) ?_
                  refine e_go (hgo _ _ _ D1 (by omega) (by omega) ⟨hC, hQ1⟩ hO e5 (by omega)) ?_
                  exact (And.intro rfl (And.intro rfl (And.intro rfl (And.intro rfl (And.intro rfl (And.intro rfl (And.intro rfl (And.intro rfl (And.intro rfl (And.intro rfl (trivial)))))))))))
              · refine e_iload F dL_areJoined_219 rfl ?_
                refine e_iload F dL_areJoined_221 rfl ?_
                refine e_icmp_le F 230 dL_areJoined_223 (by decide) (⟨by omega, by omega⟩) (⟨by omega, by omega⟩) (fun c_223 => ?_) (fun c_223 => ?_)
                · refine e_lload F dL_areJoined_230 rfl ?_
                  refine e_lload F dL_areJoined_232 rfl ?_
                  refine e_lmul F dL_areJoined_234 ?_
                  refine e_aload_n F dL_areJoined_235 rfl ?_
                  refine e_iconst F dL_areJoined_236 ?_
                  refine e_callVV F u_X3_house (by rfl) (c_X3_house hC (by constructor <;> omega)) hC.1 rfl rfl w_ml_RL_38 dL_areJoined_237 (by rfl) (Nat.le_of_ble_eq_true rfl) (by decide) (by omega) (fun E w2 n2 h _ => by obtain ⟨⟨-, q⟩ | ⟨-, q⟩, -⟩ := h <;> first | exact q.elim | omega) (fun r_237 w_237 n_237 h_237 hn_237 => ?_)
                  obtain ⟨-, rfl, en_237, hC, -⟩ := h_237
                  rw [show hsV wh 0 D1 2 = gr wh from rfl]
                  refine e_i2l F dL_areJoined_240 (⟨by omega, by omega⟩) ?_
                  refine e_lrem F dL_areJoined_241 (by first | exact (gt_pos hwh (b := _) ⟨by omega, by omega⟩ ⟨by omega, by omega⟩).2) (⟨by omega, by omega⟩) (by omega) ?_
                  rw [Int.tmod_eq_emod_of_nonneg (Int.mul_nonneg (by omega) (by omega))]
                  refine e_l2i F dL_areJoined_242 ?_
                  have hav : (if (k : Int) < (D i.toNat).sc then (D i.toNat).B (k : Int) else 1) = (if va < 0 then 1 else va) := av_if hva
                  have hbv : (if (k : Int) < (D j.toNat).sc then (D j.toNat).B (k : Int) else 1) = (if vb < 0 then 1 else vb) := av_if hvb
                  rw [hav, hbv]
                  have hgo := ih (k + 1)
                  first
                  | rw [if_pos (show (D i.toNat).dg < (k : Int) ∧ (D j.toNat).dg < (k : Int) by omega)]
                  | (rw [if_neg (show ¬ ((D i.toNat).dg < (k : Int) ∧ (D j.toNat).dg < (k : Int)) by omega)]
                     first
                     | rw [if_pos (show va < 0 by omega), if_pos (show vb < 0 by omega)]
                     | rw [if_pos (show va < 0 by omega), if_neg (show ¬ vb < 0 by omega)]
                     | rw [if_neg (show ¬ va < 0 by omega), if_pos (show vb < 0 by omega)]
                     | rw [if_neg (show ¬ va < 0 by omega), if_neg (show ¬ vb < 0 by omega)])
                  all_goals
                    refine e_icmpq9 F 248 dL_areJoined_243 (by decide) ?_
                    refine e_iinc F dL_areJoined_248 rfl (by decide) ?_
                    refine e_goto F 141 dL_areJoined_251 (by decide) ?_
                    refine e_go (hgo _ _ _ D1 (by omega) (by omega) ⟨hC, hQ1⟩ hO e5 (by omega)) ?_
                    exact (And.intro rfl (And.intro rfl (And.intro rfl (And.intro rfl (And.intro rfl (And.intro rfl (And.intro rfl (And.intro rfl (And.intro rfl (And.intro rfl (trivial)))))))))))
                · refine e_iconst F dL_areJoined_226 ?_
                  refine e_goto F 243 dL_areJoined_227 (by decide) ?_
                  have hav : (if (k : Int) < (D i.toNat).sc then (D i.toNat).B (k : Int) else 1) = (if va < 0 then 1 else va) := av_if hva
                  have hbv : (if (k : Int) < (D j.toNat).sc then (D j.toNat).B (k : Int) else 1) = (if vb < 0 then 1 else vb) := av_if hvb
                  rw [hav, hbv]
                  have hgo := ih (k + 1)
                  first
                  | rw [if_pos (show (D i.toNat).dg < (k : Int) ∧ (D j.toNat).dg < (k : Int) by omega)]
                  | (rw [if_neg (show ¬ ((D i.toNat).dg < (k : Int) ∧ (D j.toNat).dg < (k : Int)) by omega)]
                     first
                     | rw [if_pos (show va < 0 by omega), if_pos (show vb < 0 by omega)]
                     | rw [if_pos (show va < 0 by omega), if_neg (show ¬ vb < 0 by omega)]
                     | rw [if_neg (show ¬ va < 0 by omega), if_pos (show vb < 0 by omega)]
                     | rw [if_neg (show ¬ va < 0 by omega), if_neg (show ¬ vb < 0 by omega)])
                  all_goals
                    refine e_icmpq9 F 248 dL_areJoined_243 (by decide) ?_
                    refine e_iinc F dL_areJoined_248 rfl (by decide) ?_
                    refine e_goto F 141 dL_areJoined_251 (by decide) ?_
                    refine e_go (hgo _ _ _ D1 (by omega) (by omega) ⟨hC, hQ1⟩ hO e5 (by omega)) ?_
                    exact (And.intro rfl (And.intro rfl (And.intro rfl (And.intro rfl (And.intro rfl (And.intro rfl (And.intro rfl (And.intro rfl (And.intro rfl (And.intro rfl (trivial)))))))))))
  refine e_aload_n F dL_areJoined_0 rfl ?_
  refine e_iload_n F dL_areJoined_1 rfl ?_
  refine e_iconst F dL_areJoined_2 ?_
  refine e_callVV F u_X3_ofDeal (by rfl) (c_X3_ofDeal hC (by constructor <;> omega) (by constructor <;> omega)) hC.1 rfl rfl w_ml_RL_127 dL_areJoined_3 (by rfl) (Nat.le_of_ble_eq_true rfl) (by decide) (by omega) (fun E w2 n2 h _ => by obtain ⟨⟨-, q⟩ | ⟨-, q⟩, -⟩ := h <;> first | exact q.elim | omega) (fun r_3 w_3 n_3 h_3 hn_3 => ?_)
  obtain ⟨-, rfl, en_3, hC, -⟩ := h_3
  refine e_iconst F dL_areJoined_6 ?_
  refine e_icmp_ne F 20 dL_areJoined_7 (by decide) (od_e hQ hi6 _) (by decide) (fun c_7 => ?_) (fun c_7 => ?_)
  · refine e_iconst F dL_areJoined_20 ?_
    refine e_zret F rfl (by omega) (by omega) ?_ dL_areJoined_21
    exact ⟨rfl, _, ⟨hC, hQ⟩, O5.rf⟩
  · refine e_aload_n F dL_areJoined_10 rfl ?_
    refine e_iload_n F dL_areJoined_11 rfl ?_
    refine e_iconst F dL_areJoined_12 ?_
    refine e_callVV F u_X3_ofDeal (by rfl) (c_X3_ofDeal hC (by constructor <;> omega) (by constructor <;> omega)) hC.1 rfl rfl w_ml_RL_127 dL_areJoined_13 (by rfl) (Nat.le_of_ble_eq_true rfl) (by decide) (by omega) (fun E w2 n2 h _ => by obtain ⟨⟨-, q⟩ | ⟨-, q⟩, -⟩ := h <;> first | exact q.elim | omega) (fun r_13 w_13 n_13 h_13 hn_13 => ?_)
    obtain ⟨-, rfl, en_13, hC, -⟩ := h_13
    refine e_iconst F dL_areJoined_16 ?_
    refine e_icmp_eq F 22 dL_areJoined_17 (by decide) (od_e hQ hj6 _) (by decide) (fun c_17 => ?_) (fun c_17 => ?_)
    · refine e_aload_n F dL_areJoined_22 rfl ?_
      refine e_iconst F dL_areJoined_23 ?_
      refine e_callVV F u_X3_house (by rfl) (c_X3_house hC (by constructor <;> omega)) hC.1 rfl rfl w_ml_RL_38 dL_areJoined_24 (by rfl) (Nat.le_of_ble_eq_true rfl) (by decide) (by omega) (fun E w2 n2 h _ => by obtain ⟨⟨-, q⟩ | ⟨-, q⟩, -⟩ := h <;> first | exact q.elim | omega) (fun r_24 w_24 n_24 h_24 hn_24 => ?_)
      obtain ⟨-, rfl, en_24, hC, -⟩ := h_24
      rw [show hsV wh 0 D 1 = pr wh from rfl]
      refine e_istore_n F dL_areJoined_27 (by decide) ?_
      refine e_aload_n F dL_areJoined_28 rfl ?_
      refine e_iload_n F dL_areJoined_29 rfl ?_
      refine e_iconst F dL_areJoined_30 ?_
      refine e_callVV F u_X3_ofDeal (by rfl) (c_X3_ofDeal hC (by constructor <;> omega) (by constructor <;> omega)) hC.1 rfl rfl w_ml_RL_127 dL_areJoined_31 (by rfl) (Nat.le_of_ble_eq_true rfl) (by decide) (by omega) (fun E w2 n2 h _ => by obtain ⟨⟨-, q⟩ | ⟨-, q⟩, -⟩ := h <;> first | exact q.elim | omega) (fun r_31 w_31 n_31 h_31 hn_31 => ?_)
      obtain ⟨-, rfl, en_31, hC, -⟩ := h_31
      rw [show odV wh (D i.toNat) 2 = st7 (D i.toNat).A from rfl]
      refine e_aload_n F dL_areJoined_34 rfl ?_
      refine e_iload_n F dL_areJoined_35 rfl ?_
      refine e_iconst F dL_areJoined_36 ?_
      refine e_callVV F u_X3_ofDeal (by rfl) (c_X3_ofDeal hC (by constructor <;> omega) (by constructor <;> omega)) hC.1 rfl rfl w_ml_RL_127 dL_areJoined_37 (by rfl) (Nat.le_of_ble_eq_true rfl) (by decide) (by omega) (fun E w2 n2 h _ => by obtain ⟨⟨-, q⟩ | ⟨-, q⟩, -⟩ := h <;> first | exact q.elim | omega) (fun r_37 w_37 n_37 h_37 hn_37 => ?_)
      obtain ⟨-, rfl, en_37, hC, -⟩ := h_37
      rw [show odV wh (D j.toNat) 2 = st7 (D j.toNat).A from rfl]
      refine e_iand F dL_areJoined_40 (eI_and s1.1 s1.2 s2.1 s2.2) ?_
      refine e_callSS F u_L_count (by rfl) (c_L_count (s9 := (((st7 (D i.toNat).A).toNat &&& (st7 (D j.toNat).A).toNat : Nat) : Int)) hland.1 hland.2) w_ml_RL_155 dL_areJoined_41 (by rfl) (Nat.le_of_ble_eq_true rfl) (by decide) (by omega) (fun _ _ _ h _ => False.elim h) (fun r_41 w_41 n_41 h_41 hn_41 => ?_)
      obtain ⟨rfl, ew_41, en_41⟩ := h_41
      rw [ew_41, en_41, ← hcm]
      refine e_istore F dL_areJoined_44 (by decide) ?_
      refine e_aload_n F dL_areJoined_46 rfl ?_
      refine e_iload_n F dL_areJoined_47 rfl ?_
      refine e_iconst F dL_areJoined_48 ?_
      refine e_callVV F u_X3_ofDeal (by rfl) (c_X3_ofDeal hC (by constructor <;> omega) (by constructor <;> omega)) hC.1 rfl rfl w_ml_RL_127 dL_areJoined_49 (by rfl) (Nat.le_of_ble_eq_true rfl) (by decide) (by omega) (fun E w2 n2 h _ => by obtain ⟨⟨-, q⟩ | ⟨-, q⟩, -⟩ := h <;> first | exact q.elim | omega) (fun r_49 w_49 n_49 h_49 hn_49 => ?_)
      obtain ⟨-, rfl, en_49, hC, -⟩ := h_49
      have h41 : odV wh (D i.toNat) 4 = 1 := c_7
      have h42 : odV wh (D j.toNat) 4 = 1 := c_17
      rw [(od0 g1).2 (odV4.mp h41).1]
      refine e_istore F dL_areJoined_52 (by decide) ?_
      refine e_aload_n F dL_areJoined_54 rfl ?_
      refine e_iload_n F dL_areJoined_55 rfl ?_
      refine e_iconst F dL_areJoined_56 ?_
      refine e_callVV F u_X3_ofDeal (by rfl) (c_X3_ofDeal hC (by constructor <;> omega) (by constructor <;> omega)) hC.1 rfl rfl w_ml_RL_127 dL_areJoined_57 (by rfl) (Nat.le_of_ble_eq_true rfl) (by decide) (by omega) (fun E w2 n2 h _ => by obtain ⟨⟨-, q⟩ | ⟨-, q⟩, -⟩ := h <;> first | exact q.elim | omega) (fun r_57 w_57 n_57 h_57 hn_57 => ?_)
      obtain ⟨-, rfl, en_57, hC, -⟩ := h_57
      rw [(od0 g2).2 (odV4.mp h42).1]
      refine e_istore F dL_areJoined_60 (by decide) ?_
      refine e_iload F dL_areJoined_62 rfl ?_
      refine e_iload F dL_areJoined_64 rfl ?_
      refine e_icmp_le F 76 dL_areJoined_66 (by decide) (⟨by omega, by omega⟩) (⟨by omega, by omega⟩) (fun c_66 => ?_) (fun c_66 => ?_)
      · refine e_iconst F dL_areJoined_76 ?_
        refine e_zret F rfl (by omega) (by omega) ?_ dL_areJoined_77
        exact ⟨rfl, _, ⟨hC, hQ⟩, O5.rf⟩
      · refine e_iload F dL_areJoined_69 rfl ?_
        refine e_iload F dL_areJoined_71 rfl ?_
        refine e_icmp_gt F 78 dL_areJoined_73 (by decide) (⟨by omega, by omega⟩) (⟨by omega, by omega⟩) (fun c_73 => ?_) (fun c_73 => ?_)
        · refine e_aload_n F dL_areJoined_78 rfl ?_
          refine e_iload_n F dL_areJoined_79 rfl ?_
          refine e_iconst F dL_areJoined_80 ?_
          refine e_callVV F u_X3_ofDeal (by rfl) (c_X3_ofDeal hC (by constructor <;> omega) (by constructor <;> omega)) hC.1 rfl rfl w_ml_RL_127 dL_areJoined_81 (by rfl) (Nat.le_of_ble_eq_true rfl) (by decide) (by omega) (fun E w2 n2 h _ => by obtain ⟨⟨-, q⟩ | ⟨-, q⟩, -⟩ := h <;> first | exact q.elim | omega) (fun r_81 w_81 n_81 h_81 hn_81 => ?_)
          obtain ⟨-, rfl, en_81, hC, -⟩ := h_81
          refine e_i2l F dL_areJoined_84 (⟨by omega, by omega⟩) ?_
          refine e_lstore F dL_areJoined_85 (by decide) ?_
          refine e_aload_n F dL_areJoined_87 rfl ?_
          refine e_iload_n F dL_areJoined_88 rfl ?_
          refine e_iconst F dL_areJoined_89 ?_
          refine e_callVV F u_X3_ofDeal (by rfl) (c_X3_ofDeal hC (by constructor <;> omega) (by constructor <;> omega)) hC.1 rfl rfl w_ml_RL_127 dL_areJoined_90 (by rfl) (Nat.le_of_ble_eq_true rfl) (by decide) (by omega) (fun E w2 n2 h _ => by obtain ⟨⟨-, q⟩ | ⟨-, q⟩, -⟩ := h <;> first | exact q.elim | omega) (fun r_90 w_90 n_90 h_90 hn_90 => ?_)
          obtain ⟨-, rfl, en_90, hC, -⟩ := h_90
          refine e_i2l F dL_areJoined_93 (⟨by omega, by omega⟩) ?_
          refine e_lstore F dL_areJoined_94 (by decide) ?_
          refine e_aload_n F dL_areJoined_96 rfl ?_
          refine e_iload_n F dL_areJoined_97 rfl ?_
          refine e_iload_n F dL_areJoined_98 rfl ?_
          refine e_iconst F dL_areJoined_99 ?_
          refine e_callVV F u_X3_plus (by rfl) (c_X3_plus hC (by constructor <;> omega) (by constructor <;> omega) (by constructor <;> omega)) hC.1 rfl rfl w_ml_RL_74 dL_areJoined_100 (by rfl) (Nat.le_of_ble_eq_true rfl) (by decide) (by omega) (fun E w2 n2 h _ => by obtain ⟨⟨-, q⟩ | ⟨-, q⟩, -⟩ := h <;> first | exact q.elim | omega) (fun r_100 w_100 n_100 h_100 hn_100 => ?_)
          obtain ⟨-, rfl, en_100, hC, -⟩ := h_100
          obtain ⟨e100, D1, ⟨hC, hQ1⟩, hO1, h51, h61, e5⟩ := n_join (cm := cm) hQ hi6 hj6 (Or.inl ⟨rfl, rfl⟩) hC h41 h42 hcm (by omega) (by omega)
          rw [e100]
          refine e_iload F dL_areJoined_103 rfl ?_
          refine e_icmp_ne F 136 dL_areJoined_105 (by decide) (⟨by omega, by omega⟩) (⟨by omega, by omega⟩) (fun c_105 => ?_) (fun c_105 => ?_)
          · exact absurd rfl c_105
          · refine e_aload_n F dL_areJoined_108 rfl ?_
            refine e_iconst F dL_areJoined_109 ?_
            refine e_iconst F dL_areJoined_110 ?_
            refine e_callVV F u_X3_ofDeal (by rfl) (c_X3_ofDeal hC (by constructor <;> omega) (by constructor <;> omega)) hC.1 rfl rfl w_ml_RL_127 dL_areJoined_111 (by rfl) (Nat.le_of_ble_eq_true rfl) (by decide) (by omega) (fun E w2 n2 h _ => by obtain ⟨⟨-, q⟩ | ⟨-, q⟩, -⟩ := h <;> first | exact q.elim | omega) (fun r_111 w_111 n_111 h_111 hn_111 => ?_)
            obtain ⟨-, rfl, en_111, hC, -⟩ := h_111
            refine e_iconst F dL_areJoined_114 ?_
            refine e_icmp_ne F 136 dL_areJoined_115 (by decide) (od_e5 hQ1 _) (by decide) (fun c_115 => ?_) (fun c_115 => ?_)
            · exact absurd h51 c_115
            · refine e_aload_n F dL_areJoined_118 rfl ?_
              refine e_iconst F dL_areJoined_119 ?_
              refine e_iconst F dL_areJoined_120 ?_
              refine e_callVV F u_X3_ofDeal (by rfl) (c_X3_ofDeal hC (by constructor <;> omega) (by constructor <;> omega)) hC.1 rfl rfl w_ml_RL_127 dL_areJoined_121 (by rfl) (Nat.le_of_ble_eq_true rfl) (by decide) (by omega) (fun E w2 n2 h _ => by obtain ⟨⟨-, q⟩ | ⟨-, q⟩, -⟩ := h <;> first | exact q.elim | omega) (fun r_121 w_121 n_121 h_121 hn_121 => ?_)
              obtain ⟨-, rfl, en_121, hC, -⟩ := h_121
              refine e_lload F dL_areJoined_124 rfl ?_
              refine e_lload F dL_areJoined_126 rfl ?_
              refine e_ladd F dL_areJoined_128 ?_
              refine e_iload_n F dL_areJoined_129 rfl ?_
              refine e_callSS F u_L_mod (by rfl) (c_L_mod (v := odV wh (D i.toNat) 5 + odV wh (D j.toNat) 5) (p9 := pr wh) (by constructor <;> omega) (by omega) (by omega)) w_ml_RL_164 dL_areJoined_130 (by rfl) (Nat.le_of_ble_eq_true rfl) (by decide) (by omega) (fun _ _ _ h _ => False.elim h) (fun r_130 w_130 n_130 h_130 hn_130 => ?_)
              obtain ⟨rfl, ew_130, en_130⟩ := h_130
              rw [ew_130, en_130]
              refine e_icmp_eq F 138 dL_areJoined_133 (by decide) (od_e5 hQ1 _) (by have q := emod_rg (odV wh (D i.toNat) 5 + odV wh (D j.toNat) 5) hwh; constructor <;> omega) (fun c_133 => ?_) (fun c_133 => ?_)
              · refine e_iconst F dL_areJoined_138 ?_
                refine e_istore F dL_areJoined_139 (by decide) ?_
                exact e_go (lp h41 h42 (by omega) (by omega) 6 0 _ _ _ D1 (by omega) (by omega) ⟨hC, hQ1⟩ hO1 e5 (by omega)) (And.intro rfl (And.intro rfl (And.intro rfl (And.intro rfl (And.intro rfl (And.intro rfl (And.intro rfl (And.intro rfl (And.intro rfl (And.intro rfl (trivial)))))))))))
              · exact absurd (show odV wh (D1 5) 5 = _ from h61.trans (by rw [Int.one_mul])) c_133
        · refine e_iconst F dL_areJoined_76 ?_
          refine e_zret F rfl (by omega) (by omega) ?_ dL_areJoined_77
          exact ⟨rfl, _, ⟨hC, hQ⟩, O5.rf⟩
    · refine e_iconst F dL_areJoined_20 ?_
      refine e_zret F rfl (by omega) (by omega) ?_ dL_areJoined_21
      exact ⟨rfl, _, ⟨hC, hQ⟩, O5.rf⟩
