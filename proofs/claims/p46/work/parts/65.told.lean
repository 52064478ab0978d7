set_option maxHeartbeats 4000000 in
set_option maxRecDepth 100000 in
theorem c_L_isTold {K : e_K} {l : Launch} {w : e_W} {n : Nat} {x wh : Nat} {D : Nat → SD} (hC : CW w x wh 0 D) (hQ : ∃ R, GG wh D R) {i st a b : Int} (hi : 0 ≤ i ∧ i < 5) (hs : 1 ≤ st ∧ st ≤ fl wh) (ha : e_r a) (hb : e_r b) (h5 : D 5 = SD0) : e_Met K l yL_isTold (Cond.code yL_isTold cL_isTold 11 (Option.some .boolean) :: e_TB) (9) (170) [.ref x, .int (eI i), .int (eI st), .int (eI a), .int (eI b)] w n (fun r w' n' => r = some (.int (eI 1)) ∧ CW w' x wh 0 D) (e_px0) := by
  refine e_ofV rfl (Nat.le_of_ble_eq_true rfl) ?_
  intro P9 E9 S9 M9 A9 B9 T9 C9 F hnm
  have hC0 := hC
  have hwh := hC.2.2.1
  have hp := pr_rg wh hwh
  have hg9 := gr_rg wh hwh
  have ho9 := ho_rg wh hwh
  have hf9 := (fl_rg9 hwh).1
  have hd6 : i.toNat < 6 := by omega
  obtain ⟨R, G⟩ := hQ
  have hQ : ∃ R, GG wh D R := ⟨R, G⟩
  have g := G.2.2 i.toNat hd6
  have d2 := g.2.1
  have st9 := st7_rg (D i.toNat).A
  have bs9 := bc_rg (v := st7 (D i.toNat).A) st9.1 st9.2
  have sfl := t_fl hwh g
  have bst := bc_rg (v := st) (by omega) (by omega)
  have hfl := fl01 g
  have wy1 := wyV_r hwh g st a bst.1
  have wy2 := wyV_r hwh g st b bst.1
  have l291 : (D i.toNat).fl = 1 → 0 < (D i.toNat).sc → ∀ (w1 : e_W) (n1 k1 : Nat) (kv f9 j9 : Int), (kv = 0 ∨ kv = 1 ∧ (il wh (st7 (D i.toNat).A) (D i.toNat).A (D i.toNat).fl (D i.toNat).dg ∧ (D i.toNat).dg < bc (st7 (D i.toNat).A))) → (f9 = 0 ∨ f9 = 1 ∧ (∀ j : Nat, j < (ho wh).toNat → (D i.toNat).A ((j : Int) + 1) ≠ -1 → fit wh (D i.toNat).sc (D i.toNat).A (D i.toNat).B ((j : Int) + 1))) → CW w1 x wh 0 D → k1 ≤ 120 → e_V K P9 l E9 (9) (170) S9 M9 A9 B9 T9 C9 11 (fun r w' n' => r = some (.int (eI 1)) ∧ CW w' x wh 0 D) (e_px0) 291 [(0, .ref x), (1, .int (eI i)), (2, .int (eI st)), (3, .int (eI a)), (4, .int (eI b)), (5, .int (eI (D i.toNat).dg)), (6, .int (eI (st7 (D i.toNat).A))), (7, .int (eI kv)), (9, .int (eI f9)), (10, .int (eI j9))] [] w1 n1 (k1) := by
    intro hf hsc w1 n1 k1 kv f9 j9 hkv hf9x hC hk1
    have tf : f9 = 1 → il wh (st7 (D i.toNat).A) (D i.toNat).A (D i.toNat).fl (D i.toNat).dg ∧ ((D i.toNat).dg < bc (st7 (D i.toNat).A) → sl wh (odV wh (D i.toNat) 5) = (D i.toNat).B 0) := fun q => t_fit hwh g hsc (hf9x.resolve_left (by omega)).2
    have hB0 : 0 ≤ (D i.toNat).B 0 ∧ (D i.toNat).B 0 < gr wh := ((hC0.2.2.2.2.2.1 i.toNat hd6).2.2.1 0 (Int.le_refl _) hsc).1
    refine e_iload F dL_isTold_291 rfl ?_
    refine e_if_eq F 308 dL_isTold_293 (by decide) (by rcases hf9x with z | z <;> constructor <;> omega) (fun c_293 => ?_) (fun c_293 => ?_)
    · refine e_iload F dL_isTold_308 rfl ?_
      refine e_if_eq F 337 dL_isTold_310 (by decide) (by rcases hf9x with z | z <;> constructor <;> omega) (fun c_310 => ?_) (fun c_310 => ?_)
      · refine e_iconst F dL_isTold_337 ?_
        refine e_goto F 342 dL_isTold_338 (by decide) ?_
        refine e_zret F rfl (by omega) (by omega) ?_ dL_isTold_342
        exact ⟨rfl, hC⟩
      · refine e_iload F dL_isTold_313 rfl ?_
        refine e_if_eq F 337 dL_isTold_315 (by decide) (by rcases hkv with z | z <;> constructor <;> omega) (fun c_315 => ?_) (fun c_315 => ?_)
        · refine e_iconst F dL_isTold_337 ?_
          refine e_goto F 342 dL_isTold_338 (by decide) ?_
          refine e_zret F rfl (by omega) (by omega) ?_ dL_isTold_342
          exact ⟨rfl, hC⟩
        · refine e_aload_n F dL_isTold_318 rfl ?_
          refine e_iload_n F dL_isTold_319 rfl ?_
          refine e_iconst F dL_isTold_320 ?_
          refine e_callVV F u_X3_seal (by rfl) (c_X3_seal hC (by constructor <;> omega) (by constructor <;> omega)) hC.1 rfl rfl w_ml_RL_161 dL_isTold_321 (by rfl) (Nat.le_of_ble_eq_true rfl) (by decide) (by omega) (fun E w2 n2 h _ => by obtain ⟨⟨-, q⟩ | ⟨-, q⟩, -⟩ := h <;> first | exact q.elim | omega) (fun r_321 w_321 n_321 h_321 hn_321 => ?_)
          obtain ⟨-, rfl, en_321, hC, -⟩ := h_321
          rw [if_pos (show (0 : Int) ≤ 0 ∧ 0 < (D i.toNat).sc from ⟨Int.le_refl _, hsc⟩)]
          refine e_aload_n F dL_isTold_324 rfl ?_
          refine e_aload_n F dL_isTold_325 rfl ?_
          refine e_iload_n F dL_isTold_326 rfl ?_
          refine e_iconst F dL_isTold_327 ?_
          refine e_callVV F u_X3_ofDeal (by rfl) (c_X3_ofDeal hC (by constructor <;> omega) (by constructor <;> omega)) hC.1 rfl rfl w_ml_RL_127 dL_isTold_328 (by rfl) (Nat.le_of_ble_eq_true rfl) (by decide) (by omega) (fun E w2 n2 h _ => by obtain ⟨⟨-, q⟩ | ⟨-, q⟩, -⟩ := h <;> first | exact q.elim | omega) (fun r_328 w_328 n_328 h_328 hn_328 => ?_)
          obtain ⟨-, rfl, en_328, hC, -⟩ := h_328
          refine e_callVV F u_X3_sealOf (by rfl) (c_X3_sealOf hC (od_e hQ hd6 5)) hC.1 rfl rfl w_ml_RL_124 dL_isTold_331 (by rfl) (Nat.le_of_ble_eq_true rfl) (by decide) (by omega) (fun _ _ _ h _ => False.elim h) (fun r_331 w_331 n_331 h_331 hn_331 => ?_)
          obtain ⟨rfl, en_331, hC, -⟩ := h_331
          have hsl := sl_rg (v := odV wh (D i.toNat) 5) hwh
          refine e_icmp_ne F 341 dL_isTold_334 (by decide) (⟨by omega, by omega⟩) (⟨by omega, by omega⟩) (fun c_334 => ?_) (fun c_334 => ?_)
          · exact absurd ((tf (by omega)).2 (hkv.resolve_left (by omega)).2.2).symm c_334
          · refine e_iconst F dL_isTold_337 ?_
            refine e_goto F 342 dL_isTold_338 (by decide) ?_
            refine e_zret F rfl (by omega) (by omega) ?_ dL_isTold_342
            exact ⟨rfl, hC⟩
    · refine e_aload_n F dL_isTold_296 rfl ?_
      refine e_iload_n F dL_isTold_297 rfl ?_
      refine e_iconst F dL_isTold_298 ?_
      refine e_callVV F u_X3_ofDeal (by rfl) (c_X3_ofDeal hC (by constructor <;> omega) (by constructor <;> omega)) hC.1 rfl rfl w_ml_RL_127 dL_isTold_299 (by rfl) (Nat.le_of_ble_eq_true rfl) (by decide) (by omega) (fun E w2 n2 h _ => by obtain ⟨⟨-, q⟩ | ⟨-, q⟩, -⟩ := h <;> first | exact q.elim | omega) (fun r_299 w_299 n_299 h_299 hn_299 => ?_)
      obtain ⟨-, rfl, en_299, hC, -⟩ := h_299
      refine e_iconst F dL_isTold_302 ?_
      refine e_icmp_eq F 308 dL_isTold_303 (by decide) (od_e hQ hd6 _) (by decide) (fun c_303 => ?_) (fun c_303 => ?_)
      · refine e_iload F dL_isTold_308 rfl ?_
        refine e_if_eq F 337 dL_isTold_310 (by decide) (by rcases hf9x with z | z <;> constructor <;> omega) (fun c_310 => ?_) (fun c_310 => ?_)
        · refine e_iconst F dL_isTold_337 ?_
          refine e_goto F 342 dL_isTold_338 (by decide) ?_
          refine e_zret F rfl (by omega) (by omega) ?_ dL_isTold_342
          exact ⟨rfl, hC⟩
        · refine e_iload F dL_isTold_313 rfl ?_
          refine e_if_eq F 337 dL_isTold_315 (by decide) (by rcases hkv with z | z <;> constructor <;> omega) (fun c_315 => ?_) (fun c_315 => ?_)
          · refine e_iconst F dL_isTold_337 ?_
            refine e_goto F 342 dL_isTold_338 (by decide) ?_
            refine e_zret F rfl (by omega) (by omega) ?_ dL_isTold_342
            exact ⟨rfl, hC⟩
          · refine e_aload_n F dL_isTold_318 rfl ?_
            refine e_iload_n F dL_isTold_319 rfl ?_
            refine e_iconst F dL_isTold_320 ?_
            refine e_callVV F u_X3_seal (by rfl) (c_X3_seal hC (by constructor <;> omega) (by constructor <;> omega)) hC.1 rfl rfl w_ml_RL_161 dL_isTold_321 (by rfl) (Nat.le_of_ble_eq_true rfl) (by decide) (by omega) (fun E w2 n2 h _ => by obtain ⟨⟨-, q⟩ | ⟨-, q⟩, -⟩ := h <;> first | exact q.elim | omega) (fun r_321 w_321 n_321 h_321 hn_321 => ?_)
            obtain ⟨-, rfl, en_321, hC, -⟩ := h_321
            rw [if_pos (show (0 : Int) ≤ 0 ∧ 0 < (D i.toNat).sc from ⟨Int.le_refl _, hsc⟩)]
            refine e_aload_n F dL_isTold_324 rfl ?_
            refine e_aload_n F dL_isTold_325 rfl ?_
            refine e_iload_n F dL_isTold_326 rfl ?_
            refine e_iconst F dL_isTold_327 ?_
            refine e_callVV F u_X3_ofDeal (by rfl) (c_X3_ofDeal hC (by constructor <;> omega) (by constructor <;> omega)) hC.1 rfl rfl w_ml_RL_127 dL_isTold_328 (by rfl) (Nat.le_of_ble_eq_true rfl) (by decide) (by omega) (fun E w2 n2 h _ => by obtain ⟨⟨-, q⟩ | ⟨-, q⟩, -⟩ := h <;> first | exact q.elim | omega) (fun r_328 w_328 n_328 h_328 hn_328 => ?_)
            obtain ⟨-, rfl, en_328, hC, -⟩ := h_328
            refine e_callVV F u_X3_sealOf (by rfl) (c_X3_sealOf hC (od_e hQ hd6 5)) hC.1 rfl rfl w_ml_RL_124 dL_isTold_331 (by rfl) (Nat.le_of_ble_eq_true rfl) (by decide) (by omega) (fun _ _ _ h _ => False.elim h) (fun r_331 w_331 n_331 h_331 hn_331 => ?_)
            obtain ⟨rfl, en_331, hC, -⟩ := h_331
            have hsl := sl_rg (v := odV wh (D i.toNat) 5) hwh
            refine e_icmp_ne F 341 dL_isTold_334 (by decide) (⟨by omega, by omega⟩) (⟨by omega, by omega⟩) (fun c_334 => ?_) (fun c_334 => ?_)
            · exact absurd ((tf (by omega)).2 (hkv.resolve_left (by omega)).2.2).symm c_334
            · refine e_iconst F dL_isTold_337 ?_
              refine e_goto F 342 dL_isTold_338 (by decide) ?_
              refine e_zret F rfl (by omega) (by omega) ?_ dL_isTold_342
              exact ⟨rfl, hC⟩
      · exact absurd (b01_t (tf (by omega)).1) c_303
  have lp : (D i.toNat).fl = 1 → 0 < (D i.toNat).sc → ∀ (N j : Nat) (w1 : e_W) (n1 k1 : Nat) (kv f9 : Int), 8 - j < N → (kv = 0 ∨ kv = 1 ∧ (il wh (st7 (D i.toNat).A) (D i.toNat).A (D i.toNat).fl (D i.toNat).dg ∧ (D i.toNat).dg < bc (st7 (D i.toNat).A))) → (f9 = 0 ∨ f9 = 1 ∧ ∀ j2 : Nat, j2 < j → (D i.toNat).A ((j2 : Int) + 1) ≠ -1 → fit wh (D i.toNat).sc (D i.toNat).A (D i.toNat).B ((j2 : Int) + 1)) → (j : Int) ≤ ho wh → CW w1 x wh 0 D → k1 ≤ 75 + 4 * j → e_V K P9 l E9 (9) (170) S9 M9 A9 B9 T9 C9 11 (fun r w' n' => r = some (.int (eI 1)) ∧ CW w' x wh 0 D) (e_px0) 255 [(0, .ref x), (1, .int (eI i)), (2, .int (eI st)), (3, .int (eI a)), (4, .int (eI b)), (5, .int (eI (D i.toNat).dg)), (6, .int (eI (st7 (D i.toNat).A))), (7, .int (eI kv)), (9, .int (eI f9)), (10, .int (eI ((j : Int) + 1)))] [] w1 n1 (k1) := by
    intro hf hsc N
    induction N with
    | zero => intro j w1 n1 k1 kv f9 hN; exact absurd hN (Nat.not_lt_zero _)
    | succ N ih =>
      intro j w1 n1 k1 kv f9 hN hkv hf9x hj hC hk1
      have hfr : e_r (if 0 < (D i.toNat).sc ∧ (D i.toNat).A ((j : Int) + 1) ≠ -1 then b01 (fit wh (D i.toNat).sc (D i.toNat).A (D i.toNat).B ((j : Int) + 1)) else -9) := by split <;> first | exact b01_r _ | decide
      have hf01 : f9 = 0 ∨ f9 = 1 := by omega
      refine e_iload F dL_isTold_255 rfl ?_
      refine e_aload_n F dL_isTold_257 rfl ?_
      refine e_iconst F dL_isTold_258 ?_
      refine e_callVV F u_X3_house (by rfl) (c_X3_house hC (by constructor <;> omega)) hC.1 rfl rfl w_ml_RL_38 dL_isTold_259 (by rfl) (Nat.le_of_ble_eq_true rfl) (by decide) (by omega) (fun E w2 n2 h _ => by obtain ⟨⟨-, q⟩ | ⟨-, q⟩, -⟩ := h <;> first | exact q.elim | omega) (fun r_259 w_259 n_259 h_259 hn_259 => ?_)
      obtain ⟨-, rfl, en_259, hC, -⟩ := h_259
      rw [show hsV wh 0 D 4 = ho wh from rfl]
      refine e_icmp_gt F 291 dL_isTold_262 (by decide) (⟨by omega, by omega⟩) (⟨by omega, by omega⟩) (fun c_262 => ?_) (fun c_262 => ?_)
      ·
        have hall : f9 = 0 ∨ f9 = 1 ∧ (∀ j : Nat, j < (ho wh).toNat → (D i.toNat).A ((j : Int) + 1) ≠ -1 → fit wh (D i.toNat).sc (D i.toNat).A (D i.toNat).B ((j : Int) + 1)) := by
          rcases hf9x with z | z
          · exact Or.inl z
          · exact Or.inr ⟨z.1, fun j2 hj2 q => z.2 j2 (by omega) q⟩
        exact e_go (l291 hf hsc _ _ _ kv f9 ((j : Int) + 1) hkv hall hC (by omega)) (And.intro rfl (And.intro rfl (And.intro rfl (And.intro rfl (And.intro rfl (And.intro rfl (And.intro rfl (And.intro rfl (And.intro rfl (And.intro rfl (trivial)))))))))))
      · refine e_iload F dL_isTold_265 rfl ?_
        refine e_aload_n F dL_isTold_267 rfl ?_
        refine e_iload_n F dL_isTold_268 rfl ?_
        refine e_iload F dL_isTold_269 rfl ?_
        refine e_callVV F u_X3_fits (by rfl) (c_X3_fits hC (by constructor <;> omega) (by constructor <;> omega)) hC.1 rfl rfl w_ml_RL_158 dL_isTold_271 (by rfl) (Nat.le_of_ble_eq_true rfl) (by decide) (by omega) (fun E w2 n2 h _ => by obtain ⟨⟨-, q⟩ | ⟨-, q⟩, -⟩ := h <;> first | exact q.elim | omega) (fun r_271 w_271 n_271 h_271 hn_271 => ?_)
        obtain ⟨-, rfl, en_271, hC, -⟩ := h_271
        refine e_if_eq F 281 dL_isTold_274 (by decide) (hfr) (fun c_274 => ?_) (fun c_274 => ?_)
        · refine e_iconst F dL_isTold_281 ?_
          rcases hf9x with z | z
          · rw [z]
            first
            | refine e_iand F dL_isTold_282 (z := 0) (by decide) ?_
              refine e_istore F dL_isTold_283 (by decide) ?_
              refine e_iinc F dL_isTold_285 rfl (by decide) ?_
              refine e_goto F 255 dL_isTold_288 (by decide) ?_
              refine e_go (ih (j + 1) _ _ _ kv 0 (by omega) hkv (Or.inl rfl) (by omega) hC (by omega)) ?_
              exact (And.intro rfl (And.intro rfl (And.intro rfl (And.intro rfl (And.intro rfl (And.intro rfl (And.intro rfl (And.intro rfl (And.intro rfl (And.intro rfl (trivial)))))))))))
          · rw [z.1]
            first
            | refine e_iand F dL_isTold_282 (z := 1) (by decide) ?_
              refine e_istore F dL_isTold_283 (by decide) ?_
              refine e_iinc F dL_isTold_285 rfl (by decide) ?_
              refine e_goto F 255 dL_isTold_288 (by decide) ?_
              refine e_go (ih (j + 1) _ _ _ kv 1 (by omega) hkv (Or.inr ⟨rfl, fun j2 hj2 q => ?_⟩) (by omega) hC (by omega)) ?_
              · by_cases e : j2 = j
                · rw [e] at q ⊢
                  exact Classical.byContradiction (fun nf => c_274 ((if_pos ⟨hsc, q⟩).trans (b01_f nf)))
                · exact z.2 j2 (by omega) q
              · exact (And.intro rfl (And.intro rfl (And.intro rfl (And.intro rfl (And.intro rfl (And.intro rfl (And.intro rfl (And.intro rfl (And.intro rfl (And.intro rfl (trivial)))))))))))
            | refine e_iand F dL_isTold_282 (z := 0) (by decide) ?_
              refine e_istore F dL_isTold_283 (by decide) ?_
              refine e_iinc F dL_isTold_285 rfl (by decide) ?_
              refine e_goto F 255 dL_isTold_288 (by decide) ?_
              refine e_go (ih (j + 1) _ _ _ kv 0 (by omega) hkv (Or.inl rfl) (by omega) hC (by omega)) ?_
              exact (And.intro rfl (And.intro rfl (And.intro rfl (And.intro rfl (And.intro rfl (And.intro rfl (And.intro rfl (And.intro rfl (And.intro rfl (And.intro rfl (trivial)))))))))))
        · refine e_iconst F dL_isTold_277 ?_
          refine e_goto F 282 dL_isTold_278 (by decide) ?_
          rcases hf9x with z | z
          · rw [z]
            first
            | refine e_iand F dL_isTold_282 (z := 0) (by decide) ?_
              refine e_istore F dL_isTold_283 (by decide) ?_
              refine e_iinc F dL_isTold_285 rfl (by decide) ?_
              refine e_goto F 255 dL_isTold_288 (by decide) ?_
              refine e_go (ih (j + 1) _ _ _ kv 0 (by omega) hkv (Or.inl rfl) (by omega) hC (by omega)) ?_
              exact (And.intro rfl (And.intro rfl (And.intro rfl (And.intro rfl (And.intro rfl (And.intro rfl (And.intro rfl (And.intro rfl (And.intro rfl (And.intro rfl (trivial)))))))))))
          · rw [z.1]
            first
            | refine e_iand F dL_isTold_282 (z := 1) (by decide) ?_
              refine e_istore F dL_isTold_283 (by decide) ?_
              refine e_iinc F dL_isTold_285 rfl (by decide) ?_
              refine e_goto F 255 dL_isTold_288 (by decide) ?_
              refine e_go (ih (j + 1) _ _ _ kv 1 (by omega) hkv (Or.inr ⟨rfl, fun j2 hj2 q => ?_⟩) (by omega) hC (by omega)) ?_
              · by_cases e : j2 = j
                · rw [e] at q ⊢
                  exact Classical.byContradiction (fun nf => c_274 ((if_pos ⟨hsc, q⟩).trans (b01_f nf)))
                · exact z.2 j2 (by omega) q
              · exact (And.intro rfl (And.intro rfl (And.intro rfl (And.intro rfl (And.intro rfl (And.intro rfl (And.intro rfl (And.intro rfl (And.intro rfl (And.intro rfl (trivial)))))))))))
            | refine e_iand F dL_isTold_282 (z := 0) (by decide) ?_
              refine e_istore F dL_isTold_283 (by decide) ?_
              refine e_iinc F dL_isTold_285 rfl (by decide) ?_
              refine e_goto F 255 dL_isTold_288 (by decide) ?_
              refine e_go (ih (j + 1) _ _ _ kv 0 (by omega) hkv (Or.inl rfl) (by omega) hC (by omega)) ?_
              exact (And.intro rfl (And.intro rfl (And.intro rfl (And.intro rfl (And.intro rfl (And.intro rfl (And.intro rfl (And.intro rfl (And.intro rfl (And.intro rfl (trivial)))))))))))
  have l238 : (D i.toNat).fl = 1 → ∀ (w1 : e_W) (n1 k1 : Nat) (kv : Int), (kv = 0 ∨ kv = 1 ∧ (il wh (st7 (D i.toNat).A) (D i.toNat).A (D i.toNat).fl (D i.toNat).dg ∧ (D i.toNat).dg < bc (st7 (D i.toNat).A))) → CW w1 x wh 0 D → k1 ≤ 70 → e_V K P9 l E9 (9) (170) S9 M9 A9 B9 T9 C9 11 (fun r w' n' => r = some (.int (eI 1)) ∧ CW w' x wh 0 D) (e_px0) 238 [(0, .ref x), (1, .int (eI i)), (2, .int (eI st)), (3, .int (eI a)), (4, .int (eI b)), (5, .int (eI (D i.toNat).dg)), (6, .int (eI (st7 (D i.toNat).A))), (7, .int (eI kv))] [] w1 n1 (k1) := by
    intro hf w1 n1 k1 kv hkv hC hk1
    refine e_aload_n F dL_isTold_238 rfl ?_
    refine e_iload_n F dL_isTold_239 rfl ?_
    refine e_iconst F dL_isTold_240 ?_
    refine e_callVV F u_X3_ofDeal (by rfl) (c_X3_ofDeal hC (by constructor <;> omega) (by constructor <;> omega)) hC.1 rfl rfl w_ml_RL_127 dL_isTold_241 (by rfl) (Nat.le_of_ble_eq_true rfl) (by decide) (by omega) (fun E w2 n2 h _ => by obtain ⟨⟨-, q⟩ | ⟨-, q⟩, -⟩ := h <;> first | exact q.elim | omega) (fun r_241 w_241 n_241 h_241 hn_241 => ?_)
    obtain ⟨-, rfl, en_241, hC, -⟩ := h_241
    rw [show odV wh (D i.toNat) 3 = b01 (0 < (D i.toNat).sc) from rfl]
    refine e_if_ne F 249 dL_isTold_244 (by decide) (b01_r _) (fun c_244 => ?_) (fun c_244 => ?_)
    ·
      rw [ne_eq, b01_0, Classical.not_not] at c_244
      refine e_iconst F dL_isTold_249 ?_
      refine e_istore F dL_isTold_250 (by decide) ?_
      refine e_iconst F dL_isTold_252 ?_
      refine e_istore F dL_isTold_253 (by decide) ?_
      exact e_go (lp hf c_244 9 0 _ _ _ kv 1 (by omega) hkv (Or.inr ⟨rfl, fun j2 hj2 => absurd hj2 (Nat.not_lt_zero _)⟩) (by omega) hC (by omega)) (And.intro rfl (And.intro rfl (And.intro rfl (And.intro rfl (And.intro rfl (And.intro rfl (And.intro rfl (And.intro rfl (And.intro rfl (And.intro rfl (trivial)))))))))))
    · refine e_iconst F dL_isTold_247 ?_
      refine e_zret F rfl (by omega) (by omega) ?_ dL_isTold_248
      exact ⟨rfl, hC⟩
  have l161 : (D i.toNat).fl = 1 → ∀ (w1 : e_W) (n1 k1 : Nat) (kv : Int), (kv = 0 ∨ kv = 1 ∧ (il wh (st7 (D i.toNat).A) (D i.toNat).A (D i.toNat).fl (D i.toNat).dg ∧ (D i.toNat).dg < bc (st7 (D i.toNat).A))) → CW w1 x wh 0 D → k1 ≤ 40 → e_V K P9 l E9 (9) (170) S9 M9 A9 B9 T9 C9 11 (fun r w' n' => r = some (.int (eI 1)) ∧ CW w' x wh 0 D) (e_px0) 161 [(0, .ref x), (1, .int (eI i)), (2, .int (eI st)), (3, .int (eI a)), (4, .int (eI b)), (5, .int (eI (D i.toNat).dg)), (6, .int (eI (st7 (D i.toNat).A))), (7, .int (eI kv))] [] w1 n1 (k1) := by
    intro hf w1 n1 k1 kv hkv hC hk1
    have lw : 0 ≤ wyV wh (D i.toNat) st a → bc st ≤ (D i.toNat).dg → ∀ (N j : Nat) (w1 : e_W) (n1 k1 : Nat), 8 - j < N → bc st + (j : Int) ≤ (D i.toNat).dg → CW w1 x wh 0 D → k1 ≤ 50 + j → e_V K P9 l E9 (9) (170) S9 M9 A9 B9 T9 C9 11 (fun r w' n' => r = some (.int (eI 1)) ∧ CW w' x wh 0 D) (e_px0) 193 [(0, .ref x), (1, .int (eI i)), (2, .int (eI st)), (3, .int (eI a)), (4, .int (eI b)), (5, .int (eI (D i.toNat).dg)), (6, .int (eI (st7 (D i.toNat).A))), (7, .int (eI kv)), (8, .int (eI (wyV wh (D i.toNat) st a))), (9, .int (eI (pr wh ^ j))), (10, .int (eI (bc st + (j : Int))))] [] w1 n1 (k1) := by
      intro h0 hb0 N
      have tw := t_ways hwh g h0 hb0
      induction N with
      | zero => intro j w1 n1 k1 hN; exact absurd hN (Nat.not_lt_zero _)
      | succ N ih =>
        intro j w1 n1 k1 hN hj hC hk1
        refine e_iload F dL_isTold_193 rfl ?_
        refine e_iload F dL_isTold_195 rfl ?_
        refine e_icmp_ge F 216 dL_isTold_197 (by decide) (⟨by omega, by omega⟩) (⟨by omega, by omega⟩) (fun c_197 => ?_) (fun c_197 => ?_)
        ·
          have ej : j = ((D i.toNat).dg - bc st).toNat := by omega
          refine e_iload F dL_isTold_216 rfl ?_
          refine e_iload F dL_isTold_218 rfl ?_
          refine e_icmp_ne F 236 dL_isTold_220 (by decide) (⟨by omega, by omega⟩) (by rw [ej, ← tw.1]; constructor <;> omega) (fun c_220 => ?_) (fun c_220 => ?_)
          · exact absurd (by rw [ej]; exact tw.1) c_220
          · refine e_aload_n F dL_isTold_223 rfl ?_
            refine e_iload_n F dL_isTold_224 rfl ?_
            refine e_iload_n F dL_isTold_225 rfl ?_
            refine e_iload F dL_isTold_226 rfl ?_
            refine e_callVV F u_X3_ways (by rfl) (c_X3_ways hC (by constructor <;> omega) (by constructor <;> omega) (by constructor <;> omega)) hC.1 rfl rfl w_ml_RL_152 dL_isTold_228 (by rfl) (Nat.le_of_ble_eq_true rfl) (by decide) (by omega) (fun E w2 n2 h _ => by obtain ⟨⟨-, q⟩ | ⟨-, q⟩, -⟩ := h <;> first | exact q.elim | omega) (fun r_228 w_228 n_228 h_228 hn_228 => ?_)
            obtain ⟨-, rfl, en_228, hC, -⟩ := h_228
            refine e_iload F dL_isTold_231 rfl ?_
            refine e_icmp_eq F 238 dL_isTold_233 (by decide) (⟨by omega, by omega⟩) (by rw [ej, ← tw.1]; constructor <;> omega) (fun c_233 => ?_) (fun c_233 => ?_)
            · first
              | exact e_go (l238 hf _ _ _ kv hkv hC (by omega)) (And.intro rfl (And.intro rfl (And.intro rfl (And.intro rfl (And.intro rfl (And.intro rfl (And.intro rfl (And.intro rfl (trivial)))))))))
            · exact absurd (by rw [ej, ← tw.1]; exact wyV_c hb0) c_233
        · refine e_iload F dL_isTold_200 rfl ?_
          refine e_aload_n F dL_isTold_202 rfl ?_
          refine e_iconst F dL_isTold_203 ?_
          refine e_callVV F u_X3_house (by rfl) (c_X3_house hC (by constructor <;> omega)) hC.1 rfl rfl w_ml_RL_38 dL_isTold_204 (by rfl) (Nat.le_of_ble_eq_true rfl) (by decide) (by omega) (fun E w2 n2 h _ => by obtain ⟨⟨-, q⟩ | ⟨-, q⟩, -⟩ := h <;> first | exact q.elim | omega) (fun r_204 w_204 n_204 h_204 hn_204 => ?_)
          obtain ⟨-, rfl, en_204, hC, -⟩ := h_204
          rw [show hsV wh 0 D 1 = pr wh from rfl]
          refine e_imul F dL_isTold_207 ?_
          refine e_istore F dL_isTold_208 (by decide) ?_
          refine e_iinc F dL_isTold_210 rfl (by decide) ?_
          refine e_goto F 193 dL_isTold_213 (by decide) ?_
          refine e_go (ih (j + 1) _ _ _ (by omega) (by omega) hC (by omega)) ?_
          rw [Int.pow_succ, show bc st + ((j + 1 : Nat) : Int) = bc st + (j : Int) + 1 by omega]
          exact (And.intro rfl (And.intro rfl (And.intro rfl (And.intro rfl (And.intro rfl (And.intro rfl (And.intro rfl (And.intro rfl (And.intro rfl (And.intro rfl (And.intro rfl (trivial))))))))))))
    refine e_aload_n F dL_isTold_161 rfl ?_
    refine e_iload_n F dL_isTold_162 rfl ?_
    refine e_iload_n F dL_isTold_163 rfl ?_
    refine e_iload_n F dL_isTold_164 rfl ?_
    refine e_callVV F u_X3_ways (by rfl) (c_X3_ways hC (by constructor <;> omega) (by constructor <;> omega) (by constructor <;> omega)) hC.1 rfl rfl w_ml_RL_152 dL_isTold_165 (by rfl) (Nat.le_of_ble_eq_true rfl) (by decide) (by omega) (fun E w2 n2 h _ => by obtain ⟨⟨-, q⟩ | ⟨-, q⟩, -⟩ := h <;> first | exact q.elim | omega) (fun r_165 w_165 n_165 h_165 hn_165 => ?_)
    obtain ⟨-, rfl, en_165, hC, -⟩ := h_165
    refine e_istore F dL_isTold_168 (by decide) ?_
    refine e_iload F dL_isTold_170 rfl ?_
    refine e_if_lt F 238 dL_isTold_172 (by decide) (⟨by omega, by omega⟩) (fun c_172 => ?_) (fun c_172 => ?_)
    · first
      | exact e_go (l238 hf _ _ _ kv hkv hC (by omega)) (And.intro rfl (And.intro rfl (And.intro rfl (And.intro rfl (And.intro rfl (And.intro rfl (And.intro rfl (And.intro rfl (trivial)))))))))
    · refine e_iload_n F dL_isTold_175 rfl ?_
      refine e_callSS F u_L_count (by rfl) (c_L_count (s9 := st) (by omega) (by omega)) w_ml_RL_155 dL_isTold_176 (by rfl) (Nat.le_of_ble_eq_true rfl) (by decide) (by omega) (fun _ _ _ h _ => False.elim h) (fun r_176 w_176 n_176 h_176 hn_176 => ?_)
      obtain ⟨rfl, ew_176, en_176⟩ := h_176
      rw [ew_176, en_176]
      refine e_iload F dL_isTold_179 rfl ?_
      refine e_icmp_gt F 238 dL_isTold_181 (by decide) (⟨by omega, by omega⟩) (⟨by omega, by omega⟩) (fun c_181 => ?_) (fun c_181 => ?_)
      · first
        | exact e_go (l238 hf _ _ _ kv hkv hC (by omega)) (And.intro rfl (And.intro rfl (And.intro rfl (And.intro rfl (And.intro rfl (And.intro rfl (And.intro rfl (And.intro rfl (trivial)))))))))
      · refine e_iconst F dL_isTold_184 ?_
        refine e_istore F dL_isTold_185 (by decide) ?_
        refine e_iload_n F dL_isTold_187 rfl ?_
        refine e_callSS F u_L_count (by rfl) (c_L_count (s9 := st) (by omega) (by omega)) w_ml_RL_155 dL_isTold_188 (by rfl) (Nat.le_of_ble_eq_true rfl) (by decide) (by omega) (fun _ _ _ h _ => False.elim h) (fun r_188 w_188 n_188 h_188 hn_188 => ?_)
        obtain ⟨rfl, ew_188, en_188⟩ := h_188
        rw [ew_188, en_188]
        refine e_istore F dL_isTold_191 (by decide) ?_
        refine e_go (lw (by omega) (by omega) 9 0 _ _ _ (by omega) (by omega) hC (by omega)) ?_
        rw [show bc st + ((0 : Nat) : Int) = bc st by omega, Int.pow_zero]
        exact (And.intro rfl (And.intro rfl (And.intro rfl (And.intro rfl (And.intro rfl (And.intro rfl (And.intro rfl (And.intro rfl (And.intro rfl (And.intro rfl (And.intro rfl (trivial))))))))))))
  have l126 : (D i.toNat).fl = 1 → ∀ (w1 : e_W) (n1 k1 : Nat) (kv : Int), (kv = 0 ∨ kv = 1 ∧ (il wh (st7 (D i.toNat).A) (D i.toNat).A (D i.toNat).fl (D i.toNat).dg ∧ (D i.toNat).dg < bc (st7 (D i.toNat).A))) → CW w1 x wh 0 D → k1 ≤ 25 → e_V K P9 l E9 (9) (170) S9 M9 A9 B9 T9 C9 11 (fun r w' n' => r = some (.int (eI 1)) ∧ CW w' x wh 0 D) (e_px0) 126 [(0, .ref x), (1, .int (eI i)), (2, .int (eI st)), (3, .int (eI a)), (4, .int (eI b)), (5, .int (eI (D i.toNat).dg)), (6, .int (eI (st7 (D i.toNat).A))), (7, .int (eI kv))] [] w1 n1 (k1) := by
    intro hf w1 n1 k1 kv hkv hC hk1
    refine e_iload F dL_isTold_126 rfl ?_
    refine e_if_eq F 161 dL_isTold_128 (by decide) (by rcases hkv with z | z <;> constructor <;> omega) (fun c_128 => ?_) (fun c_128 => ?_)
    · exact e_go (l161 hf _ _ _ kv hkv hC (by omega)) (And.intro rfl (And.intro rfl (And.intro rfl (And.intro rfl (And.intro rfl (And.intro rfl (And.intro rfl (And.intro rfl (trivial)))))))))
    · refine e_aload_n F dL_isTold_131 rfl ?_
      refine e_iload_n F dL_isTold_132 rfl ?_
      refine e_iload F dL_isTold_133 rfl ?_
      refine e_callVV F u_X3_degreeBy (by rfl) (c_X3_degreeBy hC (by constructor <;> omega) (by constructor <;> omega)) hC.1 rfl rfl w_ml_RL_149 dL_isTold_135 (by rfl) (Nat.le_of_ble_eq_true rfl) (by decide) (by omega) (fun E w2 n2 h _ => by have kn9 := (hkv.resolve_left (by omega)).2; have := t_pos (A := (D i.toNat).A) (by omega); obtain ⟨⟨-, q⟩ | ⟨-, q⟩, -⟩ := h <;> first | exact q.elim | omega) (fun r_135 w_135 n_135 h_135 hn_135 => ?_)
      obtain ⟨-, rfl, en_135, hC, -⟩ := h_135
      have kn9 := (hkv.resolve_left (by omega)).2
      rw [if_pos (show (D i.toNat).fl = 1 ∧ thr (D i.toNat).A (st7 (D i.toNat).A) from ⟨hf, t_thr _⟩)]
      have hh9 := hiK_lo9 (gt wh (st7 (D i.toNat).A) (D i.toNat).A (ho wh).toNat) 7
      refine e_iload F dL_isTold_138 rfl ?_
      refine e_icmp_gt F 159 dL_isTold_140 (by decide) (⟨by omega, by omega⟩) (⟨by omega, by omega⟩) (fun c_140 => ?_) (fun c_140 => ?_)
      · exact absurd kn9.1.2 (by omega)
      · refine e_aload_n F dL_isTold_143 rfl ?_
        refine e_iload_n F dL_isTold_144 rfl ?_
        refine e_iload F dL_isTold_145 rfl ?_
        refine e_callVV F u_X3_open (by rfl) (c_X3_open hC (by constructor <;> omega) (by constructor <;> omega)) hC.1 rfl rfl w_ml_RL_143 dL_isTold_147 (by rfl) (Nat.le_of_ble_eq_true rfl) (by decide) (by omega) (fun E w2 n2 h _ => by have := t_pos (A := (D i.toNat).A) (by omega); obtain ⟨⟨-, q⟩ | ⟨-, q⟩, -⟩ := h <;> first | exact q.elim | omega) (fun r_147 w_147 n_147 h_147 hn_147 => ?_)
        obtain ⟨-, rfl, en_147, hC, -⟩ := h_147
        rw [if_pos (show ((D i.toNat).fl = 1 ∧ thr (D i.toNat).A (st7 (D i.toNat).A)) ∧ (D i.toNat).dg < bc (st7 (D i.toNat).A) from ⟨⟨hf, t_thr _⟩, kn9.2⟩)]
        have to9 := t_open hwh g kn9.1 kn9.2 (t_pos (by omega)) sfl.2 0 (t_thr _) kn9.2
        rw [to9.1]
        refine e_aload_n F dL_isTold_150 rfl ?_
        refine e_iload_n F dL_isTold_151 rfl ?_
        refine e_iconst F dL_isTold_152 ?_
        refine e_callVV F u_X3_ofDeal (by rfl) (c_X3_ofDeal hC (by constructor <;> omega) (by constructor <;> omega)) hC.1 rfl rfl w_ml_RL_127 dL_isTold_153 (by rfl) (Nat.le_of_ble_eq_true rfl) (by decide) (by omega) (fun E w2 n2 h _ => by obtain ⟨⟨-, q⟩ | ⟨-, q⟩, -⟩ := h <;> first | exact q.elim | omega) (fun r_153 w_153 n_153 h_153 hn_153 => ?_)
        obtain ⟨-, rfl, en_153, hC, -⟩ := h_153
        refine e_icmp_eq F 161 dL_isTold_156 (by decide) (od_e hQ hd6 _) (od_e hQ hd6 _) (fun c_156 => ?_) (fun c_156 => ?_)
        · exact e_go (l161 hf _ _ _ kv hkv hC (by omega)) (And.intro rfl (And.intro rfl (And.intro rfl (And.intro rfl (And.intro rfl (And.intro rfl (And.intro rfl (And.intro rfl (trivial)))))))))
        · exact absurd rfl c_156
  have l73 : (D i.toNat).fl = 1 → ∀ (w1 : e_W) (n1 k1 : Nat) (kv : Int), (kv = 0 ∨ kv = 1 ∧ (il wh (st7 (D i.toNat).A) (D i.toNat).A (D i.toNat).fl (D i.toNat).dg ∧ (D i.toNat).dg < bc (st7 (D i.toNat).A))) → CW w1 x wh 0 D → k1 ≤ 8 → e_V K P9 l E9 (9) (170) S9 M9 A9 B9 T9 C9 11 (fun r w' n' => r = some (.int (eI 1)) ∧ CW w' x wh 0 D) (e_px0) 75 [(0, .ref x), (1, .int (eI i)), (2, .int (eI st)), (3, .int (eI a)), (4, .int (eI b)), (5, .int (eI (D i.toNat).dg)), (6, .int (eI (st7 (D i.toNat).A))), (7, .int (eI kv))] [] w1 n1 (k1) := by
    intro hf w1 n1 k1 kv hkv hC hk1
    have hop : -9 ≤ (if ((D i.toNat).fl = 1 ∧ thr (D i.toNat).A st) ∧ (D i.toNat).dg < bc st then tl wh st (D i.toNat).A 0 else -9) ∧ (if ((D i.toNat).fl = 1 ∧ thr (D i.toNat).A st) ∧ (D i.toNat).dg < bc st then tl wh st (D i.toNat).A 0 else -9) < pr wh := by
      split
      · have := emod_rg (tlK wh st (D i.toNat).A 0 (ho wh).toNat) hwh; unfold tl; omega
      · omega
    refine e_iload F dL_isTold_75 rfl ?_
    refine e_if_eq F 126 dL_isTold_77 (by decide) (by rcases hkv with z | z <;> constructor <;> omega) (fun c_77 => ?_) (fun c_77 => ?_)
    · exact e_go (l126 hf _ _ _ kv hkv hC (by omega)) (And.intro rfl (And.intro rfl (And.intro rfl (And.intro rfl (And.intro rfl (And.intro rfl (And.intro rfl (And.intro rfl (trivial)))))))))
    · refine e_aload_n F dL_isTold_80 rfl ?_
      refine e_iload_n F dL_isTold_81 rfl ?_
      refine e_iload_n F dL_isTold_82 rfl ?_
      refine e_callVV F u_X3_open (by rfl) (c_X3_open hC (by constructor <;> omega) (by constructor <;> omega)) hC.1 rfl rfl w_ml_RL_143 dL_isTold_83 (by rfl) (Nat.le_of_ble_eq_true rfl) (by decide) (by omega) (fun E w2 n2 h _ => by obtain ⟨⟨-, q⟩ | ⟨-, q⟩, -⟩ := h <;> first | exact q.elim | omega) (fun r_83 w_83 n_83 h_83 hn_83 => ?_)
      obtain ⟨-, rfl, en_83, hC, -⟩ := h_83
      refine e_bipush F dL_isTold_86 (by decide) ?_
      refine e_icmp_eq F 126 dL_isTold_88 (by decide) (⟨by omega, by omega⟩) (⟨by omega, by omega⟩) (fun c_88 => ?_) (fun c_88 => ?_)
      · exact e_go (l126 hf _ _ _ kv hkv hC (by omega)) (And.intro rfl (And.intro rfl (And.intro rfl (And.intro rfl (And.intro rfl (And.intro rfl (And.intro rfl (And.intro rfl (trivial)))))))))
      · refine e_aload_n F dL_isTold_91 rfl ?_
        refine e_iload_n F dL_isTold_92 rfl ?_
        refine e_iload_n F dL_isTold_93 rfl ?_
        refine e_callVV F u_X3_open (by rfl) (c_X3_open hC (by constructor <;> omega) (by constructor <;> omega)) hC.1 rfl rfl w_ml_RL_143 dL_isTold_94 (by rfl) (Nat.le_of_ble_eq_true rfl) (by decide) (by omega) (fun E w2 n2 h _ => by obtain ⟨⟨-, q⟩ | ⟨-, q⟩, -⟩ := h <;> first | exact q.elim | omega) (fun r_94 w_94 n_94 h_94 hn_94 => ?_)
        obtain ⟨-, rfl, en_94, hC, -⟩ := h_94
        have hen : ((D i.toNat).fl = 1 ∧ thr (D i.toNat).A st) ∧ (D i.toNat).dg < bc st := Classical.byContradiction (fun q => c_88 (if_neg q))
        have kn9 := (hkv.resolve_left (by omega)).2
        have to9 := t_open hwh g kn9.1 kn9.2 hs.1 hs.2 a hen.1.2 hen.2
        rw [if_pos hen, to9.1]
        refine e_aload_n F dL_isTold_97 rfl ?_
        refine e_iload_n F dL_isTold_98 rfl ?_
        refine e_iconst F dL_isTold_99 ?_
        refine e_callVV F u_X3_ofDeal (by rfl) (c_X3_ofDeal hC (by constructor <;> omega) (by constructor <;> omega)) hC.1 rfl rfl w_ml_RL_127 dL_isTold_100 (by rfl) (Nat.le_of_ble_eq_true rfl) (by decide) (by omega) (fun E w2 n2 h _ => by obtain ⟨⟨-, q⟩ | ⟨-, q⟩, -⟩ := h <;> first | exact q.elim | omega) (fun r_100 w_100 n_100 h_100 hn_100 => ?_)
        obtain ⟨-, rfl, en_100, hC, -⟩ := h_100
        refine e_icmp_ne F 124 dL_isTold_103 (by decide) (od_e hQ hd6 _) (od_e hQ hd6 _) (fun c_103 => ?_) (fun c_103 => ?_)
        · exact absurd rfl c_103
        · refine e_aload_n F dL_isTold_106 rfl ?_
          refine e_iload_n F dL_isTold_107 rfl ?_
          refine e_iload_n F dL_isTold_108 rfl ?_
          refine e_iload_n F dL_isTold_109 rfl ?_
          refine e_callVV F u_X3_told (by rfl) (c_X3_told hC (by constructor <;> omega) (by constructor <;> omega) (by constructor <;> omega)) hC.1 rfl rfl w_ml_RL_146 dL_isTold_110 (by rfl) (Nat.le_of_ble_eq_true rfl) (by decide) (by omega) (fun E w2 n2 h _ => by obtain ⟨⟨-, q⟩ | ⟨-, q⟩, -⟩ := h <;> first | exact q.elim | omega) (fun r_110 w_110 n_110 h_110 hn_110 => ?_)
          obtain ⟨-, rfl, en_110, hC, -⟩ := h_110
          rw [if_pos hen.1, to9.2]
          refine e_aload_n F dL_isTold_113 rfl ?_
          refine e_iload_n F dL_isTold_114 rfl ?_
          refine e_iload F dL_isTold_115 rfl ?_
          refine e_iload_n F dL_isTold_117 rfl ?_
          refine e_callVV F u_X3_told (by rfl) (c_X3_told hC (by constructor <;> omega) (by constructor <;> omega) (by constructor <;> omega)) hC.1 rfl rfl w_ml_RL_146 dL_isTold_118 (by rfl) (Nat.le_of_ble_eq_true rfl) (by decide) (by omega) (fun E w2 n2 h _ => by have := t_pos (A := (D i.toNat).A) (by omega); obtain ⟨⟨-, q⟩ | ⟨-, q⟩, -⟩ := h <;> first | exact q.elim | omega) (fun r_118 w_118 n_118 h_118 hn_118 => ?_)
          obtain ⟨-, rfl, en_118, hC, -⟩ := h_118
          rw [if_pos (show (D i.toNat).fl = 1 ∧ thr (D i.toNat).A (st7 (D i.toNat).A) from ⟨hf, t_thr _⟩)]
          have ht9 : e_r (tl wh (st7 (D i.toNat).A) (D i.toNat).A a) := by
            have := emod_rg (tlK wh (st7 (D i.toNat).A) (D i.toNat).A a (ho wh).toNat) hwh
            unfold tl
            constructor <;> omega
          refine e_icmp_eq F 126 dL_isTold_121 (by decide) (ht9) (ht9) (fun c_121 => ?_) (fun c_121 => ?_)
          · exact e_go (l126 hf _ _ _ kv hkv hC (by omega)) (And.intro rfl (And.intro rfl (And.intro rfl (And.intro rfl (And.intro rfl (And.intro rfl (And.intro rfl (And.intro rfl (trivial)))))))))
          · exact absurd rfl c_121
  refine e_aload_n F dL_isTold_0 rfl ?_
  refine e_iload_n F dL_isTold_1 rfl ?_
  refine e_iconst F dL_isTold_2 ?_
  refine e_callVV F u_X3_ofDeal (by rfl) (c_X3_ofDeal hC (by constructor <;> omega) (by constructor <;> omega)) hC.1 rfl rfl w_ml_RL_127 dL_isTold_3 (by rfl) (Nat.le_of_ble_eq_true rfl) (by decide) (by omega) (fun E w2 n2 h _ => by obtain ⟨⟨-, q⟩ | ⟨-, q⟩, -⟩ := h <;> first | exact q.elim | omega) (fun r_3 w_3 n_3 h_3 hn_3 => ?_)
  obtain ⟨-, rfl, en_3, hC, -⟩ := h_3
  refine e_istore F dL_isTold_6 (by decide) ?_
  refine e_iload F dL_isTold_8 rfl ?_
  refine e_if_ge F 39 dL_isTold_10 (by decide) (od_e hQ hd6 _) (fun c_10 => ?_) (fun c_10 => ?_)
  ·
    have hf : (D i.toNat).fl = 1 := by
      rcases hfl with z | z
      · exact absurd ((od0 g).1.mpr z) (by omega)
      · exact z
    rw [(od0 g).2 hf]
    refine e_aload_n F dL_isTold_39 rfl ?_
    refine e_iload_n F dL_isTold_40 rfl ?_
    refine e_iconst F dL_isTold_41 ?_
    refine e_callVV F u_X3_ofDeal (by rfl) (c_X3_ofDeal hC (by constructor <;> omega) (by constructor <;> omega)) hC.1 rfl rfl w_ml_RL_127 dL_isTold_42 (by rfl) (Nat.le_of_ble_eq_true rfl) (by decide) (by omega) (fun E w2 n2 h _ => by obtain ⟨⟨-, q⟩ | ⟨-, q⟩, -⟩ := h <;> first | exact q.elim | omega) (fun r_42 w_42 n_42 h_42 hn_42 => ?_)
    obtain ⟨-, rfl, en_42, hC, -⟩ := h_42
    rw [show odV wh (D i.toNat) 2 = st7 (D i.toNat).A from rfl]
    refine e_istore F dL_isTold_45 (by decide) ?_
    refine e_aload_n F dL_isTold_47 rfl ?_
    refine e_iload_n F dL_isTold_48 rfl ?_
    refine e_iconst F dL_isTold_49 ?_
    refine e_callVV F u_X3_ofDeal (by rfl) (c_X3_ofDeal hC (by constructor <;> omega) (by constructor <;> omega)) hC.1 rfl rfl w_ml_RL_127 dL_isTold_50 (by rfl) (Nat.le_of_ble_eq_true rfl) (by decide) (by omega) (fun E w2 n2 h _ => by obtain ⟨⟨-, q⟩ | ⟨-, q⟩, -⟩ := h <;> first | exact q.elim | omega) (fun r_50 w_50 n_50 h_50 hn_50 => ?_)
    obtain ⟨-, rfl, en_50, hC, -⟩ := h_50
    refine e_iconst F dL_isTold_53 ?_
    refine e_icmp_ne F 72 dL_isTold_54 (by decide) (od_e hQ hd6 _) (by decide) (fun c_54 => ?_) (fun c_54 => ?_)
    · refine e_iconst F dL_isTold_72 ?_
      refine e_istore F dL_isTold_73 (by decide) ?_
      first
      | exact e_go (l73 hf _ _ _ 1 (Or.inr ⟨rfl, odV4.mp c_54, by omega⟩) hC (by omega)) (And.intro rfl (And.intro rfl (And.intro rfl (And.intro rfl (And.intro rfl (And.intro rfl (And.intro rfl (And.intro rfl (trivial)))))))))
      | exact e_go (l73 hf _ _ _ 0 (Or.inl rfl) hC (by omega)) (And.intro rfl (And.intro rfl (And.intro rfl (And.intro rfl (And.intro rfl (And.intro rfl (And.intro rfl (And.intro rfl (trivial)))))))))
    · refine e_aload_n F dL_isTold_57 rfl ?_
      refine e_iload_n F dL_isTold_58 rfl ?_
      refine e_iconst F dL_isTold_59 ?_
      refine e_callVV F u_X3_ofDeal (by rfl) (c_X3_ofDeal hC (by constructor <;> omega) (by constructor <;> omega)) hC.1 rfl rfl w_ml_RL_127 dL_isTold_60 (by rfl) (Nat.le_of_ble_eq_true rfl) (by decide) (by omega) (fun E w2 n2 h _ => by obtain ⟨⟨-, q⟩ | ⟨-, q⟩, -⟩ := h <;> first | exact q.elim | omega) (fun r_60 w_60 n_60 h_60 hn_60 => ?_)
      obtain ⟨-, rfl, en_60, hC, -⟩ := h_60
      rw [show odV wh (D i.toNat) 1 = bc (st7 (D i.toNat).A) from rfl]
      refine e_iload F dL_isTold_63 rfl ?_
      refine e_icmp_le F 72 dL_isTold_65 (by decide) (⟨by omega, by omega⟩) (⟨by omega, by omega⟩) (fun c_65 => ?_) (fun c_65 => ?_)
      · refine e_iconst F dL_isTold_72 ?_
        refine e_istore F dL_isTold_73 (by decide) ?_
        first
        | exact e_go (l73 hf _ _ _ 1 (Or.inr ⟨rfl, odV4.mp c_54, by omega⟩) hC (by omega)) (And.intro rfl (And.intro rfl (And.intro rfl (And.intro rfl (And.intro rfl (And.intro rfl (And.intro rfl (And.intro rfl (trivial)))))))))
        | exact e_go (l73 hf _ _ _ 0 (Or.inl rfl) hC (by omega)) (And.intro rfl (And.intro rfl (And.intro rfl (And.intro rfl (And.intro rfl (And.intro rfl (And.intro rfl (And.intro rfl (trivial)))))))))
      · refine e_iconst F dL_isTold_68 ?_
        refine e_goto F 73 dL_isTold_69 (by decide) ?_
        refine e_istore F dL_isTold_73 (by decide) ?_
        first
        | exact e_go (l73 hf _ _ _ 1 (Or.inr ⟨rfl, odV4.mp c_54, by omega⟩) hC (by omega)) (And.intro rfl (And.intro rfl (And.intro rfl (And.intro rfl (And.intro rfl (And.intro rfl (And.intro rfl (And.intro rfl (trivial)))))))))
        | exact e_go (l73 hf _ _ _ 0 (Or.inl rfl) hC (by omega)) (And.intro rfl (And.intro rfl (And.intro rfl (And.intro rfl (And.intro rfl (And.intro rfl (And.intro rfl (And.intro rfl (trivial)))))))))
  ·
    have hf0 : (D i.toNat).fl = 0 := (od0 g).1.mp (by omega)
    refine e_aload_n F dL_isTold_13 rfl ?_
    refine e_iload_n F dL_isTold_14 rfl ?_
    refine e_callVV F u_X3_text (by rfl) (c_X3_textE hC (by constructor <;> omega) (by omega) hf0) hC.1 rfl rfl w_ml_RL_130 dL_isTold_15 (by rfl) (Nat.le_of_ble_eq_true rfl) (by decide) (by omega) (fun _ _ _ h _ => False.elim h) (fun r_15 w_15 n_15 h_15 hn_15 => ?_)
    obtain ⟨q15, rfl, hC, v15, g15, hq15, hv15⟩ := h_15
    refine e_callVV F u_J0_isEmpty_aae02 (by rfl) (c_J0_isEmpty_aae02 hq15 hv15) hq15 rfl rfl w_ml_RL_134 dL_isTold_18 (by rfl) (Nat.le_of_ble_eq_true rfl) (by decide) (by omega) (fun _ _ _ h _ => False.elim h) (fun r_18 w_18 n_18 h_18 hn_18 => ?_)
    obtain ⟨rfl, ew_18, en_18⟩ := h_18
    rw [ew_18, en_18]
    refine e_if_eq F 37 dL_isTold_21 (by decide) (by decide) (fun c_21 => ?_) (fun c_21 => ?_)
    · exact absurd c_21 (by decide)
    · refine e_aload_n F dL_isTold_24 rfl ?_
      refine e_iload_n F dL_isTold_25 rfl ?_
      refine e_iconst F dL_isTold_26 ?_
      refine e_callVV F u_X3_isSame (by rfl) (c_X3_isSame hC (by constructor <;> omega) (by constructor <;> omega)) hC.1 rfl rfl w_ml_RL_139 dL_isTold_27 (by rfl) (Nat.le_of_ble_eq_true rfl) (by decide) (by omega) (fun E w2 n2 h _ => by obtain ⟨⟨-, q⟩ | ⟨-, q⟩, -⟩ := h <;> first | exact q.elim | omega) (fun r_27 w_27 n_27 h_27 hn_27 => ?_)
      obtain ⟨-, rfl, en_27, hC, -⟩ := h_27
      rw [t_emp h5 hf0]
      refine e_if_eq F 37 dL_isTold_30 (by decide) (by decide) (fun c_30 => ?_) (fun c_30 => ?_)
      · exact absurd c_30 (by decide)
      · refine e_iconst F dL_isTold_33 ?_
        refine e_goto F 38 dL_isTold_34 (by decide) ?_
        refine e_zret F rfl (by omega) (by omega) ?_ dL_isTold_38
        exact ⟨rfl, hC⟩
