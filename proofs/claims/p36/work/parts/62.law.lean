/-! ===== the law ===== -/
theorem and63 (y : Int32) : 0 ≤ (y &&& eI 63).toInt ∧ (y &&& eI 63).toInt ≤ 63 := by
  have h : (y &&& eI 63).toBitVec = y.toBitVec &&& 63#32 := rfl
  have h2 : ((y &&& eI 63).toBitVec).toNat ≤ 63 := by rw [h, BitVec.toNat_and]; exact Nat.and_le_right
  have h3 : (y &&& eI 63).toInt = (((y &&& eI 63).toBitVec).toNat : Int) := BitVec.toInt_eq_toNat_of_lt (by omega)
  omega
theorem wc1 {cond k1 k2 : Prop} {r : Option Value} {w w' : e_W} {n x o wh : Nat} {kn z z' : Int} {sv : Value} {D D' : Nat → SD} (hC : CW w x wh kn D) (hO : w o = some (.inl (4, [.long (eJ z), sv]))) (h : (cond ∧ r = some (.int (eI 0)) ∧ CW w' x wh kn D' ∧ LF w w' x o n ∧ w' o = some (.inl (4, [.long (eJ z'), sv]))) ∨ (k1 ∧ r = some (.int (eI 1)) ∧ w' = w) ∨ (k2 ∧ r = some (.int (eI 2)) ∧ w' = w)) :
    ∃ (c : Int) (D1 : Nat → SD) (z1 : Int), r = some (.int (eI c)) ∧ CW w' x wh kn D1 ∧ LF w w' x o n ∧ w' o = some (.inl (4, [.long (eJ z1), sv])) ∧ ((cond ∧ c = 0 ∧ z1 = z' ∧ D1 = D') ∨ (k1 ∧ c = 1 ∧ D1 = D) ∨ (k2 ∧ c = 2 ∧ D1 = D)) := by
  rcases h with ⟨h0, h1, h2, h3, h4⟩ | ⟨h0, h1, h2⟩ | ⟨h0, h1, h2⟩
  · exact ⟨_, _, _, h1, h2, h3, h4, Or.inl ⟨h0, rfl, rfl, rfl⟩⟩
  · subst h2; exact ⟨_, _, _, h1, hC, fun _ _ _ _ => rfl, hO, Or.inr (Or.inl ⟨h0, rfl, rfl⟩)⟩
  · subst h2; exact ⟨_, _, _, h1, hC, fun _ _ _ _ => rfl, hO, Or.inr (Or.inr ⟨h0, rfl, rfl⟩)⟩
theorem mc1 {a b : Prop} {r : Option Value} {w w' : e_W} {n y wh : Nat} {kn V : Int} {R R' : Nat → RD} (h : FM w w' y n ∧ ((a ∧ r = some (.int (eI 0)) ∧ MW w' y wh kn 1 R) ∨ (b ∧ r = some (.int (eI V)) ∧ MW w' y wh kn 0 R'))) : ∃ (V1 t1 : Int) (R1 : Nat → RD), r = some (.int (eI V1)) ∧ FM w w' y n ∧ MW w' y wh kn t1 R1 ∧ ((a ∧ t1 = 1 ∧ R1 = R) ∨ (b ∧ t1 = 0 ∧ V1 = V ∧ R1 = R')) := by
  rcases h with ⟨hf, ⟨h0, h1, h2⟩ | ⟨h0, h1, h2⟩⟩
  · exact ⟨_, _, _, h1, hf, h2, Or.inl ⟨h0, rfl, rfl⟩⟩
  · exact ⟨_, _, _, h1, hf, h2, Or.inr ⟨h0, rfl, rfl, rfl⟩⟩
theorem mc2 {a b b2 c2 : Prop} {r : Option Value} {w w' : e_W} {n y wh : Nat} {kn V : Int} {R R' : Nat → RD} (h : FM w w' y n ∧ ((a ∧ r = some (.int (eI 0)) ∧ MW w' y wh kn 1 R) ∨ (b ∧ b2 ∧ r = some (.int (eI 0)) ∧ MW w' y wh kn 2 R) ∨ (b ∧ c2 ∧ r = some (.int (eI V)) ∧ MW w' y wh kn 0 R'))) : ∃ (V1 t1 : Int) (R1 : Nat → RD), r = some (.int (eI V1)) ∧ FM w w' y n ∧ MW w' y wh kn t1 R1 ∧ ((a ∧ t1 = 1 ∧ R1 = R) ∨ ((b ∧ b2) ∧ t1 = 2 ∧ R1 = R) ∨ ((b ∧ c2) ∧ t1 = 0 ∧ V1 = V ∧ R1 = R')) := by
  rcases h with ⟨hf, ⟨h0, h1, h2⟩ | ⟨h0, h3, h1, h2⟩ | ⟨h0, h3, h1, h2⟩⟩
  · exact ⟨_, _, _, h1, hf, h2, Or.inl ⟨h0, rfl, rfl⟩⟩
  · exact ⟨_, _, _, h1, hf, h2, Or.inr (Or.inl ⟨⟨h0, h3⟩, rfl, rfl⟩)⟩
  · exact ⟨_, _, _, h1, hf, h2, Or.inr (Or.inr ⟨⟨h0, h3⟩, rfl, rfl, rfl⟩)⟩
theorem wd2 {cond k1 k2 : Prop} {r : Option Value} {w w' : e_W} {n x o wh : Nat} {kn z z' : Int} {sv : Value} {D : Nat → SD} (hC : CW w x wh kn D) (hO : w o = some (.inl (4, [.long (eJ z), sv]))) (h : (cond ∧ r = some (.int (eI 0)) ∧ CW w' x wh kn D ∧ LF w w' x o n ∧ ∃ q2 : Nat, w' o = some (.inl (4, [.long (eJ z'), .ref q2]))) ∨ (k1 ∧ r = some (.int (eI 1)) ∧ w' = w) ∨ (k2 ∧ r = some (.int (eI 2)) ∧ w' = w)) :
    ∃ (c : Int) (z1 : Int) (sv1 : Value), r = some (.int (eI c)) ∧ CW w' x wh kn D ∧ LF w w' x o n ∧ w' o = some (.inl (4, [.long (eJ z1), sv1])) := by
  rcases h with ⟨-, h1, h2, h3, q2, h4⟩ | ⟨-, h1, h2⟩ | ⟨-, h1, h2⟩
  · exact ⟨_, _, _, h1, h2, h3, h4⟩
  · subst h2; exact ⟨_, _, _, h1, hC, fun _ _ _ _ => rfl, hO⟩
  · subst h2; exact ⟨_, _, _, h1, hC, fun _ _ _ _ => rfl, hO⟩
theorem md3 {a b : Prop} {r : Option Value} {w w' : e_W} {n y wh : Nat} {kn : Int} {R : Nat → RD} (h : FM w w' y n ∧ ((a ∧ (∃ q : Nat, r = some (.ref q)) ∧ MW w' y wh kn 1 R) ∨ (b ∧ (∃ q : Nat, r = some (.ref q)) ∧ MW w' y wh kn 0 R))) : ∃ (q1 : Nat) (t1 : Int), r = some (.ref q1) ∧ FM w w' y n ∧ MW w' y wh kn t1 R := by
  rcases h with ⟨hf, ⟨-, ⟨q, h1⟩, h2⟩ | ⟨-, ⟨q, h1⟩, h2⟩⟩
  · exact ⟨_, _, h1, hf, h2⟩
  · exact ⟨_, _, h1, hf, h2⟩
theorem RW.ar {w w' : e_W} {y Z : Nat} {o : Option Nat} {p lo : Int} {A : Int → Int} (h : RW w y o Z p lo A) (hk : ∀ q c, y + 3 < q → w q = some (.inr c) → w' q = some (.inr c)) : RW w' y o Z p lo A := by
  obtain ⟨a, f, h1, h2, h3, h4, h5⟩ := h
  exact ⟨a, f, h1, h2, hk a _ h2 h3, h4, h5⟩
theorem MD.ar {w w' : e_W} {y wh : Nat} {o1 o2 : Option Nat} {r : RD} (h : MD w y wh o1 o2 r) (hk : ∀ q c, y + 3 < q → w q = some (.inr c) → w' q = some (.inr c)) : MD w' y wh o1 o2 r := by
  rcases h with h | ⟨h1, h2, h3⟩
  · exact Or.inl h
  · exact Or.inr ⟨h1, h2.ar hk, h3.imp id (fun h => ⟨h.1, h.2.ar hk⟩)⟩
theorem MW.lf {w w' : e_W} {x y o n wh : Nat} {kn t : Int} {R : Nat → RD} {v : Nat × List Value} (h : MW w y wh kn t R) (hdom : ∀ q e, w q = some e → q < n) (hO : w o = some (.inl v)) (hxy : x + 27 ≤ y) (hyo : y + 4 ≤ o) (hF : LF w w' x o n) : MW w' y wh kn t R := by
  obtain ⟨hY, hwh, ⟨G, hG, hGe⟩, ⟨S, P, hS, hP, hMD⟩, hRV⟩ := h
  have hg : ∀ q e, y ≤ q → q ≠ o → w q = some e → w' q = some e := fun q e h1 h2 he => by rw [hF q (hdom q e he) (Or.inr (by omega)) h2]; exact he
  exact ⟨hg _ _ (by omega) (by omega) hY, hwh, ⟨G, hg _ _ (by omega) (by omega) hG, hGe⟩, ⟨S, P, hg _ _ (by omega) (by omega) hS, hg _ _ (by omega) (by omega) hP, fun j hj => (hMD j hj).ar (fun q c h1 he => hg q _ (by omega) (fun hq => by rw [hq, hO] at he; cases he) he)⟩, hRV⟩
theorem CW.fm {w w' : e_W} {x y n wh whr : Nat} {kn kr t : Int} {D : Nat → SD} {R : Nat → RD} (h : CW w x wh kn D) (hdom : ∀ q e, w q = some e → q < n) (hM : MW w y whr kr t R) (hxy : x + 27 ≤ y) (hF : FM w w' y n) : CW w' x wh kn D :=
  h.kb hxy (by intro j hj; exact hF j (by have := hdom y _ hM.1; omega) (Or.inl hj))
/-- the state between two calls -/
def LI (w : e_W) (x y o wh : Nat) (kn : Int) : Prop := ∃ (t : Int) (D : Nat → SD) (R : Nat → RD) (z : Int) (sv : Value), CW w x wh kn D ∧ MW w y wh kn t R ∧ w o = some (.inl (4, [.long (eJ z), sv])) ∧ SS wh D R
def LQ9 : Option Value → e_W → Nat → Prop := fun r _ _ => r = some (.int (eI 1))
abbrev LL (b x y o : Nat) (i : Int) : List (Nat × Value) := [(4, .int (eI i)), (3, .ref o), (2, .ref y), (1, .ref x), (0, .ref b)]
section LW
variable {K : e_K} {p : Program} {l : Launch} {e : Env} {d mc : Nat} {s : State} {m : MethodId} {args : Array Value} {below : List Frame} {meth : Method} {c : Code} {cc : ByteArray} {nL : Nat} {ret : Option FieldType} {own : String} {post : Option Value → e_W → Nat → Prop} {px : String → e_W → Nat → Prop} {pc : Nat} {L : List (Nat × Value)} {st : List Value} {w : e_W} {n k : Nat}
theorem e_wd {k' : Nat} (hk : k ≤ k') (kk : e_V K p l e d mc s m args below meth c nL post px pc L st w n k') : e_V K p l e d mc s m args below meth c nL post px pc L st w n k :=
  fun H locs ls hl hR hz => W.widen hk (Nat.mul_le_mul_left 256 hk) (kk H locs ls hl hR hz)
theorem e_pop2 (F : e_F K p l s m args meth c cc nL ret own) {v : Value} (hd : decode cc pc = .ok (.pop2, 1)) (hv : v.category = 2) (kk : e_V K p l e d mc s m args below meth c nL post px (pc + 1) (L) (st) (w) (n) (k)) : e_V K p l e d mc s m args below meth c nL post px (pc) (L) (v :: st) (w) (n) (k) := fun H locs ls hl hR hz => lv_pop2_2 F.1 F.2.1 hd hv (kk H locs ls hl hR hz)
theorem e_i2lx (F : e_F K p l s m args meth c cc nL ret own) {a : Int} (hd : decode cc pc = .ok (.i2l, 1)) (kk : e_V K p l e d mc s m args below meth c nL post px (pc + 1) (L) (.long (eJ (LV a)) :: st) (w) (n) (k)) : e_V K p l e d mc s m args below meth c nL post px (pc) (L) (.int (eI a) :: st) (w) (n) (k) := fun H locs ls hl hR hz => lv_i2l F.1 F.2.1 hd (by have h := eI_l (eI_rg (eI a)); rw [eI_self] at h; exact h) (kk H locs ls hl hR hz)
end LW
section
variable {K : e_K} {p : Program} {l : Launch} {e : Env} {d mc : Nat} {s : State} {m : MethodId} {args : Array Value} {below : List Frame} {meth : Method} {c : Code} {cc : ByteArray} {nL : Nat} {ret : Option FieldType} {own : String} {post : Option Value → e_W → Nat → Prop} {px : String → e_W → Nat → Prop} {pc : Nat} {L : List (Nat × Value)} {st : List Value} {w : e_W} {n k : Nat}
end
theorem LV_r8 (z : Int) : e_r8 (LV z) := by have h := eI_rg (eI z); unfold LV; constructor <;> omega
theorem e_cmp_self (z : Int) : e_cmp z z = 0 := by unfold e_cmp; rw [if_neg (by omega), if_pos rfl]

set_option maxHeartbeats 4000000 in
set_option maxRecDepth 100000 in
theorem k_0 {K : e_K} {p : Program} {l : Launch} {e : Env} {s : State} {m : MethodId} {args : Array Value} {below : List Frame} {meth : Method} {c : Code} {b N x y o wh n k : Nat} {xs : Nat → Int32} {w : e_W} {i kn : Int} (F : e_F K p l s m args meth c cL_law 7 (some .boolean) RL) (hN : g_N s) (hX : va_X b N xs s s.heap) (hb : b < K.1) (hNL : N ≤ 448) (hxy : x + 27 ≤ y) (hyo : y + 4 ≤ o) (hi : 0 ≤ i) (hi2 : i + 7 ≤ (N : Int)) (hkn : 0 ≤ kn ∧ kn ≤ 448) (hk : k + 250 ≤ 17000) (hI : LI w x y o wh kn)
    (kk : ∀ (w' : e_W) (n' wh' : Nat) (kn' : Int), LI w' x y o wh' kn' → (kn' = kn ∨ kn' = kn + 1) → e_V K p l e 20 17000 s m args below meth c 7 LQ9 e_px0 2052 (LL b x y o i) [] w' n' (k + 250)) : e_V K p l e 20 17000 s m args below meth c 7 LQ9 e_px0 232 (LL b x y o i) [] w n (k) := by
  obtain ⟨t0, D, R, z, sv, hC, hM, hO, hS⟩ := hI
  have hG : GG wh D R := GG_of hC hM hS
  refine e_aload_n F dL_law_232 rfl ?_
  refine e_aload_n F dL_law_233 rfl ?_
  refine e_iload F dL_law_234 rfl ?_
  refine e_iconst F dL_law_236 ?_
  refine e_iadd F dL_law_237 ?_
  refine e_sld F hX hb hNL (by omega) (by omega) dL_law_238 ?_
  refine e_aload_n F dL_law_239 rfl ?_
  refine e_dom (fun hd0 => ?_)
  refine e_callSX F hN u_L_prime (by rfl) (w_prime hC (eI_rg _) hO (by omega)) w_ml_RL_144 dL_law_240 (by rfl) (Nat.le_of_ble_eq_true rfl) (by decide) (by omega) (fun _ _ _ h _ => False.elim h) (fun r1 w1 n1 h1 hn1 => ?_)
  have hOx : (∃ z2, w1 o = some (.inl (4, [.long (eJ z2), sv]))) ∧ LF w w1 x o n := by
    rcases h1 with ⟨-, -, -, h3, h4⟩ | ⟨-, -, h2⟩ | ⟨h2, -, -⟩
    · exact ⟨⟨_, h4⟩, h3⟩
    · rw [h2]; exact ⟨⟨_, hO⟩, fun _ _ _ _ => rfl⟩
    · exact h2.elim
  have hM1 := hM.lf hd0 hO hxy hyo hOx.2
  obtain ⟨⟨z1, hO1⟩, -⟩ := hOx
  obtain ⟨k1, rfl, hk1⟩ : ∃ k1 : Int, r1 = some (.int (eI k1)) ∧ (((0 ≤ (xs (i + 1).toNat).toInt ∧ (xs (i + 1).toNat).toInt < 7) ∧ k1 = 0 ∧ CW w1 x (xs (i + 1).toNat).toInt.toNat kn (fun _ => SD0) ∧ w1 o = some (.inl (4, [.long (eJ (LV (pr wh))), sv]))) ∨ (¬ (0 ≤ (xs (i + 1).toNat).toInt ∧ (xs (i + 1).toNat).toInt < 7) ∧ k1 = 1 ∧ CW w1 x wh kn D)) := by
    rcases h1 with ⟨a1, a2, a3, -, a4⟩ | ⟨a1, a2, a3⟩ | ⟨a1, -, -⟩
    · exact ⟨0, a2, Or.inl ⟨a1, rfl, a3, a4⟩⟩
    · exact ⟨1, a2, Or.inr ⟨a1, rfl, by rw [a3]; exact hC⟩⟩
    · exact a1.elim
  refine e_istore F dL_law_243 (by decide) ?_
  refine e_aload_n F dL_law_245 rfl ?_
  refine e_aload_n F dL_law_246 rfl ?_
  refine e_iload F dL_law_247 rfl ?_
  refine e_iconst F dL_law_249 ?_
  refine e_iadd F dL_law_250 ?_
  refine e_sld F hX hb hNL (by omega) (by omega) dL_law_251 ?_
  refine e_dom (fun hd1 => ?_)
  refine e_callVV F u_X5_prime (by rfl) (c_X5_prime hM1 (eI_rg _)) hM1.1 rfl rfl w_ml_RL_149 dL_law_252 (by rfl) (Nat.le_of_ble_eq_true rfl) (by decide) (by omega) (fun _ _ _ h _ => False.elim h) (fun r2 w2 n2 h2 hn2 => ?_)
  obtain ⟨hf2, h2⟩ := h2
  have hO2g : ∀ c9, w1 o = some c9 → w2 o = some c9 := fun c9 h9 => (hf2 o (hd1 o _ hO1) (Or.inr hyo)).trans h9
  have hC2g : ∀ wh9 D9, CW w1 x wh9 kn D9 → CW w2 x wh9 kn D9 := fun wh9 D9 h9 => h9.fm hd1 hM1 hxy hf2
  obtain ⟨b2, t2, rfl, hb2⟩ : ∃ (b2 t2 : Int), r2 = some (.int (eI b2)) ∧ (((0 ≤ (xs (i + 1).toNat).toInt ∧ (xs (i + 1).toNat).toInt ≤ 6) ∧ t2 = 0 ∧ b2 = pr wh ∧ MW w2 y (xs (i + 1).toNat).toInt.toNat kn t2 (fun j => emR (R j))) ∨ (¬ (0 ≤ (xs (i + 1).toNat).toInt ∧ (xs (i + 1).toNat).toInt ≤ 6) ∧ t2 = 1 ∧ MW w2 y wh kn t2 R)) := by
    rcases h2 with ⟨a1, a2, a3⟩ | ⟨a1, a2, a3⟩
    · exact ⟨_, 1, a2, Or.inr ⟨a1, rfl, a3⟩⟩
    · exact ⟨_, 0, a2, Or.inl ⟨a1, rfl, rfl, a3⟩⟩
  obtain ⟨wh2, D2, R2, t3, z2, sv2, hC2, hM2, hO2, hS2⟩ : ∃ (wh2 : Nat) (D2 : Nat → SD) (R2 : Nat → RD) (t3 z2 : Int) (sv2 : Value), CW w2 x wh2 kn D2 ∧ MW w2 y wh2 kn t3 R2 ∧ w2 o = some (.inl (4, [.long (eJ z2), sv2])) ∧ SS wh2 D2 R2 := by
    rcases hk1 with ⟨q1, -, q3, -⟩ | ⟨q1, -, q3⟩
    · rcases hb2 with ⟨-, -, -, q6⟩ | ⟨q5, -, -⟩
      · exact ⟨_, _, _, _, _, _, hC2g _ _ q3, q6, hO2g _ hO1, SS.em R⟩
      · exact absurd q1 (by omega)
    · rcases hb2 with ⟨q5, -, -, -⟩ | ⟨-, -, q6⟩
      · exact absurd q1 (by omega)
      · exact ⟨_, _, _, _, _, _, hC2g _ _ q3, q6, hO2g _ hO1, hS⟩
  refine e_istore F dL_law_255 (by decide) ?_
  refine e_goto F 2052 dL_law_257 (by decide) ?_
  exact e_go (e_wd (by omega) (kk _ _ _ _ ⟨_, _, _, _, _, hC2, hM2, hO2, hS2⟩ (Or.inl rfl))) (And.intro rfl (And.intro rfl (And.intro rfl (And.intro rfl (And.intro rfl (trivial))))))
set_option maxHeartbeats 4000000 in
set_option maxRecDepth 100000 in
theorem k_1 {K : e_K} {p : Program} {l : Launch} {e : Env} {s : State} {m : MethodId} {args : Array Value} {below : List Frame} {meth : Method} {c : Code} {b N x y o wh n k : Nat} {xs : Nat → Int32} {w : e_W} {i kn : Int} (F : e_F K p l s m args meth c cL_law 7 (some .boolean) RL) (hN : g_N s) (hX : va_X b N xs s s.heap) (hb : b < K.1) (hNL : N ≤ 448) (hxy : x + 27 ≤ y) (hyo : y + 4 ≤ o) (hi : 0 ≤ i) (hi2 : i + 7 ≤ (N : Int)) (hkn : 0 ≤ kn ∧ kn ≤ 448) (hk : k + 250 ≤ 17000) (hI : LI w x y o wh kn)
    (kk : ∀ (w' : e_W) (n' wh' : Nat) (kn' : Int), LI w' x y o wh' kn' → (kn' = kn ∨ kn' = kn + 1) → e_V K p l e 20 17000 s m args below meth c 7 LQ9 e_px0 2052 (LL b x y o i) [] w' n' (k + 250)) : e_V K p l e 20 17000 s m args below meth c 7 LQ9 e_px0 260 (LL b x y o i) [] w n (k) := by
  obtain ⟨t0, D, R, z, sv, hC, hM, hO, hS⟩ := hI
  have hG : GG wh D R := GG_of hC hM hS
  refine e_aload_n F dL_law_260 rfl ?_
  refine e_aload_n F dL_law_261 rfl ?_
  refine e_iload F dL_law_262 rfl ?_
  refine e_iconst F dL_law_264 ?_
  refine e_iadd F dL_law_265 ?_
  refine e_sld F hX hb hNL (by omega) (by omega) dL_law_266 ?_
  refine e_dom (fun hd0 => ?_)
  refine e_callVV F u_X3_rest (by rfl) (c_X3_rest hC (eI_rg _)) hC.1 rfl rfl w_ml_RL_150 dL_law_267 (by rfl) (Nat.le_of_ble_eq_true rfl) (by decide) (by omega) (fun _ _ _ h _ => False.elim h) (fun r1 w1 n1 h1 hn1 => ?_)
  obtain ⟨rfl, en1, hC1, hFR⟩ := h1
  have hO1 : w1 o = some (.inl (4, [.long (eJ z), sv])) := (hFR o (Or.inr (by omega))).trans hO
  have hM1 := hM.lf hd0 hO hxy hyo (by intro q8 h8 h9 h10; exact hFR q8 h9)
  refine e_pop F dL_law_270 rfl ?_
  refine e_aload_n F dL_law_271 rfl ?_
  refine e_aload_n F dL_law_272 rfl ?_
  refine e_iload F dL_law_273 rfl ?_
  refine e_iconst F dL_law_275 ?_
  refine e_iadd F dL_law_276 ?_
  refine e_sld F hX hb hNL (by omega) (by omega) dL_law_277 ?_
  refine e_dom (fun hd1 => ?_)
  refine e_callVV F u_X5_rest (by rfl) (c_X5_rest hM1 (eI_rg _)) hM1.1 rfl rfl w_ml_RL_153 dL_law_278 (by rfl) (Nat.le_of_ble_eq_true rfl) (by decide) (by omega) (fun _ _ _ h _ => False.elim h) (fun r2 w2 n2 h2 hn2 => ?_)
  obtain ⟨hf2, rfl, hM2⟩ := h2
  have hC2 := hC1.fm hd1 hM1 hxy hf2
  have hO2 := (hf2 o (hd1 o _ hO1) (Or.inr hyo)).trans hO1
  refine e_pop F dL_law_281 rfl ?_
  refine e_goto F 2052 dL_law_282 (by decide) ?_
  exact e_go (e_wd (by omega) (kk _ _ _ _ ⟨_, _, _, _, _, hC2, hM2, hO2, hS⟩ (Or.inl rfl))) (And.intro rfl (And.intro rfl (And.intro rfl (And.intro rfl (And.intro rfl (trivial))))))
set_option maxHeartbeats 4000000 in
set_option maxRecDepth 100000 in
theorem k_2 {K : e_K} {p : Program} {l : Launch} {e : Env} {s : State} {m : MethodId} {args : Array Value} {below : List Frame} {meth : Method} {c : Code} {b N x y o wh n k : Nat} {xs : Nat → Int32} {w : e_W} {i kn : Int} (F : e_F K p l s m args meth c cL_law 7 (some .boolean) RL) (hN : g_N s) (hX : va_X b N xs s s.heap) (hb : b < K.1) (hNL : N ≤ 448) (hxy : x + 27 ≤ y) (hyo : y + 4 ≤ o) (hi : 0 ≤ i) (hi2 : i + 7 ≤ (N : Int)) (hkn : 0 ≤ kn ∧ kn ≤ 448) (hk : k + 250 ≤ 17000) (hI : LI w x y o wh kn)
    (kk : ∀ (w' : e_W) (n' wh' : Nat) (kn' : Int), LI w' x y o wh' kn' → (kn' = kn ∨ kn' = kn + 1) → e_V K p l e 20 17000 s m args below meth c 7 LQ9 e_px0 2052 (LL b x y o i) [] w' n' (k + 250)) : e_V K p l e 20 17000 s m args below meth c 7 LQ9 e_px0 285 (LL b x y o i) [] w n (k) := by
  obtain ⟨t0, D, R, z, sv, hC, hM, hO, hS⟩ := hI
  have hG : GG wh D R := GG_of hC hM hS
  refine e_aload_n F dL_law_285 rfl ?_
  refine e_aload_n F dL_law_286 rfl ?_
  refine e_iload F dL_law_287 rfl ?_
  refine e_iconst F dL_law_289 ?_
  refine e_iadd F dL_law_290 ?_
  refine e_sld F hX hb hNL (by omega) (by omega) dL_law_291 ?_
  refine e_aload_n F dL_law_292 rfl ?_
  refine e_iload F dL_law_293 rfl ?_
  refine e_iconst F dL_law_295 ?_
  refine e_iadd F dL_law_296 ?_
  refine e_sld F hX hb hNL (by omega) (by omega) dL_law_297 ?_
  refine e_aload_n F dL_law_298 rfl ?_
  refine e_iload F dL_law_299 rfl ?_
  refine e_iconst F dL_law_301 ?_
  refine e_iadd F dL_law_302 ?_
  refine e_sld F hX hb hNL (by omega) (by omega) dL_law_303 ?_
  refine e_aload_n F dL_law_304 rfl ?_
  refine e_dom (fun hd0 => ?_)
  refine e_callSX F hN u_L_reckon (by rfl) (w_reckon hC (eI_rg _) (eI_rg _) (eI_rg _) hO (by omega)) w_ml_RL_154 dL_law_305 (by rfl) (Nat.le_of_ble_eq_true rfl) (by decide) (by omega) (fun _ _ _ h _ => False.elim h) (fun r1 w1 n1 h1 hn1 => ?_)
  obtain ⟨c1, D1, z1, rfl, hC1, hF1, hO1, hs1⟩ := wc1 hC hO h1
  have hM1 := hM.lf hd0 hO hxy hyo hF1
  refine e_istore F dL_law_308 (by decide) ?_
  refine e_aload_n F dL_law_310 rfl ?_
  refine e_aload_n F dL_law_311 rfl ?_
  refine e_iload F dL_law_312 rfl ?_
  refine e_iconst F dL_law_314 ?_
  refine e_iadd F dL_law_315 ?_
  refine e_sld F hX hb hNL (by omega) (by omega) dL_law_316 ?_
  refine e_aload_n F dL_law_317 rfl ?_
  refine e_iload F dL_law_318 rfl ?_
  refine e_iconst F dL_law_320 ?_
  refine e_iadd F dL_law_321 ?_
  refine e_sld F hX hb hNL (by omega) (by omega) dL_law_322 ?_
  refine e_aload_n F dL_law_323 rfl ?_
  refine e_iload F dL_law_324 rfl ?_
  refine e_iconst F dL_law_326 ?_
  refine e_iadd F dL_law_327 ?_
  refine e_sld F hX hb hNL (by omega) (by omega) dL_law_328 ?_
  refine e_dom (fun hd1 => ?_)
  refine e_callVV F u_X5_reckon (by rfl) (c_X5_reckon hM1 (eI_rg _) (eI_rg _) (eI_rg _)) hM1.1 rfl rfl w_ml_RL_157 dL_law_329 (by rfl) (Nat.le_of_ble_eq_true rfl) (by decide) (by omega) (fun _ _ _ h _ => False.elim h) (fun r2 w2 n2 h2 hn2 => ?_)
  obtain ⟨V2, t2, R2, rfl, hf2, hM2, hs2⟩ := mc1 h2
  have hS2 : SS wh D1 R2 := by
    rcases hs1 with ⟨p1, p2, p6, p8⟩ | ⟨p1, p2, p8⟩ | ⟨p1, p2, p8⟩
    · rcases hs2 with ⟨p3, p4, p9⟩ | ⟨p3, p4, p7, p9⟩
      · exfalso; first | exact p1.elim | omega
      · rw [p8, p9]; exact hS
    · rcases hs2 with ⟨p3, p4, p9⟩ | ⟨p3, p4, p7, p9⟩
      · rw [p8, p9]; exact hS
      · exfalso; first | exact p1.elim | omega
    · rcases hs2 with ⟨p3, p4, p9⟩ | ⟨p3, p4, p7, p9⟩
      · exfalso; first | exact p1.elim | omega
      · exfalso; first | exact p1.elim | omega
  have hC2 := hC1.fm hd1 hM1 hxy hf2
  have hO2 := (hf2 o (hd1 o _ hO1) (Or.inr hyo)).trans hO1
  refine e_istore F dL_law_332 (by decide) ?_
  refine e_goto F 2052 dL_law_334 (by decide) ?_
  exact e_go (e_wd (by omega) (kk _ _ _ _ ⟨_, _, _, _, _, hC2, hM2, hO2, hS2⟩ (Or.inl rfl))) (And.intro rfl (And.intro rfl (And.intro rfl (And.intro rfl (And.intro rfl (trivial))))))
set_option maxHeartbeats 4000000 in
set_option maxRecDepth 100000 in
theorem k_3 {K : e_K} {p : Program} {l : Launch} {e : Env} {s : State} {m : MethodId} {args : Array Value} {below : List Frame} {meth : Method} {c : Code} {b N x y o wh n k : Nat} {xs : Nat → Int32} {w : e_W} {i kn : Int} (F : e_F K p l s m args meth c cL_law 7 (some .boolean) RL) (hN : g_N s) (hX : va_X b N xs s s.heap) (hb : b < K.1) (hNL : N ≤ 448) (hxy : x + 27 ≤ y) (hyo : y + 4 ≤ o) (hi : 0 ≤ i) (hi2 : i + 7 ≤ (N : Int)) (hkn : 0 ≤ kn ∧ kn ≤ 448) (hk : k + 250 ≤ 17000) (hI : LI w x y o wh kn)
    (kk : ∀ (w' : e_W) (n' wh' : Nat) (kn' : Int), LI w' x y o wh' kn' → (kn' = kn ∨ kn' = kn + 1) → e_V K p l e 20 17000 s m args below meth c 7 LQ9 e_px0 2052 (LL b x y o i) [] w' n' (k + 250)) : e_V K p l e 20 17000 s m args below meth c 7 LQ9 e_px0 337 (LL b x y o i) [] w n (k) := by
  obtain ⟨t0, D, R, z, sv, hC, hM, hO, hS⟩ := hI
  have hG : GG wh D R := GG_of hC hM hS
  refine e_aload_n F dL_law_337 rfl ?_
  refine e_aload_n F dL_law_338 rfl ?_
  refine e_iload F dL_law_339 rfl ?_
  refine e_iconst F dL_law_341 ?_
  refine e_iadd F dL_law_342 ?_
  refine e_sld F hX hb hNL (by omega) (by omega) dL_law_343 ?_
  refine e_dom (fun hd0 => ?_)
  refine e_callVV F u_X3_reciprocal (by rfl) (c_X3_reciprocal hC (eI_rg _)) hC.1 rfl rfl w_ml_RL_158 dL_law_344 (by rfl) (Nat.le_of_ble_eq_true rfl) (by decide) (by omega) (fun _ _ _ h _ => False.elim h) (fun r1 w1 n1 h1 hn1 => ?_)
  obtain ⟨rfl, en1, hC1, hFR⟩ := h1
  have hO1 : w1 o = some (.inl (4, [.long (eJ z), sv])) := (hFR o (Or.inr (by omega))).trans hO
  have hM1 := hM.lf hd0 hO hxy hyo (by intro q8 h8 h9 h10; exact hFR q8 h9)
  refine e_pop F dL_law_347 rfl ?_
  refine e_aload_n F dL_law_348 rfl ?_
  refine e_aload_n F dL_law_349 rfl ?_
  refine e_iload F dL_law_350 rfl ?_
  refine e_iconst F dL_law_352 ?_
  refine e_iadd F dL_law_353 ?_
  refine e_sld F hX hb hNL (by omega) (by omega) dL_law_354 ?_
  refine e_dom (fun hd1 => ?_)
  refine e_callVV F u_X5_reciprocal (by rfl) (c_X5_reciprocal hM1 (eI_rg _)) hM1.1 rfl rfl w_ml_RL_161 dL_law_355 (by rfl) (Nat.le_of_ble_eq_true rfl) (by decide) (by omega) (fun _ _ _ h _ => False.elim h) (fun r2 w2 n2 h2 hn2 => ?_)
  obtain ⟨hf2, rfl, hM2⟩ := h2
  have hC2 := hC1.fm hd1 hM1 hxy hf2
  have hO2 := (hf2 o (hd1 o _ hO1) (Or.inr hyo)).trans hO1
  refine e_pop F dL_law_358 rfl ?_
  refine e_goto F 2052 dL_law_359 (by decide) ?_
  exact e_go (e_wd (by omega) (kk _ _ _ _ ⟨_, _, _, _, _, hC2, hM2, hO2, hS⟩ (Or.inl rfl))) (And.intro rfl (And.intro rfl (And.intro rfl (And.intro rfl (And.intro rfl (trivial))))))
set_option maxHeartbeats 4000000 in
set_option maxRecDepth 100000 in
theorem k_4 {K : e_K} {p : Program} {l : Launch} {e : Env} {s : State} {m : MethodId} {args : Array Value} {below : List Frame} {meth : Method} {c : Code} {b N x y o wh n k : Nat} {xs : Nat → Int32} {w : e_W} {i kn : Int} (F : e_F K p l s m args meth c cL_law 7 (some .boolean) RL) (hN : g_N s) (hX : va_X b N xs s s.heap) (hb : b < K.1) (hNL : N ≤ 448) (hxy : x + 27 ≤ y) (hyo : y + 4 ≤ o) (hi : 0 ≤ i) (hi2 : i + 7 ≤ (N : Int)) (hkn : 0 ≤ kn ∧ kn ≤ 448) (hk : k + 250 ≤ 17000) (hI : LI w x y o wh kn)
    (kk : ∀ (w' : e_W) (n' wh' : Nat) (kn' : Int), LI w' x y o wh' kn' → (kn' = kn ∨ kn' = kn + 1) → e_V K p l e 20 17000 s m args below meth c 7 LQ9 e_px0 2052 (LL b x y o i) [] w' n' (k + 250)) : e_V K p l e 20 17000 s m args below meth c 7 LQ9 e_px0 362 (LL b x y o i) [] w n (k) := by
  obtain ⟨t0, D, R, z, sv, hC, hM, hO, hS⟩ := hI
  have hG : GG wh D R := GG_of hC hM hS
  refine e_aload_n F dL_law_362 rfl ?_
  refine e_aload_n F dL_law_363 rfl ?_
  refine e_iload F dL_law_364 rfl ?_
  refine e_iconst F dL_law_366 ?_
  refine e_iadd F dL_law_367 ?_
  refine e_sld F hX hb hNL (by omega) (by omega) dL_law_368 ?_
  refine e_aload_n F dL_law_369 rfl ?_
  refine e_iload F dL_law_370 rfl ?_
  refine e_iconst F dL_law_372 ?_
  refine e_iadd F dL_law_373 ?_
  refine e_sld F hX hb hNL (by omega) (by omega) dL_law_374 ?_
  refine e_dom (fun hd0 => ?_)
  refine e_callVV F u_X3_power (by rfl) (c_X3_power hC (eI_rg _) (eI_rg _)) hC.1 rfl rfl w_ml_RL_162 dL_law_375 (by rfl) (Nat.le_of_ble_eq_true rfl) (by decide) (by omega) (fun _ _ _ h _ => False.elim h) (fun r1 w1 n1 h1 hn1 => ?_)
  obtain ⟨rfl, en1, hC1, hFR⟩ := h1
  have hO1 : w1 o = some (.inl (4, [.long (eJ z), sv])) := (hFR o (Or.inr (by omega))).trans hO
  have hM1 := hM.lf hd0 hO hxy hyo (by intro q8 h8 h9 h10; exact hFR q8 h9)
  refine e_pop F dL_law_378 rfl ?_
  refine e_aload_n F dL_law_379 rfl ?_
  refine e_aload_n F dL_law_380 rfl ?_
  refine e_iload F dL_law_381 rfl ?_
  refine e_iconst F dL_law_383 ?_
  refine e_iadd F dL_law_384 ?_
  refine e_sld F hX hb hNL (by omega) (by omega) dL_law_385 ?_
  refine e_aload_n F dL_law_386 rfl ?_
  refine e_iload F dL_law_387 rfl ?_
  refine e_iconst F dL_law_389 ?_
  refine e_iadd F dL_law_390 ?_
  refine e_sld F hX hb hNL (by omega) (by omega) dL_law_391 ?_
  refine e_dom (fun hd1 => ?_)
  refine e_callVV F u_X5_power (by rfl) (c_X5_power hM1 (eI_rg _) (eI_rg _)) hM1.1 rfl rfl w_ml_RL_165 dL_law_392 (by rfl) (Nat.le_of_ble_eq_true rfl) (by decide) (by omega) (fun _ _ _ h _ => False.elim h) (fun r2 w2 n2 h2 hn2 => ?_)
  obtain ⟨hf2, rfl, hM2⟩ := h2
  have hC2 := hC1.fm hd1 hM1 hxy hf2
  have hO2 := (hf2 o (hd1 o _ hO1) (Or.inr hyo)).trans hO1
  refine e_pop F dL_law_395 rfl ?_
  refine e_goto F 2052 dL_law_396 (by decide) ?_
  exact e_go (e_wd (by omega) (kk _ _ _ _ ⟨_, _, _, _, _, hC2, hM2, hO2, hS⟩ (Or.inl rfl))) (And.intro rfl (And.intro rfl (And.intro rfl (And.intro rfl (And.intro rfl (trivial))))))
set_option maxHeartbeats 4000000 in
set_option maxRecDepth 100000 in
theorem k_5 {K : e_K} {p : Program} {l : Launch} {e : Env} {s : State} {m : MethodId} {args : Array Value} {below : List Frame} {meth : Method} {c : Code} {b N x y o wh n k : Nat} {xs : Nat → Int32} {w : e_W} {i kn : Int} (F : e_F K p l s m args meth c cL_law 7 (some .boolean) RL) (hN : g_N s) (hX : va_X b N xs s s.heap) (hb : b < K.1) (hNL : N ≤ 448) (hxy : x + 27 ≤ y) (hyo : y + 4 ≤ o) (hi : 0 ≤ i) (hi2 : i + 7 ≤ (N : Int)) (hkn : 0 ≤ kn ∧ kn ≤ 448) (hk : k + 250 ≤ 17000) (hI : LI w x y o wh kn)
    (kk : ∀ (w' : e_W) (n' wh' : Nat) (kn' : Int), LI w' x y o wh' kn' → (kn' = kn ∨ kn' = kn + 1) → e_V K p l e 20 17000 s m args below meth c 7 LQ9 e_px0 2052 (LL b x y o i) [] w' n' (k + 250)) : e_V K p l e 20 17000 s m args below meth c 7 LQ9 e_px0 399 (LL b x y o i) [] w n (k) := by
  obtain ⟨t0, D, R, z, sv, hC, hM, hO, hS⟩ := hI
  have hG : GG wh D R := GG_of hC hM hS
  refine e_aload_n F dL_law_399 rfl ?_
  refine e_aload_n F dL_law_400 rfl ?_
  refine e_iload F dL_law_401 rfl ?_
  refine e_iconst F dL_law_403 ?_
  refine e_iadd F dL_law_404 ?_
  refine e_sld F hX hb hNL (by omega) (by omega) dL_law_405 ?_
  refine e_dom (fun hd0 => ?_)
  refine e_callVV F u_X3_sealOf (by rfl) (c_X3_sealOf hC (eI_rg _)) hC.1 rfl rfl w_ml_RL_166 dL_law_406 (by rfl) (Nat.le_of_ble_eq_true rfl) (by decide) (by omega) (fun _ _ _ h _ => False.elim h) (fun r1 w1 n1 h1 hn1 => ?_)
  obtain ⟨rfl, en1, hC1, hFR⟩ := h1
  have hO1 : w1 o = some (.inl (4, [.long (eJ z), sv])) := (hFR o (Or.inr (by omega))).trans hO
  have hM1 := hM.lf hd0 hO hxy hyo (by intro q8 h8 h9 h10; exact hFR q8 h9)
  refine e_pop F dL_law_409 rfl ?_
  refine e_aload_n F dL_law_410 rfl ?_
  refine e_aload_n F dL_law_411 rfl ?_
  refine e_iload F dL_law_412 rfl ?_
  refine e_iconst F dL_law_414 ?_
  refine e_iadd F dL_law_415 ?_
  refine e_sld F hX hb hNL (by omega) (by omega) dL_law_416 ?_
  refine e_dom (fun hd1 => ?_)
  refine e_callVV F u_X5_sealOf (by rfl) (c_X5_sealOf hM1 (eI_rg _)) hM1.1 rfl rfl w_ml_RL_169 dL_law_417 (by rfl) (Nat.le_of_ble_eq_true rfl) (by decide) (by omega) (fun _ _ _ h _ => False.elim h) (fun r2 w2 n2 h2 hn2 => ?_)
  obtain ⟨hf2, rfl, hM2⟩ := h2
  have hC2 := hC1.fm hd1 hM1 hxy hf2
  have hO2 := (hf2 o (hd1 o _ hO1) (Or.inr hyo)).trans hO1
  refine e_pop F dL_law_420 rfl ?_
  refine e_goto F 2052 dL_law_421 (by decide) ?_
  exact e_go (e_wd (by omega) (kk _ _ _ _ ⟨_, _, _, _, _, hC2, hM2, hO2, hS⟩ (Or.inl rfl))) (And.intro rfl (And.intro rfl (And.intro rfl (And.intro rfl (And.intro rfl (trivial))))))
set_option maxHeartbeats 4000000 in
set_option maxRecDepth 100000 in
theorem k_6 {K : e_K} {p : Program} {l : Launch} {e : Env} {s : State} {m : MethodId} {args : Array Value} {below : List Frame} {meth : Method} {c : Code} {b N x y o wh n k : Nat} {xs : Nat → Int32} {w : e_W} {i kn : Int} (F : e_F K p l s m args meth c cL_law 7 (some .boolean) RL) (hN : g_N s) (hX : va_X b N xs s s.heap) (hb : b < K.1) (hNL : N ≤ 448) (hxy : x + 27 ≤ y) (hyo : y + 4 ≤ o) (hi : 0 ≤ i) (hi2 : i + 7 ≤ (N : Int)) (hkn : 0 ≤ kn ∧ kn ≤ 448) (hk : k + 250 ≤ 17000) (hI : LI w x y o wh kn)
    (kk : ∀ (w' : e_W) (n' wh' : Nat) (kn' : Int), LI w' x y o wh' kn' → (kn' = kn ∨ kn' = kn + 1) → e_V K p l e 20 17000 s m args below meth c 7 LQ9 e_px0 2052 (LL b x y o i) [] w' n' (k + 250)) : e_V K p l e 20 17000 s m args below meth c 7 LQ9 e_px0 424 (LL b x y o i) [] w n (k) := by
  obtain ⟨t0, D, R, z, sv, hC, hM, hO, hS⟩ := hI
  have hG : GG wh D R := GG_of hC hM hS
  refine e_aload_n F dL_law_424 rfl ?_
  refine e_aload_n F dL_law_425 rfl ?_
  refine e_iload F dL_law_426 rfl ?_
  refine e_iconst F dL_law_428 ?_
  refine e_iadd F dL_law_429 ?_
  refine e_sld F hX hb hNL (by omega) (by omega) dL_law_430 ?_
  refine e_aload_n F dL_law_431 rfl ?_
  refine e_iload F dL_law_432 rfl ?_
  refine e_iconst F dL_law_434 ?_
  refine e_iadd F dL_law_435 ?_
  refine e_sld F hX hb hNL (by omega) (by omega) dL_law_436 ?_
  refine e_aload_n F dL_law_437 rfl ?_
  refine e_iload F dL_law_438 rfl ?_
  refine e_iconst F dL_law_440 ?_
  refine e_iadd F dL_law_441 ?_
  refine e_sld F hX hb hNL (by omega) (by omega) dL_law_442 ?_
  refine e_aload_n F dL_law_443 rfl ?_
  refine e_dom (fun hd0 => ?_)
  refine e_callSX F hN u_L_weight (by rfl) (w_weight hC (eI_rg _) (eI_rg _) (eI_rg _) hO (by omega)) w_ml_RL_170 dL_law_444 (by rfl) (Nat.le_of_ble_eq_true rfl) (by decide) (by omega) (fun _ _ _ h _ => False.elim h) (fun r1 w1 n1 h1 hn1 => ?_)
  obtain ⟨c1, D1, z1, rfl, hC1, hF1, hO1, hs1⟩ := wc1 hC hO h1
  have hM1 := hM.lf hd0 hO hxy hyo hF1
  refine e_istore F dL_law_447 (by decide) ?_
  refine e_aload_n F dL_law_449 rfl ?_
  refine e_aload_n F dL_law_450 rfl ?_
  refine e_iload F dL_law_451 rfl ?_
  refine e_iconst F dL_law_453 ?_
  refine e_iadd F dL_law_454 ?_
  refine e_sld F hX hb hNL (by omega) (by omega) dL_law_455 ?_
  refine e_aload_n F dL_law_456 rfl ?_
  refine e_iload F dL_law_457 rfl ?_
  refine e_iconst F dL_law_459 ?_
  refine e_iadd F dL_law_460 ?_
  refine e_sld F hX hb hNL (by omega) (by omega) dL_law_461 ?_
  refine e_aload_n F dL_law_462 rfl ?_
  refine e_iload F dL_law_463 rfl ?_
  refine e_iconst F dL_law_465 ?_
  refine e_iadd F dL_law_466 ?_
  refine e_sld F hX hb hNL (by omega) (by omega) dL_law_467 ?_
  refine e_dom (fun hd1 => ?_)
  refine e_callVV F u_X5_weight (by rfl) (c_X5_weight hM1 (eI_rg _) (eI_rg _) (eI_rg _)) hM1.1 rfl rfl w_ml_RL_172 dL_law_468 (by rfl) (Nat.le_of_ble_eq_true rfl) (by decide) (by omega) (fun _ _ _ h _ => False.elim h) (fun r2 w2 n2 h2 hn2 => ?_)
  obtain ⟨V2, t2, R2, rfl, hf2, hM2, hs2⟩ := mc2 h2
  have hS2 : SS wh D1 R2 := by
    rcases hs1 with ⟨p1, p2, p6, p8⟩ | ⟨p1, p2, p8⟩ | ⟨p1, p2, p8⟩
    · rcases hs2 with ⟨p3, p4, p9⟩ | ⟨p3, p4, p9⟩ | ⟨p3, p4, p7, p9⟩
      · exfalso; first | exact p1.elim | omega
      · exfalso; first | exact p1.elim | omega
      · rw [p8, p9]; exact hS
    · rcases hs2 with ⟨p3, p4, p9⟩ | ⟨p3, p4, p9⟩ | ⟨p3, p4, p7, p9⟩
      · rw [p8, p9]; exact hS
      · exfalso; first | exact p1.elim | omega
      · exfalso; first | exact p1.elim | omega
    · rcases hs2 with ⟨p3, p4, p9⟩ | ⟨p3, p4, p9⟩ | ⟨p3, p4, p7, p9⟩
      · exfalso; first | exact p1.elim | omega
      · rw [p8, p9]; exact hS
      · exfalso; first | exact p1.elim | omega
  have hC2 := hC1.fm hd1 hM1 hxy hf2
  have hO2 := (hf2 o (hd1 o _ hO1) (Or.inr hyo)).trans hO1
  refine e_istore F dL_law_471 (by decide) ?_
  refine e_goto F 2052 dL_law_473 (by decide) ?_
  exact e_go (e_wd (by omega) (kk _ _ _ _ ⟨_, _, _, _, _, hC2, hM2, hO2, hS2⟩ (Or.inl rfl))) (And.intro rfl (And.intro rfl (And.intro rfl (And.intro rfl (And.intro rfl (trivial))))))
set_option maxHeartbeats 4000000 in
set_option maxRecDepth 100000 in
theorem k_7 {K : e_K} {p : Program} {l : Launch} {e : Env} {s : State} {m : MethodId} {args : Array Value} {below : List Frame} {meth : Method} {c : Code} {b N x y o wh n k : Nat} {xs : Nat → Int32} {w : e_W} {i kn : Int} (F : e_F K p l s m args meth c cL_law 7 (some .boolean) RL) (hN : g_N s) (hX : va_X b N xs s s.heap) (hb : b < K.1) (hNL : N ≤ 448) (hxy : x + 27 ≤ y) (hyo : y + 4 ≤ o) (hi : 0 ≤ i) (hi2 : i + 7 ≤ (N : Int)) (hkn : 0 ≤ kn ∧ kn ≤ 448) (hk : k + 250 ≤ 17000) (hI : LI w x y o wh kn)
    (kk : ∀ (w' : e_W) (n' wh' : Nat) (kn' : Int), LI w' x y o wh' kn' → (kn' = kn ∨ kn' = kn + 1) → e_V K p l e 20 17000 s m args below meth c 7 LQ9 e_px0 2052 (LL b x y o i) [] w' n' (k + 250)) : e_V K p l e 20 17000 s m args below meth c 7 LQ9 e_px0 476 (LL b x y o i) [] w n (k) := by
  obtain ⟨t0, D, R, z, sv, hC, hM, hO, hS⟩ := hI
  have hG : GG wh D R := GG_of hC hM hS
  refine e_aload_n F dL_law_476 rfl ?_
  refine e_aload_n F dL_law_477 rfl ?_
  refine e_iload F dL_law_478 rfl ?_
  refine e_iconst F dL_law_480 ?_
  refine e_iadd F dL_law_481 ?_
  refine e_sld F hX hb hNL (by omega) (by omega) dL_law_482 ?_
  refine e_aload_n F dL_law_483 rfl ?_
  refine e_iload F dL_law_484 rfl ?_
  refine e_iconst F dL_law_486 ?_
  refine e_iadd F dL_law_487 ?_
  refine e_sld F hX hb hNL (by omega) (by omega) dL_law_488 ?_
  refine e_aload_n F dL_law_489 rfl ?_
  refine e_dom (fun hd0 => ?_)
  refine e_callSX F hN u_L_weights (by rfl) (w_weights hC (eI_rg _) (eI_rg _) hO (by omega)) w_ml_RL_173 dL_law_490 (by rfl) (Nat.le_of_ble_eq_true rfl) (by decide) (by omega) (fun _ _ _ h _ => False.elim h) (fun r1 w1 n1 h1 hn1 => ?_)
  obtain ⟨c1, D1, z1, rfl, hC1, hF1, hO1, hs1⟩ := wc1 hC hO h1
  have hM1 := hM.lf hd0 hO hxy hyo hF1
  refine e_istore F dL_law_493 (by decide) ?_
  refine e_aload_n F dL_law_495 rfl ?_
  refine e_aload_n F dL_law_496 rfl ?_
  refine e_iload F dL_law_497 rfl ?_
  refine e_iconst F dL_law_499 ?_
  refine e_iadd F dL_law_500 ?_
  refine e_sld F hX hb hNL (by omega) (by omega) dL_law_501 ?_
  refine e_aload_n F dL_law_502 rfl ?_
  refine e_iload F dL_law_503 rfl ?_
  refine e_iconst F dL_law_505 ?_
  refine e_iadd F dL_law_506 ?_
  refine e_sld F hX hb hNL (by omega) (by omega) dL_law_507 ?_
  refine e_dom (fun hd1 => ?_)
  refine e_callVV F u_X5_weights (by rfl) (c_X5_weights hM1 (eI_rg _) (eI_rg _)) hM1.1 rfl rfl w_ml_RL_176 dL_law_508 (by rfl) (Nat.le_of_ble_eq_true rfl) (by decide) (by omega) (fun _ _ _ h _ => False.elim h) (fun r2 w2 n2 h2 hn2 => ?_)
  obtain ⟨V2, t2, R2, rfl, hf2, hM2, hs2⟩ := mc1 h2
  have hS2 : SS wh D1 R2 := by
    rcases hs1 with ⟨p1, p2, p6, p8⟩ | ⟨p1, p2, p8⟩ | ⟨p1, p2, p8⟩
    · rcases hs2 with ⟨p3, p4, p9⟩ | ⟨p3, p4, p7, p9⟩
      · exfalso; first | exact p1.elim | omega
      · rw [p8, p9]; exact hS
    · rcases hs2 with ⟨p3, p4, p9⟩ | ⟨p3, p4, p7, p9⟩
      · rw [p8, p9]; exact hS
      · exfalso; first | exact p1.elim | omega
    · rcases hs2 with ⟨p3, p4, p9⟩ | ⟨p3, p4, p7, p9⟩
      · exfalso; first | exact p1.elim | omega
      · exfalso; first | exact p1.elim | omega
  have hC2 := hC1.fm hd1 hM1 hxy hf2
  have hO2 := (hf2 o (hd1 o _ hO1) (Or.inr hyo)).trans hO1
  refine e_istore F dL_law_511 (by decide) ?_
  refine e_goto F 2052 dL_law_513 (by decide) ?_
  exact e_go (e_wd (by omega) (kk _ _ _ _ ⟨_, _, _, _, _, hC2, hM2, hO2, hS2⟩ (Or.inl rfl))) (And.intro rfl (And.intro rfl (And.intro rfl (And.intro rfl (And.intro rfl (trivial))))))
set_option maxHeartbeats 4000000 in
set_option maxRecDepth 100000 in
theorem k_8 {K : e_K} {p : Program} {l : Launch} {e : Env} {s : State} {m : MethodId} {args : Array Value} {below : List Frame} {meth : Method} {c : Code} {b N x y o wh n k : Nat} {xs : Nat → Int32} {w : e_W} {i kn : Int} (F : e_F K p l s m args meth c cL_law 7 (some .boolean) RL) (hN : g_N s) (hX : va_X b N xs s s.heap) (hb : b < K.1) (hNL : N ≤ 448) (hxy : x + 27 ≤ y) (hyo : y + 4 ≤ o) (hi : 0 ≤ i) (hi2 : i + 7 ≤ (N : Int)) (hkn : 0 ≤ kn ∧ kn ≤ 448) (hk : k + 250 ≤ 17000) (hI : LI w x y o wh kn)
    (kk : ∀ (w' : e_W) (n' wh' : Nat) (kn' : Int), LI w' x y o wh' kn' → (kn' = kn ∨ kn' = kn + 1) → e_V K p l e 20 17000 s m args below meth c 7 LQ9 e_px0 2052 (LL b x y o i) [] w' n' (k + 250)) : e_V K p l e 20 17000 s m args below meth c 7 LQ9 e_px0 516 (LL b x y o i) [] w n (k) := by
  obtain ⟨t0, D, R, z, sv, hC, hM, hO, hS⟩ := hI
  have hG : GG wh D R := GG_of hC hM hS
  refine e_aload_n F dL_law_516 rfl ?_
  refine e_aload_n F dL_law_517 rfl ?_
  refine e_iload F dL_law_518 rfl ?_
  refine e_iconst F dL_law_520 ?_
  refine e_iadd F dL_law_521 ?_
  refine e_sld F hX hb hNL (by omega) (by omega) dL_law_522 ?_
  refine e_aload_n F dL_law_523 rfl ?_
  refine e_iload F dL_law_524 rfl ?_
  refine e_iconst F dL_law_526 ?_
  refine e_iadd F dL_law_527 ?_
  refine e_sld F hX hb hNL (by omega) (by omega) dL_law_528 ?_
  refine e_aload_n F dL_law_529 rfl ?_
  refine e_iload F dL_law_530 rfl ?_
  refine e_iconst F dL_law_532 ?_
  refine e_iadd F dL_law_533 ?_
  refine e_sld F hX hb hNL (by omega) (by omega) dL_law_534 ?_
  refine e_aload_n F dL_law_535 rfl ?_
  refine e_iload F dL_law_536 rfl ?_
  refine e_iconst F dL_law_538 ?_
  refine e_iadd F dL_law_539 ?_
  refine e_sld F hX hb hNL (by omega) (by omega) dL_law_540 ?_
  refine e_aload_n F dL_law_541 rfl ?_
  refine e_iload F dL_law_542 rfl ?_
  refine e_iconst F dL_law_544 ?_
  refine e_iadd F dL_law_545 ?_
  refine e_sld F hX hb hNL (by omega) (by omega) dL_law_546 ?_
  refine e_aload_n F dL_law_547 rfl ?_
  refine e_iload F dL_law_548 rfl ?_
  refine e_bipush F dL_law_550 (by decide) ?_
  refine e_iadd F dL_law_552 ?_
  refine e_sld F hX hb hNL (by omega) (by omega) dL_law_553 ?_
  refine e_aload_n F dL_law_554 rfl ?_
  refine e_dom (fun hd0 => ?_)
  refine e_callSX F hN u_L_hide (by rfl) (w_hide hC (eI_rg _) (eI_rg _) (eI_rg _) (eI_rg _) (eI_rg _) (eI_rg _) hO (by omega)) w_ml_RL_177 dL_law_555 (by rfl) (Nat.le_of_ble_eq_true rfl) (by decide) (by omega) (fun _ _ _ h _ => False.elim h) (fun r1 w1 n1 h1 hn1 => ?_)
  obtain ⟨c1, D1, z1, rfl, hC1, hF1, hO1, hs1⟩ := wc1 hC hO h1
  have hM1 := hM.lf hd0 hO hxy hyo hF1
  refine e_istore F dL_law_558 (by decide) ?_
  refine e_aload_n F dL_law_560 rfl ?_
  refine e_aload_n F dL_law_561 rfl ?_
  refine e_iload F dL_law_562 rfl ?_
  refine e_iconst F dL_law_564 ?_
  refine e_iadd F dL_law_565 ?_
  refine e_sld F hX hb hNL (by omega) (by omega) dL_law_566 ?_
  refine e_aload_n F dL_law_567 rfl ?_
  refine e_iload F dL_law_568 rfl ?_
  refine e_iconst F dL_law_570 ?_
  refine e_iadd F dL_law_571 ?_
  refine e_sld F hX hb hNL (by omega) (by omega) dL_law_572 ?_
  refine e_aload_n F dL_law_573 rfl ?_
  refine e_iload F dL_law_574 rfl ?_
  refine e_iconst F dL_law_576 ?_
  refine e_iadd F dL_law_577 ?_
  refine e_sld F hX hb hNL (by omega) (by omega) dL_law_578 ?_
  refine e_aload_n F dL_law_579 rfl ?_
  refine e_iload F dL_law_580 rfl ?_
  refine e_iconst F dL_law_582 ?_
  refine e_iadd F dL_law_583 ?_
  refine e_sld F hX hb hNL (by omega) (by omega) dL_law_584 ?_
  refine e_aload_n F dL_law_585 rfl ?_
  refine e_iload F dL_law_586 rfl ?_
  refine e_iconst F dL_law_588 ?_
  refine e_iadd F dL_law_589 ?_
  refine e_sld F hX hb hNL (by omega) (by omega) dL_law_590 ?_
  refine e_aload_n F dL_law_591 rfl ?_
  refine e_iload F dL_law_592 rfl ?_
  refine e_bipush F dL_law_594 (by decide) ?_
  refine e_iadd F dL_law_596 ?_
  refine e_sld F hX hb hNL (by omega) (by omega) dL_law_597 ?_
  refine e_dom (fun hd1 => ?_)
  refine e_callVV F u_X5_hide (by rfl) (c_X5_hide hM1 (eI_rg _) (eI_rg _) (eI_rg _) (eI_rg _) (eI_rg _) (eI_rg _)) hM1.1 rfl rfl w_ml_RL_180 dL_law_598 (by rfl) (Nat.le_of_ble_eq_true rfl) (by decide) (by omega) (fun _ _ _ h _ => False.elim h) (fun r2 w2 n2 h2 hn2 => ?_)
  obtain ⟨V2, t2, R2, rfl, hf2, hM2, hs2⟩ := mc2 h2
  have hS2 : SS wh D1 R2 := by
    rcases hs1 with ⟨p1, p2, p6, p8⟩ | ⟨p1, p2, p8⟩ | ⟨p1, p2, p8⟩
    · rcases hs2 with ⟨p3, p4, p9⟩ | ⟨p3, p4, p9⟩ | ⟨p3, p4, p7, p9⟩
      · exfalso; first | exact p1.elim | omega
      · exfalso; first | exact p1.elim | omega
      · rw [p8, p9]; exact ((y_hide hG p1).2)
    · rcases hs2 with ⟨p3, p4, p9⟩ | ⟨p3, p4, p9⟩ | ⟨p3, p4, p7, p9⟩
      · rw [p8, p9]; exact hS
      · exfalso; first | exact p1.elim | omega
      · exfalso; first | exact p1.elim | omega
    · rcases hs2 with ⟨p3, p4, p9⟩ | ⟨p3, p4, p9⟩ | ⟨p3, p4, p7, p9⟩
      · exfalso; first | exact p1.elim | omega
      · rw [p8, p9]; exact hS
      · exfalso; first | exact p1.elim | omega
  have hC2 := hC1.fm hd1 hM1 hxy hf2
  have hO2 := (hf2 o (hd1 o _ hO1) (Or.inr hyo)).trans hO1
  refine e_istore F dL_law_601 (by decide) ?_
  refine e_goto F 2052 dL_law_603 (by decide) ?_
  exact e_go (e_wd (by omega) (kk _ _ _ _ ⟨_, _, _, _, _, hC2, hM2, hO2, hS2⟩ (Or.inl rfl))) (And.intro rfl (And.intro rfl (And.intro rfl (And.intro rfl (And.intro rfl (trivial))))))
set_option maxHeartbeats 4000000 in
set_option maxRecDepth 100000 in
theorem k_9 {K : e_K} {p : Program} {l : Launch} {e : Env} {s : State} {m : MethodId} {args : Array Value} {below : List Frame} {meth : Method} {c : Code} {b N x y o wh n k : Nat} {xs : Nat → Int32} {w : e_W} {i kn : Int} (F : e_F K p l s m args meth c cL_law 7 (some .boolean) RL) (hN : g_N s) (hX : va_X b N xs s s.heap) (hb : b < K.1) (hNL : N ≤ 448) (hxy : x + 27 ≤ y) (hyo : y + 4 ≤ o) (hi : 0 ≤ i) (hi2 : i + 7 ≤ (N : Int)) (hkn : 0 ≤ kn ∧ kn ≤ 448) (hk : k + 250 ≤ 17000) (hI : LI w x y o wh kn)
    (kk : ∀ (w' : e_W) (n' wh' : Nat) (kn' : Int), LI w' x y o wh' kn' → (kn' = kn ∨ kn' = kn + 1) → e_V K p l e 20 17000 s m args below meth c 7 LQ9 e_px0 2052 (LL b x y o i) [] w' n' (k + 250)) : e_V K p l e 20 17000 s m args below meth c 7 LQ9 e_px0 606 (LL b x y o i) [] w n (k) := by
  obtain ⟨t0, D, R, z, sv, hC, hM, hO, hS⟩ := hI
  have hG : GG wh D R := GG_of hC hM hS
  refine e_aload_n F dL_law_606 rfl ?_
  refine e_aload_n F dL_law_607 rfl ?_
  refine e_iload F dL_law_608 rfl ?_
  refine e_iconst F dL_law_610 ?_
  refine e_iadd F dL_law_611 ?_
  refine e_sld F hX hb hNL (by omega) (by omega) dL_law_612 ?_
  refine e_aload_n F dL_law_613 rfl ?_
  refine e_iload F dL_law_614 rfl ?_
  refine e_iconst F dL_law_616 ?_
  refine e_iadd F dL_law_617 ?_
  refine e_sld F hX hb hNL (by omega) (by omega) dL_law_618 ?_
  refine e_aload_n F dL_law_619 rfl ?_
  refine e_iload F dL_law_620 rfl ?_
  refine e_iconst F dL_law_622 ?_
  refine e_iadd F dL_law_623 ?_
  refine e_sld F hX hb hNL (by omega) (by omega) dL_law_624 ?_
  refine e_aload_n F dL_law_625 rfl ?_
  refine e_iload F dL_law_626 rfl ?_
  refine e_iconst F dL_law_628 ?_
  refine e_iadd F dL_law_629 ?_
  refine e_sld F hX hb hNL (by omega) (by omega) dL_law_630 ?_
  refine e_aload_n F dL_law_631 rfl ?_
  refine e_iload F dL_law_632 rfl ?_
  refine e_iconst F dL_law_634 ?_
  refine e_iadd F dL_law_635 ?_
  refine e_sld F hX hb hNL (by omega) (by omega) dL_law_636 ?_
  refine e_aload_n F dL_law_637 rfl ?_
  refine e_dom (fun hd0 => ?_)
  refine e_callSX F hN u_L_pour (by rfl) (w_pour hC (eI_rg _) (eI_rg _) (eI_rg _) (eI_rg _) (eI_rg _) hO (by omega)) w_ml_RL_181 dL_law_638 (by rfl) (Nat.le_of_ble_eq_true rfl) (by decide) (by omega) (fun _ _ _ h _ => False.elim h) (fun r1 w1 n1 h1 hn1 => ?_)
  obtain ⟨c1, D1, z1, rfl, hC1, hF1, hO1, hs1⟩ := wc1 hC hO h1
  have hM1 := hM.lf hd0 hO hxy hyo hF1
  refine e_istore F dL_law_641 (by decide) ?_
  refine e_aload_n F dL_law_643 rfl ?_
  refine e_aload_n F dL_law_644 rfl ?_
  refine e_iload F dL_law_645 rfl ?_
  refine e_iconst F dL_law_647 ?_
  refine e_iadd F dL_law_648 ?_
  refine e_sld F hX hb hNL (by omega) (by omega) dL_law_649 ?_
  refine e_aload_n F dL_law_650 rfl ?_
  refine e_iload F dL_law_651 rfl ?_
  refine e_iconst F dL_law_653 ?_
  refine e_iadd F dL_law_654 ?_
  refine e_sld F hX hb hNL (by omega) (by omega) dL_law_655 ?_
  refine e_aload_n F dL_law_656 rfl ?_
  refine e_iload F dL_law_657 rfl ?_
  refine e_iconst F dL_law_659 ?_
  refine e_iadd F dL_law_660 ?_
  refine e_sld F hX hb hNL (by omega) (by omega) dL_law_661 ?_
  refine e_aload_n F dL_law_662 rfl ?_
  refine e_iload F dL_law_663 rfl ?_
  refine e_iconst F dL_law_665 ?_
  refine e_iadd F dL_law_666 ?_
  refine e_sld F hX hb hNL (by omega) (by omega) dL_law_667 ?_
  refine e_aload_n F dL_law_668 rfl ?_
  refine e_iload F dL_law_669 rfl ?_
  refine e_iconst F dL_law_671 ?_
  refine e_iadd F dL_law_672 ?_
  refine e_sld F hX hb hNL (by omega) (by omega) dL_law_673 ?_
  refine e_dom (fun hd1 => ?_)
  refine e_callVV F u_X5_pour (by rfl) (c_X5_pour hM1 (eI_rg _) (eI_rg _) (eI_rg _) (eI_rg _) (eI_rg _)) hM1.1 rfl rfl w_ml_RL_184 dL_law_674 (by rfl) (Nat.le_of_ble_eq_true rfl) (by decide) (by omega) (fun _ _ _ h _ => False.elim h) (fun r2 w2 n2 h2 hn2 => ?_)
  obtain ⟨V2, t2, R2, rfl, hf2, hM2, hs2⟩ := mc1 h2
  have hS2 : SS wh D1 R2 := by
    rcases hs1 with ⟨p1, p2, p6, p8⟩ | ⟨p1, p2, p8⟩ | ⟨p1, p2, p8⟩
    · rcases hs2 with ⟨p3, p4, p9⟩ | ⟨p3, p4, p7, p9⟩
      · exfalso; first | exact p1.elim | omega
      · rw [p8, p9]; exact ((y_pour hG p1).2)
    · rcases hs2 with ⟨p3, p4, p9⟩ | ⟨p3, p4, p7, p9⟩
      · rw [p8, p9]; exact hS
      · exfalso; first | exact p1.elim | omega
    · rcases hs2 with ⟨p3, p4, p9⟩ | ⟨p3, p4, p7, p9⟩
      · exfalso; first | exact p1.elim | omega
      · exfalso; first | exact p1.elim | omega
  have hC2 := hC1.fm hd1 hM1 hxy hf2
  have hO2 := (hf2 o (hd1 o _ hO1) (Or.inr hyo)).trans hO1
  refine e_istore F dL_law_677 (by decide) ?_
  refine e_goto F 2052 dL_law_679 (by decide) ?_
  exact e_go (e_wd (by omega) (kk _ _ _ _ ⟨_, _, _, _, _, hC2, hM2, hO2, hS2⟩ (Or.inl rfl))) (And.intro rfl (And.intro rfl (And.intro rfl (And.intro rfl (And.intro rfl (trivial))))))
set_option maxHeartbeats 4000000 in
set_option maxRecDepth 100000 in
theorem k_10 {K : e_K} {p : Program} {l : Launch} {e : Env} {s : State} {m : MethodId} {args : Array Value} {below : List Frame} {meth : Method} {c : Code} {b N x y o wh n k : Nat} {xs : Nat → Int32} {w : e_W} {i kn : Int} (F : e_F K p l s m args meth c cL_law 7 (some .boolean) RL) (hN : g_N s) (hX : va_X b N xs s s.heap) (hb : b < K.1) (hNL : N ≤ 448) (hxy : x + 27 ≤ y) (hyo : y + 4 ≤ o) (hi : 0 ≤ i) (hi2 : i + 7 ≤ (N : Int)) (hkn : 0 ≤ kn ∧ kn ≤ 448) (hk : k + 250 ≤ 17000) (hI : LI w x y o wh kn)
    (kk : ∀ (w' : e_W) (n' wh' : Nat) (kn' : Int), LI w' x y o wh' kn' → (kn' = kn ∨ kn' = kn + 1) → e_V K p l e 20 17000 s m args below meth c 7 LQ9 e_px0 2052 (LL b x y o i) [] w' n' (k + 250)) : e_V K p l e 20 17000 s m args below meth c 7 LQ9 e_px0 682 (LL b x y o i) [] w n (k) := by
  obtain ⟨t0, D, R, z, sv, hC, hM, hO, hS⟩ := hI
  have hG : GG wh D R := GG_of hC hM hS
  refine e_aload_n F dL_law_682 rfl ?_
  refine e_aload_n F dL_law_683 rfl ?_
  refine e_iload F dL_law_684 rfl ?_
  refine e_iconst F dL_law_686 ?_
  refine e_iadd F dL_law_687 ?_
  refine e_sld F hX hb hNL (by omega) (by omega) dL_law_688 ?_
  refine e_aload_n F dL_law_689 rfl ?_
  refine e_iload F dL_law_690 rfl ?_
  refine e_iconst F dL_law_692 ?_
  refine e_iadd F dL_law_693 ?_
  refine e_sld F hX hb hNL (by omega) (by omega) dL_law_694 ?_
  refine e_aload_n F dL_law_695 rfl ?_
  refine e_iload F dL_law_696 rfl ?_
  refine e_iconst F dL_law_698 ?_
  refine e_iadd F dL_law_699 ?_
  refine e_sld F hX hb hNL (by omega) (by omega) dL_law_700 ?_
  refine e_aload_n F dL_law_701 rfl ?_
  refine e_dom (fun hd0 => ?_)
  refine e_callSX F hN u_L_plus (by rfl) (w_plus hC (eI_rg _) (eI_rg _) (eI_rg _) hO (by omega)) w_ml_RL_185 dL_law_702 (by rfl) (Nat.le_of_ble_eq_true rfl) (by decide) (by omega) (fun _ _ _ h _ => False.elim h) (fun r1 w1 n1 h1 hn1 => ?_)
  obtain ⟨c1, D1, z1, rfl, hC1, hF1, hO1, hs1⟩ := wc1 hC hO h1
  have hM1 := hM.lf hd0 hO hxy hyo hF1
  refine e_istore F dL_law_705 (by decide) ?_
  refine e_aload_n F dL_law_707 rfl ?_
  refine e_aload_n F dL_law_708 rfl ?_
  refine e_iload F dL_law_709 rfl ?_
  refine e_iconst F dL_law_711 ?_
  refine e_iadd F dL_law_712 ?_
  refine e_sld F hX hb hNL (by omega) (by omega) dL_law_713 ?_
  refine e_aload_n F dL_law_714 rfl ?_
  refine e_iload F dL_law_715 rfl ?_
  refine e_iconst F dL_law_717 ?_
  refine e_iadd F dL_law_718 ?_
  refine e_sld F hX hb hNL (by omega) (by omega) dL_law_719 ?_
  refine e_aload_n F dL_law_720 rfl ?_
  refine e_iload F dL_law_721 rfl ?_
  refine e_iconst F dL_law_723 ?_
  refine e_iadd F dL_law_724 ?_
  refine e_sld F hX hb hNL (by omega) (by omega) dL_law_725 ?_
  refine e_dom (fun hd1 => ?_)
  refine e_callVV F u_X5_plus (by rfl) (c_X5_plus hM1 (eI_rg _) (eI_rg _) (eI_rg _)) hM1.1 rfl rfl w_ml_RL_187 dL_law_726 (by rfl) (Nat.le_of_ble_eq_true rfl) (by decide) (by omega) (fun _ _ _ h _ => False.elim h) (fun r2 w2 n2 h2 hn2 => ?_)
  obtain ⟨V2, t2, R2, rfl, hf2, hM2, hs2⟩ := mc1 h2
  have hS2 : SS wh D1 R2 := by
    rcases hs1 with ⟨p1, p2, p6, p8⟩ | ⟨p1, p2, p8⟩ | ⟨p1, p2, p8⟩
    · rcases hs2 with ⟨p3, p4, p9⟩ | ⟨p3, p4, p7, p9⟩
      · exfalso; first | exact p1.elim | omega
      · rw [p8, p9]; exact ((y_plus hG p1).2)
    · rcases hs2 with ⟨p3, p4, p9⟩ | ⟨p3, p4, p7, p9⟩
      · rw [p8, p9]; exact hS
      · exfalso; first | exact p1.elim | omega
    · rcases hs2 with ⟨p3, p4, p9⟩ | ⟨p3, p4, p7, p9⟩
      · exfalso; first | exact p1.elim | omega
      · exfalso; first | exact p1.elim | omega
  have hC2 := hC1.fm hd1 hM1 hxy hf2
  have hO2 := (hf2 o (hd1 o _ hO1) (Or.inr hyo)).trans hO1
  refine e_istore F dL_law_729 (by decide) ?_
  refine e_goto F 2052 dL_law_731 (by decide) ?_
  exact e_go (e_wd (by omega) (kk _ _ _ _ ⟨_, _, _, _, _, hC2, hM2, hO2, hS2⟩ (Or.inl rfl))) (And.intro rfl (And.intro rfl (And.intro rfl (And.intro rfl (And.intro rfl (trivial))))))
set_option maxHeartbeats 4000000 in
set_option maxRecDepth 100000 in
theorem k_11 {K : e_K} {p : Program} {l : Launch} {e : Env} {s : State} {m : MethodId} {args : Array Value} {below : List Frame} {meth : Method} {c : Code} {b N x y o wh n k : Nat} {xs : Nat → Int32} {w : e_W} {i kn : Int} (F : e_F K p l s m args meth c cL_law 7 (some .boolean) RL) (hN : g_N s) (hX : va_X b N xs s s.heap) (hb : b < K.1) (hNL : N ≤ 448) (hxy : x + 27 ≤ y) (hyo : y + 4 ≤ o) (hi : 0 ≤ i) (hi2 : i + 7 ≤ (N : Int)) (hkn : 0 ≤ kn ∧ kn ≤ 448) (hk : k + 250 ≤ 17000) (hI : LI w x y o wh kn)
    (kk : ∀ (w' : e_W) (n' wh' : Nat) (kn' : Int), LI w' x y o wh' kn' → (kn' = kn ∨ kn' = kn + 1) → e_V K p l e 20 17000 s m args below meth c 7 LQ9 e_px0 2052 (LL b x y o i) [] w' n' (k + 250)) : e_V K p l e 20 17000 s m args below meth c 7 LQ9 e_px0 734 (LL b x y o i) [] w n (k) := by
  obtain ⟨t0, D, R, z, sv, hC, hM, hO, hS⟩ := hI
  have hG : GG wh D R := GG_of hC hM hS
  refine e_aload_n F dL_law_734 rfl ?_
  refine e_aload_n F dL_law_735 rfl ?_
  refine e_iload F dL_law_736 rfl ?_
  refine e_iconst F dL_law_738 ?_
  refine e_iadd F dL_law_739 ?_
  refine e_sld F hX hb hNL (by omega) (by omega) dL_law_740 ?_
  refine e_aload_n F dL_law_741 rfl ?_
  refine e_iload F dL_law_742 rfl ?_
  refine e_iconst F dL_law_744 ?_
  refine e_iadd F dL_law_745 ?_
  refine e_sld F hX hb hNL (by omega) (by omega) dL_law_746 ?_
  refine e_aload_n F dL_law_747 rfl ?_
  refine e_iload F dL_law_748 rfl ?_
  refine e_iconst F dL_law_750 ?_
  refine e_iadd F dL_law_751 ?_
  refine e_sld F hX hb hNL (by omega) (by omega) dL_law_752 ?_
  refine e_aload_n F dL_law_753 rfl ?_
  refine e_dom (fun hd0 => ?_)
  refine e_callSX F hN u_L_less (by rfl) (w_less hC (eI_rg _) (eI_rg _) (eI_rg _) hO (by omega)) w_ml_RL_188 dL_law_754 (by rfl) (Nat.le_of_ble_eq_true rfl) (by decide) (by omega) (fun _ _ _ h _ => False.elim h) (fun r1 w1 n1 h1 hn1 => ?_)
  obtain ⟨c1, D1, z1, rfl, hC1, hF1, hO1, hs1⟩ := wc1 hC hO h1
  have hM1 := hM.lf hd0 hO hxy hyo hF1
  refine e_istore F dL_law_757 (by decide) ?_
  refine e_aload_n F dL_law_759 rfl ?_
  refine e_aload_n F dL_law_760 rfl ?_
  refine e_iload F dL_law_761 rfl ?_
  refine e_iconst F dL_law_763 ?_
  refine e_iadd F dL_law_764 ?_
  refine e_sld F hX hb hNL (by omega) (by omega) dL_law_765 ?_
  refine e_aload_n F dL_law_766 rfl ?_
  refine e_iload F dL_law_767 rfl ?_
  refine e_iconst F dL_law_769 ?_
  refine e_iadd F dL_law_770 ?_
  refine e_sld F hX hb hNL (by omega) (by omega) dL_law_771 ?_
  refine e_aload_n F dL_law_772 rfl ?_
  refine e_iload F dL_law_773 rfl ?_
  refine e_iconst F dL_law_775 ?_
  refine e_iadd F dL_law_776 ?_
  refine e_sld F hX hb hNL (by omega) (by omega) dL_law_777 ?_
  refine e_dom (fun hd1 => ?_)
  refine e_callVV F u_X5_less (by rfl) (c_X5_less hM1 (eI_rg _) (eI_rg _) (eI_rg _)) hM1.1 rfl rfl w_ml_RL_190 dL_law_778 (by rfl) (Nat.le_of_ble_eq_true rfl) (by decide) (by omega) (fun _ _ _ h _ => False.elim h) (fun r2 w2 n2 h2 hn2 => ?_)
  obtain ⟨V2, t2, R2, rfl, hf2, hM2, hs2⟩ := mc1 h2
  have hS2 : SS wh D1 R2 := by
    rcases hs1 with ⟨p1, p2, p6, p8⟩ | ⟨p1, p2, p8⟩ | ⟨p1, p2, p8⟩
    · rcases hs2 with ⟨p3, p4, p9⟩ | ⟨p3, p4, p7, p9⟩
      · exfalso; first | exact p1.elim | omega
      · rw [p8, p9]; exact ((y_less hG p1).2)
    · rcases hs2 with ⟨p3, p4, p9⟩ | ⟨p3, p4, p7, p9⟩
      · rw [p8, p9]; exact hS
      · exfalso; first | exact p1.elim | omega
    · rcases hs2 with ⟨p3, p4, p9⟩ | ⟨p3, p4, p7, p9⟩
      · exfalso; first | exact p1.elim | omega
      · exfalso; first | exact p1.elim | omega
  have hC2 := hC1.fm hd1 hM1 hxy hf2
  have hO2 := (hf2 o (hd1 o _ hO1) (Or.inr hyo)).trans hO1
  refine e_istore F dL_law_781 (by decide) ?_
  refine e_goto F 2052 dL_law_783 (by decide) ?_
  exact e_go (e_wd (by omega) (kk _ _ _ _ ⟨_, _, _, _, _, hC2, hM2, hO2, hS2⟩ (Or.inl rfl))) (And.intro rfl (And.intro rfl (And.intro rfl (And.intro rfl (And.intro rfl (trivial))))))
set_option maxHeartbeats 4000000 in
set_option maxRecDepth 100000 in
theorem k_12 {K : e_K} {p : Program} {l : Launch} {e : Env} {s : State} {m : MethodId} {args : Array Value} {below : List Frame} {meth : Method} {c : Code} {b N x y o wh n k : Nat} {xs : Nat → Int32} {w : e_W} {i kn : Int} (F : e_F K p l s m args meth c cL_law 7 (some .boolean) RL) (hN : g_N s) (hX : va_X b N xs s s.heap) (hb : b < K.1) (hNL : N ≤ 448) (hxy : x + 27 ≤ y) (hyo : y + 4 ≤ o) (hi : 0 ≤ i) (hi2 : i + 7 ≤ (N : Int)) (hkn : 0 ≤ kn ∧ kn ≤ 448) (hk : k + 250 ≤ 17000) (hI : LI w x y o wh kn)
    (kk : ∀ (w' : e_W) (n' wh' : Nat) (kn' : Int), LI w' x y o wh' kn' → (kn' = kn ∨ kn' = kn + 1) → e_V K p l e 20 17000 s m args below meth c 7 LQ9 e_px0 2052 (LL b x y o i) [] w' n' (k + 250)) : e_V K p l e 20 17000 s m args below meth c 7 LQ9 e_px0 786 (LL b x y o i) [] w n (k) := by
  obtain ⟨t0, D, R, z, sv, hC, hM, hO, hS⟩ := hI
  have hG : GG wh D R := GG_of hC hM hS
  refine e_aload_n F dL_law_786 rfl ?_
  refine e_aload_n F dL_law_787 rfl ?_
  refine e_iload F dL_law_788 rfl ?_
  refine e_iconst F dL_law_790 ?_
  refine e_iadd F dL_law_791 ?_
  refine e_sld F hX hb hNL (by omega) (by omega) dL_law_792 ?_
  refine e_aload_n F dL_law_793 rfl ?_
  refine e_iload F dL_law_794 rfl ?_
  refine e_iconst F dL_law_796 ?_
  refine e_iadd F dL_law_797 ?_
  refine e_sld F hX hb hNL (by omega) (by omega) dL_law_798 ?_
  refine e_aload_n F dL_law_799 rfl ?_
  refine e_iload F dL_law_800 rfl ?_
  refine e_iconst F dL_law_802 ?_
  refine e_iadd F dL_law_803 ?_
  refine e_sld F hX hb hNL (by omega) (by omega) dL_law_804 ?_
  refine e_aload_n F dL_law_805 rfl ?_
  refine e_dom (fun hd0 => ?_)
  refine e_callSX F hN u_L_times (by rfl) (w_times hC (eI_rg _) (eI_rg _) (eI_rg _) hO (by omega)) w_ml_RL_191 dL_law_806 (by rfl) (Nat.le_of_ble_eq_true rfl) (by decide) (by omega) (fun _ _ _ h _ => False.elim h) (fun r1 w1 n1 h1 hn1 => ?_)
  obtain ⟨c1, D1, z1, rfl, hC1, hF1, hO1, hs1⟩ := wc1 hC hO h1
  have hM1 := hM.lf hd0 hO hxy hyo hF1
  refine e_istore F dL_law_809 (by decide) ?_
  refine e_aload_n F dL_law_811 rfl ?_
  refine e_aload_n F dL_law_812 rfl ?_
  refine e_iload F dL_law_813 rfl ?_
  refine e_iconst F dL_law_815 ?_
  refine e_iadd F dL_law_816 ?_
  refine e_sld F hX hb hNL (by omega) (by omega) dL_law_817 ?_
  refine e_aload_n F dL_law_818 rfl ?_
  refine e_iload F dL_law_819 rfl ?_
  refine e_iconst F dL_law_821 ?_
  refine e_iadd F dL_law_822 ?_
  refine e_sld F hX hb hNL (by omega) (by omega) dL_law_823 ?_
  refine e_aload_n F dL_law_824 rfl ?_
  refine e_iload F dL_law_825 rfl ?_
  refine e_iconst F dL_law_827 ?_
  refine e_iadd F dL_law_828 ?_
  refine e_sld F hX hb hNL (by omega) (by omega) dL_law_829 ?_
  refine e_dom (fun hd1 => ?_)
  refine e_callVV F u_X5_times (by rfl) (c_X5_times hM1 (eI_rg _) (eI_rg _) (eI_rg _)) hM1.1 rfl rfl w_ml_RL_193 dL_law_830 (by rfl) (Nat.le_of_ble_eq_true rfl) (by decide) (by omega) (fun _ _ _ h _ => False.elim h) (fun r2 w2 n2 h2 hn2 => ?_)
  obtain ⟨V2, t2, R2, rfl, hf2, hM2, hs2⟩ := mc1 h2
  have hS2 : SS wh D1 R2 := by
    rcases hs1 with ⟨p1, p2, p6, p8⟩ | ⟨p1, p2, p8⟩ | ⟨p1, p2, p8⟩
    · rcases hs2 with ⟨p3, p4, p9⟩ | ⟨p3, p4, p7, p9⟩
      · exfalso; first | exact p1.elim | omega
      · rw [p8, p9]; exact ((y_times hG p1).2)
    · rcases hs2 with ⟨p3, p4, p9⟩ | ⟨p3, p4, p7, p9⟩
      · rw [p8, p9]; exact hS
      · exfalso; first | exact p1.elim | omega
    · rcases hs2 with ⟨p3, p4, p9⟩ | ⟨p3, p4, p7, p9⟩
      · exfalso; first | exact p1.elim | omega
      · exfalso; first | exact p1.elim | omega
  have hC2 := hC1.fm hd1 hM1 hxy hf2
  have hO2 := (hf2 o (hd1 o _ hO1) (Or.inr hyo)).trans hO1
  refine e_istore F dL_law_833 (by decide) ?_
  refine e_goto F 2052 dL_law_835 (by decide) ?_
  exact e_go (e_wd (by omega) (kk _ _ _ _ ⟨_, _, _, _, _, hC2, hM2, hO2, hS2⟩ (Or.inl rfl))) (And.intro rfl (And.intro rfl (And.intro rfl (And.intro rfl (And.intro rfl (trivial))))))
set_option maxHeartbeats 4000000 in
set_option maxRecDepth 100000 in
theorem k_13 {K : e_K} {p : Program} {l : Launch} {e : Env} {s : State} {m : MethodId} {args : Array Value} {below : List Frame} {meth : Method} {c : Code} {b N x y o wh n k : Nat} {xs : Nat → Int32} {w : e_W} {i kn : Int} (F : e_F K p l s m args meth c cL_law 7 (some .boolean) RL) (hN : g_N s) (hX : va_X b N xs s s.heap) (hb : b < K.1) (hNL : N ≤ 448) (hxy : x + 27 ≤ y) (hyo : y + 4 ≤ o) (hi : 0 ≤ i) (hi2 : i + 7 ≤ (N : Int)) (hkn : 0 ≤ kn ∧ kn ≤ 448) (hk : k + 250 ≤ 17000) (hI : LI w x y o wh kn)
    (kk : ∀ (w' : e_W) (n' wh' : Nat) (kn' : Int), LI w' x y o wh' kn' → (kn' = kn ∨ kn' = kn + 1) → e_V K p l e 20 17000 s m args below meth c 7 LQ9 e_px0 2052 (LL b x y o i) [] w' n' (k + 250)) : e_V K p l e 20 17000 s m args below meth c 7 LQ9 e_px0 838 (LL b x y o i) [] w n (k) := by
  obtain ⟨t0, D, R, z, sv, hC, hM, hO, hS⟩ := hI
  have hG : GG wh D R := GG_of hC hM hS
  refine e_aload_n F dL_law_838 rfl ?_
  refine e_aload_n F dL_law_839 rfl ?_
  refine e_iload F dL_law_840 rfl ?_
  refine e_iconst F dL_law_842 ?_
  refine e_iadd F dL_law_843 ?_
  refine e_sld F hX hb hNL (by omega) (by omega) dL_law_844 ?_
  refine e_aload_n F dL_law_845 rfl ?_
  refine e_iload F dL_law_846 rfl ?_
  refine e_iconst F dL_law_848 ?_
  refine e_iadd F dL_law_849 ?_
  refine e_sld F hX hb hNL (by omega) (by omega) dL_law_850 ?_
  refine e_aload_n F dL_law_851 rfl ?_
  refine e_iload F dL_law_852 rfl ?_
  refine e_iconst F dL_law_854 ?_
  refine e_iadd F dL_law_855 ?_
  refine e_sld F hX hb hNL (by omega) (by omega) dL_law_856 ?_
  refine e_aload_n F dL_law_857 rfl ?_
  refine e_dom (fun hd0 => ?_)
  refine e_callSX F hN u_L_scale (by rfl) (w_scale hC (eI_rg _) (eI_rg _) (eI_rg _) hO (by omega)) w_ml_RL_194 dL_law_858 (by rfl) (Nat.le_of_ble_eq_true rfl) (by decide) (by omega) (fun _ _ _ h _ => False.elim h) (fun r1 w1 n1 h1 hn1 => ?_)
  obtain ⟨c1, D1, z1, rfl, hC1, hF1, hO1, hs1⟩ := wc1 hC hO h1
  have hM1 := hM.lf hd0 hO hxy hyo hF1
  refine e_istore F dL_law_861 (by decide) ?_
  refine e_aload_n F dL_law_863 rfl ?_
  refine e_aload_n F dL_law_864 rfl ?_
  refine e_iload F dL_law_865 rfl ?_
  refine e_iconst F dL_law_867 ?_
  refine e_iadd F dL_law_868 ?_
  refine e_sld F hX hb hNL (by omega) (by omega) dL_law_869 ?_
  refine e_aload_n F dL_law_870 rfl ?_
  refine e_iload F dL_law_871 rfl ?_
  refine e_iconst F dL_law_873 ?_
  refine e_iadd F dL_law_874 ?_
  refine e_sld F hX hb hNL (by omega) (by omega) dL_law_875 ?_
  refine e_aload_n F dL_law_876 rfl ?_
  refine e_iload F dL_law_877 rfl ?_
  refine e_iconst F dL_law_879 ?_
  refine e_iadd F dL_law_880 ?_
  refine e_sld F hX hb hNL (by omega) (by omega) dL_law_881 ?_
  refine e_dom (fun hd1 => ?_)
  refine e_callVV F u_X5_scale (by rfl) (c_X5_scale hM1 (eI_rg _) (eI_rg _) (eI_rg _)) hM1.1 rfl rfl w_ml_RL_196 dL_law_882 (by rfl) (Nat.le_of_ble_eq_true rfl) (by decide) (by omega) (fun _ _ _ h _ => False.elim h) (fun r2 w2 n2 h2 hn2 => ?_)
  obtain ⟨V2, t2, R2, rfl, hf2, hM2, hs2⟩ := mc1 h2
  have hS2 : SS wh D1 R2 := by
    rcases hs1 with ⟨p1, p2, p6, p8⟩ | ⟨p1, p2, p8⟩ | ⟨p1, p2, p8⟩
    · rcases hs2 with ⟨p3, p4, p9⟩ | ⟨p3, p4, p7, p9⟩
      · exfalso; first | exact p1.elim | omega
      · rw [p8, p9]; exact ((y_scale hG p1).2)
    · rcases hs2 with ⟨p3, p4, p9⟩ | ⟨p3, p4, p7, p9⟩
      · rw [p8, p9]; exact hS
      · exfalso; first | exact p1.elim | omega
    · rcases hs2 with ⟨p3, p4, p9⟩ | ⟨p3, p4, p7, p9⟩
      · exfalso; first | exact p1.elim | omega
      · exfalso; first | exact p1.elim | omega
  have hC2 := hC1.fm hd1 hM1 hxy hf2
  have hO2 := (hf2 o (hd1 o _ hO1) (Or.inr hyo)).trans hO1
  refine e_istore F dL_law_885 (by decide) ?_
  refine e_goto F 2052 dL_law_887 (by decide) ?_
  exact e_go (e_wd (by omega) (kk _ _ _ _ ⟨_, _, _, _, _, hC2, hM2, hO2, hS2⟩ (Or.inl rfl))) (And.intro rfl (And.intro rfl (And.intro rfl (And.intro rfl (And.intro rfl (trivial))))))
set_option maxHeartbeats 4000000 in
set_option maxRecDepth 100000 in
theorem k_14 {K : e_K} {p : Program} {l : Launch} {e : Env} {s : State} {m : MethodId} {args : Array Value} {below : List Frame} {meth : Method} {c : Code} {b N x y o wh n k : Nat} {xs : Nat → Int32} {w : e_W} {i kn : Int} (F : e_F K p l s m args meth c cL_law 7 (some .boolean) RL) (hN : g_N s) (hX : va_X b N xs s s.heap) (hb : b < K.1) (hNL : N ≤ 448) (hxy : x + 27 ≤ y) (hyo : y + 4 ≤ o) (hi : 0 ≤ i) (hi2 : i + 7 ≤ (N : Int)) (hkn : 0 ≤ kn ∧ kn ≤ 448) (hk : k + 250 ≤ 17000) (hI : LI w x y o wh kn)
    (kk : ∀ (w' : e_W) (n' wh' : Nat) (kn' : Int), LI w' x y o wh' kn' → (kn' = kn ∨ kn' = kn + 1) → e_V K p l e 20 17000 s m args below meth c 7 LQ9 e_px0 2052 (LL b x y o i) [] w' n' (k + 250)) : e_V K p l e 20 17000 s m args below meth c 7 LQ9 e_px0 890 (LL b x y o i) [] w n (k) := by
  obtain ⟨t0, D, R, z, sv, hC, hM, hO, hS⟩ := hI
  have hG : GG wh D R := GG_of hC hM hS
  refine e_aload_n F dL_law_890 rfl ?_
  refine e_aload_n F dL_law_891 rfl ?_
  refine e_iload F dL_law_892 rfl ?_
  refine e_iconst F dL_law_894 ?_
  refine e_iadd F dL_law_895 ?_
  refine e_sld F hX hb hNL (by omega) (by omega) dL_law_896 ?_
  refine e_aload_n F dL_law_897 rfl ?_
  refine e_iload F dL_law_898 rfl ?_
  refine e_iconst F dL_law_900 ?_
  refine e_iadd F dL_law_901 ?_
  refine e_sld F hX hb hNL (by omega) (by omega) dL_law_902 ?_
  refine e_aload_n F dL_law_903 rfl ?_
  refine e_iload F dL_law_904 rfl ?_
  refine e_iconst F dL_law_906 ?_
  refine e_iadd F dL_law_907 ?_
  refine e_sld F hX hb hNL (by omega) (by omega) dL_law_908 ?_
  refine e_aload_n F dL_law_909 rfl ?_
  refine e_iload F dL_law_910 rfl ?_
  refine e_iconst F dL_law_912 ?_
  refine e_iadd F dL_law_913 ?_
  refine e_sld F hX hb hNL (by omega) (by omega) dL_law_914 ?_
  refine e_aload_n F dL_law_915 rfl ?_
  refine e_iload F dL_law_916 rfl ?_
  refine e_iconst F dL_law_918 ?_
  refine e_iadd F dL_law_919 ?_
  refine e_sld F hX hb hNL (by omega) (by omega) dL_law_920 ?_
  refine e_aload_n F dL_law_921 rfl ?_
  refine e_iload F dL_law_922 rfl ?_
  refine e_bipush F dL_law_924 (by decide) ?_
  refine e_iadd F dL_law_926 ?_
  refine e_sld F hX hb hNL (by omega) (by omega) dL_law_927 ?_
  refine e_aload_n F dL_law_928 rfl ?_
  refine e_dom (fun hd0 => ?_)
  refine e_callSX F hN u_L_handOn (by rfl) (w_handOn hC (eI_rg _) (eI_rg _) (eI_rg _) (eI_rg _) (eI_rg _) (eI_rg _) hO (by omega)) w_ml_RL_197 dL_law_929 (by rfl) (Nat.le_of_ble_eq_true rfl) (by decide) (by omega) (fun _ _ _ h _ => False.elim h) (fun r1 w1 n1 h1 hn1 => ?_)
  obtain ⟨c1, D1, z1, rfl, hC1, hF1, hO1, hs1⟩ := wc1 hC hO h1
  have hM1 := hM.lf hd0 hO hxy hyo hF1
  refine e_istore F dL_law_932 (by decide) ?_
  refine e_aload_n F dL_law_934 rfl ?_
  refine e_aload_n F dL_law_935 rfl ?_
  refine e_iload F dL_law_936 rfl ?_
  refine e_iconst F dL_law_938 ?_
  refine e_iadd F dL_law_939 ?_
  refine e_sld F hX hb hNL (by omega) (by omega) dL_law_940 ?_
  refine e_aload_n F dL_law_941 rfl ?_
  refine e_iload F dL_law_942 rfl ?_
  refine e_iconst F dL_law_944 ?_
  refine e_iadd F dL_law_945 ?_
  refine e_sld F hX hb hNL (by omega) (by omega) dL_law_946 ?_
  refine e_aload_n F dL_law_947 rfl ?_
  refine e_iload F dL_law_948 rfl ?_
  refine e_iconst F dL_law_950 ?_
  refine e_iadd F dL_law_951 ?_
  refine e_sld F hX hb hNL (by omega) (by omega) dL_law_952 ?_
  refine e_aload_n F dL_law_953 rfl ?_
  refine e_iload F dL_law_954 rfl ?_
  refine e_iconst F dL_law_956 ?_
  refine e_iadd F dL_law_957 ?_
  refine e_sld F hX hb hNL (by omega) (by omega) dL_law_958 ?_
  refine e_aload_n F dL_law_959 rfl ?_
  refine e_iload F dL_law_960 rfl ?_
  refine e_iconst F dL_law_962 ?_
  refine e_iadd F dL_law_963 ?_
  refine e_sld F hX hb hNL (by omega) (by omega) dL_law_964 ?_
  refine e_aload_n F dL_law_965 rfl ?_
  refine e_iload F dL_law_966 rfl ?_
  refine e_bipush F dL_law_968 (by decide) ?_
  refine e_iadd F dL_law_970 ?_
  refine e_sld F hX hb hNL (by omega) (by omega) dL_law_971 ?_
  refine e_dom (fun hd1 => ?_)
  refine e_callVV F u_X5_handOn (by rfl) (c_X5_handOn hM1 (eI_rg _) (eI_rg _) (eI_rg _) (eI_rg _) (eI_rg _) (eI_rg _)) hM1.1 rfl rfl w_ml_RL_199 dL_law_972 (by rfl) (Nat.le_of_ble_eq_true rfl) (by decide) (by omega) (fun _ _ _ h _ => False.elim h) (fun r2 w2 n2 h2 hn2 => ?_)
  obtain ⟨V2, t2, R2, rfl, hf2, hM2, hs2⟩ := mc2 h2
  have hS2 : SS wh D1 R2 := by
    rcases hs1 with ⟨p1, p2, p6, p8⟩ | ⟨p1, p2, p8⟩ | ⟨p1, p2, p8⟩
    · rcases hs2 with ⟨p3, p4, p9⟩ | ⟨p3, p4, p9⟩ | ⟨p3, p4, p7, p9⟩
      · exfalso; first | exact p1.elim | omega
      · exfalso; first | exact p1.elim | omega
      · rw [p8, p9]; exact ((y_handOn hG p1).2)
    · rcases hs2 with ⟨p3, p4, p9⟩ | ⟨p3, p4, p9⟩ | ⟨p3, p4, p7, p9⟩
      · rw [p8, p9]; exact hS
      · exfalso; first | exact p1.elim | omega
      · exfalso; first | exact p1.elim | omega
    · rcases hs2 with ⟨p3, p4, p9⟩ | ⟨p3, p4, p9⟩ | ⟨p3, p4, p7, p9⟩
      · exfalso; first | exact p1.elim | omega
      · rw [p8, p9]; exact hS
      · exfalso; first | exact p1.elim | omega
  have hC2 := hC1.fm hd1 hM1 hxy hf2
  have hO2 := (hf2 o (hd1 o _ hO1) (Or.inr hyo)).trans hO1
  refine e_istore F dL_law_975 (by decide) ?_
  refine e_goto F 2052 dL_law_977 (by decide) ?_
  exact e_go (e_wd (by omega) (kk _ _ _ _ ⟨_, _, _, _, _, hC2, hM2, hO2, hS2⟩ (Or.inl rfl))) (And.intro rfl (And.intro rfl (And.intro rfl (And.intro rfl (And.intro rfl (trivial))))))
set_option maxHeartbeats 4000000 in
set_option maxRecDepth 100000 in
theorem k_15 {K : e_K} {p : Program} {l : Launch} {e : Env} {s : State} {m : MethodId} {args : Array Value} {below : List Frame} {meth : Method} {c : Code} {b N x y o wh n k : Nat} {xs : Nat → Int32} {w : e_W} {i kn : Int} (F : e_F K p l s m args meth c cL_law 7 (some .boolean) RL) (hN : g_N s) (hX : va_X b N xs s s.heap) (hb : b < K.1) (hNL : N ≤ 448) (hxy : x + 27 ≤ y) (hyo : y + 4 ≤ o) (hi : 0 ≤ i) (hi2 : i + 7 ≤ (N : Int)) (hkn : 0 ≤ kn ∧ kn ≤ 448) (hk : k + 250 ≤ 17000) (hI : LI w x y o wh kn)
    (kk : ∀ (w' : e_W) (n' wh' : Nat) (kn' : Int), LI w' x y o wh' kn' → (kn' = kn ∨ kn' = kn + 1) → e_V K p l e 20 17000 s m args below meth c 7 LQ9 e_px0 2052 (LL b x y o i) [] w' n' (k + 250)) : e_V K p l e 20 17000 s m args below meth c 7 LQ9 e_px0 980 (LL b x y o i) [] w n (k) := by
  obtain ⟨t0, D, R, z, sv, hC, hM, hO, hS⟩ := hI
  have hG : GG wh D R := GG_of hC hM hS
  refine e_aload_n F dL_law_980 rfl ?_
  refine e_aload_n F dL_law_981 rfl ?_
  refine e_iload F dL_law_982 rfl ?_
  refine e_iconst F dL_law_984 ?_
  refine e_iadd F dL_law_985 ?_
  refine e_sld F hX hb hNL (by omega) (by omega) dL_law_986 ?_
  refine e_aload_n F dL_law_987 rfl ?_
  refine e_iload F dL_law_988 rfl ?_
  refine e_iconst F dL_law_990 ?_
  refine e_iadd F dL_law_991 ?_
  refine e_sld F hX hb hNL (by omega) (by omega) dL_law_992 ?_
  refine e_aload_n F dL_law_993 rfl ?_
  refine e_dom (fun hd0 => ?_)
  refine e_callSX F hN u_L_lose (by rfl) (w_lose hC (eI_rg _) (eI_rg _) hO (by omega)) w_ml_RL_200 dL_law_994 (by rfl) (Nat.le_of_ble_eq_true rfl) (by decide) (by omega) (fun _ _ _ h _ => False.elim h) (fun r1 w1 n1 h1 hn1 => ?_)
  obtain ⟨c1, D1, z1, rfl, hC1, hF1, hO1, hs1⟩ := wc1 hC hO h1
  have hM1 := hM.lf hd0 hO hxy hyo hF1
  refine e_istore F dL_law_997 (by decide) ?_
  refine e_aload_n F dL_law_999 rfl ?_
  refine e_aload_n F dL_law_1000 rfl ?_
  refine e_iload F dL_law_1001 rfl ?_
  refine e_iconst F dL_law_1003 ?_
  refine e_iadd F dL_law_1004 ?_
  refine e_sld F hX hb hNL (by omega) (by omega) dL_law_1005 ?_
  refine e_aload_n F dL_law_1006 rfl ?_
  refine e_iload F dL_law_1007 rfl ?_
  refine e_iconst F dL_law_1009 ?_
  refine e_iadd F dL_law_1010 ?_
  refine e_sld F hX hb hNL (by omega) (by omega) dL_law_1011 ?_
  refine e_dom (fun hd1 => ?_)
  refine e_callVV F u_X5_lose (by rfl) (c_X5_lose hM1 (eI_rg _) (eI_rg _)) hM1.1 rfl rfl w_ml_RL_202 dL_law_1012 (by rfl) (Nat.le_of_ble_eq_true rfl) (by decide) (by omega) (fun _ _ _ h _ => False.elim h) (fun r2 w2 n2 h2 hn2 => ?_)
  obtain ⟨V2, t2, R2, rfl, hf2, hM2, hs2⟩ := mc1 h2
  have hS2 : SS wh D1 R2 := by
    rcases hs1 with ⟨p1, p2, p6, p8⟩ | ⟨p1, p2, p8⟩ | ⟨p1, p2, p8⟩
    · rcases hs2 with ⟨p3, p4, p9⟩ | ⟨p3, p4, p7, p9⟩
      · exfalso; first | exact p1.elim | omega
      · rw [p8, p9]; exact ((y_lose hG p1).2)
    · rcases hs2 with ⟨p3, p4, p9⟩ | ⟨p3, p4, p7, p9⟩
      · rw [p8, p9]; exact hS
      · exfalso; first | exact p1.elim | omega
    · rcases hs2 with ⟨p3, p4, p9⟩ | ⟨p3, p4, p7, p9⟩
      · exfalso; first | exact p1.elim | omega
      · exfalso; first | exact p1.elim | omega
  have hC2 := hC1.fm hd1 hM1 hxy hf2
  have hO2 := (hf2 o (hd1 o _ hO1) (Or.inr hyo)).trans hO1
  refine e_istore F dL_law_1015 (by decide) ?_
  refine e_goto F 2052 dL_law_1017 (by decide) ?_
  exact e_go (e_wd (by omega) (kk _ _ _ _ ⟨_, _, _, _, _, hC2, hM2, hO2, hS2⟩ (Or.inl rfl))) (And.intro rfl (And.intro rfl (And.intro rfl (And.intro rfl (And.intro rfl (trivial))))))
set_option maxHeartbeats 4000000 in
set_option maxRecDepth 100000 in
theorem k_16 {K : e_K} {p : Program} {l : Launch} {e : Env} {s : State} {m : MethodId} {args : Array Value} {below : List Frame} {meth : Method} {c : Code} {b N x y o wh n k : Nat} {xs : Nat → Int32} {w : e_W} {i kn : Int} (F : e_F K p l s m args meth c cL_law 7 (some .boolean) RL) (hN : g_N s) (hX : va_X b N xs s s.heap) (hb : b < K.1) (hNL : N ≤ 448) (hxy : x + 27 ≤ y) (hyo : y + 4 ≤ o) (hi : 0 ≤ i) (hi2 : i + 7 ≤ (N : Int)) (hkn : 0 ≤ kn ∧ kn ≤ 448) (hk : k + 250 ≤ 17000) (hI : LI w x y o wh kn)
    (kk : ∀ (w' : e_W) (n' wh' : Nat) (kn' : Int), LI w' x y o wh' kn' → (kn' = kn ∨ kn' = kn + 1) → e_V K p l e 20 17000 s m args below meth c 7 LQ9 e_px0 2052 (LL b x y o i) [] w' n' (k + 250)) : e_V K p l e 20 17000 s m args below meth c 7 LQ9 e_px0 1020 (LL b x y o i) [] w n (k) := by
  obtain ⟨t0, D, R, z, sv, hC, hM, hO, hS⟩ := hI
  have hG : GG wh D R := GG_of hC hM hS
  refine e_aload_n F dL_law_1020 rfl ?_
  refine e_aload_n F dL_law_1021 rfl ?_
  refine e_iload F dL_law_1022 rfl ?_
  refine e_iconst F dL_law_1024 ?_
  refine e_iadd F dL_law_1025 ?_
  refine e_sld F hX hb hNL (by omega) (by omega) dL_law_1026 ?_
  refine e_aload_n F dL_law_1027 rfl ?_
  refine e_iload F dL_law_1028 rfl ?_
  refine e_iconst F dL_law_1030 ?_
  refine e_iadd F dL_law_1031 ?_
  refine e_sld F hX hb hNL (by omega) (by omega) dL_law_1032 ?_
  refine e_aload_n F dL_law_1033 rfl ?_
  refine e_iload F dL_law_1034 rfl ?_
  refine e_iconst F dL_law_1036 ?_
  refine e_iadd F dL_law_1037 ?_
  refine e_sld F hX hb hNL (by omega) (by omega) dL_law_1038 ?_
  refine e_aload_n F dL_law_1039 rfl ?_
  refine e_dom (fun hd0 => ?_)
  refine e_callSX F hN u_L_give (by rfl) (w_give hC (eI_rg _) (eI_rg _) (eI_rg _) hO (by omega)) w_ml_RL_203 dL_law_1040 (by rfl) (Nat.le_of_ble_eq_true rfl) (by decide) (by omega) (fun _ _ _ h _ => False.elim h) (fun r1 w1 n1 h1 hn1 => ?_)
  obtain ⟨c1, D1, z1, rfl, hC1, hF1, hO1, hs1⟩ := wc1 hC hO h1
  have hM1 := hM.lf hd0 hO hxy hyo hF1
  refine e_istore F dL_law_1043 (by decide) ?_
  refine e_aload_n F dL_law_1045 rfl ?_
  refine e_aload_n F dL_law_1046 rfl ?_
  refine e_iload F dL_law_1047 rfl ?_
  refine e_iconst F dL_law_1049 ?_
  refine e_iadd F dL_law_1050 ?_
  refine e_sld F hX hb hNL (by omega) (by omega) dL_law_1051 ?_
  refine e_aload_n F dL_law_1052 rfl ?_
  refine e_iload F dL_law_1053 rfl ?_
  refine e_iconst F dL_law_1055 ?_
  refine e_iadd F dL_law_1056 ?_
  refine e_sld F hX hb hNL (by omega) (by omega) dL_law_1057 ?_
  refine e_aload_n F dL_law_1058 rfl ?_
  refine e_iload F dL_law_1059 rfl ?_
  refine e_iconst F dL_law_1061 ?_
  refine e_iadd F dL_law_1062 ?_
  refine e_sld F hX hb hNL (by omega) (by omega) dL_law_1063 ?_
  refine e_dom (fun hd1 => ?_)
  refine e_callVV F u_X5_give (by rfl) (c_X5_give hM1 (eI_rg _) (eI_rg _) (eI_rg _)) hM1.1 rfl rfl w_ml_RL_205 dL_law_1064 (by rfl) (Nat.le_of_ble_eq_true rfl) (by decide) (by omega) (fun _ _ _ h _ => False.elim h) (fun r2 w2 n2 h2 hn2 => ?_)
  obtain ⟨V2, t2, R2, rfl, hf2, hM2, hs2⟩ := mc1 h2
  have hS2 : SS wh D1 R2 := by
    rcases hs1 with ⟨p1, p2, p6, p8⟩ | ⟨p1, p2, p8⟩ | ⟨p1, p2, p8⟩
    · rcases hs2 with ⟨p3, p4, p9⟩ | ⟨p3, p4, p7, p9⟩
      · exfalso; first | exact p1.elim | omega
      · rw [p8, p9]; exact ((y_give hG p1).2)
    · rcases hs2 with ⟨p3, p4, p9⟩ | ⟨p3, p4, p7, p9⟩
      · rw [p8, p9]; exact hS
      · exfalso; first | exact p1.elim | omega
    · rcases hs2 with ⟨p3, p4, p9⟩ | ⟨p3, p4, p7, p9⟩
      · exfalso; first | exact p1.elim | omega
      · exfalso; first | exact p1.elim | omega
  have hC2 := hC1.fm hd1 hM1 hxy hf2
  have hO2 := (hf2 o (hd1 o _ hO1) (Or.inr hyo)).trans hO1
  refine e_istore F dL_law_1067 (by decide) ?_
  refine e_goto F 2052 dL_law_1069 (by decide) ?_
  exact e_go (e_wd (by omega) (kk _ _ _ _ ⟨_, _, _, _, _, hC2, hM2, hO2, hS2⟩ (Or.inl rfl))) (And.intro rfl (And.intro rfl (And.intro rfl (And.intro rfl (And.intro rfl (trivial))))))
set_option maxHeartbeats 4000000 in
set_option maxRecDepth 100000 in
theorem k_17 {K : e_K} {p : Program} {l : Launch} {e : Env} {s : State} {m : MethodId} {args : Array Value} {below : List Frame} {meth : Method} {c : Code} {b N x y o wh n k : Nat} {xs : Nat → Int32} {w : e_W} {i kn : Int} (F : e_F K p l s m args meth c cL_law 7 (some .boolean) RL) (hN : g_N s) (hX : va_X b N xs s s.heap) (hb : b < K.1) (hNL : N ≤ 448) (hxy : x + 27 ≤ y) (hyo : y + 4 ≤ o) (hi : 0 ≤ i) (hi2 : i + 7 ≤ (N : Int)) (hkn : 0 ≤ kn ∧ kn ≤ 448) (hk : k + 250 ≤ 17000) (hI : LI w x y o wh kn)
    (kk : ∀ (w' : e_W) (n' wh' : Nat) (kn' : Int), LI w' x y o wh' kn' → (kn' = kn ∨ kn' = kn + 1) → e_V K p l e 20 17000 s m args below meth c 7 LQ9 e_px0 2052 (LL b x y o i) [] w' n' (k + 250)) : e_V K p l e 20 17000 s m args below meth c 7 LQ9 e_px0 1072 (LL b x y o i) [] w n (k) := by
  obtain ⟨t0, D, R, z, sv, hC, hM, hO, hS⟩ := hI
  have hG : GG wh D R := GG_of hC hM hS
  refine e_aload_n F dL_law_1072 rfl ?_
  refine e_aload_n F dL_law_1073 rfl ?_
  refine e_iload F dL_law_1074 rfl ?_
  refine e_iconst F dL_law_1076 ?_
  refine e_iadd F dL_law_1077 ?_
  refine e_sld F hX hb hNL (by omega) (by omega) dL_law_1078 ?_
  refine e_aload_n F dL_law_1079 rfl ?_
  refine e_iload F dL_law_1080 rfl ?_
  refine e_iconst F dL_law_1082 ?_
  refine e_iadd F dL_law_1083 ?_
  refine e_sld F hX hb hNL (by omega) (by omega) dL_law_1084 ?_
  refine e_aload_n F dL_law_1085 rfl ?_
  refine e_iload F dL_law_1086 rfl ?_
  refine e_iconst F dL_law_1088 ?_
  refine e_iadd F dL_law_1089 ?_
  refine e_sld F hX hb hNL (by omega) (by omega) dL_law_1090 ?_
  refine e_aload_n F dL_law_1091 rfl ?_
  refine e_dom (fun hd0 => ?_)
  refine e_callSX F hN u_L_regain (by rfl) (w_regain hC (eI_rg _) (eI_rg _) (eI_rg _) hO (by omega)) w_ml_RL_206 dL_law_1092 (by rfl) (Nat.le_of_ble_eq_true rfl) (by decide) (by omega) (fun _ _ _ h _ => False.elim h) (fun r1 w1 n1 h1 hn1 => ?_)
  obtain ⟨c1, D1, z1, rfl, hC1, hF1, hO1, hs1⟩ := wc1 hC hO h1
  have hM1 := hM.lf hd0 hO hxy hyo hF1
  refine e_istore F dL_law_1095 (by decide) ?_
  refine e_aload_n F dL_law_1097 rfl ?_
  refine e_aload_n F dL_law_1098 rfl ?_
  refine e_iload F dL_law_1099 rfl ?_
  refine e_iconst F dL_law_1101 ?_
  refine e_iadd F dL_law_1102 ?_
  refine e_sld F hX hb hNL (by omega) (by omega) dL_law_1103 ?_
  refine e_aload_n F dL_law_1104 rfl ?_
  refine e_iload F dL_law_1105 rfl ?_
  refine e_iconst F dL_law_1107 ?_
  refine e_iadd F dL_law_1108 ?_
  refine e_sld F hX hb hNL (by omega) (by omega) dL_law_1109 ?_
  refine e_aload_n F dL_law_1110 rfl ?_
  refine e_iload F dL_law_1111 rfl ?_
  refine e_iconst F dL_law_1113 ?_
  refine e_iadd F dL_law_1114 ?_
  refine e_sld F hX hb hNL (by omega) (by omega) dL_law_1115 ?_
  refine e_dom (fun hd1 => ?_)
  refine e_callVV F u_X5_regain (by rfl) (c_X5_regain hM1 (eI_rg _) (eI_rg _) (eI_rg _)) hM1.1 rfl rfl w_ml_RL_208 dL_law_1116 (by rfl) (Nat.le_of_ble_eq_true rfl) (by decide) (by omega) (fun _ _ _ h _ => False.elim h) (fun r2 w2 n2 h2 hn2 => ?_)
  obtain ⟨V2, t2, R2, rfl, hf2, hM2, hs2⟩ := mc2 h2
  have hS2 : SS wh D1 R2 := by
    rcases hs1 with ⟨p1, p2, p6, p8⟩ | ⟨p1, p2, p8⟩ | ⟨p1, p2, p8⟩
    · rcases hs2 with ⟨p3, p4, p9⟩ | ⟨p3, p4, p9⟩ | ⟨p3, p4, p7, p9⟩
      · exfalso; first | exact p1.elim | omega
      · exfalso; first | exact p1.elim | omega
      · rw [p8, p9]; exact ((y_regain hG p1).2)
    · rcases hs2 with ⟨p3, p4, p9⟩ | ⟨p3, p4, p9⟩ | ⟨p3, p4, p7, p9⟩
      · rw [p8, p9]; exact hS
      · exfalso; first | exact p1.elim | omega
      · exfalso; first | exact p1.elim | omega
    · rcases hs2 with ⟨p3, p4, p9⟩ | ⟨p3, p4, p9⟩ | ⟨p3, p4, p7, p9⟩
      · exfalso; first | exact p1.elim | omega
      · rw [p8, p9]; exact hS
      · exfalso; first | exact p1.elim | omega
  have hC2 := hC1.fm hd1 hM1 hxy hf2
  have hO2 := (hf2 o (hd1 o _ hO1) (Or.inr hyo)).trans hO1
  refine e_istore F dL_law_1119 (by decide) ?_
  refine e_goto F 2052 dL_law_1121 (by decide) ?_
  exact e_go (e_wd (by omega) (kk _ _ _ _ ⟨_, _, _, _, _, hC2, hM2, hO2, hS2⟩ (Or.inl rfl))) (And.intro rfl (And.intro rfl (And.intro rfl (And.intro rfl (And.intro rfl (trivial))))))
set_option maxHeartbeats 4000000 in
set_option maxRecDepth 100000 in
theorem k_18 {K : e_K} {p : Program} {l : Launch} {e : Env} {s : State} {m : MethodId} {args : Array Value} {below : List Frame} {meth : Method} {c : Code} {b N x y o wh n k : Nat} {xs : Nat → Int32} {w : e_W} {i kn : Int} (F : e_F K p l s m args meth c cL_law 7 (some .boolean) RL) (hN : g_N s) (hX : va_X b N xs s s.heap) (hb : b < K.1) (hNL : N ≤ 448) (hxy : x + 27 ≤ y) (hyo : y + 4 ≤ o) (hi : 0 ≤ i) (hi2 : i + 7 ≤ (N : Int)) (hkn : 0 ≤ kn ∧ kn ≤ 448) (hk : k + 250 ≤ 17000) (hI : LI w x y o wh kn)
    (kk : ∀ (w' : e_W) (n' wh' : Nat) (kn' : Int), LI w' x y o wh' kn' → (kn' = kn ∨ kn' = kn + 1) → e_V K p l e 20 17000 s m args below meth c 7 LQ9 e_px0 2052 (LL b x y o i) [] w' n' (k + 250)) : e_V K p l e 20 17000 s m args below meth c 7 LQ9 e_px0 1124 (LL b x y o i) [] w n (k) := by
  obtain ⟨t0, D, R, z, sv, hC, hM, hO, hS⟩ := hI
  have hG : GG wh D R := GG_of hC hM hS
  refine e_aload_n F dL_law_1124 rfl ?_
  refine e_aload_n F dL_law_1125 rfl ?_
  refine e_iload F dL_law_1126 rfl ?_
  refine e_iconst F dL_law_1128 ?_
  refine e_iadd F dL_law_1129 ?_
  refine e_sld F hX hb hNL (by omega) (by omega) dL_law_1130 ?_
  refine e_aload_n F dL_law_1131 rfl ?_
  refine e_dom (fun hd0 => ?_)
  refine e_callSX F hN u_L_mend (by rfl) (w_mend hC (eI_rg _) hO (by omega)) w_ml_RL_209 dL_law_1132 (by rfl) (Nat.le_of_ble_eq_true rfl) (by decide) (by omega) (fun _ _ _ h _ => False.elim h) (fun r1 w1 n1 h1 hn1 => ?_)
  obtain ⟨c1, D1, z1, rfl, hC1, hF1, hO1, hs1⟩ := wc1 hC hO h1
  have hM1 := hM.lf hd0 hO hxy hyo hF1
  refine e_istore F dL_law_1135 (by decide) ?_
  refine e_aload_n F dL_law_1137 rfl ?_
  refine e_aload_n F dL_law_1138 rfl ?_
  refine e_iload F dL_law_1139 rfl ?_
  refine e_iconst F dL_law_1141 ?_
  refine e_iadd F dL_law_1142 ?_
  refine e_sld F hX hb hNL (by omega) (by omega) dL_law_1143 ?_
  refine e_dom (fun hd1 => ?_)
  refine e_callVV F u_X5_mend (by rfl) (c_X5_mend hM1 (eI_rg _)) hM1.1 rfl rfl w_ml_RL_211 dL_law_1144 (by rfl) (Nat.le_of_ble_eq_true rfl) (by decide) (by omega) (fun _ _ _ h _ => False.elim h) (fun r2 w2 n2 h2 hn2 => ?_)
  obtain ⟨V2, t2, R2, rfl, hf2, hM2, hs2⟩ := mc1 h2
  have hS2 : SS wh D1 R2 := by
    rcases hs1 with ⟨p1, p2, p6, p8⟩ | ⟨p1, p2, p8⟩ | ⟨p1, p2, p8⟩
    · rcases hs2 with ⟨p3, p4, p9⟩ | ⟨p3, p4, p7, p9⟩
      · exfalso; first | exact p1.elim | omega
      · rw [p8, p9]; exact ((y_mend hG p1).2)
    · rcases hs2 with ⟨p3, p4, p9⟩ | ⟨p3, p4, p7, p9⟩
      · rw [p8, p9]; exact hS
      · exfalso; first | exact p1.elim | omega
    · rcases hs2 with ⟨p3, p4, p9⟩ | ⟨p3, p4, p7, p9⟩
      · exfalso; first | exact p1.elim | omega
      · exfalso; first | exact p1.elim | omega
  have hC2 := hC1.fm hd1 hM1 hxy hf2
  have hO2 := (hf2 o (hd1 o _ hO1) (Or.inr hyo)).trans hO1
  refine e_istore F dL_law_1147 (by decide) ?_
  refine e_goto F 2052 dL_law_1149 (by decide) ?_
  exact e_go (e_wd (by omega) (kk _ _ _ _ ⟨_, _, _, _, _, hC2, hM2, hO2, hS2⟩ (Or.inl rfl))) (And.intro rfl (And.intro rfl (And.intro rfl (And.intro rfl (And.intro rfl (trivial))))))
set_option maxHeartbeats 4000000 in
set_option maxRecDepth 100000 in
theorem k_19 {K : e_K} {p : Program} {l : Launch} {e : Env} {s : State} {m : MethodId} {args : Array Value} {below : List Frame} {meth : Method} {c : Code} {b N x y o wh n k : Nat} {xs : Nat → Int32} {w : e_W} {i kn : Int} (F : e_F K p l s m args meth c cL_law 7 (some .boolean) RL) (hN : g_N s) (hX : va_X b N xs s s.heap) (hb : b < K.1) (hNL : N ≤ 448) (hxy : x + 27 ≤ y) (hyo : y + 4 ≤ o) (hi : 0 ≤ i) (hi2 : i + 7 ≤ (N : Int)) (hkn : 0 ≤ kn ∧ kn ≤ 448) (hk : k + 250 ≤ 17000) (hI : LI w x y o wh kn)
    (kk : ∀ (w' : e_W) (n' wh' : Nat) (kn' : Int), LI w' x y o wh' kn' → (kn' = kn ∨ kn' = kn + 1) → e_V K p l e 20 17000 s m args below meth c 7 LQ9 e_px0 2052 (LL b x y o i) [] w' n' (k + 250)) : e_V K p l e 20 17000 s m args below meth c 7 LQ9 e_px0 1152 (LL b x y o i) [] w n (k) := by
  obtain ⟨t0, D, R, z, sv, hC, hM, hO, hS⟩ := hI
  have hG : GG wh D R := GG_of hC hM hS
  refine e_aload_n F dL_law_1152 rfl ?_
  refine e_aload_n F dL_law_1153 rfl ?_
  refine e_iload F dL_law_1154 rfl ?_
  refine e_iconst F dL_law_1156 ?_
  refine e_iadd F dL_law_1157 ?_
  refine e_sld F hX hb hNL (by omega) (by omega) dL_law_1158 ?_
  refine e_aload_n F dL_law_1159 rfl ?_
  refine e_iload F dL_law_1160 rfl ?_
  refine e_iconst F dL_law_1162 ?_
  refine e_iadd F dL_law_1163 ?_
  refine e_sld F hX hb hNL (by omega) (by omega) dL_law_1164 ?_
  refine e_aload_n F dL_law_1165 rfl ?_
  refine e_dom (fun hd0 => ?_)
  refine e_callSX F hN u_L_copy (by rfl) (w_copy hC (eI_rg _) (eI_rg _) hO (by omega)) w_ml_RL_212 dL_law_1166 (by rfl) (Nat.le_of_ble_eq_true rfl) (by decide) (by omega) (fun _ _ _ h _ => False.elim h) (fun r1 w1 n1 h1 hn1 => ?_)
  obtain ⟨c1, D1, z1, rfl, hC1, hF1, hO1, hs1⟩ := wc1 hC hO h1
  have hM1 := hM.lf hd0 hO hxy hyo hF1
  refine e_istore F dL_law_1169 (by decide) ?_
  refine e_aload_n F dL_law_1171 rfl ?_
  refine e_aload_n F dL_law_1172 rfl ?_
  refine e_iload F dL_law_1173 rfl ?_
  refine e_iconst F dL_law_1175 ?_
  refine e_iadd F dL_law_1176 ?_
  refine e_sld F hX hb hNL (by omega) (by omega) dL_law_1177 ?_
  refine e_aload_n F dL_law_1178 rfl ?_
  refine e_iload F dL_law_1179 rfl ?_
  refine e_iconst F dL_law_1181 ?_
  refine e_iadd F dL_law_1182 ?_
  refine e_sld F hX hb hNL (by omega) (by omega) dL_law_1183 ?_
  refine e_dom (fun hd1 => ?_)
  refine e_callVV F u_X5_copy (by rfl) (c_X5_copy hM1 (eI_rg _) (eI_rg _)) hM1.1 rfl rfl w_ml_RL_214 dL_law_1184 (by rfl) (Nat.le_of_ble_eq_true rfl) (by decide) (by omega) (fun _ _ _ h _ => False.elim h) (fun r2 w2 n2 h2 hn2 => ?_)
  obtain ⟨V2, t2, R2, rfl, hf2, hM2, hs2⟩ := mc1 h2
  have hS2 : SS wh D1 R2 := by
    rcases hs1 with ⟨p1, p2, p6, p8⟩ | ⟨p1, p2, p8⟩ | ⟨p1, p2, p8⟩
    · rcases hs2 with ⟨p3, p4, p9⟩ | ⟨p3, p4, p7, p9⟩
      · exfalso; first | exact p1.elim | omega
      · rw [p8, p9]; exact ((y_copy hG p1).2)
    · rcases hs2 with ⟨p3, p4, p9⟩ | ⟨p3, p4, p7, p9⟩
      · rw [p8, p9]; exact hS
      · exfalso; first | exact p1.elim | omega
    · rcases hs2 with ⟨p3, p4, p9⟩ | ⟨p3, p4, p7, p9⟩
      · exfalso; first | exact p1.elim | omega
      · exfalso; first | exact p1.elim | omega
  have hC2 := hC1.fm hd1 hM1 hxy hf2
  have hO2 := (hf2 o (hd1 o _ hO1) (Or.inr hyo)).trans hO1
  refine e_istore F dL_law_1187 (by decide) ?_
  refine e_goto F 2052 dL_law_1189 (by decide) ?_
  exact e_go (e_wd (by omega) (kk _ _ _ _ ⟨_, _, _, _, _, hC2, hM2, hO2, hS2⟩ (Or.inl rfl))) (And.intro rfl (And.intro rfl (And.intro rfl (And.intro rfl (And.intro rfl (trivial))))))
set_option maxHeartbeats 4000000 in
set_option maxRecDepth 100000 in
theorem k_20 {K : e_K} {p : Program} {l : Launch} {e : Env} {s : State} {m : MethodId} {args : Array Value} {below : List Frame} {meth : Method} {c : Code} {b N x y o wh n k : Nat} {xs : Nat → Int32} {w : e_W} {i kn : Int} (F : e_F K p l s m args meth c cL_law 7 (some .boolean) RL) (hN : g_N s) (hX : va_X b N xs s s.heap) (hb : b < K.1) (hNL : N ≤ 448) (hxy : x + 27 ≤ y) (hyo : y + 4 ≤ o) (hi : 0 ≤ i) (hi2 : i + 7 ≤ (N : Int)) (hkn : 0 ≤ kn ∧ kn ≤ 448) (hk : k + 250 ≤ 17000) (hI : LI w x y o wh kn)
    (kk : ∀ (w' : e_W) (n' wh' : Nat) (kn' : Int), LI w' x y o wh' kn' → (kn' = kn ∨ kn' = kn + 1) → e_V K p l e 20 17000 s m args below meth c 7 LQ9 e_px0 2052 (LL b x y o i) [] w' n' (k + 250)) : e_V K p l e 20 17000 s m args below meth c 7 LQ9 e_px0 1192 (LL b x y o i) [] w n (k) := by
  obtain ⟨t0, D, R, z, sv, hC, hM, hO, hS⟩ := hI
  have hG : GG wh D R := GG_of hC hM hS
  refine e_aload_n F dL_law_1192 rfl ?_
  refine e_aload_n F dL_law_1193 rfl ?_
  refine e_iload F dL_law_1194 rfl ?_
  refine e_iconst F dL_law_1196 ?_
  refine e_iadd F dL_law_1197 ?_
  refine e_sld F hX hb hNL (by omega) (by omega) dL_law_1198 ?_
  refine e_aload_n F dL_law_1199 rfl ?_
  refine e_dom (fun hd0 => ?_)
  refine e_callSX F hN u_L_drop (by rfl) (w_drop hC (eI_rg _) hO (by omega)) w_ml_RL_215 dL_law_1200 (by rfl) (Nat.le_of_ble_eq_true rfl) (by decide) (by omega) (fun _ _ _ h _ => False.elim h) (fun r1 w1 n1 h1 hn1 => ?_)
  obtain ⟨c1, D1, z1, rfl, hC1, hF1, hO1, hs1⟩ := wc1 hC hO h1
  have hM1 := hM.lf hd0 hO hxy hyo hF1
  refine e_istore F dL_law_1203 (by decide) ?_
  refine e_aload_n F dL_law_1205 rfl ?_
  refine e_aload_n F dL_law_1206 rfl ?_
  refine e_iload F dL_law_1207 rfl ?_
  refine e_iconst F dL_law_1209 ?_
  refine e_iadd F dL_law_1210 ?_
  refine e_sld F hX hb hNL (by omega) (by omega) dL_law_1211 ?_
  refine e_dom (fun hd1 => ?_)
  refine e_callVV F u_X5_drop (by rfl) (c_X5_drop hM1 (eI_rg _)) hM1.1 rfl rfl w_ml_RL_217 dL_law_1212 (by rfl) (Nat.le_of_ble_eq_true rfl) (by decide) (by omega) (fun _ _ _ h _ => False.elim h) (fun r2 w2 n2 h2 hn2 => ?_)
  obtain ⟨V2, t2, R2, rfl, hf2, hM2, hs2⟩ := mc1 h2
  have hS2 : SS wh D1 R2 := by
    rcases hs1 with ⟨p1, p2, p6, p8⟩ | ⟨p1, p2, p8⟩ | ⟨p1, p2, p8⟩
    · rcases hs2 with ⟨p3, p4, p9⟩ | ⟨p3, p4, p7, p9⟩
      · exfalso; first | exact p1.elim | omega
      · rw [p8, p9]; exact ((y_drop hG p1).2)
    · rcases hs2 with ⟨p3, p4, p9⟩ | ⟨p3, p4, p7, p9⟩
      · rw [p8, p9]; exact hS
      · exfalso; first | exact p1.elim | omega
    · rcases hs2 with ⟨p3, p4, p9⟩ | ⟨p3, p4, p7, p9⟩
      · exfalso; first | exact p1.elim | omega
      · exfalso; first | exact p1.elim | omega
  have hC2 := hC1.fm hd1 hM1 hxy hf2
  have hO2 := (hf2 o (hd1 o _ hO1) (Or.inr hyo)).trans hO1
  refine e_istore F dL_law_1215 (by decide) ?_
  refine e_goto F 2052 dL_law_1217 (by decide) ?_
  exact e_go (e_wd (by omega) (kk _ _ _ _ ⟨_, _, _, _, _, hC2, hM2, hO2, hS2⟩ (Or.inl rfl))) (And.intro rfl (And.intro rfl (And.intro rfl (And.intro rfl (And.intro rfl (trivial))))))
set_option maxHeartbeats 4000000 in
set_option maxRecDepth 100000 in
theorem k_21 {K : e_K} {p : Program} {l : Launch} {e : Env} {s : State} {m : MethodId} {args : Array Value} {below : List Frame} {meth : Method} {c : Code} {b N x y o wh n k : Nat} {xs : Nat → Int32} {w : e_W} {i kn : Int} (F : e_F K p l s m args meth c cL_law 7 (some .boolean) RL) (hN : g_N s) (hX : va_X b N xs s s.heap) (hb : b < K.1) (hNL : N ≤ 448) (hxy : x + 27 ≤ y) (hyo : y + 4 ≤ o) (hi : 0 ≤ i) (hi2 : i + 7 ≤ (N : Int)) (hkn : 0 ≤ kn ∧ kn ≤ 448) (hk : k + 250 ≤ 17000) (hI : LI w x y o wh kn)
    (kk : ∀ (w' : e_W) (n' wh' : Nat) (kn' : Int), LI w' x y o wh' kn' → (kn' = kn ∨ kn' = kn + 1) → e_V K p l e 20 17000 s m args below meth c 7 LQ9 e_px0 2052 (LL b x y o i) [] w' n' (k + 250)) : e_V K p l e 20 17000 s m args below meth c 7 LQ9 e_px0 1220 (LL b x y o i) [] w n (k) := by
  obtain ⟨t0, D, R, z, sv, hC, hM, hO, hS⟩ := hI
  have hG : GG wh D R := GG_of hC hM hS
  refine e_aload_n F dL_law_1220 rfl ?_
  refine e_dom (fun hd0 => ?_)
  refine e_callVV F u_X3_knock (by rfl) (c_X3_knock hC) hC.1 rfl rfl w_ml_RL_218 dL_law_1221 (by rfl) (Nat.le_of_ble_eq_true rfl) (by decide) (by omega) (fun _ _ _ h _ => False.elim h) (fun r1 w1 n1 h1 hn1 => ?_)
  obtain ⟨rfl, en1, hC1, hFR⟩ := h1
  have hO1 : w1 o = some (.inl (4, [.long (eJ z), sv])) := (hFR o (Or.inr (by omega))).trans hO
  have hM1 := hM.lf hd0 hO hxy hyo (by intro q8 h8 h9 h10; exact hFR q8 h9)
  refine e_pop F dL_law_1224 rfl ?_
  refine e_aload_n F dL_law_1225 rfl ?_
  refine e_dom (fun hd1 => ?_)
  refine e_callVV F u_X5_knock (by rfl) (c_X5_knock hM1) hM1.1 rfl rfl w_ml_RL_222 dL_law_1226 (by rfl) (Nat.le_of_ble_eq_true rfl) (by decide) (by omega) (fun _ _ _ h _ => False.elim h) (fun r2 w2 n2 h2 hn2 => ?_)
  obtain ⟨hf2, rfl, hM2⟩ := h2
  have hC2 := hC1.fm hd1 hM1 hxy hf2
  have hO2 := (hf2 o (hd1 o _ hO1) (Or.inr hyo)).trans hO1
  refine e_pop F dL_law_1229 rfl ?_
  refine e_goto F 2052 dL_law_1230 (by decide) ?_
  exact e_go (e_wd (by omega) (kk _ _ _ _ ⟨_, _, _, _, _, hC2, hM2, hO2, hS⟩ (Or.inr rfl))) (And.intro rfl (And.intro rfl (And.intro rfl (And.intro rfl (And.intro rfl (trivial))))))
set_option maxHeartbeats 4000000 in
set_option maxRecDepth 100000 in
theorem k_22 {K : e_K} {p : Program} {l : Launch} {e : Env} {s : State} {m : MethodId} {args : Array Value} {below : List Frame} {meth : Method} {c : Code} {b N x y o wh n k : Nat} {xs : Nat → Int32} {w : e_W} {i kn : Int} (F : e_F K p l s m args meth c cL_law 7 (some .boolean) RL) (hN : g_N s) (hX : va_X b N xs s s.heap) (hb : b < K.1) (hNL : N ≤ 448) (hxy : x + 27 ≤ y) (hyo : y + 4 ≤ o) (hi : 0 ≤ i) (hi2 : i + 7 ≤ (N : Int)) (hkn : 0 ≤ kn ∧ kn ≤ 448) (hk : k + 250 ≤ 17000) (hI : LI w x y o wh kn)
    (kk : ∀ (w' : e_W) (n' wh' : Nat) (kn' : Int), LI w' x y o wh' kn' → (kn' = kn ∨ kn' = kn + 1) → e_V K p l e 20 17000 s m args below meth c 7 LQ9 e_px0 2052 (LL b x y o i) [] w' n' (k + 250)) : e_V K p l e 20 17000 s m args below meth c 7 LQ9 e_px0 1233 (LL b x y o i) [] w n (k) := by
  obtain ⟨t0, D, R, z, sv, hC, hM, hO, hS⟩ := hI
  have hG : GG wh D R := GG_of hC hM hS
  refine e_aload_n F dL_law_1233 rfl ?_
  refine e_aload_n F dL_law_1234 rfl ?_
  refine e_iload F dL_law_1235 rfl ?_
  refine e_iconst F dL_law_1237 ?_
  refine e_iadd F dL_law_1238 ?_
  refine e_sld F hX hb hNL (by omega) (by omega) dL_law_1239 ?_
  refine e_aload_n F dL_law_1240 rfl ?_
  refine e_iload F dL_law_1241 rfl ?_
  refine e_iconst F dL_law_1243 ?_
  refine e_iadd F dL_law_1244 ?_
  refine e_sld F hX hb hNL (by omega) (by omega) dL_law_1245 ?_
  refine e_aload_n F dL_law_1246 rfl ?_
  refine e_dom (fun hd0 => ?_)
  refine e_callSX F hN u_L_share (by rfl) (w_share hC (eI_rg _) (eI_rg _) hO (by omega)) w_ml_RL_223 dL_law_1247 (by rfl) (Nat.le_of_ble_eq_true rfl) (by decide) (by omega) (fun _ _ _ h _ => False.elim h) (fun r1 w1 n1 h1 hn1 => ?_)
  obtain ⟨c1, D1, z1, rfl, hC1, hF1, hO1, hs1⟩ := wc1 hC hO h1
  have hM1 := hM.lf hd0 hO hxy hyo hF1
  refine e_istore F dL_law_1250 (by decide) ?_
  refine e_aload_n F dL_law_1252 rfl ?_
  refine e_aload_n F dL_law_1253 rfl ?_
  refine e_iload F dL_law_1254 rfl ?_
  refine e_iconst F dL_law_1256 ?_
  refine e_iadd F dL_law_1257 ?_
  refine e_sld F hX hb hNL (by omega) (by omega) dL_law_1258 ?_
  refine e_aload_n F dL_law_1259 rfl ?_
  refine e_iload F dL_law_1260 rfl ?_
  refine e_iconst F dL_law_1262 ?_
  refine e_iadd F dL_law_1263 ?_
  refine e_sld F hX hb hNL (by omega) (by omega) dL_law_1264 ?_
  refine e_dom (fun hd1 => ?_)
  refine e_callVV F u_X5_share (by rfl) (c_X5_share hM1 (eI_rg _) (eI_rg _)) hM1.1 rfl rfl w_ml_RL_225 dL_law_1265 (by rfl) (Nat.le_of_ble_eq_true rfl) (by decide) (by omega) (fun _ _ _ h _ => False.elim h) (fun r2 w2 n2 h2 hn2 => ?_)
  obtain ⟨V2, t2, R2, rfl, hf2, hM2, hs2⟩ := mc1 h2
  have hS2 : SS wh D1 R2 := by
    rcases hs1 with ⟨p1, p2, p6, p8⟩ | ⟨p1, p2, p8⟩ | ⟨p1, p2, p8⟩
    · rcases hs2 with ⟨p3, p4, p9⟩ | ⟨p3, p4, p7, p9⟩
      · exfalso; first | exact p1.elim | omega
      · rw [p8, p9]; exact hS
    · rcases hs2 with ⟨p3, p4, p9⟩ | ⟨p3, p4, p7, p9⟩
      · rw [p8, p9]; exact hS
      · exfalso; first | exact p1.elim | omega
    · rcases hs2 with ⟨p3, p4, p9⟩ | ⟨p3, p4, p7, p9⟩
      · exfalso; first | exact p1.elim | omega
      · exfalso; first | exact p1.elim | omega
  have hC2 := hC1.fm hd1 hM1 hxy hf2
  have hO2 := (hf2 o (hd1 o _ hO1) (Or.inr hyo)).trans hO1
  refine e_istore F dL_law_1268 (by decide) ?_
  refine e_goto F 2052 dL_law_1270 (by decide) ?_
  exact e_go (e_wd (by omega) (kk _ _ _ _ ⟨_, _, _, _, _, hC2, hM2, hO2, hS2⟩ (Or.inl rfl))) (And.intro rfl (And.intro rfl (And.intro rfl (And.intro rfl (And.intro rfl (trivial))))))
set_option maxHeartbeats 4000000 in
set_option maxRecDepth 100000 in
theorem k_23 {K : e_K} {p : Program} {l : Launch} {e : Env} {s : State} {m : MethodId} {args : Array Value} {below : List Frame} {meth : Method} {c : Code} {b N x y o wh n k : Nat} {xs : Nat → Int32} {w : e_W} {i kn : Int} (F : e_F K p l s m args meth c cL_law 7 (some .boolean) RL) (hN : g_N s) (hX : va_X b N xs s s.heap) (hb : b < K.1) (hNL : N ≤ 448) (hxy : x + 27 ≤ y) (hyo : y + 4 ≤ o) (hi : 0 ≤ i) (hi2 : i + 7 ≤ (N : Int)) (hkn : 0 ≤ kn ∧ kn ≤ 448) (hk : k + 250 ≤ 17000) (hI : LI w x y o wh kn)
    (kk : ∀ (w' : e_W) (n' wh' : Nat) (kn' : Int), LI w' x y o wh' kn' → (kn' = kn ∨ kn' = kn + 1) → e_V K p l e 20 17000 s m args below meth c 7 LQ9 e_px0 2052 (LL b x y o i) [] w' n' (k + 250)) : e_V K p l e 20 17000 s m args below meth c 7 LQ9 e_px0 1273 (LL b x y o i) [] w n (k) := by
  obtain ⟨t0, D, R, z, sv, hC, hM, hO, hS⟩ := hI
  have hG : GG wh D R := GG_of hC hM hS
  refine e_aload_n F dL_law_1273 rfl ?_
  refine e_aload_n F dL_law_1274 rfl ?_
  refine e_iload F dL_law_1275 rfl ?_
  refine e_iconst F dL_law_1277 ?_
  refine e_iadd F dL_law_1278 ?_
  refine e_sld F hX hb hNL (by omega) (by omega) dL_law_1279 ?_
  refine e_aload_n F dL_law_1280 rfl ?_
  refine e_iload F dL_law_1281 rfl ?_
  refine e_iconst F dL_law_1283 ?_
  refine e_iadd F dL_law_1284 ?_
  refine e_sld F hX hb hNL (by omega) (by omega) dL_law_1285 ?_
  refine e_aload_n F dL_law_1286 rfl ?_
  refine e_dom (fun hd0 => ?_)
  refine e_callSX F hN u_L_ofDeal (by rfl) (w_ofDeal hC (eI_rg _) (eI_rg _) hO (by omega)) w_ml_RL_226 dL_law_1287 (by rfl) (Nat.le_of_ble_eq_true rfl) (by decide) (by omega) (fun _ _ _ h _ => False.elim h) (fun r1 w1 n1 h1 hn1 => ?_)
  obtain ⟨c1, D1, z1, rfl, hC1, hF1, hO1, hs1⟩ := wc1 hC hO h1
  have hM1 := hM.lf hd0 hO hxy hyo hF1
  refine e_istore F dL_law_1290 (by decide) ?_
  refine e_aload_n F dL_law_1292 rfl ?_
  refine e_aload_n F dL_law_1293 rfl ?_
  refine e_iload F dL_law_1294 rfl ?_
  refine e_iconst F dL_law_1296 ?_
  refine e_iadd F dL_law_1297 ?_
  refine e_sld F hX hb hNL (by omega) (by omega) dL_law_1298 ?_
  refine e_aload_n F dL_law_1299 rfl ?_
  refine e_iload F dL_law_1300 rfl ?_
  refine e_iconst F dL_law_1302 ?_
  refine e_iadd F dL_law_1303 ?_
  refine e_sld F hX hb hNL (by omega) (by omega) dL_law_1304 ?_
  refine e_dom (fun hd1 => ?_)
  refine e_callVV F u_X5_ofDeal (by rfl) (c_X5_ofDeal hM1 (eI_rg _) (eI_rg _)) hM1.1 rfl rfl w_ml_RL_228 dL_law_1305 (by rfl) (Nat.le_of_ble_eq_true rfl) (by decide) (by omega) (fun _ _ _ h _ => False.elim h) (fun r2 w2 n2 h2 hn2 => ?_)
  obtain ⟨V2, t2, R2, rfl, hf2, hM2, hs2⟩ := mc2 h2
  have hS2 : SS wh D1 R2 := by
    rcases hs1 with ⟨p1, p2, p6, p8⟩ | ⟨p1, p2, p8⟩ | ⟨p1, p2, p8⟩
    · rcases hs2 with ⟨p3, p4, p9⟩ | ⟨p3, p4, p9⟩ | ⟨p3, p4, p7, p9⟩
      · exfalso; first | exact p1.elim | omega
      · exfalso; first | exact p1.elim | omega
      · rw [p8, p9]; exact hS
    · rcases hs2 with ⟨p3, p4, p9⟩ | ⟨p3, p4, p9⟩ | ⟨p3, p4, p7, p9⟩
      · rw [p8, p9]; exact hS
      · exfalso; first | exact p1.elim | omega
      · exfalso; first | exact p1.elim | omega
    · rcases hs2 with ⟨p3, p4, p9⟩ | ⟨p3, p4, p9⟩ | ⟨p3, p4, p7, p9⟩
      · exfalso; first | exact p1.elim | omega
      · rw [p8, p9]; exact hS
      · exfalso; first | exact p1.elim | omega
  have hC2 := hC1.fm hd1 hM1 hxy hf2
  have hO2 := (hf2 o (hd1 o _ hO1) (Or.inr hyo)).trans hO1
  refine e_istore F dL_law_1308 (by decide) ?_
  refine e_goto F 2052 dL_law_1310 (by decide) ?_
  exact e_go (e_wd (by omega) (kk _ _ _ _ ⟨_, _, _, _, _, hC2, hM2, hO2, hS2⟩ (Or.inl rfl))) (And.intro rfl (And.intro rfl (And.intro rfl (And.intro rfl (And.intro rfl (trivial))))))
set_option maxHeartbeats 4000000 in
set_option maxRecDepth 100000 in
theorem k_24 {K : e_K} {p : Program} {l : Launch} {e : Env} {s : State} {m : MethodId} {args : Array Value} {below : List Frame} {meth : Method} {c : Code} {b N x y o wh n k : Nat} {xs : Nat → Int32} {w : e_W} {i kn : Int} (F : e_F K p l s m args meth c cL_law 7 (some .boolean) RL) (hN : g_N s) (hX : va_X b N xs s s.heap) (hb : b < K.1) (hNL : N ≤ 448) (hxy : x + 27 ≤ y) (hyo : y + 4 ≤ o) (hi : 0 ≤ i) (hi2 : i + 7 ≤ (N : Int)) (hkn : 0 ≤ kn ∧ kn ≤ 448) (hk : k + 250 ≤ 17000) (hI : LI w x y o wh kn)
    (kk : ∀ (w' : e_W) (n' wh' : Nat) (kn' : Int), LI w' x y o wh' kn' → (kn' = kn ∨ kn' = kn + 1) → e_V K p l e 20 17000 s m args below meth c 7 LQ9 e_px0 2052 (LL b x y o i) [] w' n' (k + 250)) : e_V K p l e 20 17000 s m args below meth c 7 LQ9 e_px0 1313 (LL b x y o i) [] w n (k) := by
  obtain ⟨t0, D, R, z, sv, hC, hM, hO, hS⟩ := hI
  have hG : GG wh D R := GG_of hC hM hS
  refine e_aload_n F dL_law_1313 rfl ?_
  refine e_aload_n F dL_law_1314 rfl ?_
  refine e_iload F dL_law_1315 rfl ?_
  refine e_iconst F dL_law_1317 ?_
  refine e_iadd F dL_law_1318 ?_
  refine e_sld F hX hb hNL (by omega) (by omega) dL_law_1319 ?_
  refine e_aload_n F dL_law_1320 rfl ?_
  refine e_iload F dL_law_1321 rfl ?_
  refine e_iconst F dL_law_1323 ?_
  refine e_iadd F dL_law_1324 ?_
  refine e_sld F hX hb hNL (by omega) (by omega) dL_law_1325 ?_
  refine e_aload_n F dL_law_1326 rfl ?_
  refine e_iload F dL_law_1327 rfl ?_
  refine e_iconst F dL_law_1329 ?_
  refine e_iadd F dL_law_1330 ?_
  refine e_sld F hX hb hNL (by omega) (by omega) dL_law_1331 ?_
  refine e_aload_n F dL_law_1332 rfl ?_
  refine e_dom (fun hd0 => ?_)
  refine e_callSX F hN u_L_told (by rfl) (w_told hC (eI_rg _) (eI_rg _) (eI_rg _) hO (by omega)) w_ml_RL_229 dL_law_1333 (by rfl) (Nat.le_of_ble_eq_true rfl) (by decide) (by omega) (fun _ _ _ h _ => False.elim h) (fun r1 w1 n1 h1 hn1 => ?_)
  obtain ⟨c1, D1, z1, rfl, hC1, hF1, hO1, hs1⟩ := wc1 hC hO h1
  have hM1 := hM.lf hd0 hO hxy hyo hF1
  refine e_istore F dL_law_1336 (by decide) ?_
  refine e_aload_n F dL_law_1338 rfl ?_
  refine e_aload_n F dL_law_1339 rfl ?_
  refine e_iload F dL_law_1340 rfl ?_
  refine e_iconst F dL_law_1342 ?_
  refine e_iadd F dL_law_1343 ?_
  refine e_sld F hX hb hNL (by omega) (by omega) dL_law_1344 ?_
  refine e_aload_n F dL_law_1345 rfl ?_
  refine e_iload F dL_law_1346 rfl ?_
  refine e_iconst F dL_law_1348 ?_
  refine e_iadd F dL_law_1349 ?_
  refine e_sld F hX hb hNL (by omega) (by omega) dL_law_1350 ?_
  refine e_aload_n F dL_law_1351 rfl ?_
  refine e_iload F dL_law_1352 rfl ?_
  refine e_iconst F dL_law_1354 ?_
  refine e_iadd F dL_law_1355 ?_
  refine e_sld F hX hb hNL (by omega) (by omega) dL_law_1356 ?_
  refine e_dom (fun hd1 => ?_)
  refine e_callVV F u_X5_told (by rfl) (c_X5_told hM1 (eI_rg _) (eI_rg _) (eI_rg _)) hM1.1 rfl rfl w_ml_RL_231 dL_law_1357 (by rfl) (Nat.le_of_ble_eq_true rfl) (by decide) (by omega) (fun _ _ _ h _ => False.elim h) (fun r2 w2 n2 h2 hn2 => ?_)
  obtain ⟨V2, t2, R2, rfl, hf2, hM2, hs2⟩ := mc2 h2
  have hS2 : SS wh D1 R2 := by
    rcases hs1 with ⟨p1, p2, p6, p8⟩ | ⟨p1, p2, p8⟩ | ⟨p1, p2, p8⟩
    · rcases hs2 with ⟨p3, p4, p9⟩ | ⟨p3, p4, p9⟩ | ⟨p3, p4, p7, p9⟩
      · exfalso; first | exact p1.elim | omega
      · exfalso; first | exact p1.elim | omega
      · rw [p8, p9]; exact hS
    · rcases hs2 with ⟨p3, p4, p9⟩ | ⟨p3, p4, p9⟩ | ⟨p3, p4, p7, p9⟩
      · rw [p8, p9]; exact hS
      · exfalso; first | exact p1.elim | omega
      · exfalso; first | exact p1.elim | omega
    · rcases hs2 with ⟨p3, p4, p9⟩ | ⟨p3, p4, p9⟩ | ⟨p3, p4, p7, p9⟩
      · exfalso; first | exact p1.elim | omega
      · rw [p8, p9]; exact hS
      · exfalso; first | exact p1.elim | omega
  have hC2 := hC1.fm hd1 hM1 hxy hf2
  have hO2 := (hf2 o (hd1 o _ hO1) (Or.inr hyo)).trans hO1
  refine e_istore F dL_law_1360 (by decide) ?_
  refine e_goto F 2052 dL_law_1362 (by decide) ?_
  exact e_go (e_wd (by omega) (kk _ _ _ _ ⟨_, _, _, _, _, hC2, hM2, hO2, hS2⟩ (Or.inl rfl))) (And.intro rfl (And.intro rfl (And.intro rfl (And.intro rfl (And.intro rfl (trivial))))))
set_option maxHeartbeats 4000000 in
set_option maxRecDepth 100000 in
theorem k_25 {K : e_K} {p : Program} {l : Launch} {e : Env} {s : State} {m : MethodId} {args : Array Value} {below : List Frame} {meth : Method} {c : Code} {b N x y o wh n k : Nat} {xs : Nat → Int32} {w : e_W} {i kn : Int} (F : e_F K p l s m args meth c cL_law 7 (some .boolean) RL) (hN : g_N s) (hX : va_X b N xs s s.heap) (hb : b < K.1) (hNL : N ≤ 448) (hxy : x + 27 ≤ y) (hyo : y + 4 ≤ o) (hi : 0 ≤ i) (hi2 : i + 7 ≤ (N : Int)) (hkn : 0 ≤ kn ∧ kn ≤ 448) (hk : k + 250 ≤ 17000) (hI : LI w x y o wh kn)
    (kk : ∀ (w' : e_W) (n' wh' : Nat) (kn' : Int), LI w' x y o wh' kn' → (kn' = kn ∨ kn' = kn + 1) → e_V K p l e 20 17000 s m args below meth c 7 LQ9 e_px0 2052 (LL b x y o i) [] w' n' (k + 250)) : e_V K p l e 20 17000 s m args below meth c 7 LQ9 e_px0 1365 (LL b x y o i) [] w n (k) := by
  obtain ⟨t0, D, R, z, sv, hC, hM, hO, hS⟩ := hI
  have hG : GG wh D R := GG_of hC hM hS
  refine e_aload_n F dL_law_1365 rfl ?_
  refine e_aload_n F dL_law_1366 rfl ?_
  refine e_iload F dL_law_1367 rfl ?_
  refine e_iconst F dL_law_1369 ?_
  refine e_iadd F dL_law_1370 ?_
  refine e_sld F hX hb hNL (by omega) (by omega) dL_law_1371 ?_
  refine e_aload_n F dL_law_1372 rfl ?_
  refine e_iload F dL_law_1373 rfl ?_
  refine e_iconst F dL_law_1375 ?_
  refine e_iadd F dL_law_1376 ?_
  refine e_sld F hX hb hNL (by omega) (by omega) dL_law_1377 ?_
  refine e_aload_n F dL_law_1378 rfl ?_
  refine e_dom (fun hd0 => ?_)
  refine e_callSX F hN u_L_open (by rfl) (w_open hC (eI_rg _) (eI_rg _) hO (by omega)) w_ml_RL_232 dL_law_1379 (by rfl) (Nat.le_of_ble_eq_true rfl) (by decide) (by omega) (fun _ _ _ h _ => False.elim h) (fun r1 w1 n1 h1 hn1 => ?_)
  obtain ⟨c1, D1, z1, rfl, hC1, hF1, hO1, hs1⟩ := wc1 hC hO h1
  have hM1 := hM.lf hd0 hO hxy hyo hF1
  refine e_istore F dL_law_1382 (by decide) ?_
  refine e_aload_n F dL_law_1384 rfl ?_
  refine e_aload_n F dL_law_1385 rfl ?_
  refine e_iload F dL_law_1386 rfl ?_
  refine e_iconst F dL_law_1388 ?_
  refine e_iadd F dL_law_1389 ?_
  refine e_sld F hX hb hNL (by omega) (by omega) dL_law_1390 ?_
  refine e_aload_n F dL_law_1391 rfl ?_
  refine e_iload F dL_law_1392 rfl ?_
  refine e_iconst F dL_law_1394 ?_
  refine e_iadd F dL_law_1395 ?_
  refine e_sld F hX hb hNL (by omega) (by omega) dL_law_1396 ?_
  refine e_dom (fun hd1 => ?_)
  refine e_callVV F u_X5_open (by rfl) (c_X5_open hM1 (eI_rg _) (eI_rg _)) hM1.1 rfl rfl w_ml_RL_234 dL_law_1397 (by rfl) (Nat.le_of_ble_eq_true rfl) (by decide) (by omega) (fun _ _ _ h _ => False.elim h) (fun r2 w2 n2 h2 hn2 => ?_)
  obtain ⟨V2, t2, R2, rfl, hf2, hM2, hs2⟩ := mc2 h2
  have hS2 : SS wh D1 R2 := by
    rcases hs1 with ⟨p1, p2, p6, p8⟩ | ⟨p1, p2, p8⟩ | ⟨p1, p2, p8⟩
    · rcases hs2 with ⟨p3, p4, p9⟩ | ⟨p3, p4, p9⟩ | ⟨p3, p4, p7, p9⟩
      · exfalso; first | exact p1.elim | omega
      · exfalso; first | exact p1.elim | omega
      · rw [p8, p9]; exact hS
    · rcases hs2 with ⟨p3, p4, p9⟩ | ⟨p3, p4, p9⟩ | ⟨p3, p4, p7, p9⟩
      · rw [p8, p9]; exact hS
      · exfalso; first | exact p1.elim | omega
      · exfalso; first | exact p1.elim | omega
    · rcases hs2 with ⟨p3, p4, p9⟩ | ⟨p3, p4, p9⟩ | ⟨p3, p4, p7, p9⟩
      · exfalso; first | exact p1.elim | omega
      · rw [p8, p9]; exact hS
      · exfalso; first | exact p1.elim | omega
  have hC2 := hC1.fm hd1 hM1 hxy hf2
  have hO2 := (hf2 o (hd1 o _ hO1) (Or.inr hyo)).trans hO1
  refine e_istore F dL_law_1400 (by decide) ?_
  refine e_goto F 2052 dL_law_1402 (by decide) ?_
  exact e_go (e_wd (by omega) (kk _ _ _ _ ⟨_, _, _, _, _, hC2, hM2, hO2, hS2⟩ (Or.inl rfl))) (And.intro rfl (And.intro rfl (And.intro rfl (And.intro rfl (And.intro rfl (trivial))))))
set_option maxHeartbeats 4000000 in
set_option maxRecDepth 100000 in
theorem k_26 {K : e_K} {p : Program} {l : Launch} {e : Env} {s : State} {m : MethodId} {args : Array Value} {below : List Frame} {meth : Method} {c : Code} {b N x y o wh n k : Nat} {xs : Nat → Int32} {w : e_W} {i kn : Int} (F : e_F K p l s m args meth c cL_law 7 (some .boolean) RL) (hN : g_N s) (hX : va_X b N xs s s.heap) (hb : b < K.1) (hNL : N ≤ 448) (hxy : x + 27 ≤ y) (hyo : y + 4 ≤ o) (hi : 0 ≤ i) (hi2 : i + 7 ≤ (N : Int)) (hkn : 0 ≤ kn ∧ kn ≤ 448) (hk : k + 250 ≤ 17000) (hI : LI w x y o wh kn)
    (kk : ∀ (w' : e_W) (n' wh' : Nat) (kn' : Int), LI w' x y o wh' kn' → (kn' = kn ∨ kn' = kn + 1) → e_V K p l e 20 17000 s m args below meth c 7 LQ9 e_px0 2052 (LL b x y o i) [] w' n' (k + 250)) : e_V K p l e 20 17000 s m args below meth c 7 LQ9 e_px0 1405 (LL b x y o i) [] w n (k) := by
  obtain ⟨t0, D, R, z, sv, hC, hM, hO, hS⟩ := hI
  have hG : GG wh D R := GG_of hC hM hS
  refine e_aload_n F dL_law_1405 rfl ?_
  refine e_aload_n F dL_law_1406 rfl ?_
  refine e_iload F dL_law_1407 rfl ?_
  refine e_iconst F dL_law_1409 ?_
  refine e_iadd F dL_law_1410 ?_
  refine e_sld F hX hb hNL (by omega) (by omega) dL_law_1411 ?_
  refine e_aload_n F dL_law_1412 rfl ?_
  refine e_iload F dL_law_1413 rfl ?_
  refine e_iconst F dL_law_1415 ?_
  refine e_iadd F dL_law_1416 ?_
  refine e_sld F hX hb hNL (by omega) (by omega) dL_law_1417 ?_
  refine e_aload_n F dL_law_1418 rfl ?_
  refine e_iload F dL_law_1419 rfl ?_
  refine e_iconst F dL_law_1421 ?_
  refine e_iadd F dL_law_1422 ?_
  refine e_sld F hX hb hNL (by omega) (by omega) dL_law_1423 ?_
  refine e_aload_n F dL_law_1424 rfl ?_
  refine e_dom (fun hd0 => ?_)
  refine e_callSX F hN u_L_coefficient (by rfl) (w_coefficient hC (eI_rg _) (eI_rg _) (eI_rg _) hO (by omega)) w_ml_RL_235 dL_law_1425 (by rfl) (Nat.le_of_ble_eq_true rfl) (by decide) (by omega) (fun _ _ _ h _ => False.elim h) (fun r1 w1 n1 h1 hn1 => ?_)
  obtain ⟨c1, D1, z1, rfl, hC1, hF1, hO1, hs1⟩ := wc1 hC hO h1
  have hM1 := hM.lf hd0 hO hxy hyo hF1
  refine e_istore F dL_law_1428 (by decide) ?_
  refine e_aload_n F dL_law_1430 rfl ?_
  refine e_aload_n F dL_law_1431 rfl ?_
  refine e_iload F dL_law_1432 rfl ?_
  refine e_iconst F dL_law_1434 ?_
  refine e_iadd F dL_law_1435 ?_
  refine e_sld F hX hb hNL (by omega) (by omega) dL_law_1436 ?_
  refine e_aload_n F dL_law_1437 rfl ?_
  refine e_iload F dL_law_1438 rfl ?_
  refine e_iconst F dL_law_1440 ?_
  refine e_iadd F dL_law_1441 ?_
  refine e_sld F hX hb hNL (by omega) (by omega) dL_law_1442 ?_
  refine e_aload_n F dL_law_1443 rfl ?_
  refine e_iload F dL_law_1444 rfl ?_
  refine e_iconst F dL_law_1446 ?_
  refine e_iadd F dL_law_1447 ?_
  refine e_sld F hX hb hNL (by omega) (by omega) dL_law_1448 ?_
  refine e_dom (fun hd1 => ?_)
  refine e_callVV F u_X5_coefficient (by rfl) (c_X5_coefficient hM1 (eI_rg _) (eI_rg _) (eI_rg _)) hM1.1 rfl rfl w_ml_RL_237 dL_law_1449 (by rfl) (Nat.le_of_ble_eq_true rfl) (by decide) (by omega) (fun _ _ _ h _ => False.elim h) (fun r2 w2 n2 h2 hn2 => ?_)
  obtain ⟨V2, t2, R2, rfl, hf2, hM2, hs2⟩ := mc2 h2
  have hS2 : SS wh D1 R2 := by
    rcases hs1 with ⟨p1, p2, p6, p8⟩ | ⟨p1, p2, p8⟩ | ⟨p1, p2, p8⟩
    · rcases hs2 with ⟨p3, p4, p9⟩ | ⟨p3, p4, p9⟩ | ⟨p3, p4, p7, p9⟩
      · exfalso; first | exact p1.elim | omega
      · exfalso; first | exact p1.elim | omega
      · rw [p8, p9]; exact hS
    · rcases hs2 with ⟨p3, p4, p9⟩ | ⟨p3, p4, p9⟩ | ⟨p3, p4, p7, p9⟩
      · rw [p8, p9]; exact hS
      · exfalso; first | exact p1.elim | omega
      · exfalso; first | exact p1.elim | omega
    · rcases hs2 with ⟨p3, p4, p9⟩ | ⟨p3, p4, p9⟩ | ⟨p3, p4, p7, p9⟩
      · exfalso; first | exact p1.elim | omega
      · rw [p8, p9]; exact hS
      · exfalso; first | exact p1.elim | omega
  have hC2 := hC1.fm hd1 hM1 hxy hf2
  have hO2 := (hf2 o (hd1 o _ hO1) (Or.inr hyo)).trans hO1
  refine e_istore F dL_law_1452 (by decide) ?_
  refine e_goto F 2052 dL_law_1454 (by decide) ?_
  exact e_go (e_wd (by omega) (kk _ _ _ _ ⟨_, _, _, _, _, hC2, hM2, hO2, hS2⟩ (Or.inl rfl))) (And.intro rfl (And.intro rfl (And.intro rfl (And.intro rfl (And.intro rfl (trivial))))))
set_option maxHeartbeats 4000000 in
set_option maxRecDepth 100000 in
theorem k_27 {K : e_K} {p : Program} {l : Launch} {e : Env} {s : State} {m : MethodId} {args : Array Value} {below : List Frame} {meth : Method} {c : Code} {b N x y o wh n k : Nat} {xs : Nat → Int32} {w : e_W} {i kn : Int} (F : e_F K p l s m args meth c cL_law 7 (some .boolean) RL) (hN : g_N s) (hX : va_X b N xs s s.heap) (hb : b < K.1) (hNL : N ≤ 448) (hxy : x + 27 ≤ y) (hyo : y + 4 ≤ o) (hi : 0 ≤ i) (hi2 : i + 7 ≤ (N : Int)) (hkn : 0 ≤ kn ∧ kn ≤ 448) (hk : k + 250 ≤ 17000) (hI : LI w x y o wh kn)
    (kk : ∀ (w' : e_W) (n' wh' : Nat) (kn' : Int), LI w' x y o wh' kn' → (kn' = kn ∨ kn' = kn + 1) → e_V K p l e 20 17000 s m args below meth c 7 LQ9 e_px0 2052 (LL b x y o i) [] w' n' (k + 250)) : e_V K p l e 20 17000 s m args below meth c 7 LQ9 e_px0 1457 (LL b x y o i) [] w n (k) := by
  obtain ⟨t0, D, R, z, sv, hC, hM, hO, hS⟩ := hI
  have hG : GG wh D R := GG_of hC hM hS
  refine e_aload_n F dL_law_1457 rfl ?_
  refine e_aload_n F dL_law_1458 rfl ?_
  refine e_iload F dL_law_1459 rfl ?_
  refine e_iconst F dL_law_1461 ?_
  refine e_iadd F dL_law_1462 ?_
  refine e_sld F hX hb hNL (by omega) (by omega) dL_law_1463 ?_
  refine e_aload_n F dL_law_1464 rfl ?_
  refine e_iload F dL_law_1465 rfl ?_
  refine e_iconst F dL_law_1467 ?_
  refine e_iadd F dL_law_1468 ?_
  refine e_sld F hX hb hNL (by omega) (by omega) dL_law_1469 ?_
  refine e_aload_n F dL_law_1470 rfl ?_
  refine e_dom (fun hd0 => ?_)
  refine e_callSX F hN u_L_degreeBy (by rfl) (w_degreeBy hC (eI_rg _) (eI_rg _) hO (by omega)) w_ml_RL_238 dL_law_1471 (by rfl) (Nat.le_of_ble_eq_true rfl) (by decide) (by omega) (fun _ _ _ h _ => False.elim h) (fun r1 w1 n1 h1 hn1 => ?_)
  obtain ⟨c1, D1, z1, rfl, hC1, hF1, hO1, hs1⟩ := wc1 hC hO h1
  have hM1 := hM.lf hd0 hO hxy hyo hF1
  refine e_istore F dL_law_1474 (by decide) ?_
  refine e_aload_n F dL_law_1476 rfl ?_
  refine e_aload_n F dL_law_1477 rfl ?_
  refine e_iload F dL_law_1478 rfl ?_
  refine e_iconst F dL_law_1480 ?_
  refine e_iadd F dL_law_1481 ?_
  refine e_sld F hX hb hNL (by omega) (by omega) dL_law_1482 ?_
  refine e_aload_n F dL_law_1483 rfl ?_
  refine e_iload F dL_law_1484 rfl ?_
  refine e_iconst F dL_law_1486 ?_
  refine e_iadd F dL_law_1487 ?_
  refine e_sld F hX hb hNL (by omega) (by omega) dL_law_1488 ?_
  refine e_dom (fun hd1 => ?_)
  refine e_callVV F u_X5_degreeBy (by rfl) (c_X5_degreeBy hM1 (eI_rg _) (eI_rg _)) hM1.1 rfl rfl w_ml_RL_240 dL_law_1489 (by rfl) (Nat.le_of_ble_eq_true rfl) (by decide) (by omega) (fun _ _ _ h _ => False.elim h) (fun r2 w2 n2 h2 hn2 => ?_)
  obtain ⟨V2, t2, R2, rfl, hf2, hM2, hs2⟩ := mc2 h2
  have hS2 : SS wh D1 R2 := by
    rcases hs1 with ⟨p1, p2, p6, p8⟩ | ⟨p1, p2, p8⟩ | ⟨p1, p2, p8⟩
    · rcases hs2 with ⟨p3, p4, p9⟩ | ⟨p3, p4, p9⟩ | ⟨p3, p4, p7, p9⟩
      · exfalso; first | exact p1.elim | omega
      · exfalso; first | exact p1.elim | omega
      · rw [p8, p9]; exact hS
    · rcases hs2 with ⟨p3, p4, p9⟩ | ⟨p3, p4, p9⟩ | ⟨p3, p4, p7, p9⟩
      · rw [p8, p9]; exact hS
      · exfalso; first | exact p1.elim | omega
      · exfalso; first | exact p1.elim | omega
    · rcases hs2 with ⟨p3, p4, p9⟩ | ⟨p3, p4, p9⟩ | ⟨p3, p4, p7, p9⟩
      · exfalso; first | exact p1.elim | omega
      · rw [p8, p9]; exact hS
      · exfalso; first | exact p1.elim | omega
  have hC2 := hC1.fm hd1 hM1 hxy hf2
  have hO2 := (hf2 o (hd1 o _ hO1) (Or.inr hyo)).trans hO1
  refine e_istore F dL_law_1492 (by decide) ?_
  refine e_goto F 2052 dL_law_1494 (by decide) ?_
  exact e_go (e_wd (by omega) (kk _ _ _ _ ⟨_, _, _, _, _, hC2, hM2, hO2, hS2⟩ (Or.inl rfl))) (And.intro rfl (And.intro rfl (And.intro rfl (And.intro rfl (And.intro rfl (trivial))))))
set_option maxHeartbeats 4000000 in
set_option maxRecDepth 100000 in
theorem k_28 {K : e_K} {p : Program} {l : Launch} {e : Env} {s : State} {m : MethodId} {args : Array Value} {below : List Frame} {meth : Method} {c : Code} {b N x y o wh n k : Nat} {xs : Nat → Int32} {w : e_W} {i kn : Int} (F : e_F K p l s m args meth c cL_law 7 (some .boolean) RL) (hN : g_N s) (hX : va_X b N xs s s.heap) (hb : b < K.1) (hNL : N ≤ 448) (hxy : x + 27 ≤ y) (hyo : y + 4 ≤ o) (hi : 0 ≤ i) (hi2 : i + 7 ≤ (N : Int)) (hkn : 0 ≤ kn ∧ kn ≤ 448) (hk : k + 250 ≤ 17000) (hI : LI w x y o wh kn)
    (kk : ∀ (w' : e_W) (n' wh' : Nat) (kn' : Int), LI w' x y o wh' kn' → (kn' = kn ∨ kn' = kn + 1) → e_V K p l e 20 17000 s m args below meth c 7 LQ9 e_px0 2052 (LL b x y o i) [] w' n' (k + 250)) : e_V K p l e 20 17000 s m args below meth c 7 LQ9 e_px0 1497 (LL b x y o i) [] w n (k) := by
  obtain ⟨t0, D, R, z, sv, hC, hM, hO, hS⟩ := hI
  have hG : GG wh D R := GG_of hC hM hS
  refine e_aload_n F dL_law_1497 rfl ?_
  refine e_aload_n F dL_law_1498 rfl ?_
  refine e_iload F dL_law_1499 rfl ?_
  refine e_iconst F dL_law_1501 ?_
  refine e_iadd F dL_law_1502 ?_
  refine e_sld F hX hb hNL (by omega) (by omega) dL_law_1503 ?_
  refine e_aload_n F dL_law_1504 rfl ?_
  refine e_iload F dL_law_1505 rfl ?_
  refine e_iconst F dL_law_1507 ?_
  refine e_iadd F dL_law_1508 ?_
  refine e_sld F hX hb hNL (by omega) (by omega) dL_law_1509 ?_
  refine e_aload_n F dL_law_1510 rfl ?_
  refine e_dom (fun hd0 => ?_)
  refine e_callSX F hN u_L_agrees (by rfl) (w_agrees hC (eI_rg _) (eI_rg _) hO (by omega)) w_ml_RL_241 dL_law_1511 (by rfl) (Nat.le_of_ble_eq_true rfl) (by decide) (by omega) (fun _ _ _ h _ => False.elim h) (fun r1 w1 n1 h1 hn1 => ?_)
  obtain ⟨c1, D1, z1, rfl, hC1, hF1, hO1, hs1⟩ := wc1 hC hO h1
  have hM1 := hM.lf hd0 hO hxy hyo hF1
  refine e_istore F dL_law_1514 (by decide) ?_
  refine e_aload_n F dL_law_1516 rfl ?_
  refine e_aload_n F dL_law_1517 rfl ?_
  refine e_iload F dL_law_1518 rfl ?_
  refine e_iconst F dL_law_1520 ?_
  refine e_iadd F dL_law_1521 ?_
  refine e_sld F hX hb hNL (by omega) (by omega) dL_law_1522 ?_
  refine e_aload_n F dL_law_1523 rfl ?_
  refine e_iload F dL_law_1524 rfl ?_
  refine e_iconst F dL_law_1526 ?_
  refine e_iadd F dL_law_1527 ?_
  refine e_sld F hX hb hNL (by omega) (by omega) dL_law_1528 ?_
  refine e_dom (fun hd1 => ?_)
  refine e_callVV F u_X5_agrees (by rfl) (c_X5_agrees hM1 (eI_rg _) (eI_rg _)) hM1.1 rfl rfl w_ml_RL_243 dL_law_1529 (by rfl) (Nat.le_of_ble_eq_true rfl) (by decide) (by omega) (fun _ _ _ h _ => False.elim h) (fun r2 w2 n2 h2 hn2 => ?_)
  obtain ⟨V2, t2, R2, rfl, hf2, hM2, hs2⟩ := mc2 h2
  have hS2 : SS wh D1 R2 := by
    rcases hs1 with ⟨p1, p2, p6, p8⟩ | ⟨p1, p2, p8⟩ | ⟨p1, p2, p8⟩
    · rcases hs2 with ⟨p3, p4, p9⟩ | ⟨p3, p4, p9⟩ | ⟨p3, p4, p7, p9⟩
      · exfalso; first | exact p1.elim | omega
      · exfalso; first | exact p1.elim | omega
      · rw [p8, p9]; exact hS
    · rcases hs2 with ⟨p3, p4, p9⟩ | ⟨p3, p4, p9⟩ | ⟨p3, p4, p7, p9⟩
      · rw [p8, p9]; exact hS
      · exfalso; first | exact p1.elim | omega
      · exfalso; first | exact p1.elim | omega
    · rcases hs2 with ⟨p3, p4, p9⟩ | ⟨p3, p4, p9⟩ | ⟨p3, p4, p7, p9⟩
      · exfalso; first | exact p1.elim | omega
      · rw [p8, p9]; exact hS
      · exfalso; first | exact p1.elim | omega
  have hC2 := hC1.fm hd1 hM1 hxy hf2
  have hO2 := (hf2 o (hd1 o _ hO1) (Or.inr hyo)).trans hO1
  refine e_istore F dL_law_1532 (by decide) ?_
  refine e_goto F 2052 dL_law_1534 (by decide) ?_
  exact e_go (e_wd (by omega) (kk _ _ _ _ ⟨_, _, _, _, _, hC2, hM2, hO2, hS2⟩ (Or.inl rfl))) (And.intro rfl (And.intro rfl (And.intro rfl (And.intro rfl (And.intro rfl (trivial))))))
set_option maxHeartbeats 4000000 in
set_option maxRecDepth 100000 in
theorem k_29 {K : e_K} {p : Program} {l : Launch} {e : Env} {s : State} {m : MethodId} {args : Array Value} {below : List Frame} {meth : Method} {c : Code} {b N x y o wh n k : Nat} {xs : Nat → Int32} {w : e_W} {i kn : Int} (F : e_F K p l s m args meth c cL_law 7 (some .boolean) RL) (hN : g_N s) (hX : va_X b N xs s s.heap) (hb : b < K.1) (hNL : N ≤ 448) (hxy : x + 27 ≤ y) (hyo : y + 4 ≤ o) (hi : 0 ≤ i) (hi2 : i + 7 ≤ (N : Int)) (hkn : 0 ≤ kn ∧ kn ≤ 448) (hk : k + 250 ≤ 17000) (hI : LI w x y o wh kn)
    (kk : ∀ (w' : e_W) (n' wh' : Nat) (kn' : Int), LI w' x y o wh' kn' → (kn' = kn ∨ kn' = kn + 1) → e_V K p l e 20 17000 s m args below meth c 7 LQ9 e_px0 2052 (LL b x y o i) [] w' n' (k + 250)) : e_V K p l e 20 17000 s m args below meth c 7 LQ9 e_px0 1537 (LL b x y o i) [] w n (k) := by
  obtain ⟨t0, D, R, z, sv, hC, hM, hO, hS⟩ := hI
  have hG : GG wh D R := GG_of hC hM hS
  refine e_aload_n F dL_law_1537 rfl ?_
  refine e_aload_n F dL_law_1538 rfl ?_
  refine e_iload F dL_law_1539 rfl ?_
  refine e_iconst F dL_law_1541 ?_
  refine e_iadd F dL_law_1542 ?_
  refine e_sld F hX hb hNL (by omega) (by omega) dL_law_1543 ?_
  refine e_aload_n F dL_law_1544 rfl ?_
  refine e_dom (fun hd0 => ?_)
  refine e_callSX F hN u_L_suspects (by rfl) (w_suspects hC (eI_rg _) hO (by omega)) w_ml_RL_244 dL_law_1545 (by rfl) (Nat.le_of_ble_eq_true rfl) (by decide) (by omega) (fun _ _ _ h _ => False.elim h) (fun r1 w1 n1 h1 hn1 => ?_)
  obtain ⟨c1, D1, z1, rfl, hC1, hF1, hO1, hs1⟩ := wc1 hC hO h1
  have hM1 := hM.lf hd0 hO hxy hyo hF1
  refine e_istore F dL_law_1548 (by decide) ?_
  refine e_aload_n F dL_law_1550 rfl ?_
  refine e_aload_n F dL_law_1551 rfl ?_
  refine e_iload F dL_law_1552 rfl ?_
  refine e_iconst F dL_law_1554 ?_
  refine e_iadd F dL_law_1555 ?_
  refine e_sld F hX hb hNL (by omega) (by omega) dL_law_1556 ?_
  refine e_dom (fun hd1 => ?_)
  refine e_callVV F u_X5_suspects (by rfl) (c_X5_suspects hM1 (eI_rg _)) hM1.1 rfl rfl w_ml_RL_246 dL_law_1557 (by rfl) (Nat.le_of_ble_eq_true rfl) (by decide) (by omega) (fun _ _ _ h _ => False.elim h) (fun r2 w2 n2 h2 hn2 => ?_)
  obtain ⟨V2, t2, R2, rfl, hf2, hM2, hs2⟩ := mc1 h2
  have hS2 : SS wh D1 R2 := by
    rcases hs1 with ⟨p1, p2, p6, p8⟩ | ⟨p1, p2, p8⟩ | ⟨p1, p2, p8⟩
    · rcases hs2 with ⟨p3, p4, p9⟩ | ⟨p3, p4, p7, p9⟩
      · exfalso; first | exact p1.elim | omega
      · rw [p8, p9]; exact hS
    · rcases hs2 with ⟨p3, p4, p9⟩ | ⟨p3, p4, p7, p9⟩
      · rw [p8, p9]; exact hS
      · exfalso; first | exact p1.elim | omega
    · rcases hs2 with ⟨p3, p4, p9⟩ | ⟨p3, p4, p7, p9⟩
      · exfalso; first | exact p1.elim | omega
      · exfalso; first | exact p1.elim | omega
  have hC2 := hC1.fm hd1 hM1 hxy hf2
  have hO2 := (hf2 o (hd1 o _ hO1) (Or.inr hyo)).trans hO1
  refine e_istore F dL_law_1560 (by decide) ?_
  refine e_goto F 2052 dL_law_1562 (by decide) ?_
  exact e_go (e_wd (by omega) (kk _ _ _ _ ⟨_, _, _, _, _, hC2, hM2, hO2, hS2⟩ (Or.inl rfl))) (And.intro rfl (And.intro rfl (And.intro rfl (And.intro rfl (And.intro rfl (trivial))))))
set_option maxHeartbeats 4000000 in
set_option maxRecDepth 100000 in
theorem k_30 {K : e_K} {p : Program} {l : Launch} {e : Env} {s : State} {m : MethodId} {args : Array Value} {below : List Frame} {meth : Method} {c : Code} {b N x y o wh n k : Nat} {xs : Nat → Int32} {w : e_W} {i kn : Int} (F : e_F K p l s m args meth c cL_law 7 (some .boolean) RL) (hN : g_N s) (hX : va_X b N xs s s.heap) (hb : b < K.1) (hNL : N ≤ 448) (hxy : x + 27 ≤ y) (hyo : y + 4 ≤ o) (hi : 0 ≤ i) (hi2 : i + 7 ≤ (N : Int)) (hkn : 0 ≤ kn ∧ kn ≤ 448) (hk : k + 250 ≤ 17000) (hI : LI w x y o wh kn)
    (kk : ∀ (w' : e_W) (n' wh' : Nat) (kn' : Int), LI w' x y o wh' kn' → (kn' = kn ∨ kn' = kn + 1) → e_V K p l e 20 17000 s m args below meth c 7 LQ9 e_px0 2052 (LL b x y o i) [] w' n' (k + 250)) : e_V K p l e 20 17000 s m args below meth c 7 LQ9 e_px0 1565 (LL b x y o i) [] w n (k) := by
  obtain ⟨t0, D, R, z, sv, hC, hM, hO, hS⟩ := hI
  have hG : GG wh D R := GG_of hC hM hS
  refine e_aload_n F dL_law_1565 rfl ?_
  refine e_aload_n F dL_law_1566 rfl ?_
  refine e_iload F dL_law_1567 rfl ?_
  refine e_iconst F dL_law_1569 ?_
  refine e_iadd F dL_law_1570 ?_
  refine e_sld F hX hb hNL (by omega) (by omega) dL_law_1571 ?_
  refine e_aload_n F dL_law_1572 rfl ?_
  refine e_dom (fun hd0 => ?_)
  refine e_callSX F hN u_L_wrong (by rfl) (w_wrong hC (eI_rg _) hO (by omega)) w_ml_RL_247 dL_law_1573 (by rfl) (Nat.le_of_ble_eq_true rfl) (by decide) (by omega) (fun _ _ _ h _ => False.elim h) (fun r1 w1 n1 h1 hn1 => ?_)
  obtain ⟨c1, D1, z1, rfl, hC1, hF1, hO1, hs1⟩ := wc1 hC hO h1
  have hM1 := hM.lf hd0 hO hxy hyo hF1
  refine e_istore F dL_law_1576 (by decide) ?_
  refine e_aload_n F dL_law_1578 rfl ?_
  refine e_aload_n F dL_law_1579 rfl ?_
  refine e_iload F dL_law_1580 rfl ?_
  refine e_iconst F dL_law_1582 ?_
  refine e_iadd F dL_law_1583 ?_
  refine e_sld F hX hb hNL (by omega) (by omega) dL_law_1584 ?_
  refine e_dom (fun hd1 => ?_)
  refine e_callVV F u_X5_wrong (by rfl) (c_X5_wrong hM1 (eI_rg _)) hM1.1 rfl rfl w_ml_RL_249 dL_law_1585 (by rfl) (Nat.le_of_ble_eq_true rfl) (by decide) (by omega) (fun _ _ _ h _ => False.elim h) (fun r2 w2 n2 h2 hn2 => ?_)
  obtain ⟨V2, t2, R2, rfl, hf2, hM2, hs2⟩ := mc1 h2
  have hS2 : SS wh D1 R2 := by
    rcases hs1 with ⟨p1, p2, p6, p8⟩ | ⟨p1, p2, p8⟩ | ⟨p1, p2, p8⟩
    · rcases hs2 with ⟨p3, p4, p9⟩ | ⟨p3, p4, p7, p9⟩
      · exfalso; first | exact p1.elim | omega
      · rw [p8, p9]; exact hS
    · rcases hs2 with ⟨p3, p4, p9⟩ | ⟨p3, p4, p7, p9⟩
      · rw [p8, p9]; exact hS
      · exfalso; first | exact p1.elim | omega
    · rcases hs2 with ⟨p3, p4, p9⟩ | ⟨p3, p4, p7, p9⟩
      · exfalso; first | exact p1.elim | omega
      · exfalso; first | exact p1.elim | omega
  have hC2 := hC1.fm hd1 hM1 hxy hf2
  have hO2 := (hf2 o (hd1 o _ hO1) (Or.inr hyo)).trans hO1
  refine e_istore F dL_law_1588 (by decide) ?_
  refine e_goto F 2052 dL_law_1590 (by decide) ?_
  exact e_go (e_wd (by omega) (kk _ _ _ _ ⟨_, _, _, _, _, hC2, hM2, hO2, hS2⟩ (Or.inl rfl))) (And.intro rfl (And.intro rfl (And.intro rfl (And.intro rfl (And.intro rfl (trivial))))))
set_option maxHeartbeats 4000000 in
set_option maxRecDepth 100000 in
theorem k_31 {K : e_K} {p : Program} {l : Launch} {e : Env} {s : State} {m : MethodId} {args : Array Value} {below : List Frame} {meth : Method} {c : Code} {b N x y o wh n k : Nat} {xs : Nat → Int32} {w : e_W} {i kn : Int} (F : e_F K p l s m args meth c cL_law 7 (some .boolean) RL) (hN : g_N s) (hX : va_X b N xs s s.heap) (hb : b < K.1) (hNL : N ≤ 448) (hxy : x + 27 ≤ y) (hyo : y + 4 ≤ o) (hi : 0 ≤ i) (hi2 : i + 7 ≤ (N : Int)) (hkn : 0 ≤ kn ∧ kn ≤ 448) (hk : k + 250 ≤ 17000) (hI : LI w x y o wh kn)
    (kk : ∀ (w' : e_W) (n' wh' : Nat) (kn' : Int), LI w' x y o wh' kn' → (kn' = kn ∨ kn' = kn + 1) → e_V K p l e 20 17000 s m args below meth c 7 LQ9 e_px0 2052 (LL b x y o i) [] w' n' (k + 250)) : e_V K p l e 20 17000 s m args below meth c 7 LQ9 e_px0 1593 (LL b x y o i) [] w n (k) := by
  obtain ⟨t0, D, R, z, sv, hC, hM, hO, hS⟩ := hI
  have hG : GG wh D R := GG_of hC hM hS
  refine e_aload_n F dL_law_1593 rfl ?_
  refine e_aload_n F dL_law_1594 rfl ?_
  refine e_iload F dL_law_1595 rfl ?_
  refine e_iconst F dL_law_1597 ?_
  refine e_iadd F dL_law_1598 ?_
  refine e_sld F hX hb hNL (by omega) (by omega) dL_law_1599 ?_
  refine e_aload_n F dL_law_1600 rfl ?_
  refine e_iload F dL_law_1601 rfl ?_
  refine e_iconst F dL_law_1603 ?_
  refine e_iadd F dL_law_1604 ?_
  refine e_sld F hX hb hNL (by omega) (by omega) dL_law_1605 ?_
  refine e_aload_n F dL_law_1606 rfl ?_
  refine e_iload F dL_law_1607 rfl ?_
  refine e_iconst F dL_law_1609 ?_
  refine e_iadd F dL_law_1610 ?_
  refine e_sld F hX hb hNL (by omega) (by omega) dL_law_1611 ?_
  refine e_aload_n F dL_law_1612 rfl ?_
  refine e_dom (fun hd0 => ?_)
  refine e_callSX F hN u_L_ways (by rfl) (w_ways hC (eI_rg _) (eI_rg _) (eI_rg _) hO (by omega)) w_ml_RL_250 dL_law_1613 (by rfl) (Nat.le_of_ble_eq_true rfl) (by decide) (by omega) (fun _ _ _ h _ => False.elim h) (fun r1 w1 n1 h1 hn1 => ?_)
  obtain ⟨c1, D1, z1, rfl, hC1, hF1, hO1, hs1⟩ := wc1 hC hO h1
  have hM1 := hM.lf hd0 hO hxy hyo hF1
  refine e_istore F dL_law_1616 (by decide) ?_
  refine e_aload_n F dL_law_1618 rfl ?_
  refine e_aload_n F dL_law_1619 rfl ?_
  refine e_iload F dL_law_1620 rfl ?_
  refine e_iconst F dL_law_1622 ?_
  refine e_iadd F dL_law_1623 ?_
  refine e_sld F hX hb hNL (by omega) (by omega) dL_law_1624 ?_
  refine e_aload_n F dL_law_1625 rfl ?_
  refine e_iload F dL_law_1626 rfl ?_
  refine e_iconst F dL_law_1628 ?_
  refine e_iadd F dL_law_1629 ?_
  refine e_sld F hX hb hNL (by omega) (by omega) dL_law_1630 ?_
  refine e_aload_n F dL_law_1631 rfl ?_
  refine e_iload F dL_law_1632 rfl ?_
  refine e_iconst F dL_law_1634 ?_
  refine e_iadd F dL_law_1635 ?_
  refine e_sld F hX hb hNL (by omega) (by omega) dL_law_1636 ?_
  refine e_dom (fun hd1 => ?_)
  refine e_callVV F u_X5_ways (by rfl) (c_X5_ways hM1 (eI_rg _) (eI_rg _) (eI_rg _)) hM1.1 rfl rfl w_ml_RL_252 dL_law_1637 (by rfl) (Nat.le_of_ble_eq_true rfl) (by decide) (by omega) (fun _ _ _ h _ => False.elim h) (fun r2 w2 n2 h2 hn2 => ?_)
  obtain ⟨V2, t2, R2, rfl, hf2, hM2, hs2⟩ := mc2 h2
  have hS2 : SS wh D1 R2 := by
    rcases hs1 with ⟨p1, p2, p6, p8⟩ | ⟨p1, p2, p8⟩ | ⟨p1, p2, p8⟩
    · rcases hs2 with ⟨p3, p4, p9⟩ | ⟨p3, p4, p9⟩ | ⟨p3, p4, p7, p9⟩
      · exfalso; first | exact p1.elim | omega
      · exfalso; first | exact p1.elim | omega
      · rw [p8, p9]; exact hS
    · rcases hs2 with ⟨p3, p4, p9⟩ | ⟨p3, p4, p9⟩ | ⟨p3, p4, p7, p9⟩
      · rw [p8, p9]; exact hS
      · exfalso; first | exact p1.elim | omega
      · exfalso; first | exact p1.elim | omega
    · rcases hs2 with ⟨p3, p4, p9⟩ | ⟨p3, p4, p9⟩ | ⟨p3, p4, p7, p9⟩
      · exfalso; first | exact p1.elim | omega
      · rw [p8, p9]; exact hS
      · exfalso; first | exact p1.elim | omega
  have hC2 := hC1.fm hd1 hM1 hxy hf2
  have hO2 := (hf2 o (hd1 o _ hO1) (Or.inr hyo)).trans hO1
  refine e_istore F dL_law_1640 (by decide) ?_
  refine e_goto F 2052 dL_law_1642 (by decide) ?_
  exact e_go (e_wd (by omega) (kk _ _ _ _ ⟨_, _, _, _, _, hC2, hM2, hO2, hS2⟩ (Or.inl rfl))) (And.intro rfl (And.intro rfl (And.intro rfl (And.intro rfl (And.intro rfl (trivial))))))
set_option maxHeartbeats 4000000 in
set_option maxRecDepth 100000 in
theorem k_32 {K : e_K} {p : Program} {l : Launch} {e : Env} {s : State} {m : MethodId} {args : Array Value} {below : List Frame} {meth : Method} {c : Code} {b N x y o wh n k : Nat} {xs : Nat → Int32} {w : e_W} {i kn : Int} (F : e_F K p l s m args meth c cL_law 7 (some .boolean) RL) (hN : g_N s) (hX : va_X b N xs s s.heap) (hb : b < K.1) (hNL : N ≤ 448) (hxy : x + 27 ≤ y) (hyo : y + 4 ≤ o) (hi : 0 ≤ i) (hi2 : i + 7 ≤ (N : Int)) (hkn : 0 ≤ kn ∧ kn ≤ 448) (hk : k + 250 ≤ 17000) (hI : LI w x y o wh kn)
    (kk : ∀ (w' : e_W) (n' wh' : Nat) (kn' : Int), LI w' x y o wh' kn' → (kn' = kn ∨ kn' = kn + 1) → e_V K p l e 20 17000 s m args below meth c 7 LQ9 e_px0 2052 (LL b x y o i) [] w' n' (k + 250)) : e_V K p l e 20 17000 s m args below meth c 7 LQ9 e_px0 1645 (LL b x y o i) [] w n (k) := by
  obtain ⟨t0, D, R, z, sv, hC, hM, hO, hS⟩ := hI
  have hG : GG wh D R := GG_of hC hM hS
  refine e_aload_n F dL_law_1645 rfl ?_
  refine e_aload_n F dL_law_1646 rfl ?_
  refine e_iload F dL_law_1647 rfl ?_
  refine e_iconst F dL_law_1649 ?_
  refine e_iadd F dL_law_1650 ?_
  refine e_sld F hX hb hNL (by omega) (by omega) dL_law_1651 ?_
  refine e_aload_n F dL_law_1652 rfl ?_
  refine e_iload F dL_law_1653 rfl ?_
  refine e_iconst F dL_law_1655 ?_
  refine e_iadd F dL_law_1656 ?_
  refine e_sld F hX hb hNL (by omega) (by omega) dL_law_1657 ?_
  refine e_aload_n F dL_law_1658 rfl ?_
  refine e_dom (fun hd0 => ?_)
  refine e_callSX F hN u_L_total (by rfl) (w_total hC (eI_rg _) (eI_rg _) hO (by omega)) w_ml_RL_253 dL_law_1659 (by rfl) (Nat.le_of_ble_eq_true rfl) (by decide) (by omega) (fun _ _ _ h _ => False.elim h) (fun r1 w1 n1 h1 hn1 => ?_)
  obtain ⟨c1, D1, z1, rfl, hC1, hF1, hO1, hs1⟩ := wc1 hC hO h1
  have hM1 := hM.lf hd0 hO hxy hyo hF1
  refine e_istore F dL_law_1662 (by decide) ?_
  refine e_aload_n F dL_law_1664 rfl ?_
  refine e_aload_n F dL_law_1665 rfl ?_
  refine e_iload F dL_law_1666 rfl ?_
  refine e_iconst F dL_law_1668 ?_
  refine e_iadd F dL_law_1669 ?_
  refine e_sld F hX hb hNL (by omega) (by omega) dL_law_1670 ?_
  refine e_aload_n F dL_law_1671 rfl ?_
  refine e_iload F dL_law_1672 rfl ?_
  refine e_iconst F dL_law_1674 ?_
  refine e_iadd F dL_law_1675 ?_
  refine e_sld F hX hb hNL (by omega) (by omega) dL_law_1676 ?_
  refine e_dom (fun hd1 => ?_)
  refine e_callVV F u_X5_total (by rfl) (c_X5_total hM1 (eI_rg _) (eI_rg _)) hM1.1 rfl rfl w_ml_RL_255 dL_law_1677 (by rfl) (Nat.le_of_ble_eq_true rfl) (by decide) (by omega) (fun _ _ _ h _ => False.elim h) (fun r2 w2 n2 h2 hn2 => ?_)
  obtain ⟨V2, t2, R2, rfl, hf2, hM2, hs2⟩ := mc2 h2
  have hS2 : SS wh D1 R2 := by
    rcases hs1 with ⟨p1, p2, p6, p8⟩ | ⟨p1, p2, p8⟩ | ⟨p1, p2, p8⟩
    · rcases hs2 with ⟨p3, p4, p9⟩ | ⟨p3, p4, p9⟩ | ⟨p3, p4, p7, p9⟩
      · exfalso; first | exact p1.elim | omega
      · exfalso; first | exact p1.elim | omega
      · rw [p8, p9]; exact hS
    · rcases hs2 with ⟨p3, p4, p9⟩ | ⟨p3, p4, p9⟩ | ⟨p3, p4, p7, p9⟩
      · rw [p8, p9]; exact hS
      · exfalso; first | exact p1.elim | omega
      · exfalso; first | exact p1.elim | omega
    · rcases hs2 with ⟨p3, p4, p9⟩ | ⟨p3, p4, p9⟩ | ⟨p3, p4, p7, p9⟩
      · exfalso; first | exact p1.elim | omega
      · rw [p8, p9]; exact hS
      · exfalso; first | exact p1.elim | omega
  have hC2 := hC1.fm hd1 hM1 hxy hf2
  have hO2 := (hf2 o (hd1 o _ hO1) (Or.inr hyo)).trans hO1
  refine e_istore F dL_law_1680 (by decide) ?_
  refine e_goto F 2052 dL_law_1682 (by decide) ?_
  exact e_go (e_wd (by omega) (kk _ _ _ _ ⟨_, _, _, _, _, hC2, hM2, hO2, hS2⟩ (Or.inl rfl))) (And.intro rfl (And.intro rfl (And.intro rfl (And.intro rfl (And.intro rfl (trivial))))))
set_option maxHeartbeats 4000000 in
set_option maxRecDepth 100000 in
theorem k_33 {K : e_K} {p : Program} {l : Launch} {e : Env} {s : State} {m : MethodId} {args : Array Value} {below : List Frame} {meth : Method} {c : Code} {b N x y o wh n k : Nat} {xs : Nat → Int32} {w : e_W} {i kn : Int} (F : e_F K p l s m args meth c cL_law 7 (some .boolean) RL) (hN : g_N s) (hX : va_X b N xs s s.heap) (hb : b < K.1) (hNL : N ≤ 448) (hxy : x + 27 ≤ y) (hyo : y + 4 ≤ o) (hi : 0 ≤ i) (hi2 : i + 7 ≤ (N : Int)) (hkn : 0 ≤ kn ∧ kn ≤ 448) (hk : k + 250 ≤ 17000) (hI : LI w x y o wh kn)
    (kk : ∀ (w' : e_W) (n' wh' : Nat) (kn' : Int), LI w' x y o wh' kn' → (kn' = kn ∨ kn' = kn + 1) → e_V K p l e 20 17000 s m args below meth c 7 LQ9 e_px0 2052 (LL b x y o i) [] w' n' (k + 250)) : e_V K p l e 20 17000 s m args below meth c 7 LQ9 e_px0 1685 (LL b x y o i) [] w n (k) := by
  obtain ⟨t0, D, R, z, sv, hC, hM, hO, hS⟩ := hI
  have hG : GG wh D R := GG_of hC hM hS
  refine e_aload_n F dL_law_1685 rfl ?_
  refine e_aload_n F dL_law_1686 rfl ?_
  refine e_iload F dL_law_1687 rfl ?_
  refine e_iconst F dL_law_1689 ?_
  refine e_iadd F dL_law_1690 ?_
  refine e_sld F hX hb hNL (by omega) (by omega) dL_law_1691 ?_
  refine e_aload_n F dL_law_1692 rfl ?_
  refine e_iload F dL_law_1693 rfl ?_
  refine e_iconst F dL_law_1695 ?_
  refine e_iadd F dL_law_1696 ?_
  refine e_sld F hX hb hNL (by omega) (by omega) dL_law_1697 ?_
  refine e_aload_n F dL_law_1698 rfl ?_
  refine e_dom (fun hd0 => ?_)
  refine e_callSX F hN u_L_seal (by rfl) (w_seal hC (eI_rg _) (eI_rg _) hO (by omega)) w_ml_RL_256 dL_law_1699 (by rfl) (Nat.le_of_ble_eq_true rfl) (by decide) (by omega) (fun _ _ _ h _ => False.elim h) (fun r1 w1 n1 h1 hn1 => ?_)
  obtain ⟨c1, D1, z1, rfl, hC1, hF1, hO1, hs1⟩ := wc1 hC hO h1
  have hM1 := hM.lf hd0 hO hxy hyo hF1
  refine e_istore F dL_law_1702 (by decide) ?_
  refine e_aload_n F dL_law_1704 rfl ?_
  refine e_aload_n F dL_law_1705 rfl ?_
  refine e_iload F dL_law_1706 rfl ?_
  refine e_iconst F dL_law_1708 ?_
  refine e_iadd F dL_law_1709 ?_
  refine e_sld F hX hb hNL (by omega) (by omega) dL_law_1710 ?_
  refine e_aload_n F dL_law_1711 rfl ?_
  refine e_iload F dL_law_1712 rfl ?_
  refine e_iconst F dL_law_1714 ?_
  refine e_iadd F dL_law_1715 ?_
  refine e_sld F hX hb hNL (by omega) (by omega) dL_law_1716 ?_
  refine e_dom (fun hd1 => ?_)
  refine e_callVV F u_X5_seal (by rfl) (c_X5_seal hM1 (eI_rg _) (eI_rg _)) hM1.1 rfl rfl w_ml_RL_258 dL_law_1717 (by rfl) (Nat.le_of_ble_eq_true rfl) (by decide) (by omega) (fun _ _ _ h _ => False.elim h) (fun r2 w2 n2 h2 hn2 => ?_)
  obtain ⟨V2, t2, R2, rfl, hf2, hM2, hs2⟩ := mc2 h2
  have hS2 : SS wh D1 R2 := by
    rcases hs1 with ⟨p1, p2, p6, p8⟩ | ⟨p1, p2, p8⟩ | ⟨p1, p2, p8⟩
    · rcases hs2 with ⟨p3, p4, p9⟩ | ⟨p3, p4, p9⟩ | ⟨p3, p4, p7, p9⟩
      · exfalso; first | exact p1.elim | omega
      · exfalso; first | exact p1.elim | omega
      · rw [p8, p9]; exact hS
    · rcases hs2 with ⟨p3, p4, p9⟩ | ⟨p3, p4, p9⟩ | ⟨p3, p4, p7, p9⟩
      · rw [p8, p9]; exact hS
      · exfalso; first | exact p1.elim | omega
      · exfalso; first | exact p1.elim | omega
    · rcases hs2 with ⟨p3, p4, p9⟩ | ⟨p3, p4, p9⟩ | ⟨p3, p4, p7, p9⟩
      · exfalso; first | exact p1.elim | omega
      · rw [p8, p9]; exact hS
      · exfalso; first | exact p1.elim | omega
  have hC2 := hC1.fm hd1 hM1 hxy hf2
  have hO2 := (hf2 o (hd1 o _ hO1) (Or.inr hyo)).trans hO1
  refine e_istore F dL_law_1720 (by decide) ?_
  refine e_goto F 2052 dL_law_1722 (by decide) ?_
  exact e_go (e_wd (by omega) (kk _ _ _ _ ⟨_, _, _, _, _, hC2, hM2, hO2, hS2⟩ (Or.inl rfl))) (And.intro rfl (And.intro rfl (And.intro rfl (And.intro rfl (And.intro rfl (trivial))))))
set_option maxHeartbeats 4000000 in
set_option maxRecDepth 100000 in
theorem k_34 {K : e_K} {p : Program} {l : Launch} {e : Env} {s : State} {m : MethodId} {args : Array Value} {below : List Frame} {meth : Method} {c : Code} {b N x y o wh n k : Nat} {xs : Nat → Int32} {w : e_W} {i kn : Int} (F : e_F K p l s m args meth c cL_law 7 (some .boolean) RL) (hN : g_N s) (hX : va_X b N xs s s.heap) (hb : b < K.1) (hNL : N ≤ 448) (hxy : x + 27 ≤ y) (hyo : y + 4 ≤ o) (hi : 0 ≤ i) (hi2 : i + 7 ≤ (N : Int)) (hkn : 0 ≤ kn ∧ kn ≤ 448) (hk : k + 250 ≤ 17000) (hI : LI w x y o wh kn)
    (kk : ∀ (w' : e_W) (n' wh' : Nat) (kn' : Int), LI w' x y o wh' kn' → (kn' = kn ∨ kn' = kn + 1) → e_V K p l e 20 17000 s m args below meth c 7 LQ9 e_px0 2052 (LL b x y o i) [] w' n' (k + 250)) : e_V K p l e 20 17000 s m args below meth c 7 LQ9 e_px0 1725 (LL b x y o i) [] w n (k) := by
  obtain ⟨t0, D, R, z, sv, hC, hM, hO, hS⟩ := hI
  have hG : GG wh D R := GG_of hC hM hS
  refine e_aload_n F dL_law_1725 rfl ?_
  refine e_aload_n F dL_law_1726 rfl ?_
  refine e_iload F dL_law_1727 rfl ?_
  refine e_iconst F dL_law_1729 ?_
  refine e_iadd F dL_law_1730 ?_
  refine e_sld F hX hb hNL (by omega) (by omega) dL_law_1731 ?_
  refine e_aload_n F dL_law_1732 rfl ?_
  refine e_iload F dL_law_1733 rfl ?_
  refine e_iconst F dL_law_1735 ?_
  refine e_iadd F dL_law_1736 ?_
  refine e_sld F hX hb hNL (by omega) (by omega) dL_law_1737 ?_
  refine e_aload_n F dL_law_1738 rfl ?_
  refine e_dom (fun hd0 => ?_)
  refine e_callSX F hN u_L_fits (by rfl) (w_fits hC (eI_rg _) (eI_rg _) hO (by omega)) w_ml_RL_259 dL_law_1739 (by rfl) (Nat.le_of_ble_eq_true rfl) (by decide) (by omega) (fun _ _ _ h _ => False.elim h) (fun r1 w1 n1 h1 hn1 => ?_)
  obtain ⟨c1, D1, z1, rfl, hC1, hF1, hO1, hs1⟩ := wc1 hC hO h1
  have hM1 := hM.lf hd0 hO hxy hyo hF1
  refine e_istore F dL_law_1742 (by decide) ?_
  refine e_aload_n F dL_law_1744 rfl ?_
  refine e_aload_n F dL_law_1745 rfl ?_
  refine e_iload F dL_law_1746 rfl ?_
  refine e_iconst F dL_law_1748 ?_
  refine e_iadd F dL_law_1749 ?_
  refine e_sld F hX hb hNL (by omega) (by omega) dL_law_1750 ?_
  refine e_aload_n F dL_law_1751 rfl ?_
  refine e_iload F dL_law_1752 rfl ?_
  refine e_iconst F dL_law_1754 ?_
  refine e_iadd F dL_law_1755 ?_
  refine e_sld F hX hb hNL (by omega) (by omega) dL_law_1756 ?_
  refine e_dom (fun hd1 => ?_)
  refine e_callVV F u_X5_fits (by rfl) (c_X5_fits hM1 (eI_rg _) (eI_rg _)) hM1.1 rfl rfl w_ml_RL_261 dL_law_1757 (by rfl) (Nat.le_of_ble_eq_true rfl) (by decide) (by omega) (fun _ _ _ h _ => False.elim h) (fun r2 w2 n2 h2 hn2 => ?_)
  obtain ⟨V2, t2, R2, rfl, hf2, hM2, hs2⟩ := mc1 h2
  have hqq : t2 = c1 ∧ (c1 = 0 → z1 = LV V2) ∧ SS wh D1 R2 := by
    rcases hs1 with ⟨p1, p2, p6, p8⟩ | ⟨p1, p2, p8⟩ | ⟨p1, p2, p8⟩
    · rcases hs2 with ⟨p3, p4, p9⟩ | ⟨p3, p4, p7, p9⟩
      · exfalso; first | exact p1.elim | omega
      · rw [p2, p4, p6, p7, p8, p9]; exact ⟨rfl, fun _ => (congrArg LV (y_fits hG p1)), hS⟩
    · rcases hs2 with ⟨p3, p4, p9⟩ | ⟨p3, p4, p7, p9⟩
      · rw [p2, p4, p8, p9]; exact ⟨rfl, fun q => absurd q (by decide), hS⟩
      · exfalso; first | exact p1.elim | omega
    · rcases hs2 with ⟨p3, p4, p9⟩ | ⟨p3, p4, p7, p9⟩
      · exfalso; first | exact p1.elim | omega
      · exfalso; first | exact p1.elim | omega
  have hkt : t2 = c1 := hqq.1
  have hzz : c1 = 0 → z1 = LV V2 := hqq.2.1
  have hS2 : SS wh D1 R2 := hqq.2.2
  have hc1 : c1 = 0 ∨ c1 = 1 ∨ c1 = 2 := by rcases hs1 with ⟨-, q, -⟩ | ⟨-, q, -⟩ | ⟨-, q, -⟩ <;> omega
  have hC2 := hC1.fm hd1 hM1 hxy hf2
  have hO2 := (hf2 o (hd1 o _ hO1) (Or.inr hyo)).trans hO1
  refine e_istore F dL_law_1760 (by decide) ?_
  refine e_aload_n F dL_law_1762 rfl ?_
  refine e_callVV F u_X5_thrown (by rfl) (c_X5_thrown hM2.1) hM2.1 rfl rfl w_ml_RL_262 dL_law_1763 (by rfl) (Nat.le_of_ble_eq_true rfl) (by decide) (by omega) (fun _ _ _ h _ => False.elim h) (fun r3 w3 n3 h3 hn3 => ?_)
  obtain ⟨rfl, rfl, rfl⟩ := h3
  refine e_iload F dL_law_1766 rfl ?_
  refine e_icmp_eq F 1773 dL_law_1768 (by decide) (by constructor <;> omega) (by constructor <;> omega) (fun c_1768 => ?_) (fun c_1768 => absurd hkt c_1768)
  refine e_iload F dL_law_1773 rfl ?_
  refine e_if_ne F 1791 dL_law_1775 (by decide) (by constructor <;> omega) (fun c_1775 => ?_) (fun c_1775 => ?_)
  · refine e_goto F 2052 dL_law_1791 (by decide) ?_
    exact e_go (e_wd (by omega) (kk _ _ _ _ ⟨_, _, _, _, _, hC2, hM2, hO2, hS2⟩ (Or.inl rfl))) (And.intro rfl (And.intro rfl (And.intro rfl (And.intro rfl (And.intro rfl (trivial))))))
  have hzz := hzz c_1775
  subst hzz
  refine e_aload_n F dL_law_1778 rfl ?_
  refine e_getN (ci := 4) (fi := 0) (q := (RX4, TX4, 2)) F hO2 rfl (by decide) w_fn_RL_13 (by rfl) dL_law_1779 ?_
  refine e_iload F dL_law_1782 rfl ?_
  refine e_i2lx F dL_law_1784 ?_
  refine e_lcmp F dL_law_1785 (LV_r8 _) (LV_r8 _) ?_
  rw [e_cmp_self]
  refine e_if_eq F 1791 dL_law_1786 (by decide) (by decide) (fun c_1786 => ?_) (fun c_1786 => absurd rfl c_1786)
  refine e_goto F 2052 dL_law_1791 (by decide) ?_
  exact e_go (e_wd (by omega) (kk _ _ _ _ ⟨_, _, _, _, _, hC2, hM2, hO2, hS2⟩ (Or.inl rfl))) (And.intro rfl (And.intro rfl (And.intro rfl (And.intro rfl (And.intro rfl (trivial))))))
set_option maxHeartbeats 4000000 in
set_option maxRecDepth 100000 in
theorem k_35 {K : e_K} {p : Program} {l : Launch} {e : Env} {s : State} {m : MethodId} {args : Array Value} {below : List Frame} {meth : Method} {c : Code} {b N x y o wh n k : Nat} {xs : Nat → Int32} {w : e_W} {i kn : Int} (F : e_F K p l s m args meth c cL_law 7 (some .boolean) RL) (hN : g_N s) (hX : va_X b N xs s s.heap) (hb : b < K.1) (hNL : N ≤ 448) (hxy : x + 27 ≤ y) (hyo : y + 4 ≤ o) (hi : 0 ≤ i) (hi2 : i + 7 ≤ (N : Int)) (hkn : 0 ≤ kn ∧ kn ≤ 448) (hk : k + 250 ≤ 17000) (hI : LI w x y o wh kn)
    (kk : ∀ (w' : e_W) (n' wh' : Nat) (kn' : Int), LI w' x y o wh' kn' → (kn' = kn ∨ kn' = kn + 1) → e_V K p l e 20 17000 s m args below meth c 7 LQ9 e_px0 2052 (LL b x y o i) [] w' n' (k + 250)) : e_V K p l e 20 17000 s m args below meth c 7 LQ9 e_px0 1794 (LL b x y o i) [] w n (k) := by
  obtain ⟨t0, D, R, z, sv, hC, hM, hO, hS⟩ := hI
  have hG : GG wh D R := GG_of hC hM hS
  refine e_aload_n F dL_law_1794 rfl ?_
  refine e_aload_n F dL_law_1795 rfl ?_
  refine e_iload F dL_law_1796 rfl ?_
  refine e_iconst F dL_law_1798 ?_
  refine e_iadd F dL_law_1799 ?_
  refine e_sld F hX hb hNL (by omega) (by omega) dL_law_1800 ?_
  refine e_aload_n F dL_law_1801 rfl ?_
  refine e_iload F dL_law_1802 rfl ?_
  refine e_iconst F dL_law_1804 ?_
  refine e_iadd F dL_law_1805 ?_
  refine e_sld F hX hb hNL (by omega) (by omega) dL_law_1806 ?_
  refine e_aload_n F dL_law_1807 rfl ?_
  refine e_iload F dL_law_1808 rfl ?_
  refine e_iconst F dL_law_1810 ?_
  refine e_iadd F dL_law_1811 ?_
  refine e_sld F hX hb hNL (by omega) (by omega) dL_law_1812 ?_
  refine e_aload_n F dL_law_1813 rfl ?_
  refine e_dom (fun hd0 => ?_)
  refine e_callSX F hN u_L_order (by rfl) (w_order hC (eI_rg _) (eI_rg _) (eI_rg _) hO (by omega)) w_ml_RL_265 dL_law_1814 (by rfl) (Nat.le_of_ble_eq_true rfl) (by decide) (by omega) (fun _ _ _ h _ => False.elim h) (fun r1 w1 n1 h1 hn1 => ?_)
  obtain ⟨c1, D1, z1, rfl, hC1, hF1, hO1, hs1⟩ := wc1 hC hO h1
  have hM1 := hM.lf hd0 hO hxy hyo hF1
  refine e_istore F dL_law_1817 (by decide) ?_
  refine e_aload_n F dL_law_1819 rfl ?_
  refine e_aload_n F dL_law_1820 rfl ?_
  refine e_iload F dL_law_1821 rfl ?_
  refine e_iconst F dL_law_1823 ?_
  refine e_iadd F dL_law_1824 ?_
  refine e_sld F hX hb hNL (by omega) (by omega) dL_law_1825 ?_
  refine e_aload_n F dL_law_1826 rfl ?_
  refine e_iload F dL_law_1827 rfl ?_
  refine e_iconst F dL_law_1829 ?_
  refine e_iadd F dL_law_1830 ?_
  refine e_sld F hX hb hNL (by omega) (by omega) dL_law_1831 ?_
  refine e_aload_n F dL_law_1832 rfl ?_
  refine e_iload F dL_law_1833 rfl ?_
  refine e_iconst F dL_law_1835 ?_
  refine e_iadd F dL_law_1836 ?_
  refine e_sld F hX hb hNL (by omega) (by omega) dL_law_1837 ?_
  refine e_dom (fun hd1 => ?_)
  refine e_callVV F u_X5_order (by rfl) (c_X5_order hM1 (eI_rg _) (eI_rg _) (eI_rg _)) hM1.1 rfl rfl w_ml_RL_267 dL_law_1838 (by rfl) (Nat.le_of_ble_eq_true rfl) (by decide) (by omega) (fun _ _ _ h _ => False.elim h) (fun r2 w2 n2 h2 hn2 => ?_)
  obtain ⟨V2, t2, R2, rfl, hf2, hM2, hs2⟩ := mc1 h2
  have hS2 : SS wh D1 R2 := by
    rcases hs1 with ⟨p1, p2, p6, p8⟩ | ⟨p1, p2, p8⟩ | ⟨p1, p2, p8⟩
    · rcases hs2 with ⟨p3, p4, p9⟩ | ⟨p3, p4, p7, p9⟩
      · exfalso; first | exact p1.elim | omega
      · rw [p8, p9]; exact hS
    · rcases hs2 with ⟨p3, p4, p9⟩ | ⟨p3, p4, p7, p9⟩
      · rw [p8, p9]; exact hS
      · exfalso; first | exact p1.elim | omega
    · rcases hs2 with ⟨p3, p4, p9⟩ | ⟨p3, p4, p7, p9⟩
      · exfalso; first | exact p1.elim | omega
      · exfalso; first | exact p1.elim | omega
  have hC2 := hC1.fm hd1 hM1 hxy hf2
  have hO2 := (hf2 o (hd1 o _ hO1) (Or.inr hyo)).trans hO1
  refine e_istore F dL_law_1841 (by decide) ?_
  refine e_goto F 2052 dL_law_1843 (by decide) ?_
  exact e_go (e_wd (by omega) (kk _ _ _ _ ⟨_, _, _, _, _, hC2, hM2, hO2, hS2⟩ (Or.inl rfl))) (And.intro rfl (And.intro rfl (And.intro rfl (And.intro rfl (And.intro rfl (trivial))))))
set_option maxHeartbeats 4000000 in
set_option maxRecDepth 100000 in
theorem k_36 {K : e_K} {p : Program} {l : Launch} {e : Env} {s : State} {m : MethodId} {args : Array Value} {below : List Frame} {meth : Method} {c : Code} {b N x y o wh n k : Nat} {xs : Nat → Int32} {w : e_W} {i kn : Int} (F : e_F K p l s m args meth c cL_law 7 (some .boolean) RL) (hN : g_N s) (hX : va_X b N xs s s.heap) (hb : b < K.1) (hNL : N ≤ 448) (hxy : x + 27 ≤ y) (hyo : y + 4 ≤ o) (hi : 0 ≤ i) (hi2 : i + 7 ≤ (N : Int)) (hkn : 0 ≤ kn ∧ kn ≤ 448) (hk : k + 250 ≤ 17000) (hI : LI w x y o wh kn)
    (kk : ∀ (w' : e_W) (n' wh' : Nat) (kn' : Int), LI w' x y o wh' kn' → (kn' = kn ∨ kn' = kn + 1) → e_V K p l e 20 17000 s m args below meth c 7 LQ9 e_px0 2052 (LL b x y o i) [] w' n' (k + 250)) : e_V K p l e 20 17000 s m args below meth c 7 LQ9 e_px0 1846 (LL b x y o i) [] w n (k) := by
  obtain ⟨t0, D, R, z, sv, hC, hM, hO, hS⟩ := hI
  have hG : GG wh D R := GG_of hC hM hS
  refine e_aload_n F dL_law_1846 rfl ?_
  refine e_aload_n F dL_law_1847 rfl ?_
  refine e_iload F dL_law_1848 rfl ?_
  refine e_iconst F dL_law_1850 ?_
  refine e_iadd F dL_law_1851 ?_
  refine e_sld F hX hb hNL (by omega) (by omega) dL_law_1852 ?_
  refine e_aload_n F dL_law_1853 rfl ?_
  refine e_iload F dL_law_1854 rfl ?_
  refine e_iconst F dL_law_1856 ?_
  refine e_iadd F dL_law_1857 ?_
  refine e_sld F hX hb hNL (by omega) (by omega) dL_law_1858 ?_
  refine e_if_eq F 1866 dL_law_1859 (by decide) (eI_rg _) (fun c_1859 => ?_) (fun c_1859 => ?_)
  · refine e_iconst F dL_law_1866 ?_
    refine e_aload_n F dL_law_1867 rfl ?_
    refine e_dom (fun hd0 => ?_)
    refine e_callSX F hN u_L_most (by rfl) (w_most hC (eI_rg _) (Or.inl rfl) hO (by omega)) w_ml_RL_268 dL_law_1868 (by rfl) (Nat.le_of_ble_eq_true rfl) (by decide) (by omega) (fun _ _ _ h _ => False.elim h) (fun r1 w1 n1 h1 hn1 => ?_)
    obtain ⟨c1, D1, z1, rfl, hC1, hF1, hO1, hs1⟩ := wc1 hC hO h1
    have hM1 := hM.lf hd0 hO hxy hyo hF1
    refine e_istore F dL_law_1871 (by decide) ?_
    refine e_aload_n F dL_law_1873 rfl ?_
    refine e_aload_n F dL_law_1874 rfl ?_
    refine e_iload F dL_law_1875 rfl ?_
    refine e_iconst F dL_law_1877 ?_
    refine e_iadd F dL_law_1878 ?_
    refine e_sld F hX hb hNL (by omega) (by omega) dL_law_1879 ?_
    refine e_aload_n F dL_law_1880 rfl ?_
    refine e_iload F dL_law_1881 rfl ?_
    refine e_iconst F dL_law_1883 ?_
    refine e_iadd F dL_law_1884 ?_
    refine e_sld F hX hb hNL (by omega) (by omega) dL_law_1885 ?_
    refine e_if_eq F 1893 dL_law_1886 (by decide) (eI_rg _) (fun c_1886 => ?_) (fun c_1886 => ?_)
    · refine e_iconst F dL_law_1893 ?_
      refine e_dom (fun hd1 => ?_)
      refine e_callVV F u_X5_most (by rfl) (c_X5_most hM1 (eI_rg _) (Or.inl rfl)) hM1.1 rfl rfl w_ml_RL_271 dL_law_1894 (by rfl) (Nat.le_of_ble_eq_true rfl) (by decide) (by omega) (fun _ _ _ h _ => False.elim h) (fun r2 w2 n2 h2 hn2 => ?_)
      obtain ⟨V2, t2, R2, rfl, hf2, hM2, hs2⟩ := mc1 h2
      have hS2 : SS wh D1 R2 := by
        rcases hs1 with ⟨p1, p2, p6, p8⟩ | ⟨p1, p2, p8⟩ | ⟨p1, p2, p8⟩
        · rcases hs2 with ⟨p3, p4, p9⟩ | ⟨p3, p4, p7, p9⟩
          · exfalso; first | exact p1.elim | omega
          · rw [p8, p9]; exact hS
        · rcases hs2 with ⟨p3, p4, p9⟩ | ⟨p3, p4, p7, p9⟩
          · rw [p8, p9]; exact hS
          · exfalso; first | exact p1.elim | omega
        · rcases hs2 with ⟨p3, p4, p9⟩ | ⟨p3, p4, p7, p9⟩
          · exfalso; first | exact p1.elim | omega
          · exfalso; first | exact p1.elim | omega
      have hC2 := hC1.fm hd1 hM1 hxy hf2
      have hO2 := (hf2 o (hd1 o _ hO1) (Or.inr hyo)).trans hO1
      refine e_istore F dL_law_1897 (by decide) ?_
      refine e_goto F 2052 dL_law_1899 (by decide) ?_
      exact e_go (e_wd (by omega) (kk _ _ _ _ ⟨_, _, _, _, _, hC2, hM2, hO2, hS2⟩ (Or.inl rfl))) (And.intro rfl (And.intro rfl (And.intro rfl (And.intro rfl (And.intro rfl (trivial))))))
    · exact absurd c_1859 c_1886
  · refine e_iconst F dL_law_1862 ?_
    refine e_goto F 1867 dL_law_1863 (by decide) ?_
    refine e_aload_n F dL_law_1867 rfl ?_
    refine e_dom (fun hd0 => ?_)
    refine e_callSX F hN u_L_most (by rfl) (w_most hC (eI_rg _) (Or.inr rfl) hO (by omega)) w_ml_RL_268 dL_law_1868 (by rfl) (Nat.le_of_ble_eq_true rfl) (by decide) (by omega) (fun _ _ _ h _ => False.elim h) (fun r1 w1 n1 h1 hn1 => ?_)
    obtain ⟨c1, D1, z1, rfl, hC1, hF1, hO1, hs1⟩ := wc1 hC hO h1
    have hM1 := hM.lf hd0 hO hxy hyo hF1
    refine e_istore F dL_law_1871 (by decide) ?_
    refine e_aload_n F dL_law_1873 rfl ?_
    refine e_aload_n F dL_law_1874 rfl ?_
    refine e_iload F dL_law_1875 rfl ?_
    refine e_iconst F dL_law_1877 ?_
    refine e_iadd F dL_law_1878 ?_
    refine e_sld F hX hb hNL (by omega) (by omega) dL_law_1879 ?_
    refine e_aload_n F dL_law_1880 rfl ?_
    refine e_iload F dL_law_1881 rfl ?_
    refine e_iconst F dL_law_1883 ?_
    refine e_iadd F dL_law_1884 ?_
    refine e_sld F hX hb hNL (by omega) (by omega) dL_law_1885 ?_
    refine e_if_eq F 1893 dL_law_1886 (by decide) (eI_rg _) (fun c_1886 => ?_) (fun c_1886 => ?_)
    · exact absurd c_1886 c_1859
    · refine e_iconst F dL_law_1889 ?_
      refine e_goto F 1894 dL_law_1890 (by decide) ?_
      refine e_dom (fun hd1 => ?_)
      refine e_callVV F u_X5_most (by rfl) (c_X5_most hM1 (eI_rg _) (Or.inr rfl)) hM1.1 rfl rfl w_ml_RL_271 dL_law_1894 (by rfl) (Nat.le_of_ble_eq_true rfl) (by decide) (by omega) (fun _ _ _ h _ => False.elim h) (fun r2 w2 n2 h2 hn2 => ?_)
      obtain ⟨V2, t2, R2, rfl, hf2, hM2, hs2⟩ := mc1 h2
      have hS2 : SS wh D1 R2 := by
        rcases hs1 with ⟨p1, p2, p6, p8⟩ | ⟨p1, p2, p8⟩ | ⟨p1, p2, p8⟩
        · rcases hs2 with ⟨p3, p4, p9⟩ | ⟨p3, p4, p7, p9⟩
          · exfalso; first | exact p1.elim | omega
          · rw [p8, p9]; exact hS
        · rcases hs2 with ⟨p3, p4, p9⟩ | ⟨p3, p4, p7, p9⟩
          · rw [p8, p9]; exact hS
          · exfalso; first | exact p1.elim | omega
        · rcases hs2 with ⟨p3, p4, p9⟩ | ⟨p3, p4, p7, p9⟩
          · exfalso; first | exact p1.elim | omega
          · exfalso; first | exact p1.elim | omega
      have hC2 := hC1.fm hd1 hM1 hxy hf2
      have hO2 := (hf2 o (hd1 o _ hO1) (Or.inr hyo)).trans hO1
      refine e_istore F dL_law_1897 (by decide) ?_
      refine e_goto F 2052 dL_law_1899 (by decide) ?_
      exact e_go (e_wd (by omega) (kk _ _ _ _ ⟨_, _, _, _, _, hC2, hM2, hO2, hS2⟩ (Or.inl rfl))) (And.intro rfl (And.intro rfl (And.intro rfl (And.intro rfl (And.intro rfl (trivial))))))
set_option maxHeartbeats 4000000 in
set_option maxRecDepth 100000 in
theorem k_37 {K : e_K} {p : Program} {l : Launch} {e : Env} {s : State} {m : MethodId} {args : Array Value} {below : List Frame} {meth : Method} {c : Code} {b N x y o wh n k : Nat} {xs : Nat → Int32} {w : e_W} {i kn : Int} (F : e_F K p l s m args meth c cL_law 7 (some .boolean) RL) (hN : g_N s) (hX : va_X b N xs s s.heap) (hb : b < K.1) (hNL : N ≤ 448) (hxy : x + 27 ≤ y) (hyo : y + 4 ≤ o) (hi : 0 ≤ i) (hi2 : i + 7 ≤ (N : Int)) (hkn : 0 ≤ kn ∧ kn ≤ 448) (hk : k + 250 ≤ 17000) (hI : LI w x y o wh kn)
    (kk : ∀ (w' : e_W) (n' wh' : Nat) (kn' : Int), LI w' x y o wh' kn' → (kn' = kn ∨ kn' = kn + 1) → e_V K p l e 20 17000 s m args below meth c 7 LQ9 e_px0 2052 (LL b x y o i) [] w' n' (k + 250)) : e_V K p l e 20 17000 s m args below meth c 7 LQ9 e_px0 1902 (LL b x y o i) [] w n (k) := by
  obtain ⟨t0, D, R, z, sv, hC, hM, hO, hS⟩ := hI
  have hG : GG wh D R := GG_of hC hM hS
  refine e_aload_n F dL_law_1902 rfl ?_
  refine e_aload_n F dL_law_1903 rfl ?_
  refine e_iload F dL_law_1904 rfl ?_
  refine e_iconst F dL_law_1906 ?_
  refine e_iadd F dL_law_1907 ?_
  refine e_sld F hX hb hNL (by omega) (by omega) dL_law_1908 ?_
  refine e_aload_n F dL_law_1909 rfl ?_
  refine e_dom (fun hd0 => ?_)
  refine e_callSX F hN u_L_text (by rfl) (w_text hC (eI_rg _) hO (by omega)) w_ml_RL_272 dL_law_1910 (by rfl) (Nat.le_of_ble_eq_true rfl) (by decide) (by omega) (fun _ _ _ h _ => False.elim h) (fun r1 w1 n1 h1 hn1 => ?_)
  obtain ⟨c1, z1, sv1, rfl, hC1, hF1, hO1⟩ := wd2 hC hO h1
  have hM1 := hM.lf hd0 hO hxy hyo hF1
  refine e_istore F dL_law_1913 (by decide) ?_
  refine e_aload_n F dL_law_1915 rfl ?_
  refine e_aload_n F dL_law_1916 rfl ?_
  refine e_iload F dL_law_1917 rfl ?_
  refine e_iconst F dL_law_1919 ?_
  refine e_iadd F dL_law_1920 ?_
  refine e_sld F hX hb hNL (by omega) (by omega) dL_law_1921 ?_
  refine e_dom (fun hd1 => ?_)
  refine e_callVV F u_X5_text (by rfl) (c_X5_text hM1 (eI_rg _)) hM1.1 rfl rfl w_ml_RL_274 dL_law_1922 (by rfl) (Nat.le_of_ble_eq_true rfl) (by decide) (by omega) (fun _ _ _ h _ => False.elim h) (fun r2 w2 n2 h2 hn2 => ?_)
  obtain ⟨V2, t2, rfl, hf2, hM2⟩ := md3 h2
  have hS2 : SS wh D R := hS
  have hC2 := hC1.fm hd1 hM1 hxy hf2
  have hO2 := (hf2 o (hd1 o _ hO1) (Or.inr hyo)).trans hO1
  refine e_astore F dL_law_1925 (by decide) ?_
  refine e_goto F 2052 dL_law_1927 (by decide) ?_
  exact e_go (e_wd (by omega) (kk _ _ _ _ ⟨_, _, _, _, _, hC2, hM2, hO2, hS2⟩ (Or.inl rfl))) (And.intro rfl (And.intro rfl (And.intro rfl (And.intro rfl (And.intro rfl (trivial))))))
set_option maxHeartbeats 4000000 in
set_option maxRecDepth 100000 in
theorem k_38 {K : e_K} {p : Program} {l : Launch} {e : Env} {s : State} {m : MethodId} {args : Array Value} {below : List Frame} {meth : Method} {c : Code} {b N x y o wh n k : Nat} {xs : Nat → Int32} {w : e_W} {i kn : Int} (F : e_F K p l s m args meth c cL_law 7 (some .boolean) RL) (hN : g_N s) (hX : va_X b N xs s s.heap) (hb : b < K.1) (hNL : N ≤ 448) (hxy : x + 27 ≤ y) (hyo : y + 4 ≤ o) (hi : 0 ≤ i) (hi2 : i + 7 ≤ (N : Int)) (hkn : 0 ≤ kn ∧ kn ≤ 448) (hk : k + 250 ≤ 17000) (hI : LI w x y o wh kn)
    (kk : ∀ (w' : e_W) (n' wh' : Nat) (kn' : Int), LI w' x y o wh' kn' → (kn' = kn ∨ kn' = kn + 1) → e_V K p l e 20 17000 s m args below meth c 7 LQ9 e_px0 2052 (LL b x y o i) [] w' n' (k + 250)) : e_V K p l e 20 17000 s m args below meth c 7 LQ9 e_px0 1930 (LL b x y o i) [] w n (k) := by
  obtain ⟨t0, D, R, z, sv, hC, hM, hO, hS⟩ := hI
  have hG : GG wh D R := GG_of hC hM hS
  refine e_aload_n F dL_law_1930 rfl ?_
  refine e_aload_n F dL_law_1931 rfl ?_
  refine e_iload F dL_law_1932 rfl ?_
  refine e_iconst F dL_law_1934 ?_
  refine e_iadd F dL_law_1935 ?_
  refine e_sld F hX hb hNL (by omega) (by omega) dL_law_1936 ?_
  refine e_aload_n F dL_law_1937 rfl ?_
  refine e_dom (fun hd0 => ?_)
  refine e_callSX F hN u_L_seals (by rfl) (w_seals hC (eI_rg _) hO (by omega)) w_ml_RL_275 dL_law_1938 (by rfl) (Nat.le_of_ble_eq_true rfl) (by decide) (by omega) (fun _ _ _ h _ => False.elim h) (fun r1 w1 n1 h1 hn1 => ?_)
  obtain ⟨c1, z1, sv1, rfl, hC1, hF1, hO1⟩ := wd2 hC hO h1
  have hM1 := hM.lf hd0 hO hxy hyo hF1
  refine e_istore F dL_law_1941 (by decide) ?_
  refine e_aload_n F dL_law_1943 rfl ?_
  refine e_aload_n F dL_law_1944 rfl ?_
  refine e_iload F dL_law_1945 rfl ?_
  refine e_iconst F dL_law_1947 ?_
  refine e_iadd F dL_law_1948 ?_
  refine e_sld F hX hb hNL (by omega) (by omega) dL_law_1949 ?_
  refine e_dom (fun hd1 => ?_)
  refine e_callVV F u_X5_seals (by rfl) (c_X5_seals hM1 (eI_rg _)) hM1.1 rfl rfl w_ml_RL_277 dL_law_1950 (by rfl) (Nat.le_of_ble_eq_true rfl) (by decide) (by omega) (fun _ _ _ h _ => False.elim h) (fun r2 w2 n2 h2 hn2 => ?_)
  obtain ⟨V2, t2, rfl, hf2, hM2⟩ := md3 h2
  have hS2 : SS wh D R := hS
  have hC2 := hC1.fm hd1 hM1 hxy hf2
  have hO2 := (hf2 o (hd1 o _ hO1) (Or.inr hyo)).trans hO1
  refine e_astore F dL_law_1953 (by decide) ?_
  refine e_goto F 2052 dL_law_1955 (by decide) ?_
  exact e_go (e_wd (by omega) (kk _ _ _ _ ⟨_, _, _, _, _, hC2, hM2, hO2, hS2⟩ (Or.inl rfl))) (And.intro rfl (And.intro rfl (And.intro rfl (And.intro rfl (And.intro rfl (trivial))))))
set_option maxHeartbeats 4000000 in
set_option maxRecDepth 100000 in
theorem k_39 {K : e_K} {p : Program} {l : Launch} {e : Env} {s : State} {m : MethodId} {args : Array Value} {below : List Frame} {meth : Method} {c : Code} {b N x y o wh n k : Nat} {xs : Nat → Int32} {w : e_W} {i kn : Int} (F : e_F K p l s m args meth c cL_law 7 (some .boolean) RL) (hN : g_N s) (hX : va_X b N xs s s.heap) (hb : b < K.1) (hNL : N ≤ 448) (hxy : x + 27 ≤ y) (hyo : y + 4 ≤ o) (hi : 0 ≤ i) (hi2 : i + 7 ≤ (N : Int)) (hkn : 0 ≤ kn ∧ kn ≤ 448) (hk : k + 250 ≤ 17000) (hI : LI w x y o wh kn)
    (kk : ∀ (w' : e_W) (n' wh' : Nat) (kn' : Int), LI w' x y o wh' kn' → (kn' = kn ∨ kn' = kn + 1) → e_V K p l e 20 17000 s m args below meth c 7 LQ9 e_px0 2052 (LL b x y o i) [] w' n' (k + 250)) : e_V K p l e 20 17000 s m args below meth c 7 LQ9 e_px0 1958 (LL b x y o i) [] w n (k) := by
  obtain ⟨t0, D, R, z, sv, hC, hM, hO, hS⟩ := hI
  have hG : GG wh D R := GG_of hC hM hS
  refine e_aload_n F dL_law_1958 rfl ?_
  refine e_aload_n F dL_law_1959 rfl ?_
  refine e_iload F dL_law_1960 rfl ?_
  refine e_iconst F dL_law_1962 ?_
  refine e_iadd F dL_law_1963 ?_
  refine e_sld F hX hb hNL (by omega) (by omega) dL_law_1964 ?_
  refine e_aload_n F dL_law_1965 rfl ?_
  refine e_iload F dL_law_1966 rfl ?_
  refine e_iconst F dL_law_1968 ?_
  refine e_iadd F dL_law_1969 ?_
  refine e_sld F hX hb hNL (by omega) (by omega) dL_law_1970 ?_
  refine e_aload_n F dL_law_1971 rfl ?_
  refine e_dom (fun hd0 => ?_)
  refine e_callSX F hN u_L_isSame (by rfl) (w_isSame hC (eI_rg _) (eI_rg _) hO (by omega)) w_ml_RL_278 dL_law_1972 (by rfl) (Nat.le_of_ble_eq_true rfl) (by decide) (by omega) (fun _ _ _ h _ => False.elim h) (fun r1 w1 n1 h1 hn1 => ?_)
  obtain ⟨c1, D1, z1, rfl, hC1, hF1, hO1, hs1⟩ := wc1 hC hO h1
  have hM1 := hM.lf hd0 hO hxy hyo hF1
  refine e_istore F dL_law_1975 (by decide) ?_
  refine e_aload_n F dL_law_1977 rfl ?_
  refine e_aload_n F dL_law_1978 rfl ?_
  refine e_iload F dL_law_1979 rfl ?_
  refine e_iconst F dL_law_1981 ?_
  refine e_iadd F dL_law_1982 ?_
  refine e_sld F hX hb hNL (by omega) (by omega) dL_law_1983 ?_
  refine e_aload_n F dL_law_1984 rfl ?_
  refine e_iload F dL_law_1985 rfl ?_
  refine e_iconst F dL_law_1987 ?_
  refine e_iadd F dL_law_1988 ?_
  refine e_sld F hX hb hNL (by omega) (by omega) dL_law_1989 ?_
  refine e_dom (fun hd1 => ?_)
  refine e_callVV F u_X5_isSame (by rfl) (c_X5_isSame hM1 (eI_rg _) (eI_rg _)) hM1.1 rfl rfl w_ml_RL_280 dL_law_1990 (by rfl) (Nat.le_of_ble_eq_true rfl) (by decide) (by omega) (fun _ _ _ h _ => False.elim h) (fun r2 w2 n2 h2 hn2 => ?_)
  obtain ⟨V2, t2, R2, rfl, hf2, hM2, hs2⟩ := mc1 h2
  have hS2 : SS wh D1 R2 := by
    rcases hs1 with ⟨p1, p2, p6, p8⟩ | ⟨p1, p2, p8⟩ | ⟨p1, p2, p8⟩
    · rcases hs2 with ⟨p3, p4, p9⟩ | ⟨p3, p4, p7, p9⟩
      · exfalso; first | exact p1.elim | omega
      · rw [p8, p9]; exact hS
    · rcases hs2 with ⟨p3, p4, p9⟩ | ⟨p3, p4, p7, p9⟩
      · rw [p8, p9]; exact hS
      · exfalso; first | exact p1.elim | omega
    · rcases hs2 with ⟨p3, p4, p9⟩ | ⟨p3, p4, p7, p9⟩
      · exfalso; first | exact p1.elim | omega
      · exfalso; first | exact p1.elim | omega
  have hC2 := hC1.fm hd1 hM1 hxy hf2
  have hO2 := (hf2 o (hd1 o _ hO1) (Or.inr hyo)).trans hO1
  refine e_istore F dL_law_1993 (by decide) ?_
  refine e_goto F 2052 dL_law_1995 (by decide) ?_
  exact e_go (e_wd (by omega) (kk _ _ _ _ ⟨_, _, _, _, _, hC2, hM2, hO2, hS2⟩ (Or.inl rfl))) (And.intro rfl (And.intro rfl (And.intro rfl (And.intro rfl (And.intro rfl (trivial))))))
set_option maxHeartbeats 4000000 in
set_option maxRecDepth 100000 in
theorem k_40 {K : e_K} {p : Program} {l : Launch} {e : Env} {s : State} {m : MethodId} {args : Array Value} {below : List Frame} {meth : Method} {c : Code} {b N x y o wh n k : Nat} {xs : Nat → Int32} {w : e_W} {i kn : Int} (F : e_F K p l s m args meth c cL_law 7 (some .boolean) RL) (hN : g_N s) (hX : va_X b N xs s s.heap) (hb : b < K.1) (hNL : N ≤ 448) (hxy : x + 27 ≤ y) (hyo : y + 4 ≤ o) (hi : 0 ≤ i) (hi2 : i + 7 ≤ (N : Int)) (hkn : 0 ≤ kn ∧ kn ≤ 448) (hk : k + 250 ≤ 17000) (hI : LI w x y o wh kn)
    (kk : ∀ (w' : e_W) (n' wh' : Nat) (kn' : Int), LI w' x y o wh' kn' → (kn' = kn ∨ kn' = kn + 1) → e_V K p l e 20 17000 s m args below meth c 7 LQ9 e_px0 2052 (LL b x y o i) [] w' n' (k + 250)) : e_V K p l e 20 17000 s m args below meth c 7 LQ9 e_px0 1998 (LL b x y o i) [] w n (k) := by
  obtain ⟨t0, D, R, z, sv, hC, hM, hO, hS⟩ := hI
  have hG : GG wh D R := GG_of hC hM hS
  refine e_aload_n F dL_law_1998 rfl ?_
  refine e_aload_n F dL_law_1999 rfl ?_
  refine e_iload F dL_law_2000 rfl ?_
  refine e_iconst F dL_law_2002 ?_
  refine e_iadd F dL_law_2003 ?_
  refine e_sld F hX hb hNL (by omega) (by omega) dL_law_2004 ?_
  refine e_aload_n F dL_law_2005 rfl ?_
  refine e_dom (fun hd0 => ?_)
  refine e_callSX F hN u_L_house (by rfl) (w_house hC (eI_rg _) hO (by omega)) w_ml_RL_281 dL_law_2006 (by rfl) (Nat.le_of_ble_eq_true rfl) (by decide) (by omega) (fun _ _ _ h _ => False.elim h) (fun r1 w1 n1 h1 hn1 => ?_)
  obtain ⟨c1, D1, z1, rfl, hC1, hF1, hO1, hs1⟩ := wc1 hC hO h1
  have hM1 := hM.lf hd0 hO hxy hyo hF1
  refine e_istore F dL_law_2009 (by decide) ?_
  refine e_aload_n F dL_law_2011 rfl ?_
  refine e_aload_n F dL_law_2012 rfl ?_
  refine e_iload F dL_law_2013 rfl ?_
  refine e_iconst F dL_law_2015 ?_
  refine e_iadd F dL_law_2016 ?_
  refine e_sld F hX hb hNL (by omega) (by omega) dL_law_2017 ?_
  refine e_dom (fun hd1 => ?_)
  refine e_callVV F u_X5_house (by rfl) (c_X5_house hM1 (eI_rg _)) hM1.1 rfl rfl w_ml_RL_283 dL_law_2018 (by rfl) (Nat.le_of_ble_eq_true rfl) (by decide) (by omega) (fun _ _ _ h _ => False.elim h) (fun r2 w2 n2 h2 hn2 => ?_)
  obtain ⟨V2, t2, R2, rfl, hf2, hM2, hs2⟩ := mc1 h2
  have hS2 : SS wh D1 R2 := by
    rcases hs1 with ⟨p1, p2, p6, p8⟩ | ⟨p1, p2, p8⟩ | ⟨p1, p2, p8⟩
    · rcases hs2 with ⟨p3, p4, p9⟩ | ⟨p3, p4, p7, p9⟩
      · exfalso; first | exact p1.elim | omega
      · rw [p8, p9]; exact hS
    · rcases hs2 with ⟨p3, p4, p9⟩ | ⟨p3, p4, p7, p9⟩
      · rw [p8, p9]; exact hS
      · exfalso; first | exact p1.elim | omega
    · rcases hs2 with ⟨p3, p4, p9⟩ | ⟨p3, p4, p7, p9⟩
      · exfalso; first | exact p1.elim | omega
      · exfalso; first | exact p1.elim | omega
  have hC2 := hC1.fm hd1 hM1 hxy hf2
  have hO2 := (hf2 o (hd1 o _ hO1) (Or.inr hyo)).trans hO1
  refine e_istore F dL_law_2021 (by decide) ?_
  refine e_goto F 2052 dL_law_2023 (by decide) ?_
  exact e_go (e_wd (by omega) (kk _ _ _ _ ⟨_, _, _, _, _, hC2, hM2, hO2, hS2⟩ (Or.inl rfl))) (And.intro rfl (And.intro rfl (And.intro rfl (And.intro rfl (And.intro rfl (trivial))))))
set_option maxHeartbeats 4000000 in
set_option maxRecDepth 100000 in
theorem k_41 {K : e_K} {p : Program} {l : Launch} {e : Env} {s : State} {m : MethodId} {args : Array Value} {below : List Frame} {meth : Method} {c : Code} {b N x y o wh n k : Nat} {xs : Nat → Int32} {w : e_W} {i kn : Int} (F : e_F K p l s m args meth c cL_law 7 (some .boolean) RL) (hN : g_N s) (hX : va_X b N xs s s.heap) (hb : b < K.1) (hNL : N ≤ 448) (hxy : x + 27 ≤ y) (hyo : y + 4 ≤ o) (hi : 0 ≤ i) (hi2 : i + 7 ≤ (N : Int)) (hkn : 0 ≤ kn ∧ kn ≤ 448) (hk : k + 250 ≤ 17000) (hI : LI w x y o wh kn)
    (kk : ∀ (w' : e_W) (n' wh' : Nat) (kn' : Int), LI w' x y o wh' kn' → (kn' = kn ∨ kn' = kn + 1) → e_V K p l e 20 17000 s m args below meth c 7 LQ9 e_px0 2052 (LL b x y o i) [] w' n' (k + 250)) : e_V K p l e 20 17000 s m args below meth c 7 LQ9 e_px0 2026 (LL b x y o i) [] w n (k) := by
  obtain ⟨t0, D, R, z, sv, hC, hM, hO, hS⟩ := hI
  have hG : GG wh D R := GG_of hC hM hS
  refine e_aload_n F dL_law_2026 rfl ?_
  refine e_dom (fun hd0 => ?_)
  refine e_callVV F u_X3_isSound (by rfl) (c_X3_isSound hC) hC.1 rfl rfl w_ml_RL_284 dL_law_2027 (by rfl) (Nat.le_of_ble_eq_true rfl) (by decide) (by omega) (fun _ _ _ h _ => False.elim h) (fun r1 w1 n1 h1 hn1 => ?_)
  obtain ⟨rfl, en1, hC1, hFR⟩ := h1
  have hO1 : w1 o = some (.inl (4, [.long (eJ z), sv])) := (hFR o (Or.inr (by omega))).trans hO
  have hM1 := hM.lf hd0 hO hxy hyo (by intro q8 h8 h9 h10; exact hFR q8 h9)
  refine e_pop F dL_law_2030 rfl ?_
  refine e_aload_n F dL_law_2031 rfl ?_
  refine e_dom (fun hd1 => ?_)
  refine e_callVV F u_X5_isSound (by rfl) (c_X5_isSound hM1) hM1.1 rfl rfl w_ml_RL_288 dL_law_2032 (by rfl) (Nat.le_of_ble_eq_true rfl) (by decide) (by omega) (fun _ _ _ h _ => False.elim h) (fun r2 w2 n2 h2 hn2 => ?_)
  obtain ⟨rfl, hM2, hf2⟩ := h2
  have hC2 := hC1.fm hd1 hM1 hxy hf2
  have hO2 := (hf2 o (hd1 o _ hO1) (Or.inr hyo)).trans hO1
  refine e_pop F dL_law_2035 rfl ?_
  refine e_goto F 2052 dL_law_2036 (by decide) ?_
  exact e_go (e_wd (by omega) (kk _ _ _ _ ⟨_, _, _, _, _, hC2, hM2, hO2, hS⟩ (Or.inl rfl))) (And.intro rfl (And.intro rfl (And.intro rfl (And.intro rfl (And.intro rfl (trivial))))))
set_option maxHeartbeats 4000000 in
set_option maxRecDepth 100000 in
theorem k_42 {K : e_K} {p : Program} {l : Launch} {e : Env} {s : State} {m : MethodId} {args : Array Value} {below : List Frame} {meth : Method} {c : Code} {b N x y o wh n k : Nat} {xs : Nat → Int32} {w : e_W} {i kn : Int} (F : e_F K p l s m args meth c cL_law 7 (some .boolean) RL) (hN : g_N s) (hX : va_X b N xs s s.heap) (hb : b < K.1) (hNL : N ≤ 448) (hxy : x + 27 ≤ y) (hyo : y + 4 ≤ o) (hi : 0 ≤ i) (hi2 : i + 7 ≤ (N : Int)) (hkn : 0 ≤ kn ∧ kn ≤ 448) (hk : k + 250 ≤ 17000) (hI : LI w x y o wh kn)
    (kk : ∀ (w' : e_W) (n' wh' : Nat) (kn' : Int), LI w' x y o wh' kn' → (kn' = kn ∨ kn' = kn + 1) → e_V K p l e 20 17000 s m args below meth c 7 LQ9 e_px0 2052 (LL b x y o i) [] w' n' (k + 250)) : e_V K p l e 20 17000 s m args below meth c 7 LQ9 e_px0 2039 (LL b x y o i) [] w n (k) := by
  obtain ⟨t0, D, R, z, sv, hC, hM, hO, hS⟩ := hI
  have hG : GG wh D R := GG_of hC hM hS
  refine e_aload_n F dL_law_2039 rfl ?_
  refine e_dom (fun hd0 => ?_)
  refine e_callVV F u_X3_digest (by rfl) (c_X3_digest hC (by omega)) hC.1 rfl rfl w_ml_RL_289 dL_law_2040 (by rfl) (Nat.le_of_ble_eq_true rfl) (by decide) (by omega) (fun _ _ _ h _ => False.elim h) (fun r1 w1 n1 h1 hn1 => ?_)
  obtain ⟨rfl, en1, hC1, hFR⟩ := h1
  have hO1 : w1 o = some (.inl (4, [.long (eJ z), sv])) := (hFR o (Or.inr (by omega))).trans hO
  have hM1 := hM.lf hd0 hO hxy hyo (by intro q8 h8 h9 h10; exact hFR q8 h9)
  refine e_pop2 F dL_law_2043 rfl ?_
  refine e_aload_n F dL_law_2044 rfl ?_
  refine e_dom (fun hd1 => ?_)
  refine e_callVV F u_X5_digest (by rfl) (c_X5_digest hM1 (by omega)) hM1.1 rfl rfl w_ml_RL_293 dL_law_2045 (by rfl) (Nat.le_of_ble_eq_true rfl) (by decide) (by omega) (fun _ _ _ h _ => False.elim h) (fun r2 w2 n2 h2 hn2 => ?_)
  obtain ⟨rfl, hM2, hf2⟩ := h2
  have hC2 := hC1.fm hd1 hM1 hxy hf2
  have hO2 := (hf2 o (hd1 o _ hO1) (Or.inr hyo)).trans hO1
  refine e_pop2 F dL_law_2048 rfl ?_
  refine e_goto F 2052 dL_law_2049 (by decide) ?_
  exact e_go (e_wd (by omega) (kk _ _ _ _ ⟨_, _, _, _, _, hC2, hM2, hO2, hS⟩ (Or.inl rfl))) (And.intro rfl (And.intro rfl (And.intro rfl (And.intro rfl (And.intro rfl (trivial))))))
set_option maxHeartbeats 4000000 in
set_option maxRecDepth 100000 in
theorem k_round {K : e_K} {p : Program} {l : Launch} {e : Env} {s : State} {m : MethodId} {args : Array Value} {below : List Frame} {meth : Method} {c : Code} {b N x y o wh n k : Nat} {xs : Nat → Int32} {w : e_W} {i kn : Int} (F : e_F K p l s m args meth c cL_law 7 (some .boolean) RL) (hN : g_N s) (hX : va_X b N xs s s.heap) (hb : b < K.1) (hNL : N ≤ 448) (hxy : x + 27 ≤ y) (hyo : y + 4 ≤ o) (hi : 0 ≤ i) (hi2 : i + 7 ≤ (N : Int)) (hkn : 0 ≤ kn ∧ kn ≤ 448) (hk : k + 250 ≤ 17000) (hI : LI w x y o wh kn)
    (kk : ∀ (w' : e_W) (n' wh' : Nat) (kn' : Int), LI w' x y o wh' kn' → (kn' = kn ∨ kn' = kn + 1) → e_V K p l e 20 17000 s m args below meth c 7 LQ9 e_px0 2052 (LL b x y o i) [] w' n' (k + 250)) : e_V K p l e 20 17000 s m args below meth c 7 LQ9 e_px0 37 (LL b x y o i) [] w n (k) := by
  refine e_aload_n F dL_law_37 rfl ?_
  refine e_iload F dL_law_38 rfl ?_
  refine e_sld F hX hb hNL hi (by omega) dL_law_40 ?_
  refine e_bipush F dL_law_41 (by decide) ?_
  obtain ⟨a, ha, h0, h63⟩ : ∃ a : Int, eI (xs i.toNat).toInt &&& eI 63 = eI a ∧ 0 ≤ a ∧ a ≤ 63 := ⟨_, (eI_self _).symm, and63 _⟩
  refine e_iand F dL_law_43 ha ?_
  have har : e_r a := ⟨by omega, by omega⟩
  have hcs : a = 0 ∨ a = 1 ∨ a = 2 ∨ a = 3 ∨ a = 4 ∨ a = 5 ∨ a = 6 ∨ a = 7 ∨ a = 8 ∨ a = 9 ∨ a = 10 ∨ a = 11 ∨ a = 12 ∨ a = 13 ∨ a = 14 ∨ a = 15 ∨ a = 16 ∨ a = 17 ∨ a = 18 ∨ a = 19 ∨ a = 20 ∨ a = 21 ∨ a = 22 ∨ a = 23 ∨ a = 24 ∨ a = 25 ∨ a = 26 ∨ a = 27 ∨ a = 28 ∨ a = 29 ∨ a = 30 ∨ a = 31 ∨ a = 32 ∨ a = 33 ∨ a = 34 ∨ a = 35 ∨ a = 36 ∨ a = 37 ∨ a = 38 ∨ a = 39 ∨ a = 40 ∨ a = 41 ∨ a = 42 ∨ 42 < a := by omega
  rcases hcs with h0 | h1 | h2 | h3 | h4 | h5 | h6 | h7 | h8 | h9 | h10 | h11 | h12 | h13 | h14 | h15 | h16 | h17 | h18 | h19 | h20 | h21 | h22 | h23 | h24 | h25 | h26 | h27 | h28 | h29 | h30 | h31 | h32 | h33 | h34 | h35 | h36 | h37 | h38 | h39 | h40 | h41 | h42 | hh
  · subst h0; exact e_tabIn F 232 dL_law_44 (by decide) (by decide) (by decide) (by rfl) (by decide) (k_0 F hN hX hb hNL hxy hyo hi hi2 hkn hk hI kk)
  · subst h1; exact e_tabIn F 260 dL_law_44 (by decide) (by decide) (by decide) (by rfl) (by decide) (k_1 F hN hX hb hNL hxy hyo hi hi2 hkn hk hI kk)
  · subst h2; exact e_tabIn F 285 dL_law_44 (by decide) (by decide) (by decide) (by rfl) (by decide) (k_2 F hN hX hb hNL hxy hyo hi hi2 hkn hk hI kk)
  · subst h3; exact e_tabIn F 337 dL_law_44 (by decide) (by decide) (by decide) (by rfl) (by decide) (k_3 F hN hX hb hNL hxy hyo hi hi2 hkn hk hI kk)
  · subst h4; exact e_tabIn F 362 dL_law_44 (by decide) (by decide) (by decide) (by rfl) (by decide) (k_4 F hN hX hb hNL hxy hyo hi hi2 hkn hk hI kk)
  · subst h5; exact e_tabIn F 399 dL_law_44 (by decide) (by decide) (by decide) (by rfl) (by decide) (k_5 F hN hX hb hNL hxy hyo hi hi2 hkn hk hI kk)
  · subst h6; exact e_tabIn F 424 dL_law_44 (by decide) (by decide) (by decide) (by rfl) (by decide) (k_6 F hN hX hb hNL hxy hyo hi hi2 hkn hk hI kk)
  · subst h7; exact e_tabIn F 476 dL_law_44 (by decide) (by decide) (by decide) (by rfl) (by decide) (k_7 F hN hX hb hNL hxy hyo hi hi2 hkn hk hI kk)
  · subst h8; exact e_tabIn F 516 dL_law_44 (by decide) (by decide) (by decide) (by rfl) (by decide) (k_8 F hN hX hb hNL hxy hyo hi hi2 hkn hk hI kk)
  · subst h9; exact e_tabIn F 606 dL_law_44 (by decide) (by decide) (by decide) (by rfl) (by decide) (k_9 F hN hX hb hNL hxy hyo hi hi2 hkn hk hI kk)
  · subst h10; exact e_tabIn F 682 dL_law_44 (by decide) (by decide) (by decide) (by rfl) (by decide) (k_10 F hN hX hb hNL hxy hyo hi hi2 hkn hk hI kk)
  · subst h11; exact e_tabIn F 734 dL_law_44 (by decide) (by decide) (by decide) (by rfl) (by decide) (k_11 F hN hX hb hNL hxy hyo hi hi2 hkn hk hI kk)
  · subst h12; exact e_tabIn F 786 dL_law_44 (by decide) (by decide) (by decide) (by rfl) (by decide) (k_12 F hN hX hb hNL hxy hyo hi hi2 hkn hk hI kk)
  · subst h13; exact e_tabIn F 838 dL_law_44 (by decide) (by decide) (by decide) (by rfl) (by decide) (k_13 F hN hX hb hNL hxy hyo hi hi2 hkn hk hI kk)
  · subst h14; exact e_tabIn F 890 dL_law_44 (by decide) (by decide) (by decide) (by rfl) (by decide) (k_14 F hN hX hb hNL hxy hyo hi hi2 hkn hk hI kk)
  · subst h15; exact e_tabIn F 980 dL_law_44 (by decide) (by decide) (by decide) (by rfl) (by decide) (k_15 F hN hX hb hNL hxy hyo hi hi2 hkn hk hI kk)
  · subst h16; exact e_tabIn F 1020 dL_law_44 (by decide) (by decide) (by decide) (by rfl) (by decide) (k_16 F hN hX hb hNL hxy hyo hi hi2 hkn hk hI kk)
  · subst h17; exact e_tabIn F 1072 dL_law_44 (by decide) (by decide) (by decide) (by rfl) (by decide) (k_17 F hN hX hb hNL hxy hyo hi hi2 hkn hk hI kk)
  · subst h18; exact e_tabIn F 1124 dL_law_44 (by decide) (by decide) (by decide) (by rfl) (by decide) (k_18 F hN hX hb hNL hxy hyo hi hi2 hkn hk hI kk)
  · subst h19; exact e_tabIn F 1152 dL_law_44 (by decide) (by decide) (by decide) (by rfl) (by decide) (k_19 F hN hX hb hNL hxy hyo hi hi2 hkn hk hI kk)
  · subst h20; exact e_tabIn F 1192 dL_law_44 (by decide) (by decide) (by decide) (by rfl) (by decide) (k_20 F hN hX hb hNL hxy hyo hi hi2 hkn hk hI kk)
  · subst h21; exact e_tabIn F 1220 dL_law_44 (by decide) (by decide) (by decide) (by rfl) (by decide) (k_21 F hN hX hb hNL hxy hyo hi hi2 hkn hk hI kk)
  · subst h22; exact e_tabIn F 1233 dL_law_44 (by decide) (by decide) (by decide) (by rfl) (by decide) (k_22 F hN hX hb hNL hxy hyo hi hi2 hkn hk hI kk)
  · subst h23; exact e_tabIn F 1273 dL_law_44 (by decide) (by decide) (by decide) (by rfl) (by decide) (k_23 F hN hX hb hNL hxy hyo hi hi2 hkn hk hI kk)
  · subst h24; exact e_tabIn F 1313 dL_law_44 (by decide) (by decide) (by decide) (by rfl) (by decide) (k_24 F hN hX hb hNL hxy hyo hi hi2 hkn hk hI kk)
  · subst h25; exact e_tabIn F 1365 dL_law_44 (by decide) (by decide) (by decide) (by rfl) (by decide) (k_25 F hN hX hb hNL hxy hyo hi hi2 hkn hk hI kk)
  · subst h26; exact e_tabIn F 1405 dL_law_44 (by decide) (by decide) (by decide) (by rfl) (by decide) (k_26 F hN hX hb hNL hxy hyo hi hi2 hkn hk hI kk)
  · subst h27; exact e_tabIn F 1457 dL_law_44 (by decide) (by decide) (by decide) (by rfl) (by decide) (k_27 F hN hX hb hNL hxy hyo hi hi2 hkn hk hI kk)
  · subst h28; exact e_tabIn F 1497 dL_law_44 (by decide) (by decide) (by decide) (by rfl) (by decide) (k_28 F hN hX hb hNL hxy hyo hi hi2 hkn hk hI kk)
  · subst h29; exact e_tabIn F 1537 dL_law_44 (by decide) (by decide) (by decide) (by rfl) (by decide) (k_29 F hN hX hb hNL hxy hyo hi hi2 hkn hk hI kk)
  · subst h30; exact e_tabIn F 1565 dL_law_44 (by decide) (by decide) (by decide) (by rfl) (by decide) (k_30 F hN hX hb hNL hxy hyo hi hi2 hkn hk hI kk)
  · subst h31; exact e_tabIn F 1593 dL_law_44 (by decide) (by decide) (by decide) (by rfl) (by decide) (k_31 F hN hX hb hNL hxy hyo hi hi2 hkn hk hI kk)
  · subst h32; exact e_tabIn F 1645 dL_law_44 (by decide) (by decide) (by decide) (by rfl) (by decide) (k_32 F hN hX hb hNL hxy hyo hi hi2 hkn hk hI kk)
  · subst h33; exact e_tabIn F 1685 dL_law_44 (by decide) (by decide) (by decide) (by rfl) (by decide) (k_33 F hN hX hb hNL hxy hyo hi hi2 hkn hk hI kk)
  · subst h34; exact e_tabIn F 1725 dL_law_44 (by decide) (by decide) (by decide) (by rfl) (by decide) (k_34 F hN hX hb hNL hxy hyo hi hi2 hkn hk hI kk)
  · subst h35; exact e_tabIn F 1794 dL_law_44 (by decide) (by decide) (by decide) (by rfl) (by decide) (k_35 F hN hX hb hNL hxy hyo hi hi2 hkn hk hI kk)
  · subst h36; exact e_tabIn F 1846 dL_law_44 (by decide) (by decide) (by decide) (by rfl) (by decide) (k_36 F hN hX hb hNL hxy hyo hi hi2 hkn hk hI kk)
  · subst h37; exact e_tabIn F 1902 dL_law_44 (by decide) (by decide) (by decide) (by rfl) (by decide) (k_37 F hN hX hb hNL hxy hyo hi hi2 hkn hk hI kk)
  · subst h38; exact e_tabIn F 1930 dL_law_44 (by decide) (by decide) (by decide) (by rfl) (by decide) (k_38 F hN hX hb hNL hxy hyo hi hi2 hkn hk hI kk)
  · subst h39; exact e_tabIn F 1958 dL_law_44 (by decide) (by decide) (by decide) (by rfl) (by decide) (k_39 F hN hX hb hNL hxy hyo hi hi2 hkn hk hI kk)
  · subst h40; exact e_tabIn F 1998 dL_law_44 (by decide) (by decide) (by decide) (by rfl) (by decide) (k_40 F hN hX hb hNL hxy hyo hi hi2 hkn hk hI kk)
  · subst h41; exact e_tabIn F 2026 dL_law_44 (by decide) (by decide) (by decide) (by rfl) (by decide) (k_41 F hN hX hb hNL hxy hyo hi hi2 hkn hk hI kk)
  · subst h42; exact e_tabIn F 2039 dL_law_44 (by decide) (by decide) (by decide) (by rfl) (by decide) (k_42 F hN hX hb hNL hxy hyo hi hi2 hkn hk hI kk)
  · exact e_tabOut F 2052 dL_law_44 har (Or.inr hh) (by decide) (e_wd (by omega) (kk _ _ _ _ hI (Or.inl rfl)))
set_option maxHeartbeats 4000000 in
set_option maxRecDepth 100000 in
theorem k_loop {K : e_K} {p : Program} {l : Launch} {e : Env} {s : State} {m : MethodId} {args : Array Value} {below : List Frame} {meth : Method} {c : Code} {b N x y o : Nat} {xs : Nat → Int32} (F : e_F K p l s m args meth c cL_law 7 (some .boolean) RL) (hN : g_N s) (hX : va_X b N xs s s.heap) (hb : b < K.1) (hNL : N ≤ 448) (hxy : x + 27 ≤ y) (hyo : y + 4 ≤ o) :
    ∀ (M : Nat) (i kn : Int) (k wh n : Nat) (w : e_W), (455 - i).toNat < M → 0 ≤ i → i ≤ 455 → (0 ≤ kn ∧ kn ≤ i) → (k : Int) * 7 ≤ 280 + 250 * i → LI w x y o wh kn → e_V K p l e 20 17000 s m args below meth c 7 LQ9 e_px0 27 (LL b x y o i) [] w n (k) := by
  intro M
  induction M with
  | zero => intro i kn k wh n w hM; exact absurd hM (Nat.not_lt_zero _)
  | succ M ih =>
    intro i kn k wh n w hM hi hi2 hkn hk hI
    refine e_iload F dL_law_27 rfl ?_
    refine e_aload_n F dL_law_29 rfl ?_
    refine e_slen F hX hb hNL dL_law_30 ?_
    refine e_bipush F dL_law_31 (by decide) ?_
    refine e_isub F dL_law_33 ?_
    refine e_icmp_gt F 2058 dL_law_34 (by decide) ⟨by omega, by omega⟩ ⟨by omega, by omega⟩ (fun cz => ?_) (fun cz => ?_)
    · refine e_iconst F dL_law_2058 ?_
      refine e_zret F rfl (by omega) (Or.inr rfl) ?_ dL_law_2059
      exact rfl
    · refine k_round F hN hX hb hNL hxy hyo hi (by omega) ⟨by omega, by omega⟩ (by omega) hI (fun w' n' wh' kn' hI' hkn' => ?_)
      refine e_iinc F dL_law_2052 rfl (by decide) ?_
      refine e_goto F 27 dL_law_2055 (by decide) ?_
      exact e_go (ih (i + 7) kn' (k + 250) wh' n' w' (by omega) (by omega) (by omega) (by omega) (by push_cast; omega) hI') (And.intro rfl (And.intro rfl (And.intro rfl (And.intro rfl (And.intro rfl (trivial))))))
set_option maxHeartbeats 4000000 in
set_option maxRecDepth 100000 in
theorem k_law {K : e_K} {p : Program} {l : Launch} {e : Env} {s : State} {m : MethodId} {args : Array Value} {below : List Frame} {meth : Method} {c : Code} {b N : Nat} {xs : Nat → Int32} (F : e_F K p l s m args meth c cL_law 7 (some .boolean) RL) (hN : g_N s) (hX : va_X b N xs s s.heap) (hb : b < K.1) (hNL : N ≤ 448) {n : Nat} : e_V K p l e 20 17000 s m args below meth c 7 LQ9 e_px0 0 ([(0, .ref b)]) [] (fun _ => none) n (0) := by
  refine e_newO F (ci := 3) (q := (RX3, TX3, 5)) (fs := [.null, .null, .null, .null, .int (eI 0)]) rfl (by omega) w_cl_RL_8 w_is_RX3 w_in_RX3 (by decide) (by intro j hj; have hj9 : j < 5 := hj; rcases j with _ | _ | _ | _ | _ | j <;> first | rfl | omega) dL_law_0 ?_
  refine e_dup F dL_law_3 rfl ?_
  refine e_callII F u_X3_init (by rfl) (c_X3_init e_up_s rfl) w_ml_RL_139 dL_law_4 (by rfl) (Nat.le_of_ble_eq_true rfl) (by decide) (by omega) (fun _ _ _ h _ => False.elim h) (fun r1 w1 n1 h1 hn1 => ?_)
  obtain ⟨rfl, rfl, hC1, -⟩ := h1
  refine e_astore_n F dL_law_7 (by decide) ?_
  refine e_newO F (ci := 5) (q := (RX5, TX5, 6)) (fs := [.int (eI 0), .int (eI 0), .int (eI 0), .null, .null, .null]) rfl (by omega) w_cl_RL_140 w_is_RX5 w_in_RX5 (by decide) (by intro j hj; have hj9 : j < 6 := hj; rcases j with _ | _ | _ | _ | _ | _ | j <;> first | rfl | omega) dL_law_8 ?_
  refine e_dup F dL_law_11 rfl ?_
  refine e_callII F u_X5_init (by rfl) (c_X5_init e_up_s rfl) w_ml_RL_142 dL_law_12 (by rfl) (Nat.le_of_ble_eq_true rfl) (by decide) (by omega) (fun _ _ _ h _ => False.elim h) (fun r2 w2 n2 h2 hn2 => ?_)
  obtain ⟨rfl, rfl, hM2, hq2⟩ := h2
  have hC2 := hC1.kb (w' := w2) (Nat.le_refl _) (by intro j8 hj8; exact (hq2 j8 hj8).trans (e_up_n (by omega)))
  refine e_astore_n F dL_law_15 (by decide) ?_
  refine e_dom (fun hd2 => ?_)
  refine e_newO F (ci := 4) (q := (RX4, TX4, 2)) (fs := [.long (eJ 0), .null]) rfl (by omega) w_cl_RL_14 w_is_RX4 w_in_RX4 (by decide) (by intro j hj; have hj9 : j < 2 := hj; rcases j with _ | _ | j <;> first | rfl | omega) dL_law_16 ?_
  refine e_dup F dL_law_19 rfl ?_
  refine e_callIN F u_X4_init (by rfl) c_X4_init w_mn_RL_143 dL_law_20 (by rfl) (Nat.le_of_ble_eq_true rfl) (by decide) (by omega) (fun _ _ _ h _ => False.elim h) (fun r3 w3 n3 h3 hn3 => ?_)
  obtain ⟨rfl, rfl, rfl⟩ := h3
  refine e_astore_n F dL_law_23 (by decide) ?_
  refine e_iconst F dL_law_24 ?_
  refine e_istore F dL_law_25 (by decide) ?_
  refine e_go (e_wd (k' := 40) (by omega) (k_loop F hN hX hb hNL (Nat.le_refl _) (Nat.le_refl _) 456 0 0 40 3 _ _ (by omega) (by omega) (by omega) (by omega) (by omega) ?_)) (And.intro rfl (And.intro rfl (And.intro rfl (And.intro rfl (And.intro rfl (trivial))))))
  exact ⟨_, _, _, _, _, hC2.kb (Nat.le_refl _) (by intro j8 hj8; exact e_up_n (by omega)), hM2.kb hd2 (by intro j8 hj8; exact e_up_n (by omega)), e_up_s, SS.em (fun _ => (-1, 0, fun _ => -1, fun _ => 0))⟩
