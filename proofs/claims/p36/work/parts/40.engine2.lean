-- 40.engine2.lean.txt
section
/-! ===== more rows of the engine ===== -/
abbrev e_ba (n : Nat) (f : Int → Int) : e_C := .inr (11, n, fun j => .int (eI (f (j : Int))))
theorem e_b8 {x : Int} (h1 : -128 ≤ x) (h2 : x < 128) : (eI x).toInt8.toInt32 = eI x := by
  rw [Int32.toInt8_ofInt]
  exact e_i8 h1 h2
theorem e_nfw : nativeFrameWords "java/lang/System" "arraycopy" 5 ≤ 40 := by decide +kernel
theorem e_up_up {w : e_W} {a : Nat} {c c2 : e_C} : e_up (e_up w a c) a c2 = e_up w a c2 := by
  funext q
  unfold e_up
  split <;> rfl
theorem e_shl0 (x : Int32) : x <<< (eI 0 &&& 31) = x := sb_shl0 x
theorem e_shr0 (x : Int32) : x >>> (eI 0 &&& 31) = x := sb_shr0 x
section EV
variable {K : e_K} {p : Program} {l : Launch} {e : Env} {d mc : Nat} {s : State} {m : MethodId} {args : Array Value} {below : List Frame} {meth : Method} {c : Code} {cc : ByteArray} {nL : Nat} {ret : Option FieldType} {own : String} {post : Option Value → e_W → Nat → Prop} {px : String → e_W → Nat → Prop} {pc : Nat} {L : List (Nat × Value)} {st : List Value} {w : e_W} {n k : Nat}
theorem e_sipush (F : e_F K p l s m args meth c cc nL ret own) {z : Int} (hd : decode cc pc = .ok (.sipush z, 3)) (hv : (Int16.ofInt z).toInt32 = eI z) (kk : e_V K p l e d mc s m args below meth c nL post px (pc + 3) (L) (.int (eI z) :: st) (w) (n) (k)) : e_V K p l e d mc s m args below meth c nL post px (pc) (L) (st) (w) (n) (k) := fun H locs ls hl hR hz => lv_sipush F.1 F.2.1 hd hv (kk H locs ls hl hR hz)
theorem e_i2b (F : e_F K p l s m args meth c cc nL ret own) {x : Int} (hd : decode cc pc = .ok (.i2b, 1)) (h1 : -128 ≤ x) (h2 : x < 128) (kk : e_V K p l e d mc s m args below meth c nL post px (pc + 1) (L) (.int (eI x) :: st) (w) (n) (k)) : e_V K p l e d mc s m args below meth c nL post px (pc) (L) (.int (eI x) :: st) (w) (n) (k) := fun H locs ls hl hR hz => lv_i2b F.1 F.2.1 hd (e_b8 h1 h2) (kk H locs ls hl hR hz)
theorem e_ineg (F : e_F K p l s m args meth c cc nL ret own) {x : Int} (hd : decode cc pc = .ok (.ineg, 1)) (kk : e_V K p l e d mc s m args below meth c nL post px (pc + 1) (L) (.int (eI (-x)) :: st) (w) (n) (k)) : e_V K p l e d mc s m args below meth c nL post px (pc) (L) (.int (eI x) :: st) (w) (n) (k) := by
  have h : -eI x = eI (-x) := (Int32.ofInt_neg x).symm
  exact fun H locs ls hl hR hz => lv_ineg F.1 F.2.1 hd (by rw [h]; exact kk H locs ls hl hR hz)
theorem e_dup_x1 (F : e_F K p l s m args meth c cc nL ret own) {va vb : Value} (hd : decode cc pc = .ok (.dup_x1, 1)) (ha : va.category = 1) (hb : vb.category = 1) (kk : e_V K p l e d mc s m args below meth c nL post px (pc + 1) (L) (va :: vb :: va :: st) (w) (n) (k)) : e_V K p l e d mc s m args below meth c nL post px (pc) (L) (va :: vb :: st) (w) (n) (k) := fun H locs ls hl hR hz => lv_dup_x1 F.1 F.2.1 hd ha hb (kk H locs ls hl hR hz)
theorem e_arrB (F : e_F K p l s m args meth c cc nL ret own) : ArrOfT s (K.2.1.1 11) .byte := (F.2.2.2.2.2.2.2.2.1.1.2 3 _ rfl).1
theorem e_fitB {x : Int} (h1 : -128 ≤ x) (h2 : x < 128) : fits .byte (.int (eI x)) = true := by
  show (decide ((-128 : Int32) ≤ eI x) && decide (eI x ≤ (127 : Int32))) = true
  have e1 : (-128 : Int32) = eI (-128) := by decide
  have e2 : (127 : Int32) = eI 127 := by decide
  rw [e1, e2, decide_eq_true ((eI_le (by decide) ⟨by omega, by omega⟩).mpr h1), decide_eq_true ((eI_le ⟨by omega, by omega⟩ (by decide)).mpr (show x ≤ 127 by omega))]
  rfl
theorem e_RI (F : e_F K p l s m args meth c cc nL ret own) : ∃ k10 k8 : Class, s.vm.classes[K.2.1.1 10]? = some k10 ∧ k10.kind = .array (K.2.1.1 8) (.array .int) ∧ s.vm.classes[K.2.1.1 8]? = some k8 := by
  obtain ⟨comp, cA, kA, h1, -, h3, h4, h5⟩ := arrayOverA_spec (F.2.2.2.2.2.2.2.2.1.2.1 _ w_ao_int)
  have q10 : s.vm.findClass ("[" ++ (FieldType.array .int).toString) = some (K.2.1.1 10) := (F.2.2.2.2.2.2.2.2.1.1.2 2 _ rfl).2
  have q8 : s.vm.findClass ("[" ++ FieldType.int.toString) = some (K.2.1.1 8) := (F.2.2.2.2.2.2.2.2.1.1.2 0 _ rfl).2
  have e10 : cA = K.2.1.1 10 := Option.some.inj (h5.symm.trans q10)
  have e8 : comp = K.2.1.1 8 := Option.some.inj (h1.symm.trans q8)
  subst e10
  subst e8
  obtain ⟨k8, hk8, -⟩ := Vm.findClass_spec q8
  exact ⟨kA, k8, h3, h4, hk8⟩
theorem e_clAt (F : e_F K p l s m args meth c cc nL ret own) : ClassAt s RJ4 (K.2.1.1 6) := (F.2.2.2.2.2.2.2.2.1.1.1 6 _ rfl).2
theorem e_nmB (F : e_F K p l s m args meth c cc nL ret own) : s.vm.findClass "[B" = some (K.2.1.1 11) := by
  have h : s.vm.findClass ("[" ++ FieldType.byte.toString) = some (K.2.1.1 11) := (F.2.2.2.2.2.2.2.2.1.1.2 3 _ rfl).2
  exact h
theorem e_nmI (F : e_F K p l s m args meth c cc nL ret own) : s.vm.findClass "[I" = some (K.2.1.1 8) := by
  have h : s.vm.findClass ("[" ++ FieldType.int.toString) = some (K.2.1.1 8) := (F.2.2.2.2.2.2.2.2.1.1.2 0 _ rfl).2
  exact h
theorem e_dom (kk : (∀ q e, w q = some e → q < n) → e_V K p l e d mc s m args below meth c nL post px (pc) (L) (st) (w) (n) (k)) : e_V K p l e d mc s m args below meth c nL post px (pc) (L) (st) (w) (n) (k) := fun H locs ls hl hR hz => kk (fun q e h => hR.lt h) H locs ls hl hR hz
theorem e_CU (F : e_F K p l s m args meth c cc nL ret own) {y : MethodName} {bytes : ByteArray} {maxL idx d2 mc2 na : Nat} {rt : Option FieldType} (Y : e_Y y bytes maxL rt na) (hi : Cond.instanceMethod y ∈ e_TB) (hse : Cond.selects RJ4 y y ∈ e_TB) (hsa : Cond.sameMethod y.cls y.cls y.name y.desc ∈ e_TB) (hm : Cond.methodLink own idx y ∈ e_TB) (hdd : d2 + 1 ≤ d) : va_CU (e_rm d mc) s args own RJ4 y.cls idx y y bytes maxL rt (Cond.code y bytes maxL rt :: e_TB) (e_rm d2 mc2) mc2 (256 * mc2) na :=
  va_cwU (ws' := e_TB) na F.2.2.2.2.2.1 (e_goodIn (fun w h => by
    rcases List.mem_append.mp h with h | h
    · simp only [List.mem_cons, List.not_mem_nil, or_false] at h
      rcases h with rfl | rfl | rfl | rfl | rfl
      · exact hm
      · exact hsa
      · exact hse
      · exact hi
      · exact Y.2.2.2.2
    · exact e_ws Y w h)) rfl rfl rfl rfl ⟨Y.1.1, Y.1.2, Y.2.1⟩ ⟨hdd, by have := Y.2.2.1; show 8 + (maxL + 11) + 64 * d2 ≤ 64 * d; omega⟩
theorem e_CO (F : e_F K p l s m args meth c cc nL ret own) {x y : MethodName} {bytes : ByteArray} {maxL idx d2 mc2 na : Nat} {rt : Option FieldType} {b0 : ByteArray} {m0 : Nat} {r0 : Option FieldType} (Y : e_Y y bytes maxL rt na) (hi : Cond.instanceMethod y ∈ e_TB) (hse : Cond.selects RJ4 x y ∈ e_TB) (hsa : Cond.sameMethod x.cls x.cls x.name x.desc ∈ e_TB) (hm : Cond.methodLink own idx x ∈ e_TB) (hx : Cond.code x b0 m0 r0 ∈ e_TB) (hxi : Cond.instanceMethod x ∈ e_TB) (hxm : x.cls ≠ "java/lang/invoke/MethodHandle" ∧ x.cls ≠ "java/lang/invoke/VarHandle" ∧ (parseMethodDescriptor x.desc).map (fun d => d.parameters.length) = some na) (hdd : d2 + 1 ≤ d) : va_CU (e_rm d mc) s args own RJ4 x.cls idx x y bytes maxL rt (Cond.code y bytes maxL rt :: e_TB) (e_rm d2 mc2) mc2 (256 * mc2) na :=
  va_cwO (ws' := e_TB) na F.2.2.2.2.2.1 (e_goodIn (fun w h => by
    rcases List.mem_append.mp h with h | h
    · simp only [List.mem_cons, List.not_mem_nil, or_false] at h
      rcases h with rfl | rfl | rfl | rfl | rfl | rfl
      · exact hm
      · exact hsa
      · exact hxi
      · exact hse
      · exact hi
      · exact Y.2.2.2.2
    · exact e_ws Y w h)) rfl rfl rfl hx hxm ⟨hdd, by have := Y.2.2.1; show 8 + (maxL + 11) + 64 * d2 ≤ 64 * d; omega⟩
theorem e_CS (F : e_F K p l s m args meth c cc nL ret own) {y : MethodName} {bytes : ByteArray} {maxL idx d2 mc2 na : Nat} {rt : Option FieldType} (Y : e_Y y bytes maxL rt na) (hno : y.name ≠ "<init>") (hi : Cond.instanceMethod y ∈ e_TB) (hsu : Cond.superclass own y.cls ∈ e_TB) (hsa : Cond.sameMethod y.cls y.cls y.name y.desc ∈ e_TB) (hm : Cond.methodLink own idx y ∈ e_TB) (hdd : d2 + 1 ≤ d) : va_CS (e_rm d mc) s args own idx y bytes maxL rt (Cond.code y bytes maxL rt :: e_TB) (e_rm d2 mc2) mc2 (256 * mc2) na :=
  va_cwSU (ws' := e_TB) na F.2.2.2.2.2.1 (e_goodIn (fun w h => by
    rcases List.mem_append.mp h with h | h
    · simp only [List.mem_cons, List.not_mem_nil, or_false] at h
      rcases h with rfl | rfl | rfl | rfl | rfl
      · exact hm
      · exact hsa
      · exact hsu
      · exact hi
      · exact Y.2.2.2.2
    · exact e_ws Y w h)) rfl rfl rfl ⟨hno, Y.2.1⟩ ⟨hdd, by have := Y.2.2.1; show 8 + (maxL + 11) + 64 * d2 ≤ 64 * d; omega⟩
theorem e_alenB (F : e_F K p l s m args meth c cc nL ret own) {a N : Nat} {f : Int → Int} (hw : w a = some (e_ba N f)) (hd : decode cc pc = .ok (.arraylength, 1)) (kk : e_V K p l e d mc s m args below meth c nL post px (pc + 1) (L) (.int (eI (N : Int)) :: st) (w) (n) (k)) : e_V K p l e d mc s m args below meth c nL post px (pc) (L) (.ref a :: st) (w) (n) (k) :=
  fun H locs ls hl hR hz => W.alen (n := eI (N : Int)) F.1 F.2.1 (hR.2.2.1 a _ hw).2 (e_arrB F N _) (by rw [arrV_size]; rfl) rfl rfl hd (kk H locs ls hl hR hz)
theorem e_bast (F : e_F K p l s m args meth c cc nL ret own) {a N : Nat} {f : Int → Int} {i x : Int} (hw : w a = some (e_ba N f)) (h0 : 0 ≤ i) (hN : i < N) (hb : N < 2147483648) (hx : -128 ≤ x ∧ x < 128) (hd : decode cc pc = .ok (.bastore, 1)) (kk : e_V K p l e d mc s m args below meth c nL post px (pc + 1) (L) (st) (e_up w a (e_ba N (e_fu f i x))) (n) (k)) : e_V K p l e d mc s m args below meth c nL post px (pc) (L) (.int (eI x) :: .int (eI i) :: .ref a :: st) (w) (n) (k) := by
  obtain ⟨x1, x2⟩ := e_ix h0 hN hb
  intro H locs ls hl hR hz
  have hA := (hR.2.2.1 a _ hw)
  refine W.bast F.1 F.2.1 hA.2 (e_arrB F N _) (fun h => by cases h) (by rw [arrV_size]; exact x1) rfl rfl hd fun H' e1 e2 e3 => ?_
  refine kk H' _ ls hl (hR.up hw ?_ e2 e3) (fun z hz' => ?_)
  · show H'[a]? = some (arrV _ _ _)
    rw [e1, narrow_byte, e_b8 hx.1 hx.2, arrV_store, x2]
    congr 2
    funext j
    unfold updV e_fu
    dsimp only
    by_cases hj : j = i.toNat
    · subst hj; rw [if_pos rfl, if_pos (by omega)]
    · rw [if_neg hj, if_neg (by omega)]
  · rcases List.mem_append.mp hz' with h | h
    · exact hz z h
    · rw [List.mem_singleton.mp h]; exact hA.1
theorem e_newB (F : e_F K p l s m args meth c cc nL ret own) {N : Nat} {z : Int} (hz0 : z = (N : Int)) (hN : N ≤ 256) (hk : k + 1 ≤ mc) (hm : Cond.arrayClass .byte ∈ e_TB) (hd : decode cc pc = .ok (.newarray .byte, 2)) (kk : e_V K p l e d mc s m args below meth c nL post px (pc + 2) (L) (.ref n :: st) (e_up w n (e_ba N (fun _ => 0))) (n + 1) (k + 1)) : e_V K p l e d mc s m args below meth c nL post px (pc) (L) (.int (eI z) :: st) (w) (n) (k) := by
  subst hz0
  intro H locs ls hl hR hz
  have hc : (eI (N : Int)).toNatClampNeg = N := by
    show (eI (N : Int)).toInt.toNat = N
    rw [eI_toInt (by omega) (by omega)]; omega
  have h0 : ¬ eI (N : Int) < 0 := by
    rw [Int32.lt_iff_toInt_lt, eI_toInt (by omega) (by omega)]
    have : (0 : Int32).toInt = 0 := by decide
    omega
  have hlt : k < mc := hk
  refine W.newa (atype := .byte) F.1 F.2.1 (F.2.2.2.2.2.1 _ hm) rfl hd rfl h0 (by rw [hc]; show N * 1 ≤ 536870912; omega) hk (by rw [hc]; show 256 * k + N ≤ 256 * mc; omega) fun cA kA comp f1 f2 f3 => ?_
  have hcA : cA = K.2.1.1 11 := Option.some.inj (f1.symm.trans (F.2.2.2.2.2.2.2.2.1.1.2 3 _ rfl).2)
  subst hcA
  refine W.widen (k := k + 1) (n := 256 * (k + 1)) (Nat.le_refl _) (by rw [hc]; omega) ?_
  rw [hR.1]
  refine kk _ locs ls hl (hR.push ?_ (by rw [Array.size_push, hR.1]) (fun q hq => by rw [Array.getElem?_push, if_neg (by rw [hR.1]; omega)])) hz
  show _ = some (arrV _ _ _)
  rw [arrV_new, ← hR.1, Array.getElem?_push_size, hc]
  rfl
theorem e_baldS (F : e_F K p l s m args meth c cc nL ret own) {i : Nat} {j : Int} (hi : i = 6 ∨ i = 7) (h0 : 0 ≤ j) (hN : j < 100) (hd : decode cc pc = .ok (.baload, 1)) (kk : e_V K p l e d mc s m args below meth c nL post px (pc + 1) (L) (.int (eI (48 + (if i = 6 then j % 10 else j / 10))) :: st) (w) (n) (k)) : e_V K p l e d mc s m args below meth c nL post px (pc) (L) (.int (eI j) :: .ref (K.2.2 i) :: st) (w) (n) (k) := by
  obtain ⟨x1, x2⟩ := e_ix (N := 100) h0 hN (by decide)
  intro H locs ls hl hR hz
  have hT := F.2.2.2.2.2.2.2.2.1.2.2.2.1 i (by omega)
  rw [show e_sty i = .byte from if_neg (by omega), show e_sln i = 100 from if_neg (by omega)] at hT
  obtain ⟨cell, h1, h2, h3, h4, h5, h6, h7⟩ := hT
  have e9 : e_rowv i j.toNat = .int (eI (48 + (if i = 6 then j % 10 else j / 10))) := by
    unfold e_rowv
    rw [if_neg (by omega)]
    rcases hi with q | q
    · rw [if_pos q, if_pos q]; congr 2; omega
    · rw [if_neg (by omega), if_neg (by omega)]; congr 2; omega
  exact W.bald (v := .int (eI (48 + (if i = 6 then j % 10 else j / 10)))) F.1 F.2.1 (by rw [hR.2.2.2.1 _ (Nat.not_le.mp h7)]; exact h1) h2 h3 (fun q => x1 (q.imp id (fun q => Nat.le_trans h4 q))) (by rw [x2, h6 _ (by omega), e9]) rfl rfl hd (kk H locs ls hl hR hz)
theorem e_ldcS (F : e_F K p l s m args meth c cc nL ret own) {is : Nat} {text : String} (hstr : (own, is, text) ∈ e_ST) (hd : decode cc pc = .ok (.ldc is, 2)) (kk : ∀ a : Nat, e_V K p l e d mc s m args below meth c nL post px (pc + 2) (L) (.ref a :: st) (w) (n) (k)) : e_V K p l e d mc s m args below meth c nL post px (pc) (L) (st) (w) (n) (k) := by
  intro H locs ls hl hR hz
  obtain ⟨sa, hsa⟩ := F.2.2.2.2.2.2.2.2.1.2.2.2.2.2.2 _ hstr
  exact va_ldcS F.1 F.2.1 F.2.2.2.2.1 hsa hd (kk sa H locs ls hl hR hz)
theorem e_castA (F : e_F K p l s m args meth c cc nL ret own) {ai a N idx : Nat} {g : Nat → Value} {nm : String} (hw : w a = some (.inr (ai, N, g))) (hnm : s.vm.findClass nm = some (K.2.1.1 ai)) (hm : Cond.classLink own idx nm ∈ e_TB) (hd : decode cc pc = .ok (.checkcast idx, 3)) (kk : e_V K p l e d mc s m args below meth c nL post px (pc + 3) (L) (.ref a :: st) (w) (n) (k)) : e_V K p l e d mc s m args below meth c nL post px (pc) (L) (.ref a :: st) (w) (n) (k) := by
  intro H locs ls hl hR hz T hT X
  have hc : T.heap[a]? = some (arrV (K.2.1.1 ai) N g) := by rw [hT]; exact (hR.2.2.1 a _ hw).2
  obtain ⟨vm', X', st9⟩ := X.checkcastYes F.1 F.2.2.2.2.1 (F.2.2.2.2.2.1 _ hm) hc rfl hnm (va_asg _ _) (g := F0 m pc ls (.ref a :: st)) rfl rfl (by rw [F.2.1]; exact hd)
  obtain ⟨t, a1, b1⟩ := kk H locs ls hl hR hz (T.setVm vm') hT X'
  exact ⟨t, st9 t a1, b1⟩
theorem e_cloneX (F : e_F K p l s m args meth c cc nL ret own) {ai a N idx : Nat} {g : Nat → Value} {ad : String} {ty : FieldType} {i0 : Nat} (ht : (e_tys K)[i0]? = some (K.2.1.1 ai, ty)) (hw : w a = some (.inr (ai, N, g))) (hN : N ≤ 256) (hk : k + 1 ≤ mc) (hnm : s.vm.findClass ad = some (K.2.1.1 ai)) (hfit : ∀ j, j < N → fits ty (g j) = true)
    (m1 : Cond.methodLink own idx ⟨ad, "clone", "()Ljava/lang/Object;"⟩ ∈ e_TB) (m2 : Cond.sameMethod ad "java/lang/Object" "clone" "()Ljava/lang/Object;" ∈ e_TB) (m3 : Cond.native ⟨"java/lang/Object", "clone", "()Ljava/lang/Object;"⟩ ∈ e_TB) (m4 : Cond.instanceMethod ⟨"java/lang/Object", "clone", "()Ljava/lang/Object;"⟩ ∈ e_TB) (m5 : Cond.selects ad ⟨ad, "clone", "()Ljava/lang/Object;"⟩ ⟨"java/lang/Object", "clone", "()Ljava/lang/Object;"⟩ ∈ e_TB) (m6 : Cond.castable ad "java/lang/Cloneable" ∈ e_NW)
    (hd : decode cc pc = .ok (.invokevirtual idx, 3)) (hroom : (st.map fun v => v.category).sum ≤ 8) (hdd : 1 ≤ d) (kk : e_V K p l e d mc s m args below meth c nL post px (pc + 3) (L) (.ref n :: st) (e_up w n (.inr (ai, N, g))) (n + 1) (k + 1)) : e_V K p l e d mc s m args below meth c nL post px (pc) (L) (.ref a :: st) (w) (n) (k) := by
  intro H locs ls hl hR hz T hT X
  have hts := F.2.2.2.2.2.1
  have hK := F.2.2.2.2.2.2.2.2.1.1
  obtain ⟨c0, t0', f1, f2, f3⟩ := Cond.castable_spec (va_Nw.use (A := args) rfl (F.2.2.2.2.2.2.2.2.1.2.1 _ m6))
  cases hnm.symm.trans f1
  have hcellT : T.heap[a]? = some (arrV (K.2.1.1 ai) N g) := by rw [hT]; exact (hR.2.2.1 a _ hw).2
  have hsz : (arrV (K.2.1.1 ai) N g).slots.size = N := arrV_size _ _ _
  obtain ⟨-, kA, hkA, comp, hkind⟩ := State.isArrayOf_alike X.warmed.alike ((hK.2 i0 _ ht).1 0 (fun _ => .null))
  obtain ⟨-, kS, hkS, compS, hkindS⟩ := (hK.2 i0 _ ht).1 0 (fun _ => .null)
  have hlt : k < mc := hk
  obtain ⟨vm', X', st9⟩ := X.cloneArray F.1 F.2.2.2.2.1 (hts _ m1) (hts _ m2) (hts _ m3) (hts _ m4) (hts _ m5) (a := a) (cell := arrV (K.2.1.1 ai) N g) hcellT (fun _ h => by cases h) (fun h => by cases h) hnm f2 f3
    (fun i v hv => by
      have hk' : T.vm.classes[K.2.1.1 ai]? = some kA := hkA
      have hi : i < N := by
        have := (Array.getElem?_eq_some_iff.mp hv).1
        rw [hsz] at this; exact this
      rw [arrV_read _ _ hi] at hv
      have hv2 := hfit i hi
      rw [Option.some.inj hv] at hv2
      show T.fitsSlot (K.2.1.1 ai) .none i v = true
      simpa [State.fitsSlot, State.slotType?, hk', hkind] using hv2)
    (g := F0 m pc ls (.ref a :: st)) rfl (by rw [F.2.2.1]; exact hl.1) rfl (by rw [F.2.1]; exact hd) hdd (by show 2 * 0 + (st.map fun v => v.category).sum + 14 ≤ 64 * d; omega) hk (by rw [hsz]; show 256 * k + N ≤ 256 * mc; omega) (hloader := Vm.clonesLoader_of_array hkS hkindS)
  have hcellE : ({ cls := (arrV (K.2.1.1 ai) N g).cls, slots := (arrV (K.2.1.1 ai) N g).slots } : Cell) = arrV (K.2.1.1 ai) N g := rfl
  rw [hcellE, hsz] at X'
  have hn : T.heap.size = n := by rw [hT]; exact hR.1
  obtain ⟨t, a1, b1⟩ := (W.widen (k := k + 1) (n := 256 * (k + 1)) (Nat.le_refl _) (by omega) (kk (H.push (arrV (K.2.1.1 ai) N g)) locs ls hl (hR.push (by show _ = some (arrV _ _ _); rw [← hR.1, Array.getElem?_push_size]) (by rw [Array.size_push, hR.1]) (fun q hq => by rw [Array.getElem?_push, if_neg (by rw [hR.1]; omega)])) hz)) ((T.setVm vm').pushCell (arrV (K.2.1.1 ai) N g)) (by rw [← hT]; rfl) X'
  refine ⟨t, st9 t ?_, b1⟩
  rw [hcellE, hn]
  exact a1
theorem e_copyB (F : e_F K p l s m args meth c cc nL ret own) {a0 a n0 n1 idx : Nat} {f g : Int → Int} {sp dp cnt : Int} (h0 : w a0 = some (e_ba n0 f)) (h1 : w a = some (e_ba n1 g)) (hs : 0 ≤ sp) (hp0 : 0 ≤ dp) (hc : 0 ≤ cnt) (hsn : sp + cnt ≤ n0) (hdn : dp + cnt ≤ n1) (hb0 : n0 < 2147483648) (hb1 : n1 < 2147483648) (hf : ∀ j, -128 ≤ f j ∧ f j < 128)
    (m1 : Cond.methodLink own idx arraycopyName ∈ e_TB) (m2 : Cond.native arraycopyName ∈ e_TB) (m3 : Cond.static arraycopyName ∈ e_TB) (m4 : Cond.initialized "java/lang/System" ∈ e_TB) (hd : decode cc pc = .ok (.invokestatic idx, 3)) (hroom : (st.map fun v => v.category).sum ≤ 8) (hdd : 1 ≤ d)
    (kk : e_V K p l e d mc s m args below meth c nL post px (pc + 3) (L) (st) (e_up w a (e_ba n1 (fun j => if dp ≤ j ∧ j < dp + cnt then f (sp + (j - dp)) else g j))) (n) (k)) : e_V K p l e d mc s m args below meth c nL post px (pc) (L) (.int (eI cnt) :: .int (eI dp) :: .ref a :: .int (eI sp) :: .ref a0 :: st) (w) (n) (k) := by
  have cl9 : ∀ z : Int, 0 ≤ z → z < 2147483648 → (eI z).toNatClampNeg = z.toNat := fun z q1 q2 => by
    show (eI z).toInt.toNat = z.toNat
    rw [eI_toInt (by omega) (by omega)]
  have ng : ∀ z : Int, 0 ≤ z → z < 2147483648 → ¬ eI z < 0 := fun z q1 q2 => by
    rw [Int32.lt_iff_toInt_lt, eI_toInt (by omega) (by omega)]
    have : (0 : Int32).toInt = 0 := by decide
    omega
  intro H locs ls hl hR hz T hT X
  have hts := F.2.2.2.2.2.1
  have hK := F.2.2.2.2.2.2.2.2.1.1
  have hc0 : H[a0]? = some (arrV (K.2.1.1 11) n0 (fun j => .int (eI (f (j : Int))))) := (hR.2.2.1 a0 _ h0).2
  have hc1 : H[a]? = some (arrV (K.2.1.1 11) n1 (fun j => .int (eI (g (j : Int))))) := (hR.2.2.1 a _ h1).2
  obtain ⟨-, k0, hk0, cm0, hkk0⟩ := (hK.2 3 _ rfl).1 n0 (fun j => .int (eI (f (j : Int))))
  obtain ⟨-, k1, hk1, cm1, hkk1⟩ := (hK.2 3 _ rfl).1 n1 (fun j => .int (eI (g (j : Int))))
  have es := cl9 sp hs (by omega)
  have ed := cl9 dp hp0 (by omega)
  have ec := cl9 cnt hc (by omega)
  obtain ⟨vm', X', step⟩ := X.arraycopy F.1 F.2.2.2.2.1 (hts _ m1) (hts _ m2) (hts _ m3) (hts _ m4) (src := a0) (dst := a) (cs := arrV (K.2.1.1 11) n0 (fun j => .int (eI (f (j : Int))))) (cd := arrV (K.2.1.1 11) n1 (fun j => .int (eI (g (j : Int))))) (srcPos := eI sp) (destPos := eI dp) (n := eI cnt) (by rw [hT]; exact hc0) (by rw [hT]; exact hc1)
    (fun _ h => by cases h) (fun _ h => by cases h) (fun h => by cases h) (fun h => by cases h) hk0 hk1 hkk0 hkk1 (by simp [refKind]) (ng sp hs (by omega)) (ng dp hp0 (by omega)) (ng cnt hc (by omega))
    (by rw [eI_toInt (by omega) (by omega), eI_toInt (by omega) (by omega), arrV_size]; omega)
    (by rw [eI_toInt (by omega) (by omega), eI_toInt (by omega) (by omega), arrV_size]; omega)
    (fun vm₁ _ i hi => by
      have e : (arrV (K.2.1.1 11) n0 (fun j => .int (eI (f (j : Int))))).slots.getD ((eI sp).toNatClampNeg + i) .null = .int (eI (f ((((eI sp).toNatClampNeg + i : Nat)) : Int))) := by
        rw [Array.getD_eq_getD_getElem?, arrV_read _ _ (by omega)]
        rfl
      refine ⟨?_, ?_⟩
      · rw [e]
        exact e_fitB (hf _).1 (hf _).2
      · rw [e]
        exact trivial)
    (g := F0 m pc ls (.int (eI cnt) :: .int (eI dp) :: .ref a :: .int (eI sp) :: .ref a0 :: st)) rfl (by rw [F.2.2.1]; exact hl.1) (rest := st) rfl (by rw [F.2.1]; exact hd) hdd (by show 2 * 0 + (st.map fun v => v.category).sum + (nativeFrameWords "java/lang/System" "arraycopy" 5 + 11) ≤ 64 * d; have := e_nfw; omega)
  have e1 : copied (arrV (K.2.1.1 11) n0 (fun j => .int (eI (f (j : Int))))) (arrV (K.2.1.1 11) n1 (fun j => .int (eI (g (j : Int))))) (eI sp) (eI dp) (eI cnt) = arrV (K.2.1.1 11) n1 (fun j => .int (va_cpy (fun j => eI (f ((j : Nat) : Int))) (fun j => eI (g ((j : Nat) : Int))) (eI sp).toNatClampNeg (eI dp).toNatClampNeg (eI cnt).toNatClampNeg j)) := va_copied (fun z => .int z) (K.2.1.1 11) (K.2.1.1 11) (fun j => eI (f ((j : Nat) : Int))) (fun j => eI (g ((j : Nat) : Int))) (by omega)
  have e2 : arrV (K.2.1.1 11) n1 (fun j => .int (va_cpy (fun j => eI (f ((j : Nat) : Int))) (fun j => eI (g ((j : Nat) : Int))) (eI sp).toNatClampNeg (eI dp).toNatClampNeg (eI cnt).toNatClampNeg j)) = arrV (K.2.1.1 11) n1 (fun j => .int (eI (if dp ≤ (j : Int) ∧ (j : Int) < dp + cnt then f (sp + ((j : Int) - dp)) else g (j : Int)))) := by
    congr 1
    funext j
    rw [es, ed, ec]
    unfold va_cpy
    by_cases q : dp ≤ (j : Int) ∧ (j : Int) < dp + cnt
    · rw [if_pos q, if_pos (by omega)]
      have e9 : (((sp.toNat + (j - dp.toNat) : Nat)) : Int) = sp + ((j : Int) - dp) := by omega
      show Value.int (eI (f ((sp.toNat + (j - dp.toNat) : Nat) : Int))) = _
      rw [e9]
    · rw [if_neg q, if_neg (by omega)]
  rw [e1, e2] at X' step
  have hl9 : a < H.size := (Array.getElem?_eq_some_iff.mp hc1).1
  have hA := (hR.2.2.1 a _ h1).1
  obtain ⟨t, a1, b1⟩ := kk (H.setIfInBounds a (arrV (K.2.1.1 11) n1 (fun j => .int (eI (if dp ≤ (j : Int) ∧ (j : Int) < dp + cnt then f (sp + ((j : Int) - dp)) else g (j : Int)))))) _ ls hl (hR.up h1 (by show (H.setIfInBounds a _)[a]? = some (arrV _ _ _); simp [Array.getElem?_setIfInBounds, hl9]) (by simp) (fun q hq => by simp [Array.getElem?_setIfInBounds, Ne.symm hq])) (fun z hz' => by
      rcases List.mem_append.mp hz' with h | h
      · exact hz z h
      · obtain ⟨z9, -, hz9⟩ := List.mem_map.mp h
        rw [← hz9]
        exact hA) _ (by rw [← hT]; rfl) X'
  exact ⟨t, step t a1, b1⟩
theorem e_aastR (F : e_F K p l s m args meth c cc nL ret own) {a v N N2 : Nat} {f : Int → Option Nat} {g2 : Nat → Value} {i : Int} (hw : w a = some (e_ra N f)) (hv : w v = some (.inr (8, N2, g2))) (h0 : 0 ≤ i) (hN : i < N) (hb : N < 2147483648) (hd : decode cc pc = .ok (.aastore, 1)) (kk : e_V K p l e d mc s m args below meth c nL post px (pc + 1) (L) (st) (e_up w a (e_ra N (e_fu f i (some v)))) (n) (k)) : e_V K p l e d mc s m args below meth c nL post px (pc) (L) (.ref v :: .int (eI i) :: .ref a :: st) (w) (n) (k) := by
  obtain ⟨x1, x2⟩ := e_ix h0 hN hb
  intro H locs ls hl hR hz
  have hA := (hR.2.2.1 a _ hw)
  have hV := (hR.2.2.1 v _ hv).2
  obtain ⟨k10, k8, q1, q2, q3⟩ := e_RI F
  refine W.aast F.1 F.2.1 hA.2 (fun q h => by cases h) (fun h => by cases h) q1 q2 rfl q3 ⟨fun q => x1 (Or.inl q), by rw [arrV_size]; exact Nat.not_le.mp fun q => x1 (Or.inr q)⟩ hV (fun q h => by cases h) q3 (va_asg _ _) rfl rfl hd fun H' e1 e2 e3 => ?_
  refine kk H' _ ls hl (hR.up hw ?_ e2 e3) (fun z hz' => ?_)
  · show H'[a]? = some (arrV _ _ _)
    rw [e1, arrV_store, x2]
    congr 2
    funext j
    unfold updV e_fu
    dsimp only
    by_cases hj : j = i.toNat
    · subst hj; rw [if_pos rfl, if_pos (by omega)]; rfl
    · rw [if_neg hj, if_neg (by omega)]
  · rcases List.mem_append.mp hz' with h | h
    · exact hz z h
    · rw [List.mem_singleton.mp h]; exact hA.1
theorem e_aastRN (F : e_F K p l s m args meth c cc nL ret own) {a N : Nat} {f : Int → Option Nat} {i : Int} (hw : w a = some (e_ra N f)) (h0 : 0 ≤ i) (hN : i < N) (hb : N < 2147483648) (hd : decode cc pc = .ok (.aastore, 1)) (kk : e_V K p l e d mc s m args below meth c nL post px (pc + 1) (L) (st) (e_up w a (e_ra N (e_fu f i none))) (n) (k)) : e_V K p l e d mc s m args below meth c nL post px (pc) (L) (.null :: .int (eI i) :: .ref a :: st) (w) (n) (k) := by
  obtain ⟨x1, x2⟩ := e_ix h0 hN hb
  intro H locs ls hl hR hz T hT X
  have hA := (hR.2.2.1 a _ hw)
  obtain ⟨k10, k8, q1, q2, q3⟩ := e_RI F
  have hT' : T.heap[a]? = some (arrV (K.2.1.1 10) N (fun j => va_rf (f (j : Int)))) := by rw [hT]; exact hA.2
  obtain ⟨X', st9⟩ := X.aastoreNullIn F.1 hT' (fun q h => by cases h) (fun h => by cases h) q1 q2 rfl ⟨fun q => x1 (Or.inl q), by rw [arrV_size]; exact Nat.not_le.mp fun q => x1 (Or.inr q)⟩ (g := F0 m pc ls (.null :: .int (eI i) :: .ref a :: st)) rfl rfl (by rw [F.2.1]; exact hd)
  have hlt : a < T.heap.size := (Array.getElem?_eq_some_iff.mp hT').1
  have e9 : e_at K a (e_ra N (e_fu f i none)) (T.setCell a ((arrV (K.2.1.1 10) N (fun j => va_rf (f (j : Int)))).setSlot (eI i).toNatClampNeg .null)).heap := by
    show (T.setCell a _).heap[a]? = some (arrV _ _ _)
    rw [heapAt_setCell_self _ hlt, arrV_store, x2]
    congr 2
    funext j
    unfold updV e_fu
    dsimp only
    by_cases hj : j = i.toNat
    · subst hj; rw [if_pos rfl, if_pos (by omega)]; rfl
    · rw [if_neg hj, if_neg (by omega)]
  obtain ⟨t', a1, b1⟩ := kk _ _ ls hl (hR.up hw e9 (by rw [size_setCell, hT]) (fun q hq => by rw [heapAt_setCell_ne _ (Ne.symm hq), hT])) (fun z hz' => by
    rcases List.mem_append.mp hz' with h | h
    · exact hz z h
    · rw [List.mem_singleton.mp h]; exact hA.1) (T.setCell a ((arrV (K.2.1.1 10) N (fun j => va_rf (f (j : Int)))).setSlot (eI i).toNatClampNeg .null)) rfl X'
  exact ⟨t', st9 t' a1, b1⟩

theorem e_callVU (F : e_F K p l s m args meth c cc nL ret own) {y : MethodName} {bytes : ByteArray} {maxL idx d2 mc2 na : Nat} {rt : Option FieldType} {as2 st0 : List Value} {post2 : Option Value → e_W → Nat → Prop} {px2 : String → e_W → Nat → Prop} {b : Nat} {fs : List Value} (Y : e_Y y bytes maxL rt na) (hi : Cond.instanceMethod y ∈ e_TB) (hse : Cond.selects RJ4 y y ∈ e_TB) (hsa : Cond.sameMethod y.cls y.cls y.name y.desc ∈ e_TB) (hst : st0 = as2.reverse ++ .ref b :: st) (hM : e_Met K l y (Cond.code y bytes maxL rt :: e_TB) d2 mc2 (.ref b :: as2) w n post2 px2) (hw : w b = some (.inl (6, fs))) (hm : Cond.methodLink own idx y ∈ e_TB) (hd : decode cc pc = .ok (.invokevirtual idx, 3)) (hn : as2.length = na) (hroom : (st.map fun v => v.category).sum ≤ 8) (hdd : d2 + 1 ≤ d) (hk : k + mc2 ≤ mc) (kx : ∀ E w' n', px2 E w' n' → n ≤ n' → px E w' n') (kk : ∀ r w' n', post2 r w' n' → n ≤ n' → e_V K p l e d mc s m args below meth c nL post px (pc + 3) (L) (r.toList ++ st) (w') (n') (k + mc2)) : e_V K p l e d mc s m args below meth c nL post px (pc) (L) (st0) (w) (n) (k) :=
  fun H locs ls hl hR hz => e_after F hl hR hz (vx_runU (own := own) (x := y) (C := RJ4) (owner := y.cls) (n := na) (e_fix F) (hM F.2.2.2.2.2.2.2.2.2) (e_CU F Y hi hse hsa hm hdd) (e_preV F hR hw rfl rfl) rfl hn hl.1 hst (lv_room hroom) hd ⟨hk, by show 256 * k + 256 * mc2 ≤ 256 * mc; omega⟩) hk kx kk
theorem e_callVO (F : e_F K p l s m args meth c cc nL ret own) {x : MethodName} {b0 : ByteArray} {m0 : Nat} {r0 : Option FieldType} {y : MethodName} {bytes : ByteArray} {maxL idx d2 mc2 na : Nat} {rt : Option FieldType} {as2 st0 : List Value} {post2 : Option Value → e_W → Nat → Prop} {px2 : String → e_W → Nat → Prop} {b : Nat} {fs : List Value} (Y : e_Y y bytes maxL rt na) (hi : Cond.instanceMethod y ∈ e_TB) (hse : Cond.selects RJ4 x y ∈ e_TB) (hsa : Cond.sameMethod x.cls x.cls x.name x.desc ∈ e_TB) (hx : Cond.code x b0 m0 r0 ∈ e_TB) (hxi : Cond.instanceMethod x ∈ e_TB) (hxm : x.cls ≠ "java/lang/invoke/MethodHandle" ∧ x.cls ≠ "java/lang/invoke/VarHandle" ∧ (parseMethodDescriptor x.desc).map (fun d => d.parameters.length) = some na) (hst : st0 = as2.reverse ++ .ref b :: st) (hM : e_Met K l y (Cond.code y bytes maxL rt :: e_TB) d2 mc2 (.ref b :: as2) w n post2 px2) (hw : w b = some (.inl (6, fs))) (hm : Cond.methodLink own idx x ∈ e_TB) (hd : decode cc pc = .ok (.invokevirtual idx, 3)) (hn : as2.length = na) (hroom : (st.map fun v => v.category).sum ≤ 8) (hdd : d2 + 1 ≤ d) (hk : k + mc2 ≤ mc) (kx : ∀ E w' n', px2 E w' n' → n ≤ n' → px E w' n') (kk : ∀ r w' n', post2 r w' n' → n ≤ n' → e_V K p l e d mc s m args below meth c nL post px (pc + 3) (L) (r.toList ++ st) (w') (n') (k + mc2)) : e_V K p l e d mc s m args below meth c nL post px (pc) (L) (st0) (w) (n) (k) :=
  fun H locs ls hl hR hz => e_after F hl hR hz (vx_runU (own := own) (x := x) (C := RJ4) (owner := x.cls) (n := na) (e_fix F) (hM F.2.2.2.2.2.2.2.2.2) (e_CO F Y hi hse hsa hm hx hxi hxm hdd) (e_preV F hR hw rfl rfl) rfl hn hl.1 hst (lv_room hroom) hd ⟨hk, by show 256 * k + 256 * mc2 ≤ 256 * mc; omega⟩) hk kx kk
theorem e_callSU (F : e_F K p l s m args meth c cc nL ret own) {y : MethodName} {bytes : ByteArray} {maxL idx d2 mc2 na : Nat} {rt : Option FieldType} {as2 st0 : List Value} {post2 : Option Value → e_W → Nat → Prop} {px2 : String → e_W → Nat → Prop} {b : Nat} {fs : List Value} (Y : e_Y y bytes maxL rt na) (hno : y.name ≠ "<init>") (hi : Cond.instanceMethod y ∈ e_TB) (hsu : Cond.superclass own y.cls ∈ e_TB) (hsa : Cond.sameMethod y.cls y.cls y.name y.desc ∈ e_TB) (hst : st0 = as2.reverse ++ .ref b :: st) (hM : e_Met K l y (Cond.code y bytes maxL rt :: e_TB) d2 mc2 (.ref b :: as2) w n post2 px2) (hw : w b = some (.inl (6, fs))) (hm : Cond.methodLink own idx y ∈ e_TB) (hd : decode cc pc = .ok (.invokespecial idx, 3)) (hn : as2.length = na) (hroom : (st.map fun v => v.category).sum ≤ 8) (hdd : d2 + 1 ≤ d) (hk : k + mc2 ≤ mc) (kx : ∀ E w' n', px2 E w' n' → n ≤ n' → px E w' n') (kk : ∀ r w' n', post2 r w' n' → n ≤ n' → e_V K p l e d mc s m args below meth c nL post px (pc + 3) (L) (r.toList ++ st) (w') (n') (k + mc2)) : e_V K p l e d mc s m args below meth c nL post px (pc) (L) (st0) (w) (n) (k) :=
  fun H locs ls hl hR hz => e_after F hl hR hz (vx_runSU (own := own) (C := RJ4) (n := na) (e_clAt F) (e_fix F) (hM F.2.2.2.2.2.2.2.2.2) (e_CS F Y hno hi hsu hsa hm hdd) (e_preV F hR hw rfl rfl) rfl hn hl.1 hst (lv_room hroom) hd ⟨hk, by show 256 * k + 256 * mc2 ≤ 256 * mc; omega⟩) hk kx kk

end EV
end
-- 41.sb.lean.txt
section
/-! StringBuilder: lengths alone -/
abbrev SBo (v : Nat) (c : Int) : e_C := .inl (6, [.ref v, .int (eI 0), .int (eI 0), .int (eI c)])
abbrev STo (v : Nat) : e_C := .inl (7, [.ref v, .int (eI 0), .int (eI 0), .int (eI 0)])
def BR (f : Int → Int) : Prop := ∀ j, -128 ≤ f j ∧ f j < 128
/-- a builder at b with c letters; its bytes lie behind it -/
def SB (w : e_W) (b : Nat) (c : Int) : Prop := ∃ (v m : Nat) (f : Int → Int), w b = some (SBo v c) ∧ w v = some (e_ba m f) ∧ b < v ∧ BR f ∧ 0 ≤ c ∧ c ≤ m ∧ m ≤ 256
def KB (w w' : e_W) (b : Nat) : Prop := ∀ j, j < b → w' j = w j
theorem BR.fu {f : Int → Int} {i x : Int} (h : BR f) (h1 : -128 ≤ x) (h2 : x < 128) : BR (e_fu f i x) := by
  intro j
  unfold e_fu
  split
  · exact ⟨h1, h2⟩
  · exact h j
theorem p10_mono {a b : Nat} (h : a ≤ b) : (10 : Int) ^ a ≤ 10 ^ b := by
  have h1 : (10 : Nat) ^ a ≤ 10 ^ b := Nat.pow_le_pow_right (by omega) h
  have h2 : (((10 : Nat) ^ a : Nat) : Int) ≤ (((10 : Nat) ^ b : Nat) : Int) := by exact_mod_cast h1
  rw [Int.natCast_pow, Int.natCast_pow] at h2
  exact h2
theorem p10_2 {y p : Int} (h1 : 1 ≤ p) (h : y < 10 ^ p.toNat) (h9 : 10 ≤ y) : 2 ≤ p := by
  apply Classical.byContradiction
  intro q
  have e : p.toNat = 1 := by omega
  rw [e] at h
  have : (10 : Int) ^ 1 = 10 := by decide
  omega
theorem p10_3 {y p : Int} (h1 : 1 ≤ p) (h : y < 10 ^ p.toNat) (h9 : 100 ≤ y) : 3 ≤ p ∧ y / 100 < 10 ^ (p + -1 + -1).toNat := by
  have h3 : 3 ≤ p := by
    apply Classical.byContradiction
    intro q
    have h4 := p10_mono (show p.toNat ≤ 2 by omega)
    have : (10 : Int) ^ 2 = 100 := by decide
    omega
  refine ⟨h3, ?_⟩
  have e : p.toNat = (p + -1 + -1).toNat + 1 + 1 := by omega
  rw [e, Int.pow_succ, Int.pow_succ] at h
  omega
set_option maxHeartbeats 4000000 in
set_option maxRecDepth 100000 in
theorem c_J8_newLength_cabcc {K : e_K} {l : Launch} {w : e_W} {n : Nat} {a b c : Int} (ha : 0 ≤ a) (ha2 : a ≤ 256) (hb : -1000 ≤ b) (hb2 : b ≤ 1000) (hc : 1 ≤ c) (hc2 : c ≤ 1000) : e_Met K l yJ8_newLength_cabcc (Cond.code yJ8_newLength_cabcc cJ8_newLength_cabcc 4 (Option.some .int) :: e_TB) (1) (0) [.int (eI a), .int (eI b), .int (eI c)] w n (fun r w' n' => r = some (.int (eI (a + (if b < c then c else b)))) ∧ w' = w ∧ n' = n) (e_px0) := by
  refine e_ofV rfl (Nat.le_of_ble_eq_true rfl) ?_
  intro P9 E9 S9 M9 A9 B9 T9 C9 F hnm
  have hx : 1 ≤ (if b < c then c else b) ∧ (if b < c then c else b) ≤ 1000 := by split <;> omega
  refine e_iload_n F dJ8_newLength_cabcc_0 rfl ?_
  refine e_iload_n F dJ8_newLength_cabcc_1 rfl ?_
  refine e_iload_n F dJ8_newLength_cabcc_2 rfl ?_
  refine e_mmax F ⟨by omega, by omega⟩ ⟨by omega, by omega⟩ w_ml_RJ8_194 w_sm_J9_max_7cf53 w_in_RJ9 w_co_J9_max_7cf53 dJ8_newLength_cabcc_3 (Nat.le_of_ble_eq_true rfl) (by decide) (by omega) ?_
  refine e_iadd F dJ8_newLength_cabcc_6 ?_
  refine e_istore_n F dJ8_newLength_cabcc_7 (by decide) ?_
  refine e_iconst F dJ8_newLength_cabcc_8 ?_
  refine e_iload_n F dJ8_newLength_cabcc_9 rfl ?_
  refine e_icmp_ge F 21 dJ8_newLength_cabcc_10 (by decide) (⟨by omega, by omega⟩) (⟨by omega, by omega⟩) (fun c_10 => ?_) (fun c_10 => ?_)
  · exact absurd c_10 (by omega)
  · refine e_iload_n F dJ8_newLength_cabcc_13 rfl ?_
    refine e_ldc F dJ8_newLength_cabcc_14 w_k_RJ8_200 ?_
    refine e_icmp_gt F 21 dJ8_newLength_cabcc_16 (by decide) (⟨by omega, by omega⟩) (⟨by omega, by omega⟩) (fun c_16 => ?_) (fun c_16 => ?_)
    · exact absurd c_16 (by omega)
    · refine e_iload_n F dJ8_newLength_cabcc_19 rfl ?_
      refine e_iret F rfl (by omega) ?_ dJ8_newLength_cabcc_20
      exact ⟨rfl, rfl, rfl⟩
set_option maxHeartbeats 4000000 in
set_option maxRecDepth 100000 in
theorem c_J5_newCapacity_0f7a4 {K : e_K} {l : Launch} {w : e_W} {n : Nat} {b v m : Nat} {c : Int} {f : Int → Int} (hb : w b = some (SBo v c)) (hv : w v = some (e_ba m f)) {q : Int} (hm : m ≤ 256) (hq : m < q) (hq2 : q ≤ 400) : e_Met K l yJ5_newCapacity_0f7a4 (Cond.code yJ5_newCapacity_0f7a4 cJ5_newCapacity_0f7a4 6 (Option.some .int) :: e_TB) (2) (0) [.ref b, .int (eI q)] w n (fun r w' n' => r = some (.int (eI ((m : Int) + (if q - m < (m : Int) + 2 then (m : Int) + 2 else q - m)))) ∧ w' = w ∧ n' = n) (e_px0) := by
  refine e_ofV rfl (Nat.le_of_ble_eq_true rfl) ?_
  intro P9 E9 S9 M9 A9 B9 T9 C9 F hnm
  have hx : 1 ≤ (if q - m < (m : Int) + 2 then (m : Int) + 2 else q - m) ∧ (if q - m < (m : Int) + 2 then (m : Int) + 2 else q - m) ≤ 1000 := by split <;> omega
  refine e_aload_n F dJ5_newCapacity_0f7a4_0 rfl ?_
  refine e_get (ci := 6) (fi := 0) (q := (RJ4, TJ4, 4)) F (by first | assumption | exact e_up_s | (rw [e_up_n (by first | assumption | omega)]; first | assumption | exact e_up_s | (rw [e_up_n (by first | assumption | omega)]; first | assumption | exact e_up_s | (rw [e_up_n (by first | assumption | omega)]; first | assumption | exact e_up_s))) | exact hD.1 | exact hD1.1 | exact hD2.1 | exact gD.1 | exact gD1.1 | exact gD2.1 | exact gQ.1 | exact hQ.1 | exact gS.1 | exact hS.1 | exact zD.1) rfl (by decide) w_fl_RJ5_15 (by rfl) dJ5_newCapacity_0f7a4_1 ?_
  refine e_alenB F (by first | assumption | exact e_up_s | (rw [e_up_n (by first | assumption | omega)]; first | assumption | exact e_up_s | (rw [e_up_n (by first | assumption | omega)]; first | assumption | exact e_up_s | (rw [e_up_n (by first | assumption | omega)]; first | assumption | exact e_up_s))) | exact hD.1 | exact hD1.1 | exact hD2.1 | exact gD.1 | exact gD1.1 | exact gD2.1 | exact gQ.1 | exact hQ.1 | exact gS.1 | exact hS.1 | exact zD.1) dJ5_newCapacity_0f7a4_4 ?_
  refine e_istore_n F dJ5_newCapacity_0f7a4_5 (by decide) ?_
  refine e_iload_n F dJ5_newCapacity_0f7a4_6 rfl ?_
  refine e_aload_n F dJ5_newCapacity_0f7a4_7 rfl ?_
  refine e_get (ci := 6) (fi := 1) (q := (RJ4, TJ4, 4)) F (by first | assumption | exact e_up_s | (rw [e_up_n (by first | assumption | omega)]; first | assumption | exact e_up_s | (rw [e_up_n (by first | assumption | omega)]; first | assumption | exact e_up_s | (rw [e_up_n (by first | assumption | omega)]; first | assumption | exact e_up_s))) | exact hD.1 | exact hD1.1 | exact hD2.1 | exact gD.1 | exact gD1.1 | exact gD2.1 | exact gQ.1 | exact hQ.1 | exact gS.1 | exact hS.1 | exact zD.1) rfl (by decide) w_fl_RJ5_22 (by rfl) dJ5_newCapacity_0f7a4_8 ?_
  refine e_ishl F dJ5_newCapacity_0f7a4_11 (e_shl0 _) ?_
  refine e_istore_n F dJ5_newCapacity_0f7a4_12 (by decide) ?_
  refine e_iload_n F dJ5_newCapacity_0f7a4_13 rfl ?_
  refine e_iload_n F dJ5_newCapacity_0f7a4_14 rfl ?_
  refine e_isub F dJ5_newCapacity_0f7a4_15 ?_
  refine e_istore F dJ5_newCapacity_0f7a4_16 (by decide) ?_
  refine e_iload_n F dJ5_newCapacity_0f7a4_18 rfl ?_
  refine e_iload F dJ5_newCapacity_0f7a4_19 rfl ?_
  refine e_iload_n F dJ5_newCapacity_0f7a4_21 rfl ?_
  refine e_iconst F dJ5_newCapacity_0f7a4_22 ?_
  refine e_aload_n F dJ5_newCapacity_0f7a4_23 rfl ?_
  refine e_get (ci := 6) (fi := 1) (q := (RJ4, TJ4, 4)) F (by first | assumption | exact e_up_s | (rw [e_up_n (by first | assumption | omega)]; first | assumption | exact e_up_s | (rw [e_up_n (by first | assumption | omega)]; first | assumption | exact e_up_s | (rw [e_up_n (by first | assumption | omega)]; first | assumption | exact e_up_s))) | exact hD.1 | exact hD1.1 | exact hD2.1 | exact gD.1 | exact gD1.1 | exact gD2.1 | exact gQ.1 | exact hQ.1 | exact gS.1 | exact hS.1 | exact zD.1) rfl (by decide) w_fl_RJ5_22 (by rfl) dJ5_newCapacity_0f7a4_24 ?_
  refine e_ishl F dJ5_newCapacity_0f7a4_27 (e_shl0 _) ?_
  refine e_iadd F dJ5_newCapacity_0f7a4_28 ?_
  refine e_callSS F u_J8_newLength_cabcc (by rfl) (c_J8_newLength_cabcc (a := (m : Int)) (b := q - m) (c := (m : Int) + 2) (by omega) (by omega) (by omega) (by omega) (by omega) (by omega)) w_ml_RJ5_114 dJ5_newCapacity_0f7a4_29 (by rfl) (Nat.le_of_ble_eq_true rfl) (by decide) (by omega) (fun _ _ _ h _ => False.elim h) (fun r_29 w_29 n_29 h_29 hn_29 => ?_)
  obtain ⟨rfl, ew_29, en_29⟩ := h_29
  rw [ew_29, en_29]
  refine e_istore F dJ5_newCapacity_0f7a4_32 (by decide) ?_
  refine e_iload F dJ5_newCapacity_0f7a4_34 rfl ?_
  refine e_ldc F dJ5_newCapacity_0f7a4_36 w_k_RJ5_39 ?_
  refine e_icmp_ne F 51 dJ5_newCapacity_0f7a4_38 (by decide) (⟨by omega, by omega⟩) (⟨by omega, by omega⟩) (fun c_38 => ?_) (fun c_38 => ?_)
  · refine e_iload F dJ5_newCapacity_0f7a4_51 rfl ?_
    refine e_aload_n F dJ5_newCapacity_0f7a4_53 rfl ?_
    refine e_get (ci := 6) (fi := 1) (q := (RJ4, TJ4, 4)) F (by first | assumption | exact e_up_s | (rw [e_up_n (by first | assumption | omega)]; first | assumption | exact e_up_s | (rw [e_up_n (by first | assumption | omega)]; first | assumption | exact e_up_s | (rw [e_up_n (by first | assumption | omega)]; first | assumption | exact e_up_s))) | exact hD.1 | exact hD1.1 | exact hD2.1 | exact gD.1 | exact gD1.1 | exact gD2.1 | exact gQ.1 | exact hQ.1 | exact gS.1 | exact hS.1 | exact zD.1) rfl (by decide) w_fl_RJ5_22 (by rfl) dJ5_newCapacity_0f7a4_54 ?_
    refine e_ishr F dJ5_newCapacity_0f7a4_57 (e_shr0 _) ?_
    refine e_iret F rfl (by omega) ?_ dJ5_newCapacity_0f7a4_58
    exact ⟨rfl, rfl, rfl⟩
  · exact absurd c_38 (by omega)
set_option maxHeartbeats 4000000 in
set_option maxRecDepth 100000 in
theorem c_J7_copyOf_9075b {K : e_K} {l : Launch} {w : e_W} {n : Nat} {a m : Nat} {f : Int → Int} (ha : w a = some (e_ba m f)) (hf : BR f) {q : Int} (hm : m < q) (hq : q ≤ 256) : e_Met K l yJ7_copyOf_9075b (Cond.code yJ7_copyOf_9075b cJ7_copyOf_9075b 3 (Option.some (.array .byte)) :: e_TB) (1) (1) [.ref a, .int (eI q)] w n (fun r w' n' => ∃ g, BR g ∧ r = some (.ref n) ∧ w' = e_up w n (e_ba q.toNat g) ∧ n' = n + 1) (e_px0) := by
  refine e_ofV rfl (Nat.le_of_ble_eq_true rfl) ?_
  intro P9 E9 S9 M9 A9 B9 T9 C9 F hnm
  refine e_dom ?_
  intro hdom
  have han := hdom _ _ ha
  refine e_iload_n F dJ7_copyOf_9075b_0 rfl ?_
  refine e_aload_n F dJ7_copyOf_9075b_1 rfl ?_
  refine e_alenB F (by first | assumption | exact e_up_s | (rw [e_up_n (by first | assumption | omega)]; first | assumption | exact e_up_s | (rw [e_up_n (by first | assumption | omega)]; first | assumption | exact e_up_s | (rw [e_up_n (by first | assumption | omega)]; first | assumption | exact e_up_s))) | exact hD.1 | exact hD1.1 | exact hD2.1 | exact gD.1 | exact gD1.1 | exact gD2.1 | exact gQ.1 | exact hQ.1 | exact gS.1 | exact hS.1 | exact zD.1) dJ7_copyOf_9075b_2 ?_
  refine e_icmp_ne F 14 dJ7_copyOf_9075b_3 (by decide) (⟨by omega, by omega⟩) (⟨by omega, by omega⟩) (fun c_3 => ?_) (fun c_3 => ?_)
  · refine e_iload_n F dJ7_copyOf_9075b_14 rfl ?_
    refine e_newB F (N := q.toNat) (by first | rfl | omega) (by omega) (by omega) w_ac_byte dJ7_copyOf_9075b_15 ?_
    refine e_astore_n F dJ7_copyOf_9075b_17 (by decide) ?_
    refine e_aload_n F dJ7_copyOf_9075b_18 rfl ?_
    refine e_iconst F dJ7_copyOf_9075b_19 ?_
    refine e_aload_n F dJ7_copyOf_9075b_20 rfl ?_
    refine e_iconst F dJ7_copyOf_9075b_21 ?_
    refine e_aload_n F dJ7_copyOf_9075b_22 rfl ?_
    refine e_alenB F (by first | assumption | exact e_up_s | (rw [e_up_n (by first | assumption | omega)]; first | assumption | exact e_up_s | (rw [e_up_n (by first | assumption | omega)]; first | assumption | exact e_up_s | (rw [e_up_n (by first | assumption | omega)]; first | assumption | exact e_up_s))) | exact hD.1 | exact hD1.1 | exact hD2.1 | exact gD.1 | exact gD1.1 | exact gD2.1 | exact gQ.1 | exact hQ.1 | exact gS.1 | exact hS.1 | exact zD.1) dJ7_copyOf_9075b_23 ?_
    refine e_iload_n F dJ7_copyOf_9075b_24 rfl ?_
    refine e_mmin F ⟨by omega, by omega⟩ ⟨by omega, by omega⟩ w_ml_RJ7_304 w_sm_J9_min_7cf53 w_in_RJ9 w_co_J9_min_7cf53 dJ7_copyOf_9075b_25 (Nat.le_of_ble_eq_true rfl) (by decide) (by omega) ?_
    rw [if_neg (show ¬ q < (m : Int) by omega)]
    refine e_copyB F (sp := 0) (dp := 0) (cnt := (m : Int)) (f := f) (g := fun _ => 0) (by rw [e_up_n (by omega)]; exact ha) e_up_s (by omega) (by omega) (by omega) (by omega) (by omega) (by omega) (by omega) hf w_ml_RJ7_150 w_nat_arraycopy_42 w_sm_java_lang_System_arraycopy__Ljava_lang_Object_ILjava_lang_Object_II_V w_in_RJ10 dJ7_copyOf_9075b_28 (Nat.le_of_ble_eq_true rfl) (by decide) ?_
    refine e_aload_n F dJ7_copyOf_9075b_31 rfl ?_
    refine e_aret F rfl (Or.inr ⟨_, rfl⟩) (Or.inr ⟨_, rfl⟩) (by omega) ?_ dJ7_copyOf_9075b_32
    refine ⟨_, ?_, rfl, e_up_up, rfl⟩
    intro j
    dsimp only
    split
    · exact hf _
    · decide
  · exact absurd c_3 (by omega)
set_option maxHeartbeats 4000000 in
set_option maxRecDepth 100000 in
theorem c_J5_ensureCapacityInternal_d00df {K : e_K} {l : Launch} {w : e_W} {n : Nat} {b v m : Nat} {c : Int} {f : Int → Int} (hb : w b = some (SBo v c)) (hv : w v = some (e_ba m f)) {q : Int} (hf : BR f) (hbv : b < v) (hm : m ≤ 256) (hq : 0 ≤ q) (hq2 : q ≤ 120) : e_Met K l yJ5_ensureCapacityInternal_d00df (Cond.code yJ5_ensureCapacityInternal_d00df cJ5_ensureCapacityInternal_d00df 3 none :: e_TB) (3) (1) [.ref b, .int (eI q)] w n (fun r w' n' => r = none ∧ ∃ (v' m' : Nat) (f' : Int → Int), w' b = some (SBo v' c) ∧ w' v' = some (e_ba m' f') ∧ b < v' ∧ BR f' ∧ q ≤ m' ∧ m' ≤ 256 ∧ KB w w' b) (e_px0) := by
  refine e_ofV rfl (Nat.le_of_ble_eq_true rfl) ?_
  intro P9 E9 S9 M9 A9 B9 T9 C9 F hnm
  refine e_dom ?_
  intro hdom
  have hbn := hdom _ _ hb
  have hx : ∀ y : Int, q = y → 0 < y - m → 0 < (m : Int) + (if y - m < (m : Int) + 2 then (m : Int) + 2 else y - m) ∧ y ≤ (m : Int) + (if y - m < (m : Int) + 2 then (m : Int) + 2 else y - m) ∧ (m : Int) < (m : Int) + (if y - m < (m : Int) + 2 then (m : Int) + 2 else y - m) ∧ (m : Int) + (if y - m < (m : Int) + 2 then (m : Int) + 2 else y - m) ≤ 256 := by
    intro y hy hp
    split <;> omega
  refine e_aload_n F dJ5_ensureCapacityInternal_d00df_0 rfl ?_
  refine e_get (ci := 6) (fi := 0) (q := (RJ4, TJ4, 4)) F (by first | assumption | exact e_up_s | (rw [e_up_n (by first | assumption | omega)]; first | assumption | exact e_up_s | (rw [e_up_n (by first | assumption | omega)]; first | assumption | exact e_up_s | (rw [e_up_n (by first | assumption | omega)]; first | assumption | exact e_up_s))) | exact hD.1 | exact hD1.1 | exact hD2.1 | exact gD.1 | exact gD1.1 | exact gD2.1 | exact gQ.1 | exact hQ.1 | exact gS.1 | exact hS.1 | exact zD.1) rfl (by decide) w_fl_RJ5_15 (by rfl) dJ5_ensureCapacityInternal_d00df_1 ?_
  refine e_alenB F (by first | assumption | exact e_up_s | (rw [e_up_n (by first | assumption | omega)]; first | assumption | exact e_up_s | (rw [e_up_n (by first | assumption | omega)]; first | assumption | exact e_up_s | (rw [e_up_n (by first | assumption | omega)]; first | assumption | exact e_up_s))) | exact hD.1 | exact hD1.1 | exact hD2.1 | exact gD.1 | exact gD1.1 | exact gD2.1 | exact gQ.1 | exact hQ.1 | exact gS.1 | exact hS.1 | exact zD.1) dJ5_ensureCapacityInternal_d00df_4 ?_
  refine e_aload_n F dJ5_ensureCapacityInternal_d00df_5 rfl ?_
  refine e_get (ci := 6) (fi := 1) (q := (RJ4, TJ4, 4)) F (by first | assumption | exact e_up_s | (rw [e_up_n (by first | assumption | omega)]; first | assumption | exact e_up_s | (rw [e_up_n (by first | assumption | omega)]; first | assumption | exact e_up_s | (rw [e_up_n (by first | assumption | omega)]; first | assumption | exact e_up_s))) | exact hD.1 | exact hD1.1 | exact hD2.1 | exact gD.1 | exact gD1.1 | exact gD2.1 | exact gQ.1 | exact hQ.1 | exact gS.1 | exact hS.1 | exact zD.1) rfl (by decide) w_fl_RJ5_22 (by rfl) dJ5_ensureCapacityInternal_d00df_6 ?_
  refine e_ishr F dJ5_ensureCapacityInternal_d00df_9 (e_shr0 _) ?_
  refine e_istore_n F dJ5_ensureCapacityInternal_d00df_10 (by decide) ?_
  refine e_iload_n F dJ5_ensureCapacityInternal_d00df_11 rfl ?_
  refine e_iload_n F dJ5_ensureCapacityInternal_d00df_12 rfl ?_
  refine e_isub F dJ5_ensureCapacityInternal_d00df_13 ?_
  refine e_if_le F 38 dJ5_ensureCapacityInternal_d00df_14 (by decide) (⟨by omega, by omega⟩) (fun c_14 => ?_) (fun c_14 => ?_)
  · refine e_vret F rfl (by omega) ?_ dJ5_ensureCapacityInternal_d00df_38
    first
    | exact ⟨rfl, v, m, f, hb, hv, hbv, hf, by omega, hm, fun j _ => rfl⟩
    | exact ⟨rfl, n, _, g, e_up_s, by rw [e_up_n (by omega)]; exact e_up_s, hbn, hg, by omega, by omega, fun j hj => by rw [e_up_n (by omega), e_up_n (by omega)]⟩
  ·
    have hz := hx q rfl (by omega)
    refine e_aload_n F dJ5_ensureCapacityInternal_d00df_17 rfl ?_
    refine e_aload_n F dJ5_ensureCapacityInternal_d00df_18 rfl ?_
    refine e_get (ci := 6) (fi := 0) (q := (RJ4, TJ4, 4)) F (by first | assumption | exact e_up_s | (rw [e_up_n (by first | assumption | omega)]; first | assumption | exact e_up_s | (rw [e_up_n (by first | assumption | omega)]; first | assumption | exact e_up_s | (rw [e_up_n (by first | assumption | omega)]; first | assumption | exact e_up_s))) | exact hD.1 | exact hD1.1 | exact hD2.1 | exact gD.1 | exact gD1.1 | exact gD2.1 | exact gQ.1 | exact hQ.1 | exact gS.1 | exact hS.1 | exact zD.1) rfl (by decide) w_fl_RJ5_15 (by rfl) dJ5_ensureCapacityInternal_d00df_19 ?_
    refine e_aload_n F dJ5_ensureCapacityInternal_d00df_22 rfl ?_
    refine e_iload_n F dJ5_ensureCapacityInternal_d00df_23 rfl ?_
    refine e_callVU F u_J5_newCapacity_0f7a4 w_im_J5_newCapacity_0f7a4 w_sx_RJ4_J5_newCapacity_0f7a4 w_sa_J5_newCapacity_0f7a4 (by rfl) (c_J5_newCapacity_0f7a4 hb hv hm (by omega) (by omega)) (by first | assumption | exact e_up_s | (rw [e_up_n (by first | assumption | omega)]; first | assumption | exact e_up_s | (rw [e_up_n (by first | assumption | omega)]; first | assumption | exact e_up_s | (rw [e_up_n (by first | assumption | omega)]; first | assumption | exact e_up_s))) | exact hD.1 | exact hD1.1 | exact hD2.1 | exact gD.1 | exact gD1.1 | exact gD2.1 | exact gQ.1 | exact hQ.1 | exact gS.1 | exact hS.1 | exact zD.1) w_ml_RJ5_104 dJ5_ensureCapacityInternal_d00df_24 (by rfl) (Nat.le_of_ble_eq_true rfl) (by decide) (by omega) (fun _ _ _ h _ => False.elim h) (fun r_24 w_24 n_24 h_24 hn_24 => ?_)
    obtain ⟨rfl, ew_24, en_24⟩ := h_24
    rw [ew_24, en_24]
    refine e_aload_n F dJ5_ensureCapacityInternal_d00df_27 rfl ?_
    refine e_get (ci := 6) (fi := 1) (q := (RJ4, TJ4, 4)) F (by first | assumption | exact e_up_s | (rw [e_up_n (by first | assumption | omega)]; first | assumption | exact e_up_s | (rw [e_up_n (by first | assumption | omega)]; first | assumption | exact e_up_s | (rw [e_up_n (by first | assumption | omega)]; first | assumption | exact e_up_s))) | exact hD.1 | exact hD1.1 | exact hD2.1 | exact gD.1 | exact gD1.1 | exact gD2.1 | exact gQ.1 | exact hQ.1 | exact gS.1 | exact hS.1 | exact zD.1) rfl (by decide) w_fl_RJ5_22 (by rfl) dJ5_ensureCapacityInternal_d00df_28 ?_
    refine e_ishl F dJ5_ensureCapacityInternal_d00df_31 (e_shl0 _) ?_
    refine e_callSS F u_J7_copyOf_9075b (by rfl) (c_J7_copyOf_9075b hv hf (by omega) (by omega)) w_ml_RJ5_108 dJ5_ensureCapacityInternal_d00df_32 (by rfl) (Nat.le_of_ble_eq_true rfl) (by decide) (by omega) (fun _ _ _ h _ => False.elim h) (fun r_32 w_32 n_32 h_32 hn_32 => ?_)
    obtain ⟨g, hg, rfl, ew_32, en_32⟩ := h_32
    rw [ew_32, en_32]
    refine e_set (host := "") (ci := 6) (fi := 0) (q := (RJ4, TJ4, 4)) F (show e_up w n _ b = _ by rw [e_up_n (by omega)]; exact hb) rfl (by decide) w_fl_RJ5_15 rfl (by rfl) (by rfl) (Nat.le_of_ble_eq_true rfl) dJ5_ensureCapacityInternal_d00df_35 ?_
    refine e_vret F rfl (by omega) ?_ dJ5_ensureCapacityInternal_d00df_38
    first
    | exact ⟨rfl, v, m, f, hb, hv, hbv, hf, by omega, hm, fun j _ => rfl⟩
    | exact ⟨rfl, n, _, g, e_up_s, by rw [e_up_n (by omega)]; exact e_up_s, hbn, hg, by omega, by omega, fun j hj => by rw [e_up_n (by omega), e_up_n (by omega)]⟩
set_option maxHeartbeats 4000000 in
set_option maxRecDepth 100000 in
theorem c_J5_isLatin1_aae02 {K : e_K} {l : Launch} {w : e_W} {n : Nat} {b v : Nat} {c : Int} (hb : w b = some (SBo v c)) : e_Met K l yJ5_isLatin1_aae02 (Cond.code yJ5_isLatin1_aae02 cJ5_isLatin1_aae02 1 (Option.some .boolean) :: e_TB) (0) (0) [.ref b] w n (fun r w' n' => r = some (.int (eI (1))) ∧ w' = w ∧ n' = n) (e_px0) := by
  refine e_ofV rfl (Nat.le_of_ble_eq_true rfl) ?_
  intro P9 E9 S9 M9 A9 B9 T9 C9 F hnm
  refine e_gets F (i := 8) rfl w_fl_RJ5_18 dJ5_isLatin1_aae02_0 ?_
  refine e_if_eq F 17 dJ5_isLatin1_aae02_3 (by decide) (by decide) (fun c_3 => ?_) (fun c_3 => ?_)
  · exact absurd c_3 (by decide)
  · refine e_aload_n F dJ5_isLatin1_aae02_6 rfl ?_
    refine e_get (ci := 6) (fi := 1) (q := (RJ4, TJ4, 4)) F (by first | assumption | exact e_up_s | (rw [e_up_n (by first | assumption | omega)]; first | assumption | exact e_up_s | (rw [e_up_n (by first | assumption | omega)]; first | assumption | exact e_up_s | (rw [e_up_n (by first | assumption | omega)]; first | assumption | exact e_up_s))) | exact hD.1 | exact hD1.1 | exact hD2.1 | exact gD.1 | exact gD1.1 | exact gD2.1 | exact gQ.1 | exact hQ.1 | exact gS.1 | exact hS.1 | exact zD.1) rfl (by decide) w_fl_RJ5_22 (by rfl) dJ5_isLatin1_aae02_7 ?_
    refine e_if_ne F 17 dJ5_isLatin1_aae02_10 (by decide) (by decide) (fun c_10 => ?_) (fun c_10 => ?_)
    · exact absurd c_10 (by decide)
    · refine e_iconst F dJ5_isLatin1_aae02_13 ?_
      refine e_goto F 18 dJ5_isLatin1_aae02_14 (by decide) ?_
      refine e_zret F rfl (by omega) (Or.inr rfl) ?_ dJ5_isLatin1_aae02_18
      exact ⟨rfl, rfl, rfl⟩
set_option maxHeartbeats 4000000 in
set_option maxRecDepth 100000 in
theorem c_J1_canEncode_fc78d {K : e_K} {l : Launch} {w : e_W} {n : Nat} {c : Int} (h0 : 0 ≤ c) (h1 : c ≤ 255) : e_Met K l yJ1_canEncode_fc78d (Cond.code yJ1_canEncode_fc78d cJ1_canEncode_fc78d 1 (Option.some .boolean) :: e_TB) (0) (0) [.int (eI c)] w n (fun r w' n' => r = some (.int (eI (1))) ∧ w' = w ∧ n' = n) (e_px0) := by
  refine e_ofV rfl (Nat.le_of_ble_eq_true rfl) ?_
  intro P9 E9 S9 M9 A9 B9 T9 C9 F hnm
  refine e_iload_n F dJ1_canEncode_fc78d_0 rfl ?_
  refine e_sipush F dJ1_canEncode_fc78d_1 (by decide) ?_
  refine e_icmp_gt F 11 dJ1_canEncode_fc78d_4 (by decide) (⟨by omega, by omega⟩) (⟨by omega, by omega⟩) (fun c_4 => ?_) (fun c_4 => ?_)
  · exact absurd c_4 (by omega)
  · refine e_iconst F dJ1_canEncode_fc78d_7 ?_
    refine e_goto F 12 dJ1_canEncode_fc78d_8 (by decide) ?_
    refine e_zret F rfl (by omega) (Or.inr rfl) ?_ dJ1_canEncode_fc78d_12
    exact ⟨rfl, rfl, rfl⟩
set_option maxHeartbeats 4000000 in
set_option maxRecDepth 100000 in
theorem c_J5_append_3fe6f {K : e_K} {l : Launch} {w : e_W} {n : Nat} {b : Nat} {c : Int} (hS : SB w b c) {x : Int} (hc : c ≤ 110) (h0 : 0 ≤ x) (h1 : x < 128) : e_Met K l yJ5_append_3fe6f (Cond.code yJ5_append_3fe6f cJ5_append_3fe6f 2 (Option.some (.object "java/lang/AbstractStringBuilder")) :: e_TB) (4) (1) [.ref b, .int (eI x)] w n (fun r w' n' => r = some (.ref b) ∧ SB w' b (c + 1) ∧ KB w w' b) (e_px0) := by
  refine e_ofV rfl (Nat.le_of_ble_eq_true rfl) ?_
  intro P9 E9 S9 M9 A9 B9 T9 C9 F hnm
  obtain ⟨v, m, f, hb, hv, hbv, hf, hc0, hcm, hm⟩ := hS
  refine e_aload_n F dJ5_append_3fe6f_0 rfl ?_
  refine e_aload_n F dJ5_append_3fe6f_1 rfl ?_
  refine e_get (ci := 6) (fi := 3) (q := (RJ4, TJ4, 4)) F hb rfl (by decide) w_fl_RJ5_79 (by rfl) dJ5_append_3fe6f_2 ?_
  refine e_iconst F dJ5_append_3fe6f_5 ?_
  refine e_iadd F dJ5_append_3fe6f_6 ?_
  refine e_callVU F u_J5_ensureCapacityInternal_d00df w_im_J5_ensureCapacityInternal_d00df w_sx_RJ4_J5_ensureCapacityInternal_d00df w_sa_J5_ensureCapacityInternal_d00df (by rfl) (c_J5_ensureCapacityInternal_d00df hb hv (q := c + 1) hf hbv hm (by omega) (by omega)) hb w_ml_RJ5_100 dJ5_append_3fe6f_7 (by rfl) (Nat.le_of_ble_eq_true rfl) (by decide) (by omega) (fun _ _ _ h _ => False.elim h) (fun r_7 w_7 n_7 h_7 hn_7 => ?_)
  obtain ⟨rfl, v2, m2, f2, gb, gv, gbv, gf, gq, gm, gK⟩ := h_7
  refine e_aload_n F dJ5_append_3fe6f_10 rfl ?_
  refine e_callVU F u_J5_isLatin1_aae02 w_im_J5_isLatin1_aae02 w_sx_RJ4_J5_isLatin1_aae02 w_sa_J5_isLatin1_aae02 (by rfl) (c_J5_isLatin1_aae02 gb) gb w_ml_RJ5_83 dJ5_append_3fe6f_11 (by rfl) (Nat.le_of_ble_eq_true rfl) (by decide) (by omega) (fun _ _ _ h _ => False.elim h) (fun r_11 w_11 n_11 h_11 hn_11 => ?_)
  obtain ⟨rfl, ew_11, en_11⟩ := h_11
  rw [ew_11, en_11]
  refine e_if_eq F 45 dJ5_append_3fe6f_14 (by decide) (by decide) (fun c_14 => ?_) (fun c_14 => ?_)
  · exact absurd c_14 (by decide)
  · refine e_iload_n F dJ5_append_3fe6f_17 rfl ?_
    refine e_callSS F u_J1_canEncode_fc78d (by rfl) (c_J1_canEncode_fc78d h0 (by omega)) w_ml_RJ5_191 dJ5_append_3fe6f_18 (by rfl) (Nat.le_of_ble_eq_true rfl) (by decide) (by omega) (fun _ _ _ h _ => False.elim h) (fun r_18 w_18 n_18 h_18 hn_18 => ?_)
    obtain ⟨rfl, ew_18, en_18⟩ := h_18
    rw [ew_18, en_18]
    refine e_if_eq F 45 dJ5_append_3fe6f_21 (by decide) (by decide) (fun c_21 => ?_) (fun c_21 => ?_)
    · exact absurd c_21 (by decide)
    · refine e_aload_n F dJ5_append_3fe6f_24 rfl ?_
      refine e_get (ci := 6) (fi := 0) (q := (RJ4, TJ4, 4)) F gb rfl (by decide) w_fl_RJ5_15 (by rfl) dJ5_append_3fe6f_25 ?_
      refine e_aload_n F dJ5_append_3fe6f_28 rfl ?_
      refine e_dup F dJ5_append_3fe6f_29 rfl ?_
      refine e_get (ci := 6) (fi := 3) (q := (RJ4, TJ4, 4)) F gb rfl (by decide) w_fl_RJ5_79 (by rfl) dJ5_append_3fe6f_30 ?_
      refine e_dup_x1 F dJ5_append_3fe6f_33 rfl rfl ?_
      refine e_iconst F dJ5_append_3fe6f_34 ?_
      refine e_iadd F dJ5_append_3fe6f_35 ?_
      refine e_set (host := "") (ci := 6) (fi := 3) (q := (RJ4, TJ4, 4)) F gb rfl (by decide) w_fl_RJ5_79 rfl (by rfl) (by rfl) (Nat.le_of_ble_eq_true rfl) dJ5_append_3fe6f_36 ?_
      refine e_iload_n F dJ5_append_3fe6f_39 rfl ?_
      refine e_i2b F dJ5_append_3fe6f_40 (by omega) (by omega) ?_
      refine e_bast F (show e_up w_7 b _ v2 = _ by rw [e_up_n (by omega)]; exact gv) (by omega) (by omega) (by omega) (⟨by omega, by omega⟩) dJ5_append_3fe6f_41 ?_
      refine e_goto F 75 dJ5_append_3fe6f_42 (by decide) ?_
      refine e_aload_n F dJ5_append_3fe6f_75 rfl ?_
      refine e_aret F rfl (Or.inl ⟨_, rfl⟩) (Or.inr ⟨_, rfl⟩) (by omega) ?_ dJ5_append_3fe6f_76
      exact ⟨rfl, ⟨v2, m2, _, by rw [e_up_n (by omega)]; exact e_up_s, e_up_s, gbv, gf.fu (by omega) (by omega), by omega, by omega, gm⟩, fun j hj => by rw [e_up_n (by omega), e_up_n (by omega)]; exact gK j hj⟩
set_option maxHeartbeats 4000000 in
set_option maxRecDepth 100000 in
theorem c_J6_stringSize_0f7a4 {K : e_K} {l : Launch} {w : e_W} {n : Nat} {x : Int} (h0 : 0 ≤ x) (h1 : x < 36000110) : e_Met K l yJ6_stringSize_0f7a4 (Cond.code yJ6_stringSize_0f7a4 cJ6_stringSize_0f7a4 4 (Option.some .int) :: e_TB) (0) (0) [.int (eI x)] w n (fun r w' n' => ∃ d : Int, r = some (.int (eI d)) ∧ w' = w ∧ n' = n ∧ 1 ≤ d ∧ d ≤ 8 ∧ x < 10 ^ d.toNat) (e_px0) := by
  refine e_ofV rfl (Nat.le_of_ble_eq_true rfl) ?_
  intro P9 E9 S9 M9 A9 B9 T9 C9 F hnm
  have s8 : 10000000 ≤ x → e_V K P9 l E9 (0) (0) S9 M9 A9 B9 T9 C9 4 (fun r w' n' => ∃ d : Int, r = some (.int (eI d)) ∧ w' = w ∧ n' = n ∧ 1 ≤ d ∧ d ≤ 8 ∧ x < 10 ^ d.toNat) (e_px0) 16 [(0, .int (eI (-x))), (1, .int (eI 0)), (2, .int (eI (-100000000))), (3, .int (eI 8))] [] w n (0) := by
    intro hlo
    refine e_iload_n F dJ6_stringSize_0f7a4_16 rfl ?_
    refine e_bipush F dJ6_stringSize_0f7a4_17 (by decide) ?_
    refine e_icmp_ge F 42 dJ6_stringSize_0f7a4_19 (by decide) (by decide) (by decide) (fun c_19 => ?_) (fun c_19 => ?_)
    · exact absurd c_19 (by decide)
    · refine e_iload_n F dJ6_stringSize_0f7a4_22 rfl ?_
      refine e_iload_n F dJ6_stringSize_0f7a4_23 rfl ?_
      refine e_icmp_le F 31 dJ6_stringSize_0f7a4_24 (by decide) (⟨by omega, by omega⟩) (by decide) (fun c_24 => ?_) (fun c_24 => ?_)
      · exact absurd c_24 (by omega)
      · refine e_iload_n F dJ6_stringSize_0f7a4_27 rfl ?_
        refine e_iload_n F dJ6_stringSize_0f7a4_28 rfl ?_
        refine e_iadd F dJ6_stringSize_0f7a4_29 ?_
        refine e_iret F rfl (by omega) ?_ dJ6_stringSize_0f7a4_30
        refine ⟨_, rfl, rfl, rfl, by decide, by decide, ?_⟩
        have e9 : (10 : Int) ^ ((8 : Int) + 0).toNat = 100000000 := by decide
        omega
  have s7 : 1000000 ≤ x → e_V K P9 l E9 (0) (0) S9 M9 A9 B9 T9 C9 4 (fun r w' n' => ∃ d : Int, r = some (.int (eI d)) ∧ w' = w ∧ n' = n ∧ 1 ≤ d ∧ d ≤ 8 ∧ x < 10 ^ d.toNat) (e_px0) 16 [(0, .int (eI (-x))), (1, .int (eI 0)), (2, .int (eI (-10000000))), (3, .int (eI 7))] [] w n (0) := by
    intro hlo
    refine e_iload_n F dJ6_stringSize_0f7a4_16 rfl ?_
    refine e_bipush F dJ6_stringSize_0f7a4_17 (by decide) ?_
    refine e_icmp_ge F 42 dJ6_stringSize_0f7a4_19 (by decide) (by decide) (by decide) (fun c_19 => ?_) (fun c_19 => ?_)
    · exact absurd c_19 (by decide)
    · refine e_iload_n F dJ6_stringSize_0f7a4_22 rfl ?_
      refine e_iload_n F dJ6_stringSize_0f7a4_23 rfl ?_
      refine e_icmp_le F 31 dJ6_stringSize_0f7a4_24 (by decide) (⟨by omega, by omega⟩) (by decide) (fun c_24 => ?_) (fun c_24 => ?_)
      · refine e_bipush F dJ6_stringSize_0f7a4_31 (by decide) ?_
        refine e_iload_n F dJ6_stringSize_0f7a4_33 rfl ?_
        refine e_imul F dJ6_stringSize_0f7a4_34 ?_
        refine e_istore_n F dJ6_stringSize_0f7a4_35 (by decide) ?_
        refine e_iinc F dJ6_stringSize_0f7a4_36 rfl (by decide) ?_
        refine e_goto F 16 dJ6_stringSize_0f7a4_39 (by decide) ?_
        exact e_go (s8 (by omega)) (And.intro rfl (And.intro rfl (And.intro rfl (And.intro rfl (trivial)))))
      · refine e_iload_n F dJ6_stringSize_0f7a4_27 rfl ?_
        refine e_iload_n F dJ6_stringSize_0f7a4_28 rfl ?_
        refine e_iadd F dJ6_stringSize_0f7a4_29 ?_
        refine e_iret F rfl (by omega) ?_ dJ6_stringSize_0f7a4_30
        refine ⟨_, rfl, rfl, rfl, by decide, by decide, ?_⟩
        have e9 : (10 : Int) ^ ((7 : Int) + 0).toNat = 10000000 := by decide
        omega
  have s6 : 100000 ≤ x → e_V K P9 l E9 (0) (0) S9 M9 A9 B9 T9 C9 4 (fun r w' n' => ∃ d : Int, r = some (.int (eI d)) ∧ w' = w ∧ n' = n ∧ 1 ≤ d ∧ d ≤ 8 ∧ x < 10 ^ d.toNat) (e_px0) 16 [(0, .int (eI (-x))), (1, .int (eI 0)), (2, .int (eI (-1000000))), (3, .int (eI 6))] [] w n (0) := by
    intro hlo
    refine e_iload_n F dJ6_stringSize_0f7a4_16 rfl ?_
    refine e_bipush F dJ6_stringSize_0f7a4_17 (by decide) ?_
    refine e_icmp_ge F 42 dJ6_stringSize_0f7a4_19 (by decide) (by decide) (by decide) (fun c_19 => ?_) (fun c_19 => ?_)
    · exact absurd c_19 (by decide)
    · refine e_iload_n F dJ6_stringSize_0f7a4_22 rfl ?_
      refine e_iload_n F dJ6_stringSize_0f7a4_23 rfl ?_
      refine e_icmp_le F 31 dJ6_stringSize_0f7a4_24 (by decide) (⟨by omega, by omega⟩) (by decide) (fun c_24 => ?_) (fun c_24 => ?_)
      · refine e_bipush F dJ6_stringSize_0f7a4_31 (by decide) ?_
        refine e_iload_n F dJ6_stringSize_0f7a4_33 rfl ?_
        refine e_imul F dJ6_stringSize_0f7a4_34 ?_
        refine e_istore_n F dJ6_stringSize_0f7a4_35 (by decide) ?_
        refine e_iinc F dJ6_stringSize_0f7a4_36 rfl (by decide) ?_
        refine e_goto F 16 dJ6_stringSize_0f7a4_39 (by decide) ?_
        exact e_go (s7 (by omega)) (And.intro rfl (And.intro rfl (And.intro rfl (And.intro rfl (trivial)))))
      · refine e_iload_n F dJ6_stringSize_0f7a4_27 rfl ?_
        refine e_iload_n F dJ6_stringSize_0f7a4_28 rfl ?_
        refine e_iadd F dJ6_stringSize_0f7a4_29 ?_
        refine e_iret F rfl (by omega) ?_ dJ6_stringSize_0f7a4_30
        refine ⟨_, rfl, rfl, rfl, by decide, by decide, ?_⟩
        have e9 : (10 : Int) ^ ((6 : Int) + 0).toNat = 1000000 := by decide
        omega
  have s5 : 10000 ≤ x → e_V K P9 l E9 (0) (0) S9 M9 A9 B9 T9 C9 4 (fun r w' n' => ∃ d : Int, r = some (.int (eI d)) ∧ w' = w ∧ n' = n ∧ 1 ≤ d ∧ d ≤ 8 ∧ x < 10 ^ d.toNat) (e_px0) 16 [(0, .int (eI (-x))), (1, .int (eI 0)), (2, .int (eI (-100000))), (3, .int (eI 5))] [] w n (0) := by
    intro hlo
    refine e_iload_n F dJ6_stringSize_0f7a4_16 rfl ?_
    refine e_bipush F dJ6_stringSize_0f7a4_17 (by decide) ?_
    refine e_icmp_ge F 42 dJ6_stringSize_0f7a4_19 (by decide) (by decide) (by decide) (fun c_19 => ?_) (fun c_19 => ?_)
    · exact absurd c_19 (by decide)
    · refine e_iload_n F dJ6_stringSize_0f7a4_22 rfl ?_
      refine e_iload_n F dJ6_stringSize_0f7a4_23 rfl ?_
      refine e_icmp_le F 31 dJ6_stringSize_0f7a4_24 (by decide) (⟨by omega, by omega⟩) (by decide) (fun c_24 => ?_) (fun c_24 => ?_)
      · refine e_bipush F dJ6_stringSize_0f7a4_31 (by decide) ?_
        refine e_iload_n F dJ6_stringSize_0f7a4_33 rfl ?_
        refine e_imul F dJ6_stringSize_0f7a4_34 ?_
        refine e_istore_n F dJ6_stringSize_0f7a4_35 (by decide) ?_
        refine e_iinc F dJ6_stringSize_0f7a4_36 rfl (by decide) ?_
        refine e_goto F 16 dJ6_stringSize_0f7a4_39 (by decide) ?_
        exact e_go (s6 (by omega)) (And.intro rfl (And.intro rfl (And.intro rfl (And.intro rfl (trivial)))))
      · refine e_iload_n F dJ6_stringSize_0f7a4_27 rfl ?_
        refine e_iload_n F dJ6_stringSize_0f7a4_28 rfl ?_
        refine e_iadd F dJ6_stringSize_0f7a4_29 ?_
        refine e_iret F rfl (by omega) ?_ dJ6_stringSize_0f7a4_30
        refine ⟨_, rfl, rfl, rfl, by decide, by decide, ?_⟩
        have e9 : (10 : Int) ^ ((5 : Int) + 0).toNat = 100000 := by decide
        omega
  have s4 : 1000 ≤ x → e_V K P9 l E9 (0) (0) S9 M9 A9 B9 T9 C9 4 (fun r w' n' => ∃ d : Int, r = some (.int (eI d)) ∧ w' = w ∧ n' = n ∧ 1 ≤ d ∧ d ≤ 8 ∧ x < 10 ^ d.toNat) (e_px0) 16 [(0, .int (eI (-x))), (1, .int (eI 0)), (2, .int (eI (-10000))), (3, .int (eI 4))] [] w n (0) := by
    intro hlo
    refine e_iload_n F dJ6_stringSize_0f7a4_16 rfl ?_
    refine e_bipush F dJ6_stringSize_0f7a4_17 (by decide) ?_
    refine e_icmp_ge F 42 dJ6_stringSize_0f7a4_19 (by decide) (by decide) (by decide) (fun c_19 => ?_) (fun c_19 => ?_)
    · exact absurd c_19 (by decide)
    · refine e_iload_n F dJ6_stringSize_0f7a4_22 rfl ?_
      refine e_iload_n F dJ6_stringSize_0f7a4_23 rfl ?_
      refine e_icmp_le F 31 dJ6_stringSize_0f7a4_24 (by decide) (⟨by omega, by omega⟩) (by decide) (fun c_24 => ?_) (fun c_24 => ?_)
      · refine e_bipush F dJ6_stringSize_0f7a4_31 (by decide) ?_
        refine e_iload_n F dJ6_stringSize_0f7a4_33 rfl ?_
        refine e_imul F dJ6_stringSize_0f7a4_34 ?_
        refine e_istore_n F dJ6_stringSize_0f7a4_35 (by decide) ?_
        refine e_iinc F dJ6_stringSize_0f7a4_36 rfl (by decide) ?_
        refine e_goto F 16 dJ6_stringSize_0f7a4_39 (by decide) ?_
        exact e_go (s5 (by omega)) (And.intro rfl (And.intro rfl (And.intro rfl (And.intro rfl (trivial)))))
      · refine e_iload_n F dJ6_stringSize_0f7a4_27 rfl ?_
        refine e_iload_n F dJ6_stringSize_0f7a4_28 rfl ?_
        refine e_iadd F dJ6_stringSize_0f7a4_29 ?_
        refine e_iret F rfl (by omega) ?_ dJ6_stringSize_0f7a4_30
        refine ⟨_, rfl, rfl, rfl, by decide, by decide, ?_⟩
        have e9 : (10 : Int) ^ ((4 : Int) + 0).toNat = 10000 := by decide
        omega
  have s3 : 100 ≤ x → e_V K P9 l E9 (0) (0) S9 M9 A9 B9 T9 C9 4 (fun r w' n' => ∃ d : Int, r = some (.int (eI d)) ∧ w' = w ∧ n' = n ∧ 1 ≤ d ∧ d ≤ 8 ∧ x < 10 ^ d.toNat) (e_px0) 16 [(0, .int (eI (-x))), (1, .int (eI 0)), (2, .int (eI (-1000))), (3, .int (eI 3))] [] w n (0) := by
    intro hlo
    refine e_iload_n F dJ6_stringSize_0f7a4_16 rfl ?_
    refine e_bipush F dJ6_stringSize_0f7a4_17 (by decide) ?_
    refine e_icmp_ge F 42 dJ6_stringSize_0f7a4_19 (by decide) (by decide) (by decide) (fun c_19 => ?_) (fun c_19 => ?_)
    · exact absurd c_19 (by decide)
    · refine e_iload_n F dJ6_stringSize_0f7a4_22 rfl ?_
      refine e_iload_n F dJ6_stringSize_0f7a4_23 rfl ?_
      refine e_icmp_le F 31 dJ6_stringSize_0f7a4_24 (by decide) (⟨by omega, by omega⟩) (by decide) (fun c_24 => ?_) (fun c_24 => ?_)
      · refine e_bipush F dJ6_stringSize_0f7a4_31 (by decide) ?_
        refine e_iload_n F dJ6_stringSize_0f7a4_33 rfl ?_
        refine e_imul F dJ6_stringSize_0f7a4_34 ?_
        refine e_istore_n F dJ6_stringSize_0f7a4_35 (by decide) ?_
        refine e_iinc F dJ6_stringSize_0f7a4_36 rfl (by decide) ?_
        refine e_goto F 16 dJ6_stringSize_0f7a4_39 (by decide) ?_
        exact e_go (s4 (by omega)) (And.intro rfl (And.intro rfl (And.intro rfl (And.intro rfl (trivial)))))
      · refine e_iload_n F dJ6_stringSize_0f7a4_27 rfl ?_
        refine e_iload_n F dJ6_stringSize_0f7a4_28 rfl ?_
        refine e_iadd F dJ6_stringSize_0f7a4_29 ?_
        refine e_iret F rfl (by omega) ?_ dJ6_stringSize_0f7a4_30
        refine ⟨_, rfl, rfl, rfl, by decide, by decide, ?_⟩
        have e9 : (10 : Int) ^ ((3 : Int) + 0).toNat = 1000 := by decide
        omega
  have s2 : 10 ≤ x → e_V K P9 l E9 (0) (0) S9 M9 A9 B9 T9 C9 4 (fun r w' n' => ∃ d : Int, r = some (.int (eI d)) ∧ w' = w ∧ n' = n ∧ 1 ≤ d ∧ d ≤ 8 ∧ x < 10 ^ d.toNat) (e_px0) 16 [(0, .int (eI (-x))), (1, .int (eI 0)), (2, .int (eI (-100))), (3, .int (eI 2))] [] w n (0) := by
    intro hlo
    refine e_iload_n F dJ6_stringSize_0f7a4_16 rfl ?_
    refine e_bipush F dJ6_stringSize_0f7a4_17 (by decide) ?_
    refine e_icmp_ge F 42 dJ6_stringSize_0f7a4_19 (by decide) (by decide) (by decide) (fun c_19 => ?_) (fun c_19 => ?_)
    · exact absurd c_19 (by decide)
    · refine e_iload_n F dJ6_stringSize_0f7a4_22 rfl ?_
      refine e_iload_n F dJ6_stringSize_0f7a4_23 rfl ?_
      refine e_icmp_le F 31 dJ6_stringSize_0f7a4_24 (by decide) (⟨by omega, by omega⟩) (by decide) (fun c_24 => ?_) (fun c_24 => ?_)
      · refine e_bipush F dJ6_stringSize_0f7a4_31 (by decide) ?_
        refine e_iload_n F dJ6_stringSize_0f7a4_33 rfl ?_
        refine e_imul F dJ6_stringSize_0f7a4_34 ?_
        refine e_istore_n F dJ6_stringSize_0f7a4_35 (by decide) ?_
        refine e_iinc F dJ6_stringSize_0f7a4_36 rfl (by decide) ?_
        refine e_goto F 16 dJ6_stringSize_0f7a4_39 (by decide) ?_
        exact e_go (s3 (by omega)) (And.intro rfl (And.intro rfl (And.intro rfl (And.intro rfl (trivial)))))
      · refine e_iload_n F dJ6_stringSize_0f7a4_27 rfl ?_
        refine e_iload_n F dJ6_stringSize_0f7a4_28 rfl ?_
        refine e_iadd F dJ6_stringSize_0f7a4_29 ?_
        refine e_iret F rfl (by omega) ?_ dJ6_stringSize_0f7a4_30
        refine ⟨_, rfl, rfl, rfl, by decide, by decide, ?_⟩
        have e9 : (10 : Int) ^ ((2 : Int) + 0).toNat = 100 := by decide
        omega
  have s1 : 0 ≤ x → e_V K P9 l E9 (0) (0) S9 M9 A9 B9 T9 C9 4 (fun r w' n' => ∃ d : Int, r = some (.int (eI d)) ∧ w' = w ∧ n' = n ∧ 1 ≤ d ∧ d ≤ 8 ∧ x < 10 ^ d.toNat) (e_px0) 16 [(0, .int (eI (-x))), (1, .int (eI 0)), (2, .int (eI (-10))), (3, .int (eI 1))] [] w n (0) := by
    intro hlo
    refine e_iload_n F dJ6_stringSize_0f7a4_16 rfl ?_
    refine e_bipush F dJ6_stringSize_0f7a4_17 (by decide) ?_
    refine e_icmp_ge F 42 dJ6_stringSize_0f7a4_19 (by decide) (by decide) (by decide) (fun c_19 => ?_) (fun c_19 => ?_)
    · exact absurd c_19 (by decide)
    · refine e_iload_n F dJ6_stringSize_0f7a4_22 rfl ?_
      refine e_iload_n F dJ6_stringSize_0f7a4_23 rfl ?_
      refine e_icmp_le F 31 dJ6_stringSize_0f7a4_24 (by decide) (⟨by omega, by omega⟩) (by decide) (fun c_24 => ?_) (fun c_24 => ?_)
      · refine e_bipush F dJ6_stringSize_0f7a4_31 (by decide) ?_
        refine e_iload_n F dJ6_stringSize_0f7a4_33 rfl ?_
        refine e_imul F dJ6_stringSize_0f7a4_34 ?_
        refine e_istore_n F dJ6_stringSize_0f7a4_35 (by decide) ?_
        refine e_iinc F dJ6_stringSize_0f7a4_36 rfl (by decide) ?_
        refine e_goto F 16 dJ6_stringSize_0f7a4_39 (by decide) ?_
        exact e_go (s2 (by omega)) (And.intro rfl (And.intro rfl (And.intro rfl (And.intro rfl (trivial)))))
      · refine e_iload_n F dJ6_stringSize_0f7a4_27 rfl ?_
        refine e_iload_n F dJ6_stringSize_0f7a4_28 rfl ?_
        refine e_iadd F dJ6_stringSize_0f7a4_29 ?_
        refine e_iret F rfl (by omega) ?_ dJ6_stringSize_0f7a4_30
        refine ⟨_, rfl, rfl, rfl, by decide, by decide, ?_⟩
        have e9 : (10 : Int) ^ ((1 : Int) + 0).toNat = 10 := by decide
        omega
  refine e_iconst F dJ6_stringSize_0f7a4_0 ?_
  refine e_istore_n F dJ6_stringSize_0f7a4_1 (by decide) ?_
  refine e_iload_n F dJ6_stringSize_0f7a4_2 rfl ?_
  refine e_if_lt F 11 dJ6_stringSize_0f7a4_3 (by decide) (⟨by omega, by omega⟩) (fun c_3 => ?_) (fun c_3 => ?_)
  · exact absurd c_3 (by omega)
  · refine e_iconst F dJ6_stringSize_0f7a4_6 ?_
    refine e_istore_n F dJ6_stringSize_0f7a4_7 (by decide) ?_
    refine e_iload_n F dJ6_stringSize_0f7a4_8 rfl ?_
    refine e_ineg F dJ6_stringSize_0f7a4_9 ?_
    refine e_istore_n F dJ6_stringSize_0f7a4_10 (by decide) ?_
    refine e_bipush F dJ6_stringSize_0f7a4_11 (by decide) ?_
    refine e_istore_n F dJ6_stringSize_0f7a4_13 (by decide) ?_
    refine e_iconst F dJ6_stringSize_0f7a4_14 ?_
    refine e_istore_n F dJ6_stringSize_0f7a4_15 (by decide) ?_
    exact e_go (s1 (by omega)) (And.intro rfl (And.intro rfl (And.intro rfl (And.intro rfl (trivial)))))
set_option maxHeartbeats 4000000 in
set_option maxRecDepth 100000 in
theorem c_J6_getChars_ba4f3 {K : e_K} {l : Launch} {w : e_W} {n : Nat} {v m : Nat} {f : Int → Int} {y idx : Int} (hv : w v = some (e_ba m f)) (hf : BR f) (hm : m ≤ 256) (h0 : 0 ≤ y) (h1 : y < 36000110) (hi : 1 ≤ idx) (hi2 : idx ≤ m) (hlt : y < 10 ^ idx.toNat) : e_Met K l yJ6_getChars_ba4f3 (Cond.code yJ6_getChars_ba4f3 cJ6_getChars_ba4f3 7 (Option.some .int) :: e_TB) (0) (0) [.int (eI y), .int (eI idx), .ref v] w n (fun r w' n' => (∃ z : Int, r = some (.int (eI z))) ∧ n' = n ∧ ∃ f', BR f' ∧ w' v = some (e_ba m f') ∧ ∀ j, j ≠ v → w' j = w j) (e_px0) := by
  refine e_ofV rfl (Nat.le_of_ble_eq_true rfl) ?_
  intro P9 E9 S9 M9 A9 B9 T9 C9 F hnm
  have lp : ∀ (N : Nat) (y p : Int) (wl : e_W) (f : Int → Int), y.toNat < N → (0 ≤ y ∧ y < 36000110 ∧ 1 ≤ p ∧ p ≤ m ∧ y < 10 ^ p.toNat ∧ wl v = some (e_ba m f) ∧ BR f ∧ ∀ j, j ≠ v → wl j = w j) → e_V K P9 l E9 (0) (0) S9 M9 A9 B9 T9 C9 7 (fun r w' n' => (∃ z : Int, r = some (.int (eI z))) ∧ n' = n ∧ ∃ f', BR f' ∧ w' v = some (e_ba m f') ∧ ∀ j, j ≠ v → w' j = w j) (e_px0) 22 [(0, .int (eI (-y))), (2, .ref v), (5, .int (eI p)), (6, .int (eI 0))] [] wl n (0) := by
    intro N
    induction N with
    | zero => intro y p wl f hN; exact absurd hN (Nat.not_lt_zero _)
    | succ N ih =>
      intro y p wl f hN ⟨k1, k2, k3, k4, k5, gv, gf, gK⟩
      refine e_iload_n F dJ6_getChars_ba4f3_22 rfl ?_
      refine e_bipush F dJ6_getChars_ba4f3_23 (by decide) ?_
      refine e_icmp_gt F 72 dJ6_getChars_ba4f3_25 (by decide) (⟨by omega, by omega⟩) (⟨by omega, by omega⟩) (fun c_25 => ?_) (fun c_25 => ?_)
      · refine e_aload_n F dJ6_getChars_ba4f3_72 rfl ?_
        refine e_iinc F dJ6_getChars_ba4f3_73 rfl (by decide) ?_
        refine e_iload F dJ6_getChars_ba4f3_76 rfl ?_
        refine e_gets F (i := 6) rfl w_fl_RJ6_83 dJ6_getChars_ba4f3_78 ?_
        refine e_iload_n F dJ6_getChars_ba4f3_81 rfl ?_
        refine e_ineg F dJ6_getChars_ba4f3_82 ?_
        rw [Int.neg_neg]
        refine e_baldS F (i := 6) (by decide) (by omega) (by omega) dJ6_getChars_ba4f3_83 ?_
        rw [if_pos rfl]
        refine e_bast F gv (by omega) (by omega) (by omega) (⟨by omega, by omega⟩) dJ6_getChars_ba4f3_84 ?_
        refine e_iload_n F dJ6_getChars_ba4f3_85 rfl ?_
        refine e_bipush F dJ6_getChars_ba4f3_86 (by decide) ?_
        refine e_icmp_ge F 104 dJ6_getChars_ba4f3_88 (by decide) (⟨by omega, by omega⟩) (⟨by omega, by omega⟩) (fun c_88 => ?_) (fun c_88 => ?_)
        · refine e_iload F dJ6_getChars_ba4f3_104 rfl ?_
          refine e_if_eq F 118 dJ6_getChars_ba4f3_106 (by decide) (by decide) (fun c_106 => ?_) (fun c_106 => ?_)
          · refine e_iload F dJ6_getChars_ba4f3_118 rfl ?_
            refine e_iret F rfl (by omega) ?_ dJ6_getChars_ba4f3_120
            first
            | exact ⟨⟨_, rfl⟩, rfl, _, gf.fu (by omega) (by omega), e_up_s, fun j hj => by rw [e_up_n hj]; exact gK j hj⟩
            | exact ⟨⟨_, rfl⟩, rfl, _, (gf.fu (by omega) (by omega)).fu (by omega) (by omega), e_up_s, fun j hj => by rw [e_up_n hj, e_up_n hj]; exact gK j hj⟩
          · exact absurd c_106 (by decide)
        ·
          have h2 := p10_2 k3 k5 (by omega)
          refine e_aload_n F dJ6_getChars_ba4f3_91 rfl ?_
          refine e_iinc F dJ6_getChars_ba4f3_92 rfl (by decide) ?_
          refine e_iload F dJ6_getChars_ba4f3_95 rfl ?_
          refine e_gets F (i := 7) rfl w_fl_RJ6_87 dJ6_getChars_ba4f3_97 ?_
          refine e_iload_n F dJ6_getChars_ba4f3_100 rfl ?_
          refine e_ineg F dJ6_getChars_ba4f3_101 ?_
          rw [Int.neg_neg]
          refine e_baldS F (i := 7) (by decide) (by omega) (by omega) dJ6_getChars_ba4f3_102 ?_
          rw [if_neg (by decide)]
          refine e_bast F e_up_s (by omega) (by omega) (by omega) (⟨by omega, by omega⟩) dJ6_getChars_ba4f3_103 ?_
          refine e_iload F dJ6_getChars_ba4f3_104 rfl ?_
          refine e_if_eq F 118 dJ6_getChars_ba4f3_106 (by decide) (by decide) (fun c_106 => ?_) (fun c_106 => ?_)
          · refine e_iload F dJ6_getChars_ba4f3_118 rfl ?_
            refine e_iret F rfl (by omega) ?_ dJ6_getChars_ba4f3_120
            first
            | exact ⟨⟨_, rfl⟩, rfl, _, gf.fu (by omega) (by omega), e_up_s, fun j hj => by rw [e_up_n hj]; exact gK j hj⟩
            | exact ⟨⟨_, rfl⟩, rfl, _, (gf.fu (by omega) (by omega)).fu (by omega) (by omega), e_up_s, fun j hj => by rw [e_up_n hj, e_up_n hj]; exact gK j hj⟩
          · exact absurd c_106 (by decide)
      ·
        have h3 := p10_3 k3 k5 (by omega)
        have e1 : (-y).tdiv 100 = -(y / 100) := by rw [Int.neg_tdiv, Int.tdiv_eq_ediv_of_nonneg k1]
        refine e_iload_n F dJ6_getChars_ba4f3_28 rfl ?_
        refine e_bipush F dJ6_getChars_ba4f3_29 (by decide) ?_
        refine e_idiv F dJ6_getChars_ba4f3_31 (⟨by omega, by omega⟩) (⟨by omega, by omega⟩) (by omega) ?_
        rw [e1]
        refine e_istore_n F dJ6_getChars_ba4f3_32 (by decide) ?_
        refine e_iload_n F dJ6_getChars_ba4f3_33 rfl ?_
        refine e_bipush F dJ6_getChars_ba4f3_34 (by decide) ?_
        refine e_imul F dJ6_getChars_ba4f3_36 ?_
        refine e_iload_n F dJ6_getChars_ba4f3_37 rfl ?_
        refine e_isub F dJ6_getChars_ba4f3_38 ?_
        refine e_istore F dJ6_getChars_ba4f3_39 (by decide) ?_
        refine e_iload_n F dJ6_getChars_ba4f3_41 rfl ?_
        refine e_istore_n F dJ6_getChars_ba4f3_42 (by decide) ?_
        refine e_aload_n F dJ6_getChars_ba4f3_43 rfl ?_
        refine e_iinc F dJ6_getChars_ba4f3_44 rfl (by decide) ?_
        refine e_iload F dJ6_getChars_ba4f3_47 rfl ?_
        refine e_gets F (i := 6) rfl w_fl_RJ6_83 dJ6_getChars_ba4f3_49 ?_
        refine e_iload F dJ6_getChars_ba4f3_52 rfl ?_
        refine e_baldS F (i := 6) (by decide) (by omega) (by omega) dJ6_getChars_ba4f3_54 ?_
        rw [if_pos rfl]
        refine e_bast F gv (by omega) (by omega) (by omega) (⟨by omega, by omega⟩) dJ6_getChars_ba4f3_55 ?_
        refine e_aload_n F dJ6_getChars_ba4f3_56 rfl ?_
        refine e_iinc F dJ6_getChars_ba4f3_57 rfl (by decide) ?_
        refine e_iload F dJ6_getChars_ba4f3_60 rfl ?_
        refine e_gets F (i := 7) rfl w_fl_RJ6_87 dJ6_getChars_ba4f3_62 ?_
        refine e_iload F dJ6_getChars_ba4f3_65 rfl ?_
        refine e_baldS F (i := 7) (by decide) (by omega) (by omega) dJ6_getChars_ba4f3_67 ?_
        rw [if_neg (by decide)]
        refine e_bast F e_up_s (by omega) (by omega) (by omega) (⟨by omega, by omega⟩) dJ6_getChars_ba4f3_68 ?_
        refine e_goto F 22 dJ6_getChars_ba4f3_69 (by decide) ?_
        refine e_go (ih (y / 100) (p + -1 + -1) _ _ (by omega) ⟨by omega, by omega, by omega, by omega, h3.2, e_up_s, (gf.fu (by omega) (by omega)).fu (by omega) (by omega), fun j hj => by rw [e_up_n hj, e_up_n hj]; exact gK j hj⟩) (And.intro rfl (And.intro rfl (And.intro rfl (And.intro rfl (trivial)))))
  refine e_iload_n F dJ6_getChars_ba4f3_0 rfl ?_
  refine e_istore F dJ6_getChars_ba4f3_1 (by decide) ?_
  refine e_iload_n F dJ6_getChars_ba4f3_3 rfl ?_
  refine e_if_ge F 11 dJ6_getChars_ba4f3_4 (by decide) (⟨by omega, by omega⟩) (fun c_4 => ?_) (fun c_4 => ?_)
  · refine e_iconst F dJ6_getChars_ba4f3_11 ?_
    refine e_istore F dJ6_getChars_ba4f3_12 (by decide) ?_
    refine e_iload F dJ6_getChars_ba4f3_14 rfl ?_
    refine e_if_ne F 22 dJ6_getChars_ba4f3_16 (by decide) (by decide) (fun c_16 => ?_) (fun c_16 => ?_)
    · exact absurd c_16 (by decide)
    · refine e_iload_n F dJ6_getChars_ba4f3_19 rfl ?_
      refine e_ineg F dJ6_getChars_ba4f3_20 ?_
      refine e_istore_n F dJ6_getChars_ba4f3_21 (by decide) ?_
      exact e_go (lp 36000110 y idx w f (by omega) ⟨h0, h1, hi, hi2, hlt, hv, hf, fun _ _ => rfl⟩) (And.intro rfl (And.intro rfl (And.intro rfl (And.intro rfl (trivial)))))
  · exact absurd c_4 (by omega)
set_option maxHeartbeats 4000000 in
set_option maxRecDepth 100000 in
theorem c_J5_append_c97b9 {K : e_K} {l : Launch} {w : e_W} {n : Nat} {b : Nat} {c : Int} (hS : SB w b c) {x : Int} (hc : c ≤ 110) (h0 : 0 ≤ x) (h1 : x < 36000110) : e_Met K l yJ5_append_c97b9 (Cond.code yJ5_append_c97b9 cJ5_append_c97b9 4 (Option.some (.object "java/lang/AbstractStringBuilder")) :: e_TB) (4) (1) [.ref b, .int (eI x)] w n (fun r w' n' => r = some (.ref b) ∧ (∃ c' : Int, c < c' ∧ c' ≤ c + 8 ∧ SB w' b c') ∧ KB w w' b) (e_px0) := by
  refine e_ofV rfl (Nat.le_of_ble_eq_true rfl) ?_
  intro P9 E9 S9 M9 A9 B9 T9 C9 F hnm
  obtain ⟨v, m, f, hb, hv, hbv, hf, hc0, hcm, hm⟩ := hS
  refine e_aload_n F dJ5_append_c97b9_0 rfl ?_
  refine e_get (ci := 6) (fi := 3) (q := (RJ4, TJ4, 4)) F hb rfl (by decide) w_fl_RJ5_79 (by rfl) dJ5_append_c97b9_1 ?_
  refine e_istore_n F dJ5_append_c97b9_4 (by decide) ?_
  refine e_iload_n F dJ5_append_c97b9_5 rfl ?_
  refine e_iload_n F dJ5_append_c97b9_6 rfl ?_
  refine e_callSS F u_J6_stringSize_0f7a4 (by rfl) (c_J6_stringSize_0f7a4 h0 h1) w_ml_RJ5_245 dJ5_append_c97b9_7 (by rfl) (Nat.le_of_ble_eq_true rfl) (by decide) (by omega) (fun _ _ _ h _ => False.elim h) (fun r_7 w_7 n_7 h_7 hn_7 => ?_)
  obtain ⟨dg, rfl, ew_7, en_7, d1, d8, dlt⟩ := h_7
  rw [ew_7, en_7]
  refine e_iadd F dJ5_append_c97b9_10 ?_
  refine e_istore_n F dJ5_append_c97b9_11 (by decide) ?_
  refine e_aload_n F dJ5_append_c97b9_12 rfl ?_
  refine e_iload_n F dJ5_append_c97b9_13 rfl ?_
  refine e_callVU F u_J5_ensureCapacityInternal_d00df w_im_J5_ensureCapacityInternal_d00df w_sx_RJ4_J5_ensureCapacityInternal_d00df w_sa_J5_ensureCapacityInternal_d00df (by rfl) (c_J5_ensureCapacityInternal_d00df hb hv (q := c + dg) hf hbv hm (by omega) (by omega)) hb w_ml_RJ5_100 dJ5_append_c97b9_14 (by rfl) (Nat.le_of_ble_eq_true rfl) (by decide) (by omega) (fun _ _ _ h _ => False.elim h) (fun r_14 w_14 n_14 h_14 hn_14 => ?_)
  obtain ⟨rfl, v2, m2, f2, gb, gv, gbv, gf, gq, gm, gK⟩ := h_14
  refine e_aload_n F dJ5_append_c97b9_17 rfl ?_
  refine e_callVU F u_J5_isLatin1_aae02 w_im_J5_isLatin1_aae02 w_sx_RJ4_J5_isLatin1_aae02 w_sa_J5_isLatin1_aae02 (by rfl) (c_J5_isLatin1_aae02 gb) gb w_ml_RJ5_83 dJ5_append_c97b9_18 (by rfl) (Nat.le_of_ble_eq_true rfl) (by decide) (by omega) (fun _ _ _ h _ => False.elim h) (fun r_18 w_18 n_18 h_18 hn_18 => ?_)
  obtain ⟨rfl, ew_18, en_18⟩ := h_18
  rw [ew_18, en_18]
  refine e_if_eq F 37 dJ5_append_c97b9_21 (by decide) (by decide) (fun c_21 => ?_) (fun c_21 => ?_)
  · exact absurd c_21 (by decide)
  · refine e_iload_n F dJ5_append_c97b9_24 rfl ?_
    refine e_iload_n F dJ5_append_c97b9_25 rfl ?_
    refine e_aload_n F dJ5_append_c97b9_26 rfl ?_
    refine e_get (ci := 6) (fi := 0) (q := (RJ4, TJ4, 4)) F gb rfl (by decide) w_fl_RJ5_15 (by rfl) dJ5_append_c97b9_27 ?_
    refine e_callSS F u_J6_getChars_ba4f3 (by rfl) (c_J6_getChars_ba4f3 (y := x) (idx := c + dg) gv gf gm h0 h1 (by omega) (by omega) (Int.lt_of_lt_of_le dlt (p10_mono (by omega)))) w_ml_RJ5_248 dJ5_append_c97b9_30 (by rfl) (Nat.le_of_ble_eq_true rfl) (by decide) (by omega) (fun _ _ _ h _ => False.elim h) (fun r_30 w_30 n_30 h_30 hn_30 => ?_)
    obtain ⟨⟨z, rfl⟩, en_30, f3, zf, zv, zK⟩ := h_30
    rw [en_30]
    refine e_pop F dJ5_append_c97b9_33 rfl ?_
    refine e_goto F 48 dJ5_append_c97b9_34 (by decide) ?_
    refine e_aload_n F dJ5_append_c97b9_48 rfl ?_
    refine e_iload_n F dJ5_append_c97b9_49 rfl ?_
    refine e_set (host := "") (ci := 6) (fi := 3) (q := (RJ4, TJ4, 4)) F (show w_30 b = _ by rw [zK b (by omega)]; exact gb) rfl (by decide) w_fl_RJ5_79 rfl (by rfl) (by rfl) (Nat.le_of_ble_eq_true rfl) dJ5_append_c97b9_50 ?_
    refine e_aload_n F dJ5_append_c97b9_53 rfl ?_
    refine e_aret F rfl (Or.inl ⟨_, rfl⟩) (Or.inr ⟨_, rfl⟩) (by omega) ?_ dJ5_append_c97b9_54
    exact ⟨rfl, ⟨c + dg, by omega, by omega, v2, m2, f3, e_up_s, by rw [e_up_n (by omega)]; exact zv, gbv, zf, by omega, by omega, gm⟩, fun j hj => by rw [e_up_n (by omega), zK j (by omega)]; exact gK j hj⟩
set_option maxHeartbeats 4000000 in
set_option maxRecDepth 100000 in
theorem c_J4_append_cf468 {K : e_K} {l : Launch} {w : e_W} {n : Nat} {b : Nat} {c : Int} (hS : SB w b c) {x : Int} (hc : c ≤ 110) (h0 : 0 ≤ x) (h1 : x < 128) : e_Met K l yJ4_append_cf468 (Cond.code yJ4_append_cf468 cJ4_append_cf468 2 (Option.some (.object "java/lang/StringBuilder")) :: e_TB) (5) (1) [.ref b, .int (eI x)] w n (fun r w' n' => r = some (.ref b) ∧ SB w' b (c + 1) ∧ KB w w' b) (e_px0) := by
  refine e_ofV rfl (Nat.le_of_ble_eq_true rfl) ?_
  intro P9 E9 S9 M9 A9 B9 T9 C9 F hnm
  have hS0 := hS
  obtain ⟨v, m, f, hb, hv, hbv, hf, hc0, hcm, hm⟩ := hS
  refine e_aload_n F dJ4_append_cf468_0 rfl ?_
  refine e_iload_n F dJ4_append_cf468_1 rfl ?_
  refine e_callSU F u_J5_append_3fe6f (by decide +kernel) w_im_J5_append_3fe6f w_su_RJ4_RJ5 w_sa_J5_append_3fe6f (by rfl) (c_J5_append_3fe6f hS0 hc h0 h1) hb w_ml_RJ4_50 dJ4_append_cf468_2 (by rfl) (Nat.le_of_ble_eq_true rfl) (by decide) (by omega) (fun _ _ _ h _ => False.elim h) (fun r_2 w_2 n_2 h_2 hn_2 => ?_)
  obtain ⟨rfl, gS, gK⟩ := h_2
  refine e_pop F dJ4_append_cf468_5 rfl ?_
  refine e_aload_n F dJ4_append_cf468_6 rfl ?_
  refine e_aret F rfl (Or.inl ⟨_, rfl⟩) (Or.inr ⟨_, rfl⟩) (by omega) ?_ dJ4_append_cf468_7
  exact ⟨rfl, gS, gK⟩
set_option maxHeartbeats 4000000 in
set_option maxRecDepth 100000 in
theorem c_J4_append_bf812 {K : e_K} {l : Launch} {w : e_W} {n : Nat} {b : Nat} {c : Int} (hS : SB w b c) {x : Int} (hc : c ≤ 110) (h0 : 0 ≤ x) (h1 : x < 36000110) : e_Met K l yJ4_append_bf812 (Cond.code yJ4_append_bf812 cJ4_append_bf812 2 (Option.some (.object "java/lang/StringBuilder")) :: e_TB) (5) (1) [.ref b, .int (eI x)] w n (fun r w' n' => r = some (.ref b) ∧ (∃ c' : Int, c < c' ∧ c' ≤ c + 8 ∧ SB w' b c') ∧ KB w w' b) (e_px0) := by
  refine e_ofV rfl (Nat.le_of_ble_eq_true rfl) ?_
  intro P9 E9 S9 M9 A9 B9 T9 C9 F hnm
  have hS0 := hS
  obtain ⟨v, m, f, hb, hv, hbv, hf, hc0, hcm, hm⟩ := hS
  refine e_aload_n F dJ4_append_bf812_0 rfl ?_
  refine e_iload_n F dJ4_append_bf812_1 rfl ?_
  refine e_callSU F u_J5_append_c97b9 (by decide +kernel) w_im_J5_append_c97b9 w_su_RJ4_RJ5 w_sa_J5_append_c97b9 (by rfl) (c_J5_append_c97b9 hS0 hc h0 h1) hb w_ml_RJ4_53 dJ4_append_bf812_2 (by rfl) (Nat.le_of_ble_eq_true rfl) (by decide) (by omega) (fun _ _ _ h _ => False.elim h) (fun r_2 w_2 n_2 h_2 hn_2 => ?_)
  obtain ⟨rfl, gS, gK⟩ := h_2
  refine e_pop F dJ4_append_bf812_5 rfl ?_
  refine e_aload_n F dJ4_append_bf812_6 rfl ?_
  refine e_aret F rfl (Or.inl ⟨_, rfl⟩) (Or.inr ⟨_, rfl⟩) (by omega) ?_ dJ4_append_bf812_7
  exact ⟨rfl, gS, gK⟩
set_option maxHeartbeats 4000000 in
set_option maxRecDepth 100000 in
theorem c_J5_init_d00df {K : e_K} {l : Launch} {w : e_W} {n : Nat} {b : Nat} (hb : w b = some (.inl (6, [.null, .int (eI 0), .int (eI 0), .int (eI 0)]))) : e_Met K l yJ5_init_d00df (Cond.code yJ5_init_d00df cJ5_init_d00df 2 none :: e_TB) (1) (1) [.ref b, .int (eI 16)] w n (fun r w' n' => r = none ∧ n' = n + 1 ∧ SB w' b 0 ∧ ∀ j, j ≠ b → j < n → w' j = w j) (e_px0) := by
  refine e_ofV rfl (Nat.le_of_ble_eq_true rfl) ?_
  intro P9 E9 S9 M9 A9 B9 T9 C9 F hnm
  refine e_dom ?_
  intro hdom
  have hbn := hdom _ _ hb
  refine e_aload_n F dJ5_init_d00df_0 rfl ?_
  refine e_oinit F w_ml_RJ5_3 w_im_java_lang_Object__init____V w_co_oinit (Nat.le_of_ble_eq_true rfl) (by decide) dJ5_init_d00df_1 ?_
  refine e_gets F (i := 8) rfl w_fl_RJ5_18 dJ5_init_d00df_4 ?_
  refine e_if_eq F 25 dJ5_init_d00df_7 (by decide) (by decide) (fun c_7 => ?_) (fun c_7 => ?_)
  · exact absurd c_7 (by decide)
  · refine e_aload_n F dJ5_init_d00df_10 rfl ?_
    refine e_iload_n F dJ5_init_d00df_11 rfl ?_
    refine e_newB F (N := 16) (by first | rfl | omega) (by omega) (by omega) w_ac_byte dJ5_init_d00df_12 ?_
    refine e_set (host := "") (ci := 6) (fi := 0) (q := (RJ4, TJ4, 4)) F (show e_up w n _ b = _ by rw [e_up_n (by omega)]; exact hb) rfl (by decide) w_fl_RJ5_15 rfl (by rfl) (by rfl) (Nat.le_of_ble_eq_true rfl) dJ5_init_d00df_14 ?_
    refine e_aload_n F dJ5_init_d00df_17 rfl ?_
    refine e_iconst F dJ5_init_d00df_18 ?_
    refine e_set (host := "") (ci := 6) (fi := 1) (q := (RJ4, TJ4, 4)) F e_up_s rfl (by decide) w_fl_RJ5_22 rfl (by rfl) (by rfl) (Nat.le_of_ble_eq_true rfl) dJ5_init_d00df_19 ?_
    refine e_goto F 38 dJ5_init_d00df_22 (by decide) ?_
    refine e_vret F rfl (by omega) ?_ dJ5_init_d00df_38
    exact ⟨rfl, rfl, ⟨n, 16, fun _ => 0, e_up_s, by rw [e_up_n (by omega), e_up_n (by omega)]; exact e_up_s, hbn, fun _ => show (-128 : Int) ≤ 0 ∧ (0 : Int) < 128 by decide, by decide, by decide, by decide⟩, fun j h1 h2 => by rw [e_up_n h1, e_up_n h1, e_up_n (by omega)]⟩
set_option maxHeartbeats 4000000 in
set_option maxRecDepth 100000 in
theorem c_J4_init_da8c8 {K : e_K} {l : Launch} {w : e_W} {n : Nat} {b : Nat} (hb : w b = some (.inl (6, [.null, .int (eI 0), .int (eI 0), .int (eI 0)]))) : e_Met K l yJ4_init_da8c8 (Cond.code yJ4_init_da8c8 cJ4_init_da8c8 1 none :: e_TB) (2) (1) [.ref b] w n (fun r w' n' => r = none ∧ n' = n + 1 ∧ SB w' b 0 ∧ ∀ j, j ≠ b → j < n → w' j = w j) (e_px0) := by
  refine e_ofV rfl (Nat.le_of_ble_eq_true rfl) ?_
  intro P9 E9 S9 M9 A9 B9 T9 C9 F hnm
  refine e_aload_n F dJ4_init_da8c8_0 rfl ?_
  refine e_bipush F dJ4_init_da8c8_1 (by decide) ?_
  refine e_callII F u_J5_init_d00df (by rfl) (c_J5_init_d00df hb) w_ml_RJ4_1 dJ4_init_da8c8_3 (by rfl) (Nat.le_of_ble_eq_true rfl) (by decide) (by omega) (fun _ _ _ h _ => False.elim h) (fun r_3 w_3 n_3 h_3 hn_3 => ?_)
  obtain ⟨rfl, en_3, gS, gK⟩ := h_3
  rw [en_3]
  refine e_vret F rfl (by omega) ?_ dJ4_init_da8c8_6
  exact ⟨rfl, rfl, gS, gK⟩
set_option maxHeartbeats 4000000 in
set_option maxRecDepth 100000 in
theorem c_J7_checkLength_df160 {K : e_K} {l : Launch} {w : e_W} {n : Nat} {a b : Int} (ha : e_r a) (hb : e_r b) (h : a ≤ b) : e_Met K l yJ7_checkLength_df160 (Cond.code yJ7_checkLength_df160 cJ7_checkLength_df160 2 none :: e_TB) (0) (0) [.int (eI a), .int (eI b)] w n (fun r w' n' => r = none ∧ w' = w ∧ n' = n) (e_px0) := by
  refine e_ofV rfl (Nat.le_of_ble_eq_true rfl) ?_
  intro P9 E9 S9 M9 A9 B9 T9 C9 F hnm
  refine e_iload_n F dJ7_checkLength_df160_0 rfl ?_
  refine e_iload_n F dJ7_checkLength_df160_1 rfl ?_
  refine e_icmp_ge F 37 dJ7_checkLength_df160_2 (by decide) (hb) (ha) (fun c_2 => ?_) (fun c_2 => ?_)
  · refine e_vret F rfl (by omega) ?_ dJ7_checkLength_df160_37
    exact ⟨rfl, rfl, rfl⟩
  · exact absurd c_2 (by omega)
set_option maxHeartbeats 4000000 in
set_option maxRecDepth 100000 in
theorem c_J7_copyOfRangeByte_39247 {K : e_K} {l : Launch} {w : e_W} {n : Nat} {a m : Nat} {f : Int → Int} (ha : w a = some (e_ba m f)) (hf : BR f) {c : Int} (hc0 : 0 ≤ c) (hcm : c ≤ m) (hm : m ≤ 256) : e_Met K l yJ7_copyOfRangeByte_39247 (Cond.code yJ7_copyOfRangeByte_39247 cJ7_copyOfRangeByte_39247 5 (Option.some (.array .byte)) :: e_TB) (1) (1) [.ref a, .int (eI 0), .int (eI c)] w n (fun r w' n' => ∃ g, BR g ∧ r = some (.ref n) ∧ w' = e_up w n (e_ba c.toNat g) ∧ n' = n + 1) (e_px0) := by
  refine e_ofV rfl (Nat.le_of_ble_eq_true rfl) ?_
  intro P9 E9 S9 M9 A9 B9 T9 C9 F hnm
  refine e_dom ?_
  intro hdom
  have han := hdom _ _ ha
  refine e_iload_n F dJ7_copyOfRangeByte_39247_0 rfl ?_
  refine e_iload_n F dJ7_copyOfRangeByte_39247_1 rfl ?_
  refine e_callSS F u_J7_checkLength_df160 (by rfl) (c_J7_checkLength_df160 (a := 0) (b := c) (by decide) ⟨by omega, by omega⟩ hc0) w_ml_RJ7_343 dJ7_copyOfRangeByte_39247_2 (by rfl) (Nat.le_of_ble_eq_true rfl) (by decide) (by omega) (fun _ _ _ h _ => False.elim h) (fun r_2 w_2 n_2 h_2 hn_2 => ?_)
  obtain ⟨rfl, ew_2, en_2⟩ := h_2
  rw [ew_2, en_2]
  refine e_iload_n F dJ7_copyOfRangeByte_39247_5 rfl ?_
  refine e_iload_n F dJ7_copyOfRangeByte_39247_6 rfl ?_
  refine e_isub F dJ7_copyOfRangeByte_39247_7 ?_
  rw [Int.sub_zero]
  refine e_istore_n F dJ7_copyOfRangeByte_39247_8 (by decide) ?_
  refine e_iload_n F dJ7_copyOfRangeByte_39247_9 rfl ?_
  refine e_newB F (N := c.toNat) (by first | rfl | omega) (by omega) (by omega) w_ac_byte dJ7_copyOfRangeByte_39247_10 ?_
  refine e_astore F dJ7_copyOfRangeByte_39247_12 (by decide) ?_
  refine e_aload_n F dJ7_copyOfRangeByte_39247_14 rfl ?_
  refine e_iload_n F dJ7_copyOfRangeByte_39247_15 rfl ?_
  refine e_aload F dJ7_copyOfRangeByte_39247_16 rfl ?_
  refine e_iconst F dJ7_copyOfRangeByte_39247_18 ?_
  refine e_aload_n F dJ7_copyOfRangeByte_39247_19 rfl ?_
  refine e_alenB F (by first | assumption | exact e_up_s | (rw [e_up_n (by first | assumption | omega)]; first | assumption | exact e_up_s | (rw [e_up_n (by first | assumption | omega)]; first | assumption | exact e_up_s | (rw [e_up_n (by first | assumption | omega)]; first | assumption | exact e_up_s))) | exact hD.1 | exact hD1.1 | exact hD2.1 | exact gD.1 | exact gD1.1 | exact gD2.1 | exact gQ.1 | exact hQ.1 | exact gS.1 | exact hS.1 | exact zD.1) dJ7_copyOfRangeByte_39247_20 ?_
  refine e_iload_n F dJ7_copyOfRangeByte_39247_21 rfl ?_
  refine e_isub F dJ7_copyOfRangeByte_39247_22 ?_
  refine e_iload_n F dJ7_copyOfRangeByte_39247_23 rfl ?_
  rw [Int.sub_zero]
  refine e_mmin F ⟨by omega, by omega⟩ ⟨by omega, by omega⟩ w_ml_RJ7_304 w_sm_J9_min_7cf53 w_in_RJ9 w_co_J9_min_7cf53 dJ7_copyOfRangeByte_39247_24 (Nat.le_of_ble_eq_true rfl) (by decide) (by omega) ?_
  rw [show (if c < (m : Int) then c else (m : Int)) = c by split <;> omega]
  refine e_copyB F (sp := 0) (dp := 0) (cnt := c) (f := f) (g := fun _ => 0) (by rw [e_up_n (by omega)]; exact ha) e_up_s (by omega) (by omega) (by omega) (by omega) (by omega) (by omega) (by omega) hf w_ml_RJ7_150 w_nat_arraycopy_42 w_sm_java_lang_System_arraycopy__Ljava_lang_Object_ILjava_lang_Object_II_V w_in_RJ10 dJ7_copyOfRangeByte_39247_27 (Nat.le_of_ble_eq_true rfl) (by decide) ?_
  refine e_aload F dJ7_copyOfRangeByte_39247_30 rfl ?_
  refine e_aret F rfl (Or.inr ⟨_, rfl⟩) (Or.inr ⟨_, rfl⟩) (by omega) ?_ dJ7_copyOfRangeByte_39247_32
  refine ⟨_, ?_, rfl, e_up_up, rfl⟩
  intro j
  dsimp only
  split
  · exact hf _
  · decide
set_option maxHeartbeats 4000000 in
set_option maxRecDepth 100000 in
theorem c_J7_copyOfRange_39247 {K : e_K} {l : Launch} {w : e_W} {n : Nat} {a m : Nat} {f : Int → Int} (ha : w a = some (e_ba m f)) (hf : BR f) {c : Int} (hc0 : 0 ≤ c) (hcm : c ≤ m) (hm : m ≤ 256) : e_Met K l yJ7_copyOfRange_39247 (Cond.code yJ7_copyOfRange_39247 cJ7_copyOfRange_39247 3 (Option.some (.array .byte)) :: e_TB) (2) (1) [.ref a, .int (eI 0), .int (eI c)] w n (fun r w' n' => ∃ g, BR g ∧ r = some (.ref n) ∧ w' = e_up w n (e_ba c.toNat g) ∧ n' = n + 1) (e_px0) := by
  refine e_ofV rfl (Nat.le_of_ble_eq_true rfl) ?_
  intro P9 E9 S9 M9 A9 B9 T9 C9 F hnm
  refine e_iload_n F dJ7_copyOfRange_39247_0 rfl ?_
  refine e_if_ne F 10 dJ7_copyOfRange_39247_1 (by decide) (by decide) (fun c_1 => ?_) (fun c_1 => ?_)
  · exact absurd c_1 (by decide)
  · refine e_iload_n F dJ7_copyOfRange_39247_4 rfl ?_
    refine e_aload_n F dJ7_copyOfRange_39247_5 rfl ?_
    refine e_alenB F (by first | assumption | exact e_up_s | (rw [e_up_n (by first | assumption | omega)]; first | assumption | exact e_up_s | (rw [e_up_n (by first | assumption | omega)]; first | assumption | exact e_up_s | (rw [e_up_n (by first | assumption | omega)]; first | assumption | exact e_up_s))) | exact hD.1 | exact hD1.1 | exact hD2.1 | exact gD.1 | exact gD1.1 | exact gD2.1 | exact gQ.1 | exact hQ.1 | exact gS.1 | exact hS.1 | exact zD.1) dJ7_copyOfRange_39247_6 ?_
    refine e_icmp_eq F 17 dJ7_copyOfRange_39247_7 (by decide) (⟨by omega, by omega⟩) (⟨by omega, by omega⟩) (fun c_7 => ?_) (fun c_7 => ?_)
    · refine e_aload_n F dJ7_copyOfRange_39247_17 rfl ?_
      refine e_cloneX F (i0 := 3) (ty := .byte) (ai := 11) rfl ha (by omega) (by omega) (e_nmB F) (fun j _ => e_fitB (hf _).1 (hf _).2) w_ml_RJ7_310 w_sa__B_clone w_nat_clone_20 w_im_java_lang_Object_clone___Ljava_lang_Object_ w_sx__B__B_clone___Ljava_lang_Object_ w_ca__B_RJx8e188 dJ7_copyOfRange_39247_18 (Nat.le_of_ble_eq_true rfl) (by decide) ?_
      refine e_castA F (ai := 11) e_up_s (e_nmB F) w_cl_RJ7_311 dJ7_copyOfRange_39247_21 ?_
      refine e_aret F rfl (Or.inr ⟨_, rfl⟩) (Or.inr ⟨_, rfl⟩) (by omega) ?_ dJ7_copyOfRange_39247_24
      obtain rfl : m = c.toNat := by omega
      exact ⟨f, hf, rfl, rfl, rfl⟩
    · refine e_aload_n F dJ7_copyOfRange_39247_10 rfl ?_
      refine e_iload_n F dJ7_copyOfRange_39247_11 rfl ?_
      refine e_iload_n F dJ7_copyOfRange_39247_12 rfl ?_
      refine e_callSS F u_J7_copyOfRangeByte_39247 (by rfl) (c_J7_copyOfRangeByte_39247 ha hf hc0 hcm hm) w_ml_RJ7_339 dJ7_copyOfRange_39247_13 (by rfl) (Nat.le_of_ble_eq_true rfl) (by decide) (by omega) (fun _ _ _ h _ => False.elim h) (fun r_13 w_13 n_13 h_13 hn_13 => ?_)
      obtain ⟨g, hg, rfl, ew_13, en_13⟩ := h_13
      rw [ew_13, en_13]
      refine e_aret F rfl (Or.inr ⟨_, rfl⟩) (Or.inr ⟨_, rfl⟩) (by omega) ?_ dJ7_copyOfRange_39247_16
      exact ⟨g, hg, rfl, rfl, rfl⟩
set_option maxHeartbeats 4000000 in
set_option maxRecDepth 100000 in
theorem c_J5_getValue_6d5f1 {K : e_K} {l : Launch} {w : e_W} {n : Nat} {b v : Nat} {c : Int} (hb : w b = some (SBo v c)) : e_Met K l yJ5_getValue_6d5f1 (Cond.code yJ5_getValue_6d5f1 cJ5_getValue_6d5f1 1 (Option.some (.array .byte)) :: e_TB) (0) (0) [.ref b] w n (fun r w' n' => r = some (.ref v) ∧ w' = w ∧ n' = n) (e_px0) := by
  refine e_ofV rfl (Nat.le_of_ble_eq_true rfl) ?_
  intro P9 E9 S9 M9 A9 B9 T9 C9 F hnm
  refine e_aload_n F dJ5_getValue_6d5f1_0 rfl ?_
  refine e_get (ci := 6) (fi := 0) (q := (RJ4, TJ4, 4)) F hb rfl (by decide) w_fl_RJ5_15 (by rfl) dJ5_getValue_6d5f1_1 ?_
  refine e_aret F rfl (Or.inr ⟨_, rfl⟩) (Or.inr ⟨_, rfl⟩) (by omega) ?_ dJ5_getValue_6d5f1_4
  exact ⟨rfl, rfl, rfl⟩
set_option maxHeartbeats 4000000 in
set_option maxRecDepth 100000 in
theorem c_J5_length_8abf5 {K : e_K} {l : Launch} {w : e_W} {n : Nat} {b v : Nat} {c : Int} (hb : w b = some (SBo v c)) : e_Met K l yJ5_length_8abf5 (Cond.code yJ5_length_8abf5 cJ5_length_8abf5 1 (Option.some .int) :: e_TB) (0) (0) [.ref b] w n (fun r w' n' => r = some (.int (eI (c))) ∧ w' = w ∧ n' = n) (e_px0) := by
  refine e_ofV rfl (Nat.le_of_ble_eq_true rfl) ?_
  intro P9 E9 S9 M9 A9 B9 T9 C9 F hnm
  refine e_aload_n F dJ5_length_8abf5_0 rfl ?_
  refine e_get (ci := 6) (fi := 3) (q := (RJ4, TJ4, 4)) F hb rfl (by decide) w_fl_RJ5_79 (by rfl) dJ5_length_8abf5_1 ?_
  refine e_iret F rfl (by omega) ?_ dJ5_length_8abf5_4
  exact ⟨rfl, rfl, rfl⟩
set_option maxHeartbeats 4000000 in
set_option maxRecDepth 100000 in
theorem c_J4_length_8abf5 {K : e_K} {l : Launch} {w : e_W} {n : Nat} {b v : Nat} {c : Int} (hb : w b = some (SBo v c)) : e_Met K l yJ4_length_8abf5 (Cond.code yJ4_length_8abf5 cJ4_length_8abf5 1 (Option.some .int) :: e_TB) (1) (0) [.ref b] w n (fun r w' n' => r = some (.int (eI (c))) ∧ w' = w ∧ n' = n) (e_px0) := by
  refine e_ofV rfl (Nat.le_of_ble_eq_true rfl) ?_
  intro P9 E9 S9 M9 A9 B9 T9 C9 F hnm
  refine e_aload_n F dJ4_length_8abf5_0 rfl ?_
  refine e_callSU F u_J5_length_8abf5 (by decide +kernel) w_im_J5_length_8abf5 w_su_RJ4_RJ5 w_sa_J5_length_8abf5 (by rfl) (c_J5_length_8abf5 hb) hb w_ml_RJ4_343 dJ4_length_8abf5_1 (by rfl) (Nat.le_of_ble_eq_true rfl) (by decide) (by omega) (fun _ _ _ h _ => False.elim h) (fun r_1 w_1 n_1 h_1 hn_1 => ?_)
  obtain ⟨rfl, ew_1, en_1⟩ := h_1
  rw [ew_1, en_1]
  refine e_iret F rfl (by omega) ?_ dJ4_length_8abf5_4
  exact ⟨rfl, rfl, rfl⟩
set_option maxHeartbeats 4000000 in
set_option maxRecDepth 100000 in
theorem c_J0_init_db425 {K : e_K} {l : Launch} {w : e_W} {n : Nat} {q b : Nat} {c : Int} (hq : w q = some (.inl (7, [.null, .int (eI 0), .int (eI 0), .int (eI 0)]))) (hS : SB w b c) : e_Met K l yJ0_init_db425 (Cond.code yJ0_init_db425 cJ0_init_db425 5 none :: e_TB) (4) (1) [.ref q, .ref b, .null] w n (fun r w' n' => r = none ∧ n' = n + 1 ∧ w' q = some (STo n) ∧ (∃ g, w' n = some (e_ba c.toNat g)) ∧ ∀ j, j ≠ q → j < n → w' j = w j) (e_px0) := by
  refine e_ofV rfl (Nat.le_of_ble_eq_true rfl) ?_
  intro P9 E9 S9 M9 A9 B9 T9 C9 F hnm
  obtain ⟨v, m, f, hb, hv, hbv, hf, hc0, hcm, hm⟩ := hS
  refine e_dom ?_
  intro hdom
  have hqn := hdom _ _ hq
  have hqv : q ≠ v := fun e => by rw [e, hv] at hq; cases hq
  refine e_aload_n F dJ0_init_db425_0 rfl ?_
  refine e_oinit F w_ml_RJ0_1 w_im_java_lang_Object__init____V w_co_oinit (Nat.le_of_ble_eq_true rfl) (by decide) dJ0_init_db425_1 ?_
  refine e_aload_n F dJ0_init_db425_4 rfl ?_
  refine e_callVU F u_J5_getValue_6d5f1 w_im_J5_getValue_6d5f1 w_sx_RJ4_J5_getValue_6d5f1 w_sa_J5_getValue_6d5f1 (by rfl) (c_J5_getValue_6d5f1 hb) hb w_ml_RJ0_552 dJ0_init_db425_5 (by rfl) (Nat.le_of_ble_eq_true rfl) (by decide) (by omega) (fun _ _ _ h _ => False.elim h) (fun r_5 w_5 n_5 h_5 hn_5 => ?_)
  obtain ⟨rfl, ew_5, en_5⟩ := h_5
  rw [ew_5, en_5]
  refine e_astore_n F dJ0_init_db425_8 (by decide) ?_
  refine e_aload_n F dJ0_init_db425_9 rfl ?_
  refine e_callVO F (x := yJ5_length_8abf5) u_J4_length_8abf5 w_im_J4_length_8abf5 w_sx_RJ4_J5_length_8abf5 w_sa_J5_length_8abf5 w_co_J5_length_8abf5 w_im_J5_length_8abf5 ⟨by decide +kernel, by decide +kernel, by decide +kernel⟩ (by rfl) (c_J4_length_8abf5 hb) hb w_ml_RJ0_549 dJ0_init_db425_10 (by rfl) (Nat.le_of_ble_eq_true rfl) (by decide) (by omega) (fun _ _ _ h _ => False.elim h) (fun r_10 w_10 n_10 h_10 hn_10 => ?_)
  obtain ⟨rfl, ew_10, en_10⟩ := h_10
  rw [ew_10, en_10]
  refine e_istore F dJ0_init_db425_13 (by decide) ?_
  refine e_aload_n F dJ0_init_db425_15 rfl ?_
  refine e_callVU F u_J5_isLatin1_aae02 w_im_J5_isLatin1_aae02 w_sx_RJ4_J5_isLatin1_aae02 w_sa_J5_isLatin1_aae02 (by rfl) (c_J5_isLatin1_aae02 hb) hb w_ml_RJ0_1047 dJ0_init_db425_16 (by rfl) (Nat.le_of_ble_eq_true rfl) (by decide) (by omega) (fun _ _ _ h _ => False.elim h) (fun r_16 w_16 n_16 h_16 hn_16 => ?_)
  obtain ⟨rfl, ew_16, en_16⟩ := h_16
  rw [ew_16, en_16]
  refine e_if_eq F 41 dJ0_init_db425_19 (by decide) (by decide) (fun c_19 => ?_) (fun c_19 => ?_)
  · exact absurd c_19 (by decide)
  · refine e_aload_n F dJ0_init_db425_22 rfl ?_
    refine e_iconst F dJ0_init_db425_23 ?_
    refine e_setF (host := "") (ci := 7) (fi := 1) (q := (RJ0, TJ0, 4)) F hq rfl (by decide) w_fl_RJ0_15 hnm rfl rfl rfl (by rfl) (Nat.le_of_ble_eq_true rfl) dJ0_init_db425_24 ?_
    refine e_aload_n F dJ0_init_db425_27 rfl ?_
    refine e_aload_n F dJ0_init_db425_28 rfl ?_
    refine e_iconst F dJ0_init_db425_29 ?_
    refine e_iload F dJ0_init_db425_30 rfl ?_
    refine e_callSS F u_J7_copyOfRange_39247 (by rfl) (c_J7_copyOfRange_39247 (a := v) (c := c) (m := m) (f := f) (by rw [e_up_n (Ne.symm hqv)]; exact hv) hf hc0 hcm hm) w_ml_RJ0_54 dJ0_init_db425_32 (by rfl) (Nat.le_of_ble_eq_true rfl) (by decide) (by omega) (fun _ _ _ h _ => False.elim h) (fun r_32 w_32 n_32 h_32 hn_32 => ?_)
    obtain ⟨g, hg, rfl, ew_32, en_32⟩ := h_32
    rw [ew_32, en_32]
    refine e_setF (host := "") (ci := 7) (fi := 0) (q := (RJ0, TJ0, 4)) F (show e_up (e_up w q _) n _ q = _ by rw [e_up_n (by omega)]; exact e_up_s) rfl (by decide) w_fl_RJ0_9 hnm rfl rfl rfl (by rfl) (Nat.le_of_ble_eq_true rfl) dJ0_init_db425_35 ?_
    refine e_goto F 97 dJ0_init_db425_38 (by decide) ?_
    refine e_vret F rfl (by omega) ?_ dJ0_init_db425_97
    exact ⟨rfl, rfl, e_up_s, ⟨g, by rw [e_up_n (by omega)]; exact e_up_s⟩, fun j h1 h2 => by rw [e_up_n h1, e_up_n (by omega), e_up_n h1]⟩
set_option maxHeartbeats 4000000 in
set_option maxRecDepth 100000 in
theorem c_J0_init_81219 {K : e_K} {l : Launch} {w : e_W} {n : Nat} {q b : Nat} {c : Int} (hq : w q = some (.inl (7, [.null, .int (eI 0), .int (eI 0), .int (eI 0)]))) (hS : SB w b c) : e_Met K l yJ0_init_81219 (Cond.code yJ0_init_81219 cJ0_init_81219 2 none :: e_TB) (5) (1) [.ref q, .ref b] w n (fun r w' n' => r = none ∧ n' = n + 1 ∧ w' q = some (STo n) ∧ (∃ g, w' n = some (e_ba c.toNat g)) ∧ ∀ j, j ≠ q → j < n → w' j = w j) (e_px0) := by
  refine e_ofV rfl (Nat.le_of_ble_eq_true rfl) ?_
  intro P9 E9 S9 M9 A9 B9 T9 C9 F hnm
  refine e_aload_n F dJ0_init_81219_0 rfl ?_
  refine e_aload_n F dJ0_init_81219_1 rfl ?_
  refine e_null F dJ0_init_81219_2 ?_
  refine e_callII F u_J0_init_db425 (by rfl) (c_J0_init_db425 hq hS) w_ml_RJ0_489 dJ0_init_81219_3 (by rfl) (Nat.le_of_ble_eq_true rfl) (by decide) (by omega) (fun _ _ _ h _ => False.elim h) (fun r_3 w_3 n_3 h_3 hn_3 => ?_)
  obtain ⟨rfl, en_3, h9⟩ := h_3
  rw [en_3]
  refine e_vret F rfl (by omega) ?_ dJ0_init_81219_6
  exact ⟨rfl, rfl, h9⟩
set_option maxHeartbeats 4000000 in
set_option maxRecDepth 100000 in
theorem c_J4_toString_0e30d {K : e_K} {l : Launch} {w : e_W} {n : Nat} {b : Nat} {c : Int} (hS : SB w b c) : e_Met K l yJ4_toString_0e30d (Cond.code yJ4_toString_0e30d cJ4_toString_0e30d 1 (Option.some (.object "java/lang/String")) :: e_TB) (6) (2) [.ref b] w n (fun r w' n' => r = some (.ref n) ∧ n' = n + 2 ∧ w' n = some (STo (n + 1)) ∧ (∃ g, w' (n + 1) = some (e_ba c.toNat g)) ∧ ∀ j, j < n → w' j = w j) (e_px0) := by
  refine e_ofV rfl (Nat.le_of_ble_eq_true rfl) ?_
  intro P9 E9 S9 M9 A9 B9 T9 C9 F hnm
  obtain ⟨v, m, f, hb, hv, hbv, hf, hc0, hcm, hm⟩ := hS
  refine e_dom ?_
  intro hdom
  have hbn := hdom _ _ hb
  have hvn := hdom _ _ hv
  refine e_newO F (ci := 7) (q := (RJ0, TJ0, 4)) (fs := [.null, .int (eI 0), .int (eI 0), .int (eI 0)]) rfl (by omega) w_cl_RJ4_18 w_is_RJ0 w_in_RJ0 (by decide) (by intro j hj; have hj9 : j < 4 := hj; rcases j with _ | _ | _ | _ | j <;> first | rfl | omega) dJ4_toString_0e30d_0 ?_
  refine e_dup F dJ4_toString_0e30d_3 rfl ?_
  refine e_aload_n F dJ4_toString_0e30d_4 rfl ?_
  refine e_callII F u_J0_init_81219 (by rfl) (c_J0_init_81219 (c := c) e_up_s ⟨v, m, f, by rw [e_up_n (by omega)]; exact hb, by rw [e_up_n (by omega)]; exact hv, hbv, hf, hc0, hcm, hm⟩) w_ml_RJ4_137 dJ4_toString_0e30d_5 (by rfl) (Nat.le_of_ble_eq_true rfl) (by decide) (by omega) (fun _ _ _ h _ => False.elim h) (fun r_5 w_5 n_5 h_5 hn_5 => ?_)
  obtain ⟨rfl, en_5, g1, g2, g3⟩ := h_5
  rw [en_5]
  refine e_aret F rfl (Or.inl ⟨_, rfl⟩) (Or.inr ⟨_, rfl⟩) (by omega) ?_ dJ4_toString_0e30d_8
  exact ⟨rfl, rfl, g1, g2, fun j hj => by rw [g3 j (by omega) (by omega), e_up_n (by omega)]⟩
end
-- 42.text.lean.txt
section
/-! Secretshares: texts -/
theorem CW.kb {w w' : e_W} {x wh N : Nat} {kn : Int} {D : Nat → SD} (h : CW w x wh kn D) (hN : x + 27 ≤ N) (hk : KB w w' N) : CW w' x wh kn D := by
  obtain ⟨hX, hF, hwh, ⟨P, hP⟩, ⟨g, hg, hgj⟩, hDs, s, hS⟩ := h
  exact ⟨by rw [hk x (by omega)]; exact hX, by rw [hk _ (by omega)]; exact hF, hwh, ⟨P, hP.fr (hk _ (by omega)) (hk _ (by omega)) (hk _ (by omega))⟩, ⟨g, by rw [hk _ (by omega)]; exact hg, hgj⟩, fun j hj => ⟨(hDs j hj).1.fr (hk _ (by omega)) (hk _ (by omega)) (hk _ (by omega)), (hDs j hj).2⟩, s, hS.fr (hk _ (by omega)) (hk _ (by omega)) (hk _ (by omega))⟩
theorem CW.top {w : e_W} {x wh n : Nat} {kn : Int} {D : Nat → SD} (h : CW w x wh kn D) (hdom : ∀ q e, w q = some e → q < n) : x + 27 ≤ n := by
  obtain ⟨hX, hF, hwh, _, _, hDs, s, hS⟩ := h
  obtain ⟨f, hf, _⟩ := hS.2.2.1
  have := hdom _ _ hf
  omega
theorem SB.cell {w : e_W} {b : Nat} {c : Int} (h : SB w b c) : ∃ fs, w b = some (.inl (6, fs)) := by
  obtain ⟨v, m, f, hb, _⟩ := h
  exact ⟨_, hb⟩
theorem SB.pos {w : e_W} {b : Nat} {c : Int} (h : SB w b c) : 0 ≤ c := by
  obtain ⟨v, m, f, _, _, _, _, h0, _⟩ := h
  exact h0
theorem KB.tr {w w1 w2 : e_W} {b : Nat} (h : KB w w1 b) (h2 : KB w1 w2 b) : KB w w2 b := fun j hj => (h2 j hj).trans (h j hj)
set_option maxHeartbeats 4000000 in
set_option maxRecDepth 100000 in
theorem c_X3_text {K : e_K} {l : Launch} {w : e_W} {n : Nat} {x wh : Nat} {kn : Int} {D : Nat → SD} (hC : CW w x wh kn D) {i : Int} (hi : e_r i) : e_Met K l yX3_text (Cond.code yX3_text cX3_text 5 (Option.some (.object "java/lang/String")) :: e_TB) (7) (24) [.ref x, .int (eI i)] w n (fun r w' n' => (0 ≤ i ∧ i < 6) ∧ (∃ q : Nat, r = some (.ref q)) ∧ CW w' x wh kn D ∧ KB w w' n) (pxd w (¬ (0 ≤ i ∧ i < 6)) False) := by
  refine e_ofV rfl (Nat.le_of_ble_eq_true rfl) ?_
  intro P9 E9 S9 M9 A9 B9 T9 C9 F hnm
  have hC0 := hC
  have hDA := hC.2.2.2.2.1
  obtain ⟨hX, hF, hwh, ⟨P0, hQ⟩, ⟨ga, hga, hgj⟩, hDs, s0, hS⟩ := hC
  have hp := pr_rg wh hwh
  have ho9 := ho_rg wh hwh
  have hg9 := gr_rg wh hwh
  have hf9 := fl_rg wh hwh
  refine e_dom ?_
  intro hdom
  have htop := hC0.top hdom
  have hok : (0 ≤ i ∧ i < 6) → ∀ w2 : e_W, KB w w2 n → (0 ≤ i ∧ i < 6) ∧ CW w2 x wh kn D ∧ KB w w2 n := fun h w2 hk => ⟨h, hC0.kb htop hk, hk⟩
  have lp : (0 ≤ i ∧ i < 6) → ∀ (N k nl : Nat) (c : Int) (wl : e_W), 8 - k < N → ((k : Int) ≤ ho wh ∧ SB wl n c ∧ c ≤ 9 * k ∧ KB w wl n ∧ n ≤ nl) → e_V K P9 l E9 (7) (24) S9 M9 A9 B9 T9 C9 5 (fun r w' n' => (0 ≤ i ∧ i < 6) ∧ (∃ q : Nat, r = some (.ref q)) ∧ CW w' x wh kn D ∧ KB w w' n) (pxd w (¬ (0 ≤ i ∧ i < 6)) False) 29 [(0, .ref x), (2, .ref (x + 6 + 3 * i.toNat)), (3, .ref n), (4, .int (eI ((k : Int) + 1)))] [] wl nl ((3 + 2 * k)) := by
    intro hi N
    obtain ⟨hD0, hW0⟩ := hDs i.toNat (by omega)
    induction N with
    | zero => intro k nl c wl hN; exact absurd hN (Nat.not_lt_zero _)
    | succ N ih =>
      intro k nl c wl hN ⟨hk, gS, gc, gK, gn⟩
      have l54 : (k : Int) < ho wh → ∀ (c2 : Int) (w2 : e_W) (n2 : Nat), SB w2 n c2 → c2 ≤ 9 * k + 1 → KB w w2 n → n ≤ n2 → e_V K P9 l E9 (7) (24) S9 M9 A9 B9 T9 C9 5 (fun r w' n' => (0 ≤ i ∧ i < 6) ∧ (∃ q : Nat, r = some (.ref q)) ∧ CW w' x wh kn D ∧ KB w w' n) (pxd w (¬ (0 ≤ i ∧ i < 6)) False) 54 [(0, .ref x), (2, .ref (x + 6 + 3 * i.toNat)), (3, .ref n), (4, .int (eI ((k : Int) + 1)))] [] w2 n2 ((4 + 2 * k)) := by
        intro hlt c2 w2 n2 hS2 hc2 hK2 hn2
        have gC := hC0.kb htop hK2
        have gD := (gC.2.2.2.2.2.1 i.toNat (by omega)).1
        have hA9 := hD0.2.2.2.2.2.2.1 ((k : Int) + 1) (by omega) (by omega)
        have hc0 := hS2.pos
        refine e_aload_n F dX3_text_54 rfl ?_
        refine e_iload F dX3_text_55 rfl ?_
        refine e_callVN F u_X0_hasShare (by rfl) (c_X0_hasShare gD (h := (k : Int) + 1) (by omega) (by omega)) gD.1 rfl rfl w_mn_RX3_119 dX3_text_57 (by rfl) (Nat.le_of_ble_eq_true rfl) (by decide) (by omega) (fun _ _ _ h _ => False.elim h) (fun r_57 w_57 n_57 h_57 hn_57 => ?_)
        obtain ⟨rfl, ew_57, en_57⟩ := h_57
        rw [ew_57, en_57]
        refine e_if_eq F 77 dX3_text_60 (by decide) (b01_r _) (fun c_60 => ?_) (fun c_60 => ?_)
        ·
          rw [b01_0] at c_60
          refine e_aload_n F dX3_text_77 rfl ?_
          refine e_bipush F dX3_text_78 (by decide) ?_
          obtain ⟨q80, b80⟩ := hS2.cell
          refine e_callVV F u_J4_append_cf468 (by rfl) (c_J4_append_cf468 (c := c2) (x := 45) hS2 (by omega) (by omega) (by omega)) b80 rfl rfl w_ml_RX3_241 dX3_text_80 (by rfl) (Nat.le_of_ble_eq_true rfl) (by decide) (by omega) (fun _ _ _ h _ => False.elim h) (fun r_80 w_80 n_80 h_80 hn_80 => ?_)
          obtain ⟨rfl, S80, K80⟩ := h_80
          refine e_pop F dX3_text_83 rfl ?_
          refine e_iinc F dX3_text_84 rfl (by decide) ?_
          refine e_goto F 29 dX3_text_87 (by decide) ?_
          first
          | exact e_wid (by omega) (e_go (ih (k + 1) _ _ _ (by omega) ⟨by omega, S70, by omega, hK2.tr K70, by omega⟩) (And.intro rfl (And.intro rfl (And.intro rfl (And.intro rfl (trivial))))))
          | exact e_wid (by omega) (e_go (ih (k + 1) _ _ _ (by omega) ⟨by omega, S80, by omega, hK2.tr K80, by omega⟩) (And.intro rfl (And.intro rfl (And.intro rfl (And.intro rfl (trivial))))))
        ·
          rw [b01_0, Classical.not_not] at c_60
          refine e_aload_n F dX3_text_63 rfl ?_
          refine e_aload_n F dX3_text_64 rfl ?_
          refine e_iload F dX3_text_65 rfl ?_
          refine e_callVN F u_X0_shareAt (by rfl) (c_X0_shareAt gD (h := (k : Int) + 1) (by omega) (by omega)) gD.1 rfl rfl w_mn_RX3_123 dX3_text_67 (by rfl) (Nat.le_of_ble_eq_true rfl) (by decide) (by omega) (fun _ _ _ h _ => False.elim h) (fun r_67 w_67 n_67 h_67 hn_67 => ?_)
          obtain ⟨rfl, ew_67, en_67⟩ := h_67
          rw [ew_67, en_67]
          obtain ⟨q70, b70⟩ := hS2.cell
          refine e_callVV F u_J4_append_bf812 (by rfl) (c_J4_append_bf812 (c := c2) (x := (D i.toNat).A ((k : Int) + 1)) hS2 (by omega) (by omega) (by omega)) b70 rfl rfl w_ml_RX3_245 dX3_text_70 (by rfl) (Nat.le_of_ble_eq_true rfl) (by decide) (by omega) (fun _ _ _ h _ => False.elim h) (fun r_70 w_70 n_70 h_70 hn_70 => ?_)
          obtain ⟨rfl, ⟨c70, l70, u70, S70⟩, K70⟩ := h_70
          refine e_pop F dX3_text_73 rfl ?_
          refine e_goto F 84 dX3_text_74 (by decide) ?_
          refine e_iinc F dX3_text_84 rfl (by decide) ?_
          refine e_goto F 29 dX3_text_87 (by decide) ?_
          first
          | exact e_wid (by omega) (e_go (ih (k + 1) _ _ _ (by omega) ⟨by omega, S70, by omega, hK2.tr K70, by omega⟩) (And.intro rfl (And.intro rfl (And.intro rfl (And.intro rfl (trivial))))))
          | exact e_wid (by omega) (e_go (ih (k + 1) _ _ _ (by omega) ⟨by omega, S80, by omega, hK2.tr K80, by omega⟩) (And.intro rfl (And.intro rfl (And.intro rfl (And.intro rfl (trivial))))))
      have gC := hC0.kb htop gK
      have hc0 := gS.pos
      refine e_iload F dX3_text_29 rfl ?_
      refine e_aload_n F dX3_text_31 rfl ?_
      refine e_get (ci := 3) (fi := 0) (q := (RX3, TX3, 5)) F gC.1 rfl (by decide) w_fl_RX3_10 (by rfl) dX3_text_32 ?_
      refine e_getN (ci := 1) (fi := 4) (q := (RX1, TX1, 5)) F gC.2.1 rfl (by decide) w_fn_RX3_116 (by rfl) dX3_text_35 ?_
      refine e_icmp_gt F 90 dX3_text_38 (by decide) (⟨by omega, by omega⟩) (⟨by omega, by omega⟩) (fun c_38 => ?_) (fun c_38 => ?_)
      · refine e_aload_n F dX3_text_90 rfl ?_
        obtain ⟨q91, b91⟩ := gS.cell
        refine e_callVV F u_J4_toString_0e30d (by rfl) (c_J4_toString_0e30d gS) b91 rfl rfl w_ml_RX3_237 dX3_text_91 (by rfl) (Nat.le_of_ble_eq_true rfl) (by decide) (by omega) (fun _ _ _ h _ => False.elim h) (fun r_91 w_91 n_91 h_91 hn_91 => ?_)
        obtain ⟨rfl, en_91, t1_91, t2_91, K91⟩ := h_91
        refine e_aret F rfl (Or.inl ⟨_, rfl⟩) (Or.inr ⟨_, rfl⟩) (by omega) ?_ dX3_text_94
        obtain ⟨h1, h2, h3⟩ := hok hi w_91 (gK.tr (fun j hj => K91 j (by omega)))
        exact ⟨h1, ⟨_, rfl⟩, h2, h3⟩
      · refine e_iload F dX3_text_41 rfl ?_
        refine e_iconst F dX3_text_43 ?_
        refine e_icmp_le F 54 dX3_text_44 (by decide) (⟨by omega, by omega⟩) (⟨by omega, by omega⟩) (fun c_44 => ?_) (fun c_44 => ?_)
        · first
          | exact e_wid (by omega) (e_go (l54 (by omega) _ _ _ S50 (by omega) (gK.tr K50) (by omega)) (And.intro rfl (And.intro rfl (And.intro rfl (And.intro rfl (trivial))))))
          | exact e_wid (by omega) (e_go (l54 (by omega) _ _ _ gS (by omega) gK gn) (And.intro rfl (And.intro rfl (And.intro rfl (And.intro rfl (trivial))))))
        · refine e_aload_n F dX3_text_47 rfl ?_
          refine e_bipush F dX3_text_48 (by decide) ?_
          obtain ⟨q50, b50⟩ := gS.cell
          refine e_callVV F u_J4_append_cf468 (by rfl) (c_J4_append_cf468 (c := c) (x := 32) gS (by omega) (by omega) (by omega)) b50 rfl rfl w_ml_RX3_241 dX3_text_50 (by rfl) (Nat.le_of_ble_eq_true rfl) (by decide) (by omega) (fun _ _ _ h _ => False.elim h) (fun r_50 w_50 n_50 h_50 hn_50 => ?_)
          obtain ⟨rfl, S50, K50⟩ := h_50
          refine e_pop F dX3_text_53 rfl ?_
          first
          | exact e_wid (by omega) (e_go (l54 (by omega) _ _ _ S50 (by omega) (gK.tr K50) (by omega)) (And.intro rfl (And.intro rfl (And.intro rfl (And.intro rfl (trivial))))))
          | exact e_wid (by omega) (e_go (l54 (by omega) _ _ _ gS (by omega) gK gn) (And.intro rfl (And.intro rfl (And.intro rfl (And.intro rfl (trivial))))))
  refine e_aload_n F dX3_text_0 rfl ?_
  refine e_iload_n F dX3_text_1 rfl ?_
  refine e_callVV F u_X3_dealAt (by rfl) (c_X3_dealAt hX hDA (i := i) hi) hX rfl rfl w_ml_RX3_94 dX3_text_2 (by rfl) (Nat.le_of_ble_eq_true rfl) (by decide) (by omega) (fun E w2 n2 h _ => ⟨Or.inl ⟨h.1, by have q := h.2.1; omega⟩, h.2.2⟩) (fun r_2 w_2 n_2 h_2 hn_2 => ?_)
  obtain ⟨hi1, rfl, ew_2, en_2⟩ := h_2
  rw [ew_2, en_2]
  obtain ⟨hD1, hW1⟩ := hDs i.toNat (by omega)
  refine e_astore_n F dX3_text_5 (by decide) ?_
  refine e_newO F (ci := 6) (q := (RJ4, TJ4, 4)) (fs := [.null, .int (eI 0), .int (eI 0), .int (eI 0)]) rfl (by omega) w_cl_RX3_234 w_is_RJ4 w_in_RJ4 (by decide) (by intro j hj; have hj9 : j < 4 := hj; rcases j with _ | _ | _ | _ | j <;> first | rfl | omega) dX3_text_6 ?_
  refine e_dup F dX3_text_9 rfl ?_
  refine e_callII F u_J4_init_da8c8 (by rfl) (c_J4_init_da8c8 e_up_s) w_ml_RX3_236 dX3_text_10 (by rfl) (Nat.le_of_ble_eq_true rfl) (by decide) (by omega) (fun _ _ _ h _ => False.elim h) (fun r_10 w_10 n_10 h_10 hn_10 => ?_)
  obtain ⟨rfl, en_10, S0, K0⟩ := h_10
  rw [en_10]
  have K1 : KB w w_10 n := fun j hj => by rw [K0 j (by omega) (by omega), e_up_n (by omega)]
  refine e_astore_n F dX3_text_13 (by decide) ?_
  refine e_aload_n F dX3_text_14 rfl ?_
  have hD1b := hD1.fr (w' := w_10) (K1 _ (by omega)) (K1 _ (by omega)) (K1 _ (by omega))
  refine e_callVN F u_X0_isEmpty (by rfl) (c_X0_isEmpty hD1b) hD1b.1 rfl rfl w_mn_RX3_109 dX3_text_15 (by rfl) (Nat.le_of_ble_eq_true rfl) (by decide) (by omega) (fun _ _ _ h _ => False.elim h) (fun r_15 w_15 n_15 h_15 hn_15 => ?_)
  obtain ⟨rfl, ew_15, en_15⟩ := h_15
  rw [ew_15, en_15]
  refine e_if_eq F 26 dX3_text_18 (by decide) (b01_r _) (fun c_18 => ?_) (fun c_18 => ?_)
  · refine e_iconst F dX3_text_26 ?_
    refine e_istore F dX3_text_27 (by decide) ?_
    exact e_wid (by omega) (e_go (lp hi1 9 0 _ 0 _ (by omega) ⟨by omega, S0, by omega, K1, by omega⟩) (And.intro rfl (And.intro rfl (And.intro rfl (And.intro rfl (trivial))))))
  · refine e_aload_n F dX3_text_21 rfl ?_
    obtain ⟨q22, b22⟩ := S0.cell
    refine e_callVV F u_J4_toString_0e30d (by rfl) (c_J4_toString_0e30d S0) b22 rfl rfl w_ml_RX3_237 dX3_text_22 (by rfl) (Nat.le_of_ble_eq_true rfl) (by decide) (by omega) (fun _ _ _ h _ => False.elim h) (fun r_22 w_22 n_22 h_22 hn_22 => ?_)
    obtain ⟨rfl, en_22, t1_22, t2_22, K22⟩ := h_22
    refine e_aret F rfl (Or.inl ⟨_, rfl⟩) (Or.inr ⟨_, rfl⟩) (by omega) ?_ dX3_text_25
    obtain ⟨h1, h2, h3⟩ := hok hi1 w_22 (K1.tr (fun j hj => K22 j (by omega)))
    exact ⟨h1, ⟨_, rfl⟩, h2, h3⟩
set_option maxHeartbeats 4000000 in
set_option maxRecDepth 100000 in
theorem c_X3_seals {K : e_K} {l : Launch} {w : e_W} {n : Nat} {x wh : Nat} {kn : Int} {D : Nat → SD} (hC : CW w x wh kn D) {i : Int} (hi : e_r i) : e_Met K l yX3_seals (Cond.code yX3_seals cX3_seals 5 (Option.some (.object "java/lang/String")) :: e_TB) (7) (24) [.ref x, .int (eI i)] w n (fun r w' n' => (0 ≤ i ∧ i < 6) ∧ (∃ q : Nat, r = some (.ref q)) ∧ CW w' x wh kn D ∧ KB w w' n) (pxd w (¬ (0 ≤ i ∧ i < 6)) False) := by
  refine e_ofV rfl (Nat.le_of_ble_eq_true rfl) ?_
  intro P9 E9 S9 M9 A9 B9 T9 C9 F hnm
  have hC0 := hC
  have hDA := hC.2.2.2.2.1
  obtain ⟨hX, hF, hwh, ⟨P0, hQ⟩, ⟨ga, hga, hgj⟩, hDs, s0, hS⟩ := hC
  have hp := pr_rg wh hwh
  have ho9 := ho_rg wh hwh
  have hg9 := gr_rg wh hwh
  have hf9 := fl_rg wh hwh
  refine e_dom ?_
  intro hdom
  have htop := hC0.top hdom
  have hok : (0 ≤ i ∧ i < 6) → ∀ w2 : e_W, KB w w2 n → (0 ≤ i ∧ i < 6) ∧ CW w2 x wh kn D ∧ KB w w2 n := fun h w2 hk => ⟨h, hC0.kb htop hk, hk⟩
  have lp : (0 ≤ i ∧ i < 6) → ∀ (N k nl : Nat) (c : Int) (wl : e_W), 8 - k < N → ((k : Int) ≤ (D i.toNat).sc ∧ SB wl n c ∧ c ≤ 9 * k ∧ KB w wl n ∧ n ≤ nl) → e_V K P9 l E9 (7) (24) S9 M9 A9 B9 T9 C9 5 (fun r w' n' => (0 ≤ i ∧ i < 6) ∧ (∃ q : Nat, r = some (.ref q)) ∧ CW w' x wh kn D ∧ KB w w' n) (pxd w (¬ (0 ≤ i ∧ i < 6)) False) 17 [(0, .ref x), (2, .ref (x + 6 + 3 * i.toNat)), (3, .ref n), (4, .int (eI (k : Int)))] [] wl nl ((3 + 2 * k)) := by
    intro hi N
    obtain ⟨hD0, hW0⟩ := hDs i.toNat (by omega)
    have hsc := hD0.2.2.2.2.2.1
    induction N with
    | zero => intro k nl c wl hN; exact absurd hN (Nat.not_lt_zero _)
    | succ N ih =>
      intro k nl c wl hN ⟨hk, gS, gc, gK, gn⟩
      have l38 : (k : Int) < (D i.toNat).sc → ∀ (c2 : Int) (w2 : e_W) (n2 : Nat), SB w2 n c2 → c2 ≤ 9 * k + 1 → KB w w2 n → n ≤ n2 → e_V K P9 l E9 (7) (24) S9 M9 A9 B9 T9 C9 5 (fun r w' n' => (0 ≤ i ∧ i < 6) ∧ (∃ q : Nat, r = some (.ref q)) ∧ CW w' x wh kn D ∧ KB w w' n) (pxd w (¬ (0 ≤ i ∧ i < 6)) False) 38 [(0, .ref x), (2, .ref (x + 6 + 3 * i.toNat)), (3, .ref n), (4, .int (eI (k : Int)))] [] w2 n2 ((4 + 2 * k)) := by
        intro hlt c2 w2 n2 hS2 hc2 hK2 hn2
        have gC := hC0.kb htop hK2
        have gD := (gC.2.2.2.2.2.1 i.toNat (by omega)).1
        have hB9 := hD0.2.2.2.2.2.2.2 (k : Int) (by omega) hlt
        have hc0 := hS2.pos
        refine e_aload_n F dX3_seals_38 rfl ?_
        refine e_aload_n F dX3_seals_39 rfl ?_
        refine e_iload F dX3_seals_40 rfl ?_
        refine e_callVN F u_X0_sealAt (by rfl) (c_X0_sealAt gD (h := (k : Int)) ⟨by omega, by omega⟩) gD.1 rfl rfl w_mn_RX3_137 dX3_seals_42 (by rfl) (Nat.le_of_ble_eq_true rfl) (by decide) (by omega) (fun _ _ _ h _ => False.elim h) (fun r_42 w_42 n_42 h_42 hn_42 => ?_)
        obtain ⟨rfl, ew_42, en_42⟩ := h_42
        rw [ew_42, en_42, if_pos ⟨Int.natCast_nonneg k, hlt⟩]
        obtain ⟨q45, b45⟩ := hS2.cell
        refine e_callVV F u_J4_append_bf812 (by rfl) (c_J4_append_bf812 (c := c2) (x := (D i.toNat).B (k : Int)) hS2 (by omega) (by omega) (by omega)) b45 rfl rfl w_ml_RX3_245 dX3_seals_45 (by rfl) (Nat.le_of_ble_eq_true rfl) (by decide) (by omega) (fun _ _ _ h _ => False.elim h) (fun r_45 w_45 n_45 h_45 hn_45 => ?_)
        obtain ⟨rfl, ⟨c45, l45, u45, S45⟩, K45⟩ := h_45
        refine e_pop F dX3_seals_48 rfl ?_
        refine e_iinc F dX3_seals_49 rfl (by decide) ?_
        refine e_goto F 17 dX3_seals_52 (by decide) ?_
        exact e_wid (by omega) (e_go (ih (k + 1) _ _ _ (by omega) ⟨by omega, S45, by omega, hK2.tr K45, by omega⟩) (And.intro rfl (And.intro rfl (And.intro rfl (And.intro rfl (trivial))))))
      have gC := hC0.kb htop gK
      have gD := (gC.2.2.2.2.2.1 i.toNat (by omega)).1
      have hc0 := gS.pos
      refine e_iload F dX3_seals_17 rfl ?_
      refine e_aload_n F dX3_seals_19 rfl ?_
      refine e_getN (ci := 0) (fi := 2) (q := (RX0, TX0, 5)) F gD.1 rfl (by decide) w_fn_RX3_134 (by rfl) dX3_seals_20 ?_
      refine e_icmp_ge F 55 dX3_seals_23 (by decide) (⟨by omega, by omega⟩) (⟨by omega, by omega⟩) (fun c_23 => ?_) (fun c_23 => ?_)
      · refine e_aload_n F dX3_seals_55 rfl ?_
        obtain ⟨q56, b56⟩ := gS.cell
        refine e_callVV F u_J4_toString_0e30d (by rfl) (c_J4_toString_0e30d gS) b56 rfl rfl w_ml_RX3_237 dX3_seals_56 (by rfl) (Nat.le_of_ble_eq_true rfl) (by decide) (by omega) (fun _ _ _ h _ => False.elim h) (fun r_56 w_56 n_56 h_56 hn_56 => ?_)
        obtain ⟨rfl, en_56, t1_56, t2_56, K56⟩ := h_56
        refine e_aret F rfl (Or.inl ⟨_, rfl⟩) (Or.inr ⟨_, rfl⟩) (by omega) ?_ dX3_seals_59
        obtain ⟨h1, h2, h3⟩ := hok hi w_56 (gK.tr (fun j hj => K56 j (by omega)))
        exact ⟨h1, ⟨_, rfl⟩, h2, h3⟩
      · refine e_iload F dX3_seals_26 rfl ?_
        refine e_if_le F 38 dX3_seals_28 (by decide) (⟨by omega, by omega⟩) (fun c_28 => ?_) (fun c_28 => ?_)
        · first
          | exact e_wid (by omega) (e_go (l38 (by omega) _ _ _ S34 (by omega) (gK.tr K34) (by omega)) (And.intro rfl (And.intro rfl (And.intro rfl (And.intro rfl (trivial))))))
          | exact e_wid (by omega) (e_go (l38 (by omega) _ _ _ gS (by omega) gK gn) (And.intro rfl (And.intro rfl (And.intro rfl (And.intro rfl (trivial))))))
        · refine e_aload_n F dX3_seals_31 rfl ?_
          refine e_bipush F dX3_seals_32 (by decide) ?_
          obtain ⟨q34, b34⟩ := gS.cell
          refine e_callVV F u_J4_append_cf468 (by rfl) (c_J4_append_cf468 (c := c) (x := 32) gS (by omega) (by omega) (by omega)) b34 rfl rfl w_ml_RX3_241 dX3_seals_34 (by rfl) (Nat.le_of_ble_eq_true rfl) (by decide) (by omega) (fun _ _ _ h _ => False.elim h) (fun r_34 w_34 n_34 h_34 hn_34 => ?_)
          obtain ⟨rfl, S34, K34⟩ := h_34
          refine e_pop F dX3_seals_37 rfl ?_
          first
          | exact e_wid (by omega) (e_go (l38 (by omega) _ _ _ S34 (by omega) (gK.tr K34) (by omega)) (And.intro rfl (And.intro rfl (And.intro rfl (And.intro rfl (trivial))))))
          | exact e_wid (by omega) (e_go (l38 (by omega) _ _ _ gS (by omega) gK gn) (And.intro rfl (And.intro rfl (And.intro rfl (And.intro rfl (trivial))))))
  refine e_aload_n F dX3_seals_0 rfl ?_
  refine e_iload_n F dX3_seals_1 rfl ?_
  refine e_callVV F u_X3_dealAt (by rfl) (c_X3_dealAt hX hDA (i := i) hi) hX rfl rfl w_ml_RX3_94 dX3_seals_2 (by rfl) (Nat.le_of_ble_eq_true rfl) (by decide) (by omega) (fun E w2 n2 h _ => ⟨Or.inl ⟨h.1, by have q := h.2.1; omega⟩, h.2.2⟩) (fun r_2 w_2 n_2 h_2 hn_2 => ?_)
  obtain ⟨hi1, rfl, ew_2, en_2⟩ := h_2
  rw [ew_2, en_2]
  obtain ⟨hD1, hW1⟩ := hDs i.toNat (by omega)
  refine e_astore_n F dX3_seals_5 (by decide) ?_
  refine e_newO F (ci := 6) (q := (RJ4, TJ4, 4)) (fs := [.null, .int (eI 0), .int (eI 0), .int (eI 0)]) rfl (by omega) w_cl_RX3_234 w_is_RJ4 w_in_RJ4 (by decide) (by intro j hj; have hj9 : j < 4 := hj; rcases j with _ | _ | _ | _ | j <;> first | rfl | omega) dX3_seals_6 ?_
  refine e_dup F dX3_seals_9 rfl ?_
  refine e_callII F u_J4_init_da8c8 (by rfl) (c_J4_init_da8c8 e_up_s) w_ml_RX3_236 dX3_seals_10 (by rfl) (Nat.le_of_ble_eq_true rfl) (by decide) (by omega) (fun _ _ _ h _ => False.elim h) (fun r_10 w_10 n_10 h_10 hn_10 => ?_)
  obtain ⟨rfl, en_10, S0, K0⟩ := h_10
  rw [en_10]
  have K1 : KB w w_10 n := fun j hj => by rw [K0 j (by omega) (by omega), e_up_n (by omega)]
  refine e_astore_n F dX3_seals_13 (by decide) ?_
  refine e_iconst F dX3_seals_14 ?_
  refine e_istore F dX3_seals_15 (by decide) ?_
  have hsc9 := hD1.2.2.2.2.2.1
  exact e_wid (by omega) (e_go (lp hi1 9 0 _ 0 _ (by omega) ⟨by omega, S0, by omega, K1, by omega⟩) (And.intro rfl (And.intro rfl (And.intro rfl (And.intro rfl (trivial))))))
end
