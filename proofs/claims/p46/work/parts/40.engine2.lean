/-! ===== more rows of the engine ===== -/
abbrev e_ba (n : Nat) (f : Int → Int) : e_C := .inr (11, n, fun j => .int (eI (f (j : Int))))
theorem e_b8 {x : Int} (h1 : -128 ≤ x) (h2 : x < 128) : (eI x).toInt8.toInt32 = eI x := by
  rw [Int32.toInt8_ofInt]
  exact e_i8 h1 h2
theorem e_nfw : nativeFrameWords "java/lang/System" "arraycopy" 5 ≤ 40 := by decide +kernel
theorem e_up_up {w : e_W} {a : Nat} {c c2 : e_C} : e_up (e_up w a c) a c2 = e_up w a c2 := by
  funext q
  unfold e_up
  split <;> rfl
theorem e_shl0 (x : Int32) : x <<< (eI 0 &&& 31) = x := sb_shl0 x
theorem e_shr0 (x : Int32) : x >>> (eI 0 &&& 31) = x := sb_shr0 x
section EV
variable {K : e_K} {p : Program} {l : Launch} {e : Env} {d mc : Nat} {s : State} {m : MethodId} {args : Array Value} {below : List Frame} {meth : Method} {c : Code} {cc : ByteArray} {nL : Nat} {ret : Option FieldType} {own : String} {post : Option Value → e_W → Nat → Prop} {px : String → e_W → Nat → Prop} {pc : Nat} {L : List (Nat × Value)} {st : List Value} {w : e_W} {n k : Nat}
theorem e_sipush (F : e_F K p l s m args meth c cc nL ret own) {z : Int} (hd : decode cc pc = .ok (.sipush z, 3)) (hv : (Int16.ofInt z).toInt32 = eI z) (kk : e_V K p l e d mc s m args below meth c nL post px (pc + 3) (L) (.int (eI z) :: st) (w) (n) (k)) : e_V K p l e d mc s m args below meth c nL post px (pc) (L) (st) (w) (n) (k) := fun H locs ls hl hR hz => lv_sipush F.1 F.2.1 hd hv (kk H locs ls hl hR hz)
theorem e_i2b (F : e_F K p l s m args meth c cc nL ret own) {x : Int} (hd : decode cc pc = .ok (.i2b, 1)) (h1 : -128 ≤ x) (h2 : x < 128) (kk : e_V K p l e d mc s m args below meth c nL post px (pc + 1) (L) (.int (eI x) :: st) (w) (n) (k)) : e_V K p l e d mc s m args below meth c nL post px (pc) (L) (.int (eI x) :: st) (w) (n) (k) := fun H locs ls hl hR hz => lv_i2b F.1 F.2.1 hd (e_b8 h1 h2) (kk H locs ls hl hR hz)
theorem e_ineg (F : e_F K p l s m args meth c cc nL ret own) {x : Int} (hd : decode cc pc = .ok (.ineg, 1)) (kk : e_V K p l e d mc s m args below meth c nL post px (pc + 1) (L) (.int (eI (-x)) :: st) (w) (n) (k)) : e_V K p l e d mc s m args below meth c nL post px (pc) (L) (.int (eI x) :: st) (w) (n) (k) := by
  have h : -eI x = eI (-x) := (Int32.ofInt_neg x).symm
  exact fun H locs ls hl hR hz => lv_ineg F.1 F.2.1 hd (by rw [h]; exact kk H locs ls hl hR hz)
theorem e_dup_x1 (F : e_F K p l s m args meth c cc nL ret own) {va vb : Value} (hd : decode cc pc = .ok (.dup_x1, 1)) (ha : va.category = 1) (hb : vb.category = 1) (kk : e_V K p l e d mc s m args below meth c nL post px (pc + 1) (L) (va :: vb :: va :: st) (w) (n) (k)) : e_V K p l e d mc s m args below meth c nL post px (pc) (L) (va :: vb :: st) (w) (n) (k) := fun H locs ls hl hR hz => lv_dup_x1 F.1 F.2.1 hd ha hb (kk H locs ls hl hR hz)
theorem e_arrB (F : e_F K p l s m args meth c cc nL ret own) : ArrOfT s (K.2.1.1 11) .byte := (F.2.2.2.2.2.2.2.2.1.1.2 3 _ rfl).1
theorem e_fitB {x : Int} (h1 : -128 ≤ x) (h2 : x < 128) : fits .byte (.int (eI x)) = true := by
  show (decide ((-128 : Int32) ≤ eI x) && decide (eI x ≤ (127 : Int32))) = true
  have e1 : (-128 : Int32) = eI (-128) := by decide
  have e2 : (127 : Int32) = eI 127 := by decide
  rw [e1, e2, decide_eq_true ((eI_le (by decide) ⟨by omega, by omega⟩).mpr h1), decide_eq_true ((eI_le ⟨by omega, by omega⟩ (by decide)).mpr (show x ≤ 127 by omega))]
  rfl
theorem e_clAt (F : e_F K p l s m args meth c cc nL ret own) : ClassAt s RJ4 (K.2.1.1 6) := (F.2.2.2.2.2.2.2.2.1.1.1 6 _ rfl).2
theorem e_nmB (F : e_F K p l s m args meth c cc nL ret own) : s.vm.findClass "[B" = some (K.2.1.1 11) := by
  have h : s.vm.findClass ("[" ++ FieldType.byte.toString) = some (K.2.1.1 11) := (F.2.2.2.2.2.2.2.2.1.1.2 3 _ rfl).2
  exact h
theorem e_nmI (F : e_F K p l s m args meth c cc nL ret own) : s.vm.findClass "[I" = some (K.2.1.1 8) := by
  have h : s.vm.findClass ("[" ++ FieldType.int.toString) = some (K.2.1.1 8) := (F.2.2.2.2.2.2.2.2.1.1.2 0 _ rfl).2
  exact h
theorem e_dom (kk : (∀ q e, w q = some e → q < n) → e_V K p l e d mc s m args below meth c nL post px (pc) (L) (st) (w) (n) (k)) : e_V K p l e d mc s m args below meth c nL post px (pc) (L) (st) (w) (n) (k) := fun H locs ls hl hR hz => kk (fun q e h => hR.lt h) H locs ls hl hR hz
theorem e_CU (F : e_F K p l s m args meth c cc nL ret own) {y : MethodName} {bytes : ByteArray} {maxL idx d2 mc2 na : Nat} {rt : Option FieldType} (Y : e_Y y bytes maxL rt na) (hi : Cond.instanceMethod y ∈ e_TB) (hse : Cond.selects RJ4 y y ∈ e_TB) (hsa : Cond.sameMethod y.cls y.cls y.name y.desc ∈ e_TB) (hm : Cond.methodLink own idx y ∈ e_TB) (hdd : d2 + 1 ≤ d) : va_CU (e_rm d mc) s args own RJ4 y.cls idx y y bytes maxL rt (Cond.code y bytes maxL rt :: e_TB) (e_rm d2 mc2) mc2 (256 * mc2) na :=
  va_cwU (ws' := e_TB) na F.2.2.2.2.2.1 (e_goodIn (fun w h => by
    rcases List.mem_append.mp h with h | h
    · simp only [List.mem_cons, List.not_mem_nil, or_false] at h
      rcases h with rfl | rfl | rfl | rfl | rfl
      · exact hm
      · exact hsa
      · exact hse
      · exact hi
      · exact Y.2.2.2.2
    · exact e_ws Y w h)) rfl rfl rfl rfl ⟨Y.1.1, Y.1.2, Y.2.1⟩ ⟨hdd, by have := Y.2.2.1; show 8 + (maxL + 11) + 64 * d2 ≤ 64 * d; omega⟩
theorem e_CO (F : e_F K p l s m args meth c cc nL ret own) {x y : MethodName} {bytes : ByteArray} {maxL idx d2 mc2 na : Nat} {rt : Option FieldType} {b0 : ByteArray} {m0 : Nat} {r0 : Option FieldType} (Y : e_Y y bytes maxL rt na) (hi : Cond.instanceMethod y ∈ e_TB) (hse : Cond.selects RJ4 x y ∈ e_TB) (hsa : Cond.sameMethod x.cls x.cls x.name x.desc ∈ e_TB) (hm : Cond.methodLink own idx x ∈ e_TB) (hx : Cond.code x b0 m0 r0 ∈ e_TB) (hxi : Cond.instanceMethod x ∈ e_TB) (hxm : x.cls ≠ "java/lang/invoke/MethodHandle" ∧ x.cls ≠ "java/lang/invoke/VarHandle" ∧ (parseMethodDescriptor x.desc).map (fun d => d.parameters.length) = some na) (hdd : d2 + 1 ≤ d) : va_CU (e_rm d mc) s args own RJ4 x.cls idx x y bytes maxL rt (Cond.code y bytes maxL rt :: e_TB) (e_rm d2 mc2) mc2 (256 * mc2) na :=
  va_cwO (ws' := e_TB) na F.2.2.2.2.2.1 (e_goodIn (fun w h => by
    rcases List.mem_append.mp h with h | h
    · simp only [List.mem_cons, List.not_mem_nil, or_false] at h
      rcases h with rfl | rfl | rfl | rfl | rfl | rfl
      · exact hm
      · exact hsa
      · exact hxi
      · exact hse
      · exact hi
      · exact Y.2.2.2.2
    · exact e_ws Y w h)) rfl rfl rfl hx hxm ⟨hdd, by have := Y.2.2.1; show 8 + (maxL + 11) + 64 * d2 ≤ 64 * d; omega⟩
theorem e_CS (F : e_F K p l s m args meth c cc nL ret own) {y : MethodName} {bytes : ByteArray} {maxL idx d2 mc2 na : Nat} {rt : Option FieldType} (Y : e_Y y bytes maxL rt na) (hno : y.name ≠ "<init>") (hi : Cond.instanceMethod y ∈ e_TB) (hsu : Cond.superclass own y.cls ∈ e_TB) (hsa : Cond.sameMethod y.cls y.cls y.name y.desc ∈ e_TB) (hm : Cond.methodLink own idx y ∈ e_TB) (hdd : d2 + 1 ≤ d) : va_CS (e_rm d mc) s args own idx y bytes maxL rt (Cond.code y bytes maxL rt :: e_TB) (e_rm d2 mc2) mc2 (256 * mc2) na :=
  va_cwSU (ws' := e_TB) na F.2.2.2.2.2.1 (e_goodIn (fun w h => by
    rcases List.mem_append.mp h with h | h
    · simp only [List.mem_cons, List.not_mem_nil, or_false] at h
      rcases h with rfl | rfl | rfl | rfl | rfl
      · exact hm
      · exact hsa
      · exact hsu
      · exact hi
      · exact Y.2.2.2.2
    · exact e_ws Y w h)) rfl rfl rfl ⟨hno, Y.2.1⟩ ⟨hdd, by have := Y.2.2.1; show 8 + (maxL + 11) + 64 * d2 ≤ 64 * d; omega⟩
theorem e_alenB (F : e_F K p l s m args meth c cc nL ret own) {a N : Nat} {f : Int → Int} (hw : w a = some (e_ba N f)) (hd : decode cc pc = .ok (.arraylength, 1)) (kk : e_V K p l e d mc s m args below meth c nL post px (pc + 1) (L) (.int (eI (N : Int)) :: st) (w) (n) (k)) : e_V K p l e d mc s m args below meth c nL post px (pc) (L) (.ref a :: st) (w) (n) (k) :=
  fun H locs ls hl hR hz => W.alen (n := eI (N : Int)) F.1 F.2.1 (hR.2.2.1 a _ hw).2 (e_arrB F N _) (by rw [arrV_size]; rfl) rfl rfl hd (kk H locs ls hl hR hz)
theorem e_bast (F : e_F K p l s m args meth c cc nL ret own) {a N : Nat} {f : Int → Int} {i x : Int} (hw : w a = some (e_ba N f)) (h0 : 0 ≤ i) (hN : i < N) (hb : N < 2147483648) (hx : -128 ≤ x ∧ x < 128) (hd : decode cc pc = .ok (.bastore, 1)) (kk : e_V K p l e d mc s m args below meth c nL post px (pc + 1) (L) (st) (e_up w a (e_ba N (e_fu f i x))) (n) (k)) : e_V K p l e d mc s m args below meth c nL post px (pc) (L) (.int (eI x) :: .int (eI i) :: .ref a :: st) (w) (n) (k) := by
  obtain ⟨x1, x2⟩ := e_ix h0 hN hb
  intro H locs ls hl hR hz
  have hA := (hR.2.2.1 a _ hw)
  refine W.bast F.1 F.2.1 hA.2 (e_arrB F N _) (fun h => by cases h) (by rw [arrV_size]; exact x1) rfl rfl hd fun H' e1 e2 e3 => ?_
  refine kk H' _ ls hl (hR.up hw ?_ e2 e3) (fun z hz' => ?_)
  · show H'[a]? = some (arrV _ _ _)
    rw [e1, narrow_byte, e_b8 hx.1 hx.2, arrV_store, x2]
    congr 2
    funext j
    unfold updV e_fu
    dsimp only
    by_cases hj : j = i.toNat
    · subst hj; rw [if_pos rfl, if_pos (by omega)]
    · rw [if_neg hj, if_neg (by omega)]
  · rcases List.mem_append.mp hz' with h | h
    · exact hz z h
    · rw [List.mem_singleton.mp h]; exact hA.1
theorem e_newB (F : e_F K p l s m args meth c cc nL ret own) {N : Nat} {z : Int} (hz0 : z = (N : Int)) (hN : N ≤ 256) (hk : k + 1 ≤ mc) (hm : Cond.arrayClass .byte ∈ e_TB) (hd : decode cc pc = .ok (.newarray .byte, 2)) (kk : e_V K p l e d mc s m args below meth c nL post px (pc + 2) (L) (.ref n :: st) (e_up w n (e_ba N (fun _ => 0))) (n + 1) (k + 1)) : e_V K p l e d mc s m args below meth c nL post px (pc) (L) (.int (eI z) :: st) (w) (n) (k) := by
  subst hz0
  intro H locs ls hl hR hz
  have hc : (eI (N : Int)).toNatClampNeg = N := by
    show (eI (N : Int)).toInt.toNat = N
    rw [eI_toInt (by omega) (by omega)]; omega
  have h0 : ¬ eI (N : Int) < 0 := by
    rw [Int32.lt_iff_toInt_lt, eI_toInt (by omega) (by omega)]
    have : (0 : Int32).toInt = 0 := by decide
    omega
  have hlt : k < mc := hk
  refine W.newa (atype := .byte) F.1 F.2.1 (F.2.2.2.2.2.1 _ hm) rfl hd rfl h0 (by rw [hc]; show N * 1 ≤ 536870912; omega) hk (by rw [hc]; show 256 * k + N ≤ 256 * mc; omega) fun cA kA comp f1 f2 f3 => ?_
  have hcA : cA = K.2.1.1 11 := Option.some.inj (f1.symm.trans (F.2.2.2.2.2.2.2.2.1.1.2 3 _ rfl).2)
  subst hcA
  refine W.widen (k := k + 1) (n := 256 * (k + 1)) (Nat.le_refl _) (by rw [hc]; omega) ?_
  rw [hR.1]
  refine kk _ locs ls hl (hR.push ?_ (by rw [Array.size_push, hR.1]) (fun q hq => by rw [Array.getElem?_push, if_neg (by rw [hR.1]; omega)])) hz
  show _ = some (arrV _ _ _)
  rw [arrV_new, ← hR.1, Array.getElem?_push_size, hc]
  rfl
theorem e_baldS (F : e_F K p l s m args meth c cc nL ret own) {i : Nat} {j : Int} (hi : i = 6 ∨ i = 7) (h0 : 0 ≤ j) (hN : j < 100) (hd : decode cc pc = .ok (.baload, 1)) (kk : e_V K p l e d mc s m args below meth c nL post px (pc + 1) (L) (.int (eI (48 + (if i = 6 then j % 10 else j / 10))) :: st) (w) (n) (k)) : e_V K p l e d mc s m args below meth c nL post px (pc) (L) (.int (eI j) :: .ref (K.2.2 i) :: st) (w) (n) (k) := by
  obtain ⟨x1, x2⟩ := e_ix (N := 100) h0 hN (by decide)
  intro H locs ls hl hR hz
  have hT := F.2.2.2.2.2.2.2.2.1.2.2.2.1 i (by omega)
  rw [show e_sty i = .byte from if_neg (by omega), show e_sln i = 100 from if_neg (by omega)] at hT
  obtain ⟨cell, h1, h2, h3, h4, h5, h6, h7⟩ := hT
  have e9 : e_rowv i j.toNat = .int (eI (48 + (if i = 6 then j % 10 else j / 10))) := by
    unfold e_rowv
    rw [if_neg (by omega)]
    rcases hi with q | q
    · rw [if_pos q, if_pos q]; congr 2; omega
    · rw [if_neg (by omega), if_neg (by omega)]; congr 2; omega
  exact W.bald (v := .int (eI (48 + (if i = 6 then j % 10 else j / 10)))) F.1 F.2.1 (by rw [hR.2.2.2.1 _ (Nat.not_le.mp h7)]; exact h1) h2 h3 (fun q => x1 (q.imp id (fun q => Nat.le_trans h4 q))) (by rw [x2, h6 _ (by omega), e9]) rfl rfl hd (kk H locs ls hl hR hz)
theorem e_ldcS (F : e_F K p l s m args meth c cc nL ret own) {is : Nat} {text : String} (hstr : (own, is, text) ∈ e_ST) (hd : decode cc pc = .ok (.ldc is, 2)) (kk : ∀ a : Nat, e_V K p l e d mc s m args below meth c nL post px (pc + 2) (L) (.ref a :: st) (w) (n) (k)) : e_V K p l e d mc s m args below meth c nL post px (pc) (L) (st) (w) (n) (k) := by
  intro H locs ls hl hR hz
  obtain ⟨sa, hsa⟩ := F.2.2.2.2.2.2.2.2.1.2.2.2.2.2.2.1 _ hstr
  exact va_ldcS F.1 F.2.1 F.2.2.2.2.1 hsa hd (kk sa H locs ls hl hR hz)
theorem e_castA (F : e_F K p l s m args meth c cc nL ret own) {ai a N idx : Nat} {g : Nat → Value} {nm : String} (hw : w a = some (.inr (ai, N, g))) (hnm : s.vm.findClass nm = some (K.2.1.1 ai)) (hm : Cond.classLink own idx nm ∈ e_TB) (hd : decode cc pc = .ok (.checkcast idx, 3)) (kk : e_V K p l e d mc s m args below meth c nL post px (pc + 3) (L) (.ref a :: st) (w) (n) (k)) : e_V K p l e d mc s m args below meth c nL post px (pc) (L) (.ref a :: st) (w) (n) (k) := by
  intro H locs ls hl hR hz T hT X
  have hc : T.heap[a]? = some (arrV (K.2.1.1 ai) N g) := by rw [hT]; exact (hR.2.2.1 a _ hw).2
  obtain ⟨vm', X', st9⟩ := X.checkcastYes F.1 F.2.2.2.2.1 (F.2.2.2.2.2.1 _ hm) hc rfl hnm (va_asg _ _) (g := F0 m pc ls (.ref a :: st)) rfl rfl (by rw [F.2.1]; exact hd)
  obtain ⟨t, a1, b1⟩ := kk H locs ls hl hR hz (T.setVm vm') hT X'
  exact ⟨t, st9 t a1, b1⟩
theorem e_cloneX (F : e_F K p l s m args meth c cc nL ret own) {ai a N idx : Nat} {g : Nat → Value} {ad : String} {ty : FieldType} {i0 : Nat} (ht : (e_tys K)[i0]? = some (K.2.1.1 ai, ty)) (hw : w a = some (.inr (ai, N, g))) (hN : N ≤ 256) (hk : k + 1 ≤ mc) (hnm : s.vm.findClass ad = some (K.2.1.1 ai)) (hfit : ∀ j, j < N → fits ty (g j) = true)
    (m1 : Cond.methodLink own idx ⟨ad, "clone", "()Ljava/lang/Object;"⟩ ∈ e_TB) (m2 : Cond.sameMethod ad "java/lang/Object" "clone" "()Ljava/lang/Object;" ∈ e_TB) (m3 : Cond.native ⟨"java/lang/Object", "clone", "()Ljava/lang/Object;"⟩ ∈ e_TB) (m4 : Cond.instanceMethod ⟨"java/lang/Object", "clone", "()Ljava/lang/Object;"⟩ ∈ e_TB) (m5 : Cond.selects ad ⟨ad, "clone", "()Ljava/lang/Object;"⟩ ⟨"java/lang/Object", "clone", "()Ljava/lang/Object;"⟩ ∈ e_TB) (m6 : Cond.castable ad "java/lang/Cloneable" ∈ e_NW)
    (hd : decode cc pc = .ok (.invokevirtual idx, 3)) (hroom : (st.map fun v => v.category).sum ≤ 8) (hdd : 1 ≤ d) (kk : e_V K p l e d mc s m args below meth c nL post px (pc + 3) (L) (.ref n :: st) (e_up w n (.inr (ai, N, g))) (n + 1) (k + 1)) : e_V K p l e d mc s m args below meth c nL post px (pc) (L) (.ref a :: st) (w) (n) (k) := by
  intro H locs ls hl hR hz T hT X
  have hts := F.2.2.2.2.2.1
  have hK := F.2.2.2.2.2.2.2.2.1.1
  obtain ⟨c0, t0', f1, f2, f3⟩ := Cond.castable_spec (va_Nw.use (A := args) rfl (F.2.2.2.2.2.2.2.2.1.2.1 _ m6))
  cases hnm.symm.trans f1
  have hcellT : T.heap[a]? = some (arrV (K.2.1.1 ai) N g) := by rw [hT]; exact (hR.2.2.1 a _ hw).2
  have hsz : (arrV (K.2.1.1 ai) N g).slots.size = N := arrV_size _ _ _
  obtain ⟨-, kA, hkA, comp, hkind⟩ := State.isArrayOf_alike X.warmed.alike ((hK.2 i0 _ ht).1 0 (fun _ => .null))
  obtain ⟨-, kS, hkS, compS, hkindS⟩ := (hK.2 i0 _ ht).1 0 (fun _ => .null)
  have hlt : k < mc := hk
  obtain ⟨vm', X', st9⟩ := X.cloneArray F.1 F.2.2.2.2.1 (hts _ m1) (hts _ m2) (hts _ m3) (hts _ m4) (hts _ m5) (a := a) (cell := arrV (K.2.1.1 ai) N g) hcellT (fun _ h => by cases h) (fun h => by cases h) hnm f2 f3
    (fun i v hv => by
      have hk' : T.vm.classes[K.2.1.1 ai]? = some kA := hkA
      have hi : i < N := by
        have := (Array.getElem?_eq_some_iff.mp hv).1
        rw [hsz] at this; exact this
      rw [arrV_read _ _ hi] at hv
      have hv2 := hfit i hi
      rw [Option.some.inj hv] at hv2
      show T.fitsSlot (K.2.1.1 ai) .none i v = true
      simpa [State.fitsSlot, State.slotType?, hk', hkind] using hv2)
    (g := F0 m pc ls (.ref a :: st)) rfl (by rw [F.2.2.1]; exact hl.1) rfl (by rw [F.2.1]; exact hd) hdd (by show 2 * 0 + (st.map fun v => v.category).sum + 14 ≤ 64 * d; omega) hk (by rw [hsz]; show 256 * k + N ≤ 256 * mc; omega) (hloader := Vm.clonesLoader_of_array hkS hkindS)
  have hcellE : ({ cls := (arrV (K.2.1.1 ai) N g).cls, slots := (arrV (K.2.1.1 ai) N g).slots } : Cell) = arrV (K.2.1.1 ai) N g := rfl
  rw [hcellE, hsz] at X'
  have hn : T.heap.size = n := by rw [hT]; exact hR.1
  obtain ⟨t, a1, b1⟩ := (W.widen (k := k + 1) (n := 256 * (k + 1)) (Nat.le_refl _) (by omega) (kk (H.push (arrV (K.2.1.1 ai) N g)) locs ls hl (hR.push (by show _ = some (arrV _ _ _); rw [← hR.1, Array.getElem?_push_size]) (by rw [Array.size_push, hR.1]) (fun q hq => by rw [Array.getElem?_push, if_neg (by rw [hR.1]; omega)])) hz)) ((T.setVm vm').pushCell (arrV (K.2.1.1 ai) N g)) (by rw [← hT]; rfl) X'
  refine ⟨t, st9 t ?_, b1⟩
  rw [hcellE, hn]
  exact a1
theorem e_copyB (F : e_F K p l s m args meth c cc nL ret own) {a0 a n0 n1 idx : Nat} {f g : Int → Int} {sp dp cnt : Int} (h0 : w a0 = some (e_ba n0 f)) (h1 : w a = some (e_ba n1 g)) (hs : 0 ≤ sp) (hp0 : 0 ≤ dp) (hc : 0 ≤ cnt) (hsn : sp + cnt ≤ n0) (hdn : dp + cnt ≤ n1) (hb0 : n0 < 2147483648) (hb1 : n1 < 2147483648) (hf : ∀ j, -128 ≤ f j ∧ f j < 128)
    (m1 : Cond.methodLink own idx arraycopyName ∈ e_TB) (m2 : Cond.native arraycopyName ∈ e_TB) (m3 : Cond.static arraycopyName ∈ e_TB) (m4 : Cond.initialized "java/lang/System" ∈ e_TB) (hd : decode cc pc = .ok (.invokestatic idx, 3)) (hroom : (st.map fun v => v.category).sum ≤ 8) (hdd : 1 ≤ d)
    (kk : e_V K p l e d mc s m args below meth c nL post px (pc + 3) (L) (st) (e_up w a (e_ba n1 (fun j => if dp ≤ j ∧ j < dp + cnt then f (sp + (j - dp)) else g j))) (n) (k)) : e_V K p l e d mc s m args below meth c nL post px (pc) (L) (.int (eI cnt) :: .int (eI dp) :: .ref a :: .int (eI sp) :: .ref a0 :: st) (w) (n) (k) := by
  have cl9 : ∀ z : Int, 0 ≤ z → z < 2147483648 → (eI z).toNatClampNeg = z.toNat := fun z q1 q2 => by
    show (eI z).toInt.toNat = z.toNat
    rw [eI_toInt (by omega) (by omega)]
  have ng : ∀ z : Int, 0 ≤ z → z < 2147483648 → ¬ eI z < 0 := fun z q1 q2 => by
    rw [Int32.lt_iff_toInt_lt, eI_toInt (by omega) (by omega)]
    have : (0 : Int32).toInt = 0 := by decide
    omega
  intro H locs ls hl hR hz T hT X
  have hts := F.2.2.2.2.2.1
  have hK := F.2.2.2.2.2.2.2.2.1.1
  have hc0 : H[a0]? = some (arrV (K.2.1.1 11) n0 (fun j => .int (eI (f (j : Int))))) := (hR.2.2.1 a0 _ h0).2
  have hc1 : H[a]? = some (arrV (K.2.1.1 11) n1 (fun j => .int (eI (g (j : Int))))) := (hR.2.2.1 a _ h1).2
  obtain ⟨-, k0, hk0, cm0, hkk0⟩ := (hK.2 3 _ rfl).1 n0 (fun j => .int (eI (f (j : Int))))
  obtain ⟨-, k1, hk1, cm1, hkk1⟩ := (hK.2 3 _ rfl).1 n1 (fun j => .int (eI (g (j : Int))))
  have es := cl9 sp hs (by omega)
  have ed := cl9 dp hp0 (by omega)
  have ec := cl9 cnt hc (by omega)
  obtain ⟨vm', X', step⟩ := X.arraycopy F.1 F.2.2.2.2.1 (hts _ m1) (hts _ m2) (hts _ m3) (hts _ m4) (src := a0) (dst := a) (cs := arrV (K.2.1.1 11) n0 (fun j => .int (eI (f (j : Int))))) (cd := arrV (K.2.1.1 11) n1 (fun j => .int (eI (g (j : Int))))) (srcPos := eI sp) (destPos := eI dp) (n := eI cnt) (by rw [hT]; exact hc0) (by rw [hT]; exact hc1)
    (fun _ h => by cases h) (fun _ h => by cases h) (fun h => by cases h) (fun h => by cases h) hk0 hk1 hkk0 hkk1 (by simp [refKind]) (ng sp hs (by omega)) (ng dp hp0 (by omega)) (ng cnt hc (by omega))
    (by rw [eI_toInt (by omega) (by omega), eI_toInt (by omega) (by omega), arrV_size]; omega)
    (by rw [eI_toInt (by omega) (by omega), eI_toInt (by omega) (by omega), arrV_size]; omega)
    (fun vm₁ _ i hi => by
      have e : (arrV (K.2.1.1 11) n0 (fun j => .int (eI (f (j : Int))))).slots.getD ((eI sp).toNatClampNeg + i) .null = .int (eI (f ((((eI sp).toNatClampNeg + i : Nat)) : Int))) := by
        rw [Array.getD_eq_getD_getElem?, arrV_read _ _ (by omega)]
        rfl
      refine ⟨?_, ?_⟩
      · rw [e]
        exact e_fitB (hf _).1 (hf _).2
      · rw [e]
        exact trivial)
    (g := F0 m pc ls (.int (eI cnt) :: .int (eI dp) :: .ref a :: .int (eI sp) :: .ref a0 :: st)) rfl (by rw [F.2.2.1]; exact hl.1) (rest := st) rfl (by rw [F.2.1]; exact hd) hdd (by show 2 * 0 + (st.map fun v => v.category).sum + (nativeFrameWords "java/lang/System" "arraycopy" 5 + 11) ≤ 64 * d; have := e_nfw; omega)
  have e1 : copied (arrV (K.2.1.1 11) n0 (fun j => .int (eI (f (j : Int))))) (arrV (K.2.1.1 11) n1 (fun j => .int (eI (g (j : Int))))) (eI sp) (eI dp) (eI cnt) = arrV (K.2.1.1 11) n1 (fun j => .int (va_cpy (fun j => eI (f ((j : Nat) : Int))) (fun j => eI (g ((j : Nat) : Int))) (eI sp).toNatClampNeg (eI dp).toNatClampNeg (eI cnt).toNatClampNeg j)) := va_copied (fun z => .int z) (K.2.1.1 11) (K.2.1.1 11) (fun j => eI (f ((j : Nat) : Int))) (fun j => eI (g ((j : Nat) : Int))) (by omega)
  have e2 : arrV (K.2.1.1 11) n1 (fun j => .int (va_cpy (fun j => eI (f ((j : Nat) : Int))) (fun j => eI (g ((j : Nat) : Int))) (eI sp).toNatClampNeg (eI dp).toNatClampNeg (eI cnt).toNatClampNeg j)) = arrV (K.2.1.1 11) n1 (fun j => .int (eI (if dp ≤ (j : Int) ∧ (j : Int) < dp + cnt then f (sp + ((j : Int) - dp)) else g (j : Int)))) := by
    congr 1
    funext j
    rw [es, ed, ec]
    unfold va_cpy
    by_cases q : dp ≤ (j : Int) ∧ (j : Int) < dp + cnt
    · rw [if_pos q, if_pos (by omega)]
      have e9 : (((sp.toNat + (j - dp.toNat) : Nat)) : Int) = sp + ((j : Int) - dp) := by omega
      show Value.int (eI (f ((sp.toNat + (j - dp.toNat) : Nat) : Int))) = _
      rw [e9]
    · rw [if_neg q, if_neg (by omega)]
  rw [e1, e2] at X' step
  have hl9 : a < H.size := (Array.getElem?_eq_some_iff.mp hc1).1
  have hA := (hR.2.2.1 a _ h1).1
  obtain ⟨t, a1, b1⟩ := kk (H.setIfInBounds a (arrV (K.2.1.1 11) n1 (fun j => .int (eI (if dp ≤ (j : Int) ∧ (j : Int) < dp + cnt then f (sp + ((j : Int) - dp)) else g (j : Int)))))) _ ls hl (hR.up h1 (by show (H.setIfInBounds a _)[a]? = some (arrV _ _ _); simp [Array.getElem?_setIfInBounds, hl9]) (by simp) (fun q hq => by simp [Array.getElem?_setIfInBounds, Ne.symm hq])) (fun z hz' => by
      rcases List.mem_append.mp hz' with h | h
      · exact hz z h
      · obtain ⟨z9, -, hz9⟩ := List.mem_map.mp h
        rw [← hz9]
        exact hA) _ (by rw [← hT]; rfl) X'
  exact ⟨t, step t a1, b1⟩
theorem e_callVU (F : e_F K p l s m args meth c cc nL ret own) {y : MethodName} {bytes : ByteArray} {maxL idx d2 mc2 na : Nat} {rt : Option FieldType} {as2 st0 : List Value} {post2 : Option Value → e_W → Nat → Prop} {px2 : String → e_W → Nat → Prop} {b : Nat} {fs : List Value} (Y : e_Y y bytes maxL rt na) (hi : Cond.instanceMethod y ∈ e_TB) (hse : Cond.selects RJ4 y y ∈ e_TB) (hsa : Cond.sameMethod y.cls y.cls y.name y.desc ∈ e_TB) (hst : st0 = as2.reverse ++ .ref b :: st) (hM : e_Met K l y (Cond.code y bytes maxL rt :: e_TB) d2 mc2 (.ref b :: as2) w n post2 px2) (hw : w b = some (.inl (6, fs))) (hm : Cond.methodLink own idx y ∈ e_TB) (hd : decode cc pc = .ok (.invokevirtual idx, 3)) (hn : as2.length = na) (hroom : (st.map fun v => v.category).sum ≤ 8) (hdd : d2 + 1 ≤ d) (hk : k + mc2 ≤ mc) (kx : ∀ E w' n', px2 E w' n' → n ≤ n' → px E w' n') (kk : ∀ r w' n', post2 r w' n' → n ≤ n' → e_V K p l e d mc s m args below meth c nL post px (pc + 3) (L) (r.toList ++ st) (w') (n') (k + mc2)) : e_V K p l e d mc s m args below meth c nL post px (pc) (L) (st0) (w) (n) (k) :=
  fun H locs ls hl hR hz => e_after F hl hR hz (vx_runU (own := own) (x := y) (C := RJ4) (owner := y.cls) (n := na) (e_fix F) (hM F.2.2.2.2.2.2.2.2.2) (e_CU F Y hi hse hsa hm hdd) (e_preV F hR hw rfl rfl) rfl hn hl.1 hst (lv_room hroom) hd ⟨hk, by show 256 * k + 256 * mc2 ≤ 256 * mc; omega⟩) hk kx kk
theorem e_callVO (F : e_F K p l s m args meth c cc nL ret own) {x : MethodName} {b0 : ByteArray} {m0 : Nat} {r0 : Option FieldType} {y : MethodName} {bytes : ByteArray} {maxL idx d2 mc2 na : Nat} {rt : Option FieldType} {as2 st0 : List Value} {post2 : Option Value → e_W → Nat → Prop} {px2 : String → e_W → Nat → Prop} {b : Nat} {fs : List Value} (Y : e_Y y bytes maxL rt na) (hi : Cond.instanceMethod y ∈ e_TB) (hse : Cond.selects RJ4 x y ∈ e_TB) (hsa : Cond.sameMethod x.cls x.cls x.name x.desc ∈ e_TB) (hx : Cond.code x b0 m0 r0 ∈ e_TB) (hxi : Cond.instanceMethod x ∈ e_TB) (hxm : x.cls ≠ "java/lang/invoke/MethodHandle" ∧ x.cls ≠ "java/lang/invoke/VarHandle" ∧ (parseMethodDescriptor x.desc).map (fun d => d.parameters.length) = some na) (hst : st0 = as2.reverse ++ .ref b :: st) (hM : e_Met K l y (Cond.code y bytes maxL rt :: e_TB) d2 mc2 (.ref b :: as2) w n post2 px2) (hw : w b = some (.inl (6, fs))) (hm : Cond.methodLink own idx x ∈ e_TB) (hd : decode cc pc = .ok (.invokevirtual idx, 3)) (hn : as2.length = na) (hroom : (st.map fun v => v.category).sum ≤ 8) (hdd : d2 + 1 ≤ d) (hk : k + mc2 ≤ mc) (kx : ∀ E w' n', px2 E w' n' → n ≤ n' → px E w' n') (kk : ∀ r w' n', post2 r w' n' → n ≤ n' → e_V K p l e d mc s m args below meth c nL post px (pc + 3) (L) (r.toList ++ st) (w') (n') (k + mc2)) : e_V K p l e d mc s m args below meth c nL post px (pc) (L) (st0) (w) (n) (k) :=
  fun H locs ls hl hR hz => e_after F hl hR hz (vx_runU (own := own) (x := x) (C := RJ4) (owner := x.cls) (n := na) (e_fix F) (hM F.2.2.2.2.2.2.2.2.2) (e_CO F Y hi hse hsa hm hx hxi hxm hdd) (e_preV F hR hw rfl rfl) rfl hn hl.1 hst (lv_room hroom) hd ⟨hk, by show 256 * k + 256 * mc2 ≤ 256 * mc; omega⟩) hk kx kk
theorem e_callSU (F : e_F K p l s m args meth c cc nL ret own) {y : MethodName} {bytes : ByteArray} {maxL idx d2 mc2 na : Nat} {rt : Option FieldType} {as2 st0 : List Value} {post2 : Option Value → e_W → Nat → Prop} {px2 : String → e_W → Nat → Prop} {b : Nat} {fs : List Value} (Y : e_Y y bytes maxL rt na) (hno : y.name ≠ "<init>") (hi : Cond.instanceMethod y ∈ e_TB) (hsu : Cond.superclass own y.cls ∈ e_TB) (hsa : Cond.sameMethod y.cls y.cls y.name y.desc ∈ e_TB) (hst : st0 = as2.reverse ++ .ref b :: st) (hM : e_Met K l y (Cond.code y bytes maxL rt :: e_TB) d2 mc2 (.ref b :: as2) w n post2 px2) (hw : w b = some (.inl (6, fs))) (hm : Cond.methodLink own idx y ∈ e_TB) (hd : decode cc pc = .ok (.invokespecial idx, 3)) (hn : as2.length = na) (hroom : (st.map fun v => v.category).sum ≤ 8) (hdd : d2 + 1 ≤ d) (hk : k + mc2 ≤ mc) (kx : ∀ E w' n', px2 E w' n' → n ≤ n' → px E w' n') (kk : ∀ r w' n', post2 r w' n' → n ≤ n' → e_V K p l e d mc s m args below meth c nL post px (pc + 3) (L) (r.toList ++ st) (w') (n') (k + mc2)) : e_V K p l e d mc s m args below meth c nL post px (pc) (L) (st0) (w) (n) (k) :=
  fun H locs ls hl hR hz => e_after F hl hR hz (vx_runSU (own := own) (C := RJ4) (n := na) (e_clAt F) (e_fix F) (hM F.2.2.2.2.2.2.2.2.2) (e_CS F Y hno hi hsu hsa hm hdd) (e_preV F hR hw rfl rfl) rfl hn hl.1 hst (lv_room hroom) hd ⟨hk, by show 256 * k + 256 * mc2 ≤ 256 * mc; omega⟩) hk kx kk

end EV
