/-! ===== the engine: a heap as a function from addresses to cells; contracts; a row for each instruction ===== -/
def e_ST : List (String × Nat × String) := [("Secretshares", 257, "what is not 0 to 6"), ("Secretshares", 293, "deal is not 0 to 5"), ("Secretshares", 205, "what is not 0 to 5"), ("Secretshares", 296, "holder is not 1 to M"), ("Secretshares", 302, "k is not 0 to 6"), ("Secretshares", 44, "no such prime"), ("Secretshares", 67, "how is not 0 to 3"), ("Secretshares", 298, "set is no set of holders"), ("Secretshares", 300, "degree is not 0 to 3"), ("SecretsharesModel", 200, "")]
abbrev e_tys (K : e_K) : List (ClassId × FieldType) := [(K.2.1.1 8, .int), (K.2.1.1 9, .object "Secretshares$Deal"), (K.2.1.1 10, .array .int), (K.2.1.1 11, .byte)]
def e_zs (K : e_K) : List (String × String × String × Value) := [("Secretshares", "PRIMES", "[I", .ref (K.2.2 0)), ("Secretshares", "GREAT_PRIMES", "[I", .ref (K.2.2 1)), ("Secretshares", "BASES", "[I", .ref (K.2.2 2)), ("SecretsharesModel", "PRIMES", "[I", .ref (K.2.2 3)), ("SecretsharesModel", "GREATS", "[I", .ref (K.2.2 4)), ("SecretsharesModel", "BASES", "[I", .ref (K.2.2 5)), ("java/lang/Integer", "DigitOnes", "[B", .ref (K.2.2 6)), ("java/lang/Integer", "DigitTens", "[B", .ref (K.2.2 7)), ("java/lang/String", "COMPACT_STRINGS", "Z", .int (eI 1))]
def e_row : Nat → List Int
  | 0 => [5, 7, 11, 13, 101, 65537, 1000003]
  | 1 => [11, 29, 23, 53, 607, 917519, 36000109]
  | 2 => [3, 7, 2, 10, 7, 5, 76]
  | 3 => [5, 7, 11, 13, 101, 65537, 1000003]
  | 4 => [11, 29, 23, 53, 607, 917519, 36000109]
  | _ => [3, 7, 2, 10, 7, 5, 76]
def e_rowv (i j : Nat) : Value := if i < 6 then .int (eI ((e_row i).getD j 0)) else if i = 6 then .int (eI (48 + ((j % 10 : Nat) : Int))) else .int (eI (48 + ((j / 10 : Nat) : Int)))
def e_sty (i : Nat) : FieldType := if i < 6 then .int else .byte
def e_sln (i : Nat) : Nat := if i < 6 then 7 else 100
def e_G (K : e_K) (U : State) : Prop := va_K K.2.1 e_cl (e_tys K) U ∧ (∀ w ∈ e_NW, va_Nw w U) ∧ (∀ z ∈ e_zs K, va_Z z.1 z.2.1 z.2.2.1 z.2.2.2 (e_fr K) U U.heap) ∧ (∀ i, i < 8 → va_T (e_sty i) (K.2.2 i) (e_sln i) (e_rowv i) (e_fr K) U U.heap) ∧ vx_Zq Bundle.tN "UNASSIGNED_STACK" Bundle.steD (e_fr K) U U.heap ∧ vx_Zq Bundle.tN "SUPPRESSED_SENTINEL" Bundle.listD (e_fr K) U U.heap ∧ ∀ z ∈ e_ST, ∃ a, vk_R z.1 z.2.1 z.2.2 a U
def e_at (K : e_K) (q : Nat) (e : e_C) (H : Heap) : Prop := match e with
  | .inl o => ∃ r : vw_C, e_cl[o.1]? = some r ∧ t_OB q (K.2.1.1 o.1) r.2.2 (K.2.1.2 o.1) H (vp_V o.2)
  | .inr a => H[q]? = some (arrV (K.2.1.1 a.1) a.2.1 a.2.2)
def e_R (K : e_K) (w : e_W) (n : Nat) (s : State) (H : Heap) : Prop := H.size = n ∧ K.1 ≤ n ∧ (∀ q e, w q = some e → K.1 ≤ q ∧ e_at K q e H) ∧ (∀ q, q < K.1 → H[q]? = s.heap[q]?) ∧ s.heap.size ≤ n
theorem e_at.kept {K : e_K} {q : Nat} {e : e_C} {H H1 : Heap} (h : e_at K q e H) (hq : H1[q]? = H[q]?) : e_at K q e H1 := by
  cases e with
  | inl o =>
    obtain ⟨r, h1, h2⟩ := h
    exact ⟨r, h1, h2.kept hq⟩
  | inr a => exact hq.trans h
theorem e_at.lt {K : e_K} {q : Nat} {e : e_C} {H : Heap} (h : e_at K q e H) : q < H.size := by
  cases e with
  | inl o =>
    obtain ⟨r, h1, cell, h2, -⟩ := h
    exact (Array.getElem?_eq_some_iff.mp h2).1
  | inr a => exact (Array.getElem?_eq_some_iff.mp h).1
theorem e_findIdx {vm vm' : Vm} (h : vm.Alike vm') (f : Class → Bool) (hf : ∀ k : Class, f k.bare = f k) : vm'.classes.findIdx? f = vm.classes.findIdx? f := by
  have e : ∀ v : Vm, v.bare.classes.findIdx? f = v.classes.findIdx? f := fun v => by
    simp only [Vm.bare, Array.findIdx?_map]
    congr 1; funext k; exact hf k
  rw [← e vm', ← e vm, h.bare_eq]
theorem e_AOmoved {ty : FieldType} {u U : State} (hvm : u.vm.Alike U.vm) (h : va_Nw (.arrayOver ty) u) : va_Nw (.arrayOver ty) U := by
  have key : (Cond.arrayOver ty).before #[] U = (Cond.arrayOver ty).before #[] u := by
    simp only [Cond.before, Cond.holds, Cond.value, hvm.findClass]
    congr 1
    congr 1
    funext comp
    rw [e_findIdx hvm _ (fun k => rfl)]
    congr 1
    funext c
    exact hvm.class_map _ (fun k r _ _ => rfl) c
  unfold va_Nw at h ⊢
  rw [key]; exact h
theorem e_NWwarm {w : Cond} {s U : State} (hw : e_isN w = true) (hW : s.WarmedH U.vm) (h : va_Nw w s) : va_Nw w U := by
  cases w <;> first | exact va_Nw.warmF hW h | exact va_Nw.warmM hW h | exact va_Nw.warmC hW h | exact va_Nw.warmD hW h | exact e_AOmoved hW.alike h | (simp [e_isN] at hw)
theorem e_NWsame {w : Cond} {u U : State} (hw : e_isN w = true) (hvm : u.vm = U.vm) (h : va_Nw w u) : va_Nw w U := by
  cases w <;> first | exact va_Nw.same rfl hvm h | exact e_AOmoved (by rw [hvm]; exact Vm.Alike.refl _) h | (simp [e_isN] at hw)
theorem e_NWis {w : Cond} (h : w ∈ e_NW) : e_isN w = true := (List.mem_filter.mp h).2
theorem e_G.go {K : e_K} {s U : State} (h : e_G K s) (hW : s.WarmedH U.vm) (hq : ∀ q, q < K.1 → U.heap[q]? = s.heap[q]?) : e_G K U := by
  obtain ⟨h1, h2, h3, h4, h5, h6, h7⟩ := h
  have hk : ∀ a : Nat, a < s.heap.size → ¬ e_fr K a → U.heap[a]? = s.heap[a]? := fun a _ hn => hq a (Nat.not_le.mp hn)
  exact ⟨va_K.moved hW.alike h1, fun w hw => e_NWwarm (e_NWis hw) hW (h2 w hw), fun z hz => va_Z.moved hW.alike ((h3 z hz).kept hk), fun i hi => va_T.moved hW.alike ((h4 i hi).kept hk), vx_Zq.moved hW.alike (h5.kept hk), vx_Zq.moved hW.alike (h6.kept hk), fun z hz => by
    obtain ⟨a, ha⟩ := h7 z hz
    exact ⟨a, vk_R.warm hW ha⟩⟩
theorem e_R.lt {K : e_K} {w : e_W} {n : Nat} {s : State} {H : Heap} (h : e_R K w n s H) {q : Nat} {e : e_C} (hq : w q = some e) : q < n := by
  rw [← h.1]; exact (h.2.2.1 q e hq).2.lt
/-- the heap as seen from a callee's start -/
theorem e_R.re {K : e_K} {w : e_W} {n : Nat} {s : State} {H : Heap} (h : e_R K w n s H) {U : State} (hU : U.heap = H) : e_R K w n U U.heap := by
  obtain ⟨h1, h2, h3, h4, h5⟩ := h
  rw [hU]
  exact ⟨h1, h2, h3, fun q _ => by rw [hU], by rw [hU, h1]; exact Nat.le_refl _⟩
def e_up (w : e_W) (a : Nat) (c : e_C) : e_W := fun q => if q = a then some c else w q
theorem e_up_s {w : e_W} {a : Nat} {c : e_C} : e_up w a c a = some c := by simp [e_up]
theorem e_up_n {w : e_W} {a q : Nat} {c : e_C} (h : q ≠ a) : e_up w a c q = w q := by simp [e_up, h]
/-- contracts -/
def e_Qc (K : e_K) (post : Option Value → e_W → Nat → Prop) : Array Value → State → Outcome → State → Prop := fun _ st oc t => ∃ r w n, oc = .returned r ∧ post r w n ∧ e_R K w n st t.heap
def e_XC (K : e_K) (px : String → e_W → Nat → Prop) : String → State → State → Prop := fun E st t => ∃ w n, px E w n ∧ e_R K w n st t.heap
abbrev e_rm (d mc : Nat) : Room := { frames := d, cells := mc, slots := 256 * mc, locals := 64 * d }
def e_Pc (K : e_K) (as : List Value) (w : e_W) (n : Nat) : Array Value → State → Prop := va_Pc as (fun U => e_G K U ∧ e_R K w n U U.heap)
def e_Met (K : e_K) (l : Launch) (y : MethodName) (ws : List Cond) (d mc : Nat) (as : List Value) (w : e_W) (n : Nat) (post : Option Value → e_W → Nat → Prop) (px : String → e_W → Nat → Prop) : Prop :=
  l.stackTraces = false → vx_Met l y ws (e_rm d mc) (e_Pc K as w n) (e_Qc K post) (e_XC K px) mc (256 * mc) (e_fr K)
def e_px0 : String → e_W → Nat → Prop := fun _ _ _ => False
theorem e_blind {K : e_K} {as : List Value} {w : e_W} {n : Nat} : FrameBlind (e_Pc K as w n) := by
  intro a U g mk h
  obtain ⟨h0, ⟨h1, h2, h3, h4, h5, h6, h7⟩, hR⟩ := h
  refine ⟨h0, ⟨va_K.moved (u := U) (U := U.calling g mk a) (Vm.Alike.refl U.vm) h1, fun w hw => e_NWsame (e_NWis hw) (u := U) (U := U.calling g mk a) rfl (h2 w hw), fun z hz => va_Z.moved (u := U) (U := U.calling g mk a) (Vm.Alike.refl U.vm) (h3 z hz), fun i hi => va_T.moved (u := U) (U := U.calling g mk a) (Vm.Alike.refl U.vm) (h4 i hi), vx_Zq.moved (u := U) (U := U.calling g mk a) (Vm.Alike.refl U.vm) h5, vx_Zq.moved (u := U) (U := U.calling g mk a) (Vm.Alike.refl U.vm) h6, fun z hz => ?_⟩, hR⟩
  obtain ⟨a9, ha⟩ := h7 z hz
  exact ⟨a9, vk_R.warm (s := U) (U := U.calling g mk a) (State.WarmedH.refl U) ha⟩
/-- a point of a body -/
def e_V (K : e_K) (p : Program) (l : Launch) (e : Env) (d mc : Nat) (s : State) (m : MethodId) (args : Array Value) (below : List Frame) (meth : Method) (c : Code) (nL : Nat) (post : Option Value → e_W → Nat → Prop) (px : String → e_W → Nat → Prop) (pc : Nat) (L : List (Nat × Value)) (st : List Value) (w : e_W) (n k : Nat) : Prop :=
  ∀ (H : Heap) (locs : List Loc) (ls : Array Slot), lv_has ls nL L → e_R K w n s H → (∀ z ∈ locs, K.1 ≤ z.base) → W p l e (e_rm d mc) s m args below meth c H locs k (256 * k) (vx_MQ below (e_Qc K post) (e_XC K px) args s mc (256 * mc) (e_fr K)) (F0 m pc ls st)
/-- what holds all through a body -/
def e_F (K : e_K) (p : Program) (l : Launch) (s : State) (m : MethodId) (args : Array Value) (meth : Method) (c : Code) (cc : ByteArray) (nL : Nat) (ret : Option FieldType) (own : String) : Prop :=
  p.tables.exec = Jvm.exec ∧ c.code = cc ∧ c.maxLocals = nL ∧ meth.sig.returnType = ret ∧ s.vm.findClass own = some m.cls ∧ (∀ w ∈ e_TB, w.before args s = true) ∧ meth.locks = false ∧ (∀ x ∈ c.exceptionTable.toList, False) ∧ e_G K s ∧ l.stackTraces = false
theorem e_TBgood : ∀ w ∈ e_TB, (w.onTables && w.keeps) = true ∨ ∃ ty, w = .arrayClass ty := fun w h => good_of_word (List.mem_filter.mp h).2
theorem e_goodIn {ws : List Cond} (h : ∀ w ∈ ws, w ∈ e_TB) : GoodIn e_TB ws := fun w hw => ⟨h w hw, e_TBgood w (h w hw)⟩
def e_look (L : List (Nat × Value)) (k : Nat) : Option Value := (L.find? (fun q => q.1 == k)).map (·.2)
theorem e_look_has {ls : Array Slot} {nL : Nat} {L : List (Nat × Value)} (h : lv_has ls nL L) {k : Nat} {v : Value} (hk : e_look L k = some v) : ls[k]? = some (.val v) := by
  unfold e_look at hk
  cases hf : L.find? (fun q => q.1 == k) with
  | none => rw [hf] at hk; cases hk
  | some q =>
    rw [hf] at hk
    have h1 : q ∈ L := List.mem_of_find?_eq_some hf
    have h2 : (q.1 == k) = true := by have := List.find?_some hf; simpa using this
    have h3 : q.1 = k := by simpa using h2
    have h4 : q.2 = v := by simpa using hk
    have h5 := h.2.2 q h1
    rw [h3, h4] at h5
    exact h5
abbrev e_put (L : List (Nat × Value)) (i : Nat) (v : Value) : List (Nat × Value) := (i, v) :: L.filter (fun q => !(q.1 == i) && !(q.1 + 1 == i && q.2.category == 2))
abbrev e_putL (L : List (Nat × Value)) (i : Nat) (v : Value) : List (Nat × Value) := (i, v) :: L.filter (fun q => !(q.1 == i) && (!(q.1 == i + 1) && !(q.1 + 1 == i && q.2.category == 2)))
def e_subs : List (Nat × Value) → List (Nat × Value) → Prop
  | [], _ => True
  | q :: r, L => e_look L q.1 = some q.2 ∧ e_subs r L
theorem e_subs_has {ls : Array Slot} {nL : Nat} {L L' : List (Nat × Value)} (h : lv_has ls nL L) (hs : e_subs L' L) : lv_has ls nL L' := by
  refine ⟨h.1, h.2.1, ?_⟩
  induction L' with
  | nil => intro q hq; cases hq
  | cons a r ih =>
    intro q hq
    rcases List.mem_cons.mp hq with rfl | hq
    · exact e_look_has h hs.1
    · exact ih hs.2 q hq
/-! numbers -/
theorem eI_add (a b : Int) : eI a + eI b = eI (a + b) := (Int32.ofInt_add a b).symm
theorem eI_sub (a b : Int) : eI a - eI b = eI (a - b) := (Int32.ofInt_sub a b).symm
theorem eI_mul (a b : Int) : eI a * eI b = eI (a * b) := (Int32.ofInt_mul a b).symm
theorem eJ_add (a b : Int) : eJ a + eJ b = eJ (a + b) := (Int64.ofInt_add a b).symm
theorem eJ_sub (a b : Int) : eJ a - eJ b = eJ (a - b) := (Int64.ofInt_sub a b).symm
theorem eJ_mul (a b : Int) : eJ a * eJ b = eJ (a * b) := (Int64.ofInt_mul a b).symm
theorem eJ_neg (a : Int) : -eJ a = eJ (-a) := (Int64.ofInt_neg a).symm
theorem eI_toInt {a : Int} (h1 : -2147483648 ≤ a) (h2 : a < 2147483648) : (eI a).toInt = a := by
  exact Int32.toInt_ofInt_of_le (by omega) (by omega)
theorem eJ_toInt {a : Int} (h1 : -9223372036854775808 ≤ a) (h2 : a < 9223372036854775808) : (eJ a).toInt = a := by
  exact Int64.toInt_ofInt_of_le (by omega) (by omega)
theorem eI_self (x : Int32) : eI x.toInt = x := Int32.ofInt_toInt x
theorem eI_rg (x : Int32) : -2147483648 ≤ x.toInt ∧ x.toInt < 2147483648 := ⟨x.le_toInt, x.toInt_lt⟩
abbrev e_r (a : Int) : Prop := -2147483648 ≤ a ∧ a < 2147483648
abbrev e_r8 (a : Int) : Prop := -9223372036854775808 ≤ a ∧ a < 9223372036854775808
theorem eI_lt {a b : Int} (ha : e_r a) (hb : e_r b) : eI a < eI b ↔ a < b := by
  rw [Int32.lt_iff_toInt_lt, eI_toInt ha.1 ha.2, eI_toInt hb.1 hb.2]
theorem eI_le {a b : Int} (ha : e_r a) (hb : e_r b) : eI a ≤ eI b ↔ a ≤ b := by
  rw [Int32.le_iff_toInt_le, eI_toInt ha.1 ha.2, eI_toInt hb.1 hb.2]
theorem eI_eq {a b : Int} (ha : e_r a) (hb : e_r b) : eI a = eI b ↔ a = b := by
  rw [← Int32.toInt_inj, eI_toInt ha.1 ha.2, eI_toInt hb.1 hb.2]
theorem eJ_lt {a b : Int} (ha : e_r8 a) (hb : e_r8 b) : eJ a < eJ b ↔ a < b := by
  rw [Int64.lt_iff_toInt_lt, eJ_toInt ha.1 ha.2, eJ_toInt hb.1 hb.2]
theorem eJ_eq {a b : Int} (ha : e_r8 a) (hb : e_r8 b) : eJ a = eJ b ↔ a = b := by
  rw [← Int64.toInt_inj, eJ_toInt ha.1 ha.2, eJ_toInt hb.1 hb.2]
theorem eI_l {a : Int} (h : e_r a) : (eI a).toInt64 = eJ a := by
  rw [← Int64.toInt_inj, Int32.toInt_toInt64, eI_toInt h.1 h.2, eJ_toInt (by omega) (by omega)]
theorem eJ_i {a : Int} : (eJ a).toInt32 = eI a := by
  rw [← Int32.toInt_inj, Int64.toInt_toInt32, Int64.toInt_ofInt, Int32.toInt_ofInt, Int.bmod_bmod_of_dvd (by decide)]
theorem eI_div {a b : Int} (ha : e_r a) (hb : e_r b) : eI a / eI b = eI (a.tdiv b) := by
  rw [← Int32.toInt_inj, Int32.toInt_div, eI_toInt ha.1 ha.2, eI_toInt hb.1 hb.2, Int32.toInt_ofInt]
theorem eI_rem {a b : Int} (ha : e_r a) (hb : e_r b) : eI a - eI a / eI b * eI b = eI (a.tmod b) := by
  rw [eI_div ha hb, eI_mul, eI_sub, Int.tmod_def, Int.mul_comm]
theorem eJ_div {a b : Int} (ha : e_r8 a) (hb : e_r8 b) : eJ a / eJ b = eJ (a.tdiv b) := by
  rw [← Int64.toInt_inj, Int64.toInt_div, eJ_toInt ha.1 ha.2, eJ_toInt hb.1 hb.2, Int64.toInt_ofInt]
theorem eJ_rem {a b : Int} (ha : e_r8 a) (hb : e_r8 b) : eJ a - eJ a / eJ b * eJ b = eJ (a.tmod b) := by
  rw [eJ_div ha hb, eJ_mul, eJ_sub, Int.tmod_def, Int.mul_comm]
def e_cmp (a b : Int) : Int := if b < a then 1 else if a = b then 0 else -1
theorem eJ_cmp {a b : Int} (ha : e_r8 a) (hb : e_r8 b) : lg_cmp (eJ a) (eJ b) = eI (e_cmp a b) := by
  unfold lg_cmp e_cmp
  simp only [gt_iff_lt, eJ_lt hb ha, eJ_eq ha hb]
  split
  · rfl
  · split <;> rfl
theorem e_ix {i : Int} {N : Nat} (h0 : 0 ≤ i) (h : i < N) (hN : N < 2147483648) : ¬ (eI i < 0 ∨ N ≤ (eI i).toNatClampNeg) ∧ (eI i).toNatClampNeg = i.toNat := by
  have h1 : (eI i).toInt = i := eI_toInt (by omega) (by omega)
  have h2 : (eI i).toNatClampNeg = i.toNat := by
    show (eI i).toInt.toNat = i.toNat
    rw [h1]
  refine ⟨?_, h2⟩
  rw [h2]
  rintro (h3 | h3)
  · rw [Int32.lt_iff_toInt_lt, h1] at h3
    have : (0 : Int32).toInt = 0 := by decide
    omega
  · omega
theorem e_R.up {K : e_K} {w : e_W} {n : Nat} {s : State} {H H1 : Heap} {a : Nat} {c0 c : e_C} (h : e_R K w n s H) (ha : w a = some c0) (hc : e_at K a c H1) (hz : H1.size = H.size) (ho : ∀ q : Nat, q ≠ a → H1[q]? = H[q]?) : e_R K (e_up w a c) n s H1 := by
  obtain ⟨h1, h2, h3, h4, h5⟩ := h
  refine ⟨by rw [hz, h1], h2, fun q e he => ?_, fun q hq => ?_, h5⟩
  · by_cases hqa : q = a
    · subst hqa
      rw [e_up_s] at he
      cases he
      exact ⟨(h3 _ _ ha).1, hc⟩
    · rw [e_up_n hqa] at he
      exact ⟨(h3 q e he).1, (h3 q e he).2.kept (ho q hqa)⟩
  · rw [ho q (fun x => by subst x; exact absurd (h3 _ _ ha).1 (by omega))]
    exact h4 q hq
theorem e_R.push {K : e_K} {w : e_W} {n : Nat} {s : State} {H H1 : Heap} {c : e_C} (h : e_R K w n s H) (hc : e_at K n c H1) (hz : H1.size = n + 1) (ho : ∀ q : Nat, q < n → H1[q]? = H[q]?) : e_R K (e_up w n c) (n + 1) s H1 := by
  have hlt : ∀ q e, w q = some e → q < n := fun q e he => h.lt he
  obtain ⟨h1, h2, h3, h4, h5⟩ := h
  refine ⟨hz, by omega, fun q e he => ?_, fun q hq => ?_, by omega⟩
  · by_cases hqa : q = n
    · subst hqa
      rw [e_up_s] at he
      cases he
      exact ⟨h2, hc⟩
    · rw [e_up_n hqa] at he
      exact ⟨(h3 q e he).1, (h3 q e he).2.kept (ho q (hlt q e he))⟩
  · rw [ho q (by omega)]
    exact h4 q hq
theorem e_look_mem {L : List (Nat × Value)} {k : Nat} {v : Value} (hk : e_look L k = some v) : ∃ i : Nat, L[i]? = some (k, v) := by
  unfold e_look at hk
  cases hf : L.find? (fun q => q.1 == k) with
  | none => rw [hf] at hk; cases hk
  | some q =>
    rw [hf] at hk
    have h1 : q ∈ L := List.mem_of_find?_eq_some hf
    have h2 : (q.1 == k) = true := by have := List.find?_some hf; simpa using this
    have h3 : q.1 = k := by simpa using h2
    have h4 : q.2 = v := by simpa using hk
    obtain ⟨i, hi⟩ := List.getElem?_of_mem h1
    exact ⟨i, by rw [hi, ← h3, ← h4]⟩
theorem e_i8 {z : Int} (h1 : -128 ≤ z) (h2 : z < 128) : (Int8.ofInt z).toInt32 = eI z := by
  rw [← Int32.toInt_inj, Int8.toInt_toInt32, Int8.toInt_ofInt_of_le (by omega) (by omega), eI_toInt (by omega) (by omega)]
theorem e_clTB : ∀ (ci : Nat) (q : vw_C), e_cl[ci]? = some q → ∀ w ∈ u_ws q.1 q.2.1 q.2.2, w ∈ e_TB := by
  have h : ∀ q ∈ e_cl, ∀ w ∈ u_ws q.1 q.2.1 q.2.2, w ∈ e_TB := by decide +kernel
  exact fun ci q hq => h q (List.mem_of_getElem? hq)
def e_ty (ci : Nat) : Nat → FieldType := match ci with
  | 0 => tyX0
  | 1 => tyX1
  | 2 => tyX2
  | 3 => tyX3
  | 4 => tyX4
  | 5 => tyX5
  | 6 => tyJ4
  | _ => tyJ0
theorem e_ty_ok : ∀ (ci : Nat) (q : vw_C), e_cl[ci]? = some q → ∀ k, k < q.2.2 → parseFieldDescriptor (q.2.1 k).2.2.1 = some (e_ty ci k) := by
  intro ci q hq
  match ci, hq with
  | 0, hq => cases hq; exact tyX0_ok
  | 1, hq => cases hq; exact tyX1_ok
  | 2, hq => cases hq; exact tyX2_ok
  | 3, hq => cases hq; exact tyX3_ok
  | 4, hq => cases hq; exact tyX4_ok
  | 5, hq => cases hq; exact tyX5_ok
  | 6, hq => cases hq; exact tyJ4_ok
  | 7, hq => cases hq; exact tyJ0_ok
  | n + 8, hq => simp [e_cl] at hq
theorem e_nm : ∀ (ci : Nat) (q : vw_C), e_cl[ci]? = some q → ∀ a, a < q.2.2 → ∀ b, b < q.2.2 → a ≠ b → (q.2.1 a).2.1 ≠ (q.2.1 b).2.1 := by
  intro ci q hq
  match ci, hq with
  | 0, hq => cases hq; exact nmX0
  | 1, hq => cases hq; exact nmX1
  | 2, hq => cases hq; exact nmX2
  | 3, hq => cases hq; exact nmX3
  | 4, hq => cases hq; exact nmX4
  | 5, hq => cases hq; exact nmX5
  | 6, hq => cases hq; exact nmJ4
  | 7, hq => cases hq; exact nmJ0
  | n + 8, hq => simp [e_cl] at hq
abbrev e_ia (n : Nat) (f : Int → Int) : e_C := .inr (8, n, fun j => .int (eI (f (j : Int))))
abbrev e_ra (n : Nat) (f : Int → Option Nat) : e_C := .inr (10, n, fun j => va_rf (f (j : Int)))
def e_fu {α : Type} (f : Int → α) (i : Int) (x : α) : Int → α := fun j => if j = i then x else f j
section EV
variable {K : e_K} {p : Program} {l : Launch} {e : Env} {d mc : Nat} {s : State} {m : MethodId} {args : Array Value} {below : List Frame} {meth : Method} {c : Code} {cc : ByteArray} {nL : Nat} {ret : Option FieldType} {own : String} {post : Option Value → e_W → Nat → Prop} {px : String → e_W → Nat → Prop} {pc : Nat} {L : List (Nat × Value)} {st : List Value} {w : e_W} {n k : Nat}
theorem e_iconst (F : e_F K p l s m args meth c cc nL ret own) {z : Int} (hd : decode cc pc = .ok (.iconst z, 1)) (kk : e_V K p l e d mc s m args below meth c nL post px (pc + 1) (L) (.int (eI z) :: st) (w) (n) (k)) : e_V K p l e d mc s m args below meth c nL post px (pc) (L) (st) (w) (n) (k) := fun H locs ls hl hR hz => lv_iconst F.1 F.2.1 hd rfl (kk H locs ls hl hR hz)
theorem e_bipush (F : e_F K p l s m args meth c cc nL ret own) {z : Int} (hd : decode cc pc = .ok (.bipush z, 2)) (hv : -128 ≤ z ∧ z < 128) (kk : e_V K p l e d mc s m args below meth c nL post px (pc + 2) (L) (.int (eI z) :: st) (w) (n) (k)) : e_V K p l e d mc s m args below meth c nL post px (pc) (L) (st) (w) (n) (k) := fun H locs ls hl hR hz => lv_bipush F.1 F.2.1 hd (e_i8 hv.1 hv.2) (kk H locs ls hl hR hz)
theorem e_lconst (F : e_F K p l s m args meth c cc nL ret own) {z : Fin 2} {y : Int} (hd : decode cc pc = .ok (.lconst z, 1)) (hv : ((z : Nat) : Int) = y) (kk : e_V K p l e d mc s m args below meth c nL post px (pc + 1) (L) (.long (eJ y) :: st) (w) (n) (k)) : e_V K p l e d mc s m args below meth c nL post px (pc) (L) (st) (w) (n) (k) := fun H locs ls hl hR hz => lv_lconst F.1 F.2.1 hd (by rw [← hv]; rfl) (kk H locs ls hl hR hz)
theorem e_null (F : e_F K p l s m args meth c cc nL ret own)  (hd : decode cc pc = .ok (.aconst_null, 1)) (kk : e_V K p l e d mc s m args below meth c nL post px (pc + 1) (L) (.null :: st) (w) (n) (k)) : e_V K p l e d mc s m args below meth c nL post px (pc) (L) (st) (w) (n) (k) := fun H locs ls hl hR hz => lv_null F.1 F.2.1 hd (kk H locs ls hl hR hz)
theorem e_ldcw (F : e_F K p l s m args meth c cc nL ret own) {i : Nat} {z : Int} (hd : decode cc pc = .ok (.ldc_w i, 3)) (hw : Cond.constant own i (eI z) ∈ e_TB) (kk : e_V K p l e d mc s m args below meth c nL post px (pc + 3) (L) (.int (eI z) :: st) (w) (n) (k)) : e_V K p l e d mc s m args below meth c nL post px (pc) (L) (st) (w) (n) (k) := fun H locs ls hl hR hz => lv_ldcw F.1 F.2.1 F.2.2.2.2.1 (F.2.2.2.2.2.1 _ hw) hd (kk H locs ls hl hR hz)
theorem e_ldc (F : e_F K p l s m args meth c cc nL ret own) {i : Nat} {z : Int} (hd : decode cc pc = .ok (.ldc i, 2)) (hw : Cond.constant own i (eI z) ∈ e_TB) (kk : e_V K p l e d mc s m args below meth c nL post px (pc + 2) (L) (.int (eI z) :: st) (w) (n) (k)) : e_V K p l e d mc s m args below meth c nL post px (pc) (L) (st) (w) (n) (k) := fun H locs ls hl hR hz => lv_ldc F.1 F.2.1 F.2.2.2.2.1 (F.2.2.2.2.2.1 _ hw) hd (kk H locs ls hl hR hz)
theorem e_ldc2 (F : e_F K p l s m args meth c cc nL ret own) {i : Nat} {z : Int} (hd : decode cc pc = .ok (.ldc2_w i, 3)) (hw : Cond.constantLong own i (eJ z) ∈ e_TB) (kk : e_V K p l e d mc s m args below meth c nL post px (pc + 3) (L) (.long (eJ z) :: st) (w) (n) (k)) : e_V K p l e d mc s m args below meth c nL post px (pc) (L) (st) (w) (n) (k) := fun H locs ls hl hR hz => lv_ldc2 F.1 F.2.1 F.2.2.2.2.1 (F.2.2.2.2.2.1 _ hw) hd (kk H locs ls hl hR hz)
theorem e_iload_n (F : e_F K p l s m args meth c cc nL ret own) {i : Fin 4} {x : Int32} (hd : decode cc pc = .ok (.iload_n i, 1)) (hk : e_look L (i : Nat) = some (.int x)) (kk : e_V K p l e d mc s m args below meth c nL post px (pc + 1) (L) (.int x :: st) (w) (n) (k)) : e_V K p l e d mc s m args below meth c nL post px (pc) (L) (st) (w) (n) (k) := fun H locs ls hl hR hz => lv_iload_n F.1 F.2.1 hd rfl (e_look_has hl hk) (kk H locs ls hl hR hz)
theorem e_lload_n (F : e_F K p l s m args meth c cc nL ret own) {i : Fin 4} {x : Int64} (hd : decode cc pc = .ok (.lload_n i, 1)) (hk : e_look L (i : Nat) = some (.long x)) (kk : e_V K p l e d mc s m args below meth c nL post px (pc + 1) (L) (.long x :: st) (w) (n) (k)) : e_V K p l e d mc s m args below meth c nL post px (pc) (L) (st) (w) (n) (k) := fun H locs ls hl hR hz => lv_lload_n F.1 F.2.1 hd rfl (e_look_has hl hk) (kk H locs ls hl hR hz)
theorem e_aload_n (F : e_F K p l s m args meth c cc nL ret own) {i : Fin 4} {x : Nat} (hd : decode cc pc = .ok (.aload_n i, 1)) (hk : e_look L (i : Nat) = some (.ref x)) (kk : e_V K p l e d mc s m args below meth c nL post px (pc + 1) (L) (.ref x :: st) (w) (n) (k)) : e_V K p l e d mc s m args below meth c nL post px (pc) (L) (st) (w) (n) (k) := fun H locs ls hl hR hz => lv_aload_n F.1 F.2.1 hd rfl (e_look_has hl hk) (kk H locs ls hl hR hz)
theorem e_iload (F : e_F K p l s m args meth c cc nL ret own) {i : Nat} {x : Int32} (hd : decode cc pc = .ok (.iload i, 2)) (hk : e_look L i = some (.int x)) (kk : e_V K p l e d mc s m args below meth c nL post px (pc + 2) (L) (.int x :: st) (w) (n) (k)) : e_V K p l e d mc s m args below meth c nL post px (pc) (L) (st) (w) (n) (k) := fun H locs ls hl hR hz => lv_iload F.1 F.2.1 hd (e_look_has hl hk) (kk H locs ls hl hR hz)
theorem e_lload (F : e_F K p l s m args meth c cc nL ret own) {i : Nat} {x : Int64} (hd : decode cc pc = .ok (.lload i, 2)) (hk : e_look L i = some (.long x)) (kk : e_V K p l e d mc s m args below meth c nL post px (pc + 2) (L) (.long x :: st) (w) (n) (k)) : e_V K p l e d mc s m args below meth c nL post px (pc) (L) (st) (w) (n) (k) := fun H locs ls hl hR hz => lv_lload F.1 F.2.1 hd (e_look_has hl hk) (kk H locs ls hl hR hz)
theorem e_aload (F : e_F K p l s m args meth c cc nL ret own) {i : Nat} {x : Nat} (hd : decode cc pc = .ok (.aload i, 2)) (hk : e_look L i = some (.ref x)) (kk : e_V K p l e d mc s m args below meth c nL post px (pc + 2) (L) (.ref x :: st) (w) (n) (k)) : e_V K p l e d mc s m args below meth c nL post px (pc) (L) (st) (w) (n) (k) := fun H locs ls hl hR hz => lv_aload F.1 F.2.1 hd (e_look_has hl hk) (kk H locs ls hl hR hz)
theorem e_aload_nN (F : e_F K p l s m args meth c cc nL ret own) {i : Fin 4} (hd : decode cc pc = .ok (.aload_n i, 1)) (hk : e_look L (i : Nat) = some .null) (kk : e_V K p l e d mc s m args below meth c nL post px (pc + 1) (L) (.null :: st) (w) (n) (k)) : e_V K p l e d mc s m args below meth c nL post px (pc) (L) (st) (w) (n) (k) := fun H locs ls hl hR hz => lv_aload_nN F.1 F.2.1 hd rfl (e_look_has hl hk) (kk H locs ls hl hR hz)
theorem e_aloadN (F : e_F K p l s m args meth c cc nL ret own) {i : Nat} (hd : decode cc pc = .ok (.aload i, 2)) (hk : e_look L i = some .null) (kk : e_V K p l e d mc s m args below meth c nL post px (pc + 2) (L) (.null :: st) (w) (n) (k)) : e_V K p l e d mc s m args below meth c nL post px (pc) (L) (st) (w) (n) (k) := fun H locs ls hl hR hz => lv_aloadN F.1 F.2.1 hd (e_look_has hl hk) (kk H locs ls hl hR hz)
theorem e_istore_n (F : e_F K p l s m args meth c cc nL ret own) {i : Fin 4} {x : Int32} (hd : decode cc pc = .ok (.istore_n i, 1)) (hb : (i : Nat) < nL) (kk : e_V K p l e d mc s m args below meth c nL post px (pc + 1) (e_put L (i : Nat) (.int x)) (st) (w) (n) (k)) : e_V K p l e d mc s m args below meth c nL post px (pc) (L) (.int x :: st) (w) (n) (k) := fun H locs ls hl hR hz => lv_istore_n F.1 F.2.1 hd rfl hl hb rfl (fun ls hl => kk H locs ls hl hR hz)
theorem e_lstore_n (F : e_F K p l s m args meth c cc nL ret own) {i : Fin 4} {x : Int64} (hd : decode cc pc = .ok (.lstore_n i, 1)) (hb : (i : Nat) + 1 < nL) (kk : e_V K p l e d mc s m args below meth c nL post px (pc + 1) (e_putL L (i : Nat) (.long x)) (st) (w) (n) (k)) : e_V K p l e d mc s m args below meth c nL post px (pc) (L) (.long x :: st) (w) (n) (k) := fun H locs ls hl hR hz => lv_lstore_n F.1 F.2.1 hd rfl hl hb rfl (fun ls hl => kk H locs ls hl hR hz)
theorem e_astore_n (F : e_F K p l s m args meth c cc nL ret own) {i : Fin 4} {x : Nat} (hd : decode cc pc = .ok (.astore_n i, 1)) (hb : (i : Nat) < nL) (kk : e_V K p l e d mc s m args below meth c nL post px (pc + 1) (e_put L (i : Nat) (.ref x)) (st) (w) (n) (k)) : e_V K p l e d mc s m args below meth c nL post px (pc) (L) (.ref x :: st) (w) (n) (k) := fun H locs ls hl hR hz => lv_astore_n F.1 F.2.1 hd rfl hl hb rfl (fun ls hl => kk H locs ls hl hR hz)
theorem e_istore (F : e_F K p l s m args meth c cc nL ret own) {i : Nat} {x : Int32} (hd : decode cc pc = .ok (.istore i, 2)) (hb : i < nL) (kk : e_V K p l e d mc s m args below meth c nL post px (pc + 2) (e_put L i (.int x)) (st) (w) (n) (k)) : e_V K p l e d mc s m args below meth c nL post px (pc) (L) (.int x :: st) (w) (n) (k) := fun H locs ls hl hR hz => lv_istore F.1 F.2.1 hd hl hb rfl (fun ls hl => kk H locs ls hl hR hz)
theorem e_lstore (F : e_F K p l s m args meth c cc nL ret own) {i : Nat} {x : Int64} (hd : decode cc pc = .ok (.lstore i, 2)) (hb : i + 1 < nL) (kk : e_V K p l e d mc s m args below meth c nL post px (pc + 2) (e_putL L i (.long x)) (st) (w) (n) (k)) : e_V K p l e d mc s m args below meth c nL post px (pc) (L) (.long x :: st) (w) (n) (k) := fun H locs ls hl hR hz => lv_lstore F.1 F.2.1 hd hl hb rfl (fun ls hl => kk H locs ls hl hR hz)
theorem e_astore (F : e_F K p l s m args meth c cc nL ret own) {i : Nat} {x : Nat} (hd : decode cc pc = .ok (.astore i, 2)) (hb : i < nL) (kk : e_V K p l e d mc s m args below meth c nL post px (pc + 2) (e_put L i (.ref x)) (st) (w) (n) (k)) : e_V K p l e d mc s m args below meth c nL post px (pc) (L) (.ref x :: st) (w) (n) (k) := fun H locs ls hl hR hz => lv_astore F.1 F.2.1 hd hl hb rfl (fun ls hl => kk H locs ls hl hR hz)
theorem e_astoreN (F : e_F K p l s m args meth c cc nL ret own) {i : Nat} (hd : decode cc pc = .ok (.astore i, 2)) (hb : i < nL) (kk : e_V K p l e d mc s m args below meth c nL post px (pc + 2) (e_put L i .null) (st) (w) (n) (k)) : e_V K p l e d mc s m args below meth c nL post px (pc) (L) (.null :: st) (w) (n) (k) := fun H locs ls hl hR hz => lv_astoreN F.1 F.2.1 hd hl hb rfl (fun ls hl => kk H locs ls hl hR hz)
theorem e_iinc (F : e_F K p l s m args meth c cc nL ret own) {i : Nat} {z a : Int} (hd : decode cc pc = .ok (.iinc i z, 3)) (hk : e_look L i = some (.int (eI a))) (hb : i < nL) (kk : e_V K p l e d mc s m args below meth c nL post px (pc + 3) (e_put L i (.int (eI (a + z)))) (st) (w) (n) (k)) : e_V K p l e d mc s m args below meth c nL post px (pc) (L) (st) (w) (n) (k) := by
  obtain ⟨j, hj⟩ := e_look_mem hk
  exact fun H locs ls hl hR hz => lv_iinc F.1 F.2.1 hd hl hj (eI_add a z) hb rfl (fun ls hl => kk H locs ls hl hR hz)
theorem e_iadd (F : e_F K p l s m args meth c cc nL ret own) {a b : Int} (hd : decode cc pc = .ok (.iadd, 1)) (kk : e_V K p l e d mc s m args below meth c nL post px (pc + 1) (L) (.int (eI (a + b)) :: st) (w) (n) (k)) : e_V K p l e d mc s m args below meth c nL post px (pc) (L) (.int (eI b) :: .int (eI a) :: st) (w) (n) (k) := fun H locs ls hl hR hz => lv_iadd F.1 F.2.1 hd (by rw [eI_add]; exact kk H locs ls hl hR hz)
theorem e_isub (F : e_F K p l s m args meth c cc nL ret own) {a b : Int} (hd : decode cc pc = .ok (.isub, 1)) (kk : e_V K p l e d mc s m args below meth c nL post px (pc + 1) (L) (.int (eI (a - b)) :: st) (w) (n) (k)) : e_V K p l e d mc s m args below meth c nL post px (pc) (L) (.int (eI b) :: .int (eI a) :: st) (w) (n) (k) := fun H locs ls hl hR hz => lv_isub F.1 F.2.1 hd (by rw [eI_sub]; exact kk H locs ls hl hR hz)
theorem e_imul (F : e_F K p l s m args meth c cc nL ret own) {a b : Int} (hd : decode cc pc = .ok (.imul, 1)) (kk : e_V K p l e d mc s m args below meth c nL post px (pc + 1) (L) (.int (eI (a * b)) :: st) (w) (n) (k)) : e_V K p l e d mc s m args below meth c nL post px (pc) (L) (.int (eI b) :: .int (eI a) :: st) (w) (n) (k) := fun H locs ls hl hR hz => lv_imul F.1 F.2.1 hd (by rw [eI_mul]; exact kk H locs ls hl hR hz)
theorem e_ladd (F : e_F K p l s m args meth c cc nL ret own) {a b : Int} (hd : decode cc pc = .ok (.ladd, 1)) (kk : e_V K p l e d mc s m args below meth c nL post px (pc + 1) (L) (.long (eJ (a + b)) :: st) (w) (n) (k)) : e_V K p l e d mc s m args below meth c nL post px (pc) (L) (.long (eJ b) :: .long (eJ a) :: st) (w) (n) (k) := fun H locs ls hl hR hz => lv_ladd F.1 F.2.1 hd (by rw [eJ_add]; exact kk H locs ls hl hR hz)
theorem e_lsub (F : e_F K p l s m args meth c cc nL ret own) {a b : Int} (hd : decode cc pc = .ok (.lsub, 1)) (kk : e_V K p l e d mc s m args below meth c nL post px (pc + 1) (L) (.long (eJ (a - b)) :: st) (w) (n) (k)) : e_V K p l e d mc s m args below meth c nL post px (pc) (L) (.long (eJ b) :: .long (eJ a) :: st) (w) (n) (k) := fun H locs ls hl hR hz => lv_lsub F.1 F.2.1 hd (by rw [eJ_sub]; exact kk H locs ls hl hR hz)
theorem e_lmul (F : e_F K p l s m args meth c cc nL ret own) {a b : Int} (hd : decode cc pc = .ok (.lmul, 1)) (kk : e_V K p l e d mc s m args below meth c nL post px (pc + 1) (L) (.long (eJ (a * b)) :: st) (w) (n) (k)) : e_V K p l e d mc s m args below meth c nL post px (pc) (L) (.long (eJ b) :: .long (eJ a) :: st) (w) (n) (k) := fun H locs ls hl hR hz => lv_lmul F.1 F.2.1 hd (by rw [eJ_mul]; exact kk H locs ls hl hR hz)
theorem e_lneg (F : e_F K p l s m args meth c cc nL ret own) {a : Int} (hd : decode cc pc = .ok (.lneg, 1)) (kk : e_V K p l e d mc s m args below meth c nL post px (pc + 1) (L) (.long (eJ (-a)) :: st) (w) (n) (k)) : e_V K p l e d mc s m args below meth c nL post px (pc) (L) (.long (eJ a) :: st) (w) (n) (k) := fun H locs ls hl hR hz => lv_lneg F.1 F.2.1 hd (by rw [eJ_neg]; exact kk H locs ls hl hR hz)
theorem e_iand (F : e_F K p l s m args meth c cc nL ret own) {x y : Int32} {z : Int} (hd : decode cc pc = .ok (.iand, 1)) (hv : x &&& y = eI z) (kk : e_V K p l e d mc s m args below meth c nL post px (pc + 1) (L) (.int (eI z) :: st) (w) (n) (k)) : e_V K p l e d mc s m args below meth c nL post px (pc) (L) (.int y :: .int x :: st) (w) (n) (k) := fun H locs ls hl hR hz => lv_iand F.1 F.2.1 hd (by rw [hv]; exact kk H locs ls hl hR hz)
theorem e_ior (F : e_F K p l s m args meth c cc nL ret own) {x y : Int32} {z : Int} (hd : decode cc pc = .ok (.ior, 1)) (hv : x ||| y = eI z) (kk : e_V K p l e d mc s m args below meth c nL post px (pc + 1) (L) (.int (eI z) :: st) (w) (n) (k)) : e_V K p l e d mc s m args below meth c nL post px (pc) (L) (.int y :: .int x :: st) (w) (n) (k) := fun H locs ls hl hR hz => lv_ior F.1 F.2.1 hd (by rw [hv]; exact kk H locs ls hl hR hz)
theorem e_ixor (F : e_F K p l s m args meth c cc nL ret own) {x y : Int32} {z : Int} (hd : decode cc pc = .ok (.ixor, 1)) (hv : x ^^^ y = eI z) (kk : e_V K p l e d mc s m args below meth c nL post px (pc + 1) (L) (.int (eI z) :: st) (w) (n) (k)) : e_V K p l e d mc s m args below meth c nL post px (pc) (L) (.int y :: .int x :: st) (w) (n) (k) := fun H locs ls hl hR hz => lv_ixor F.1 F.2.1 hd (by rw [hv]; exact kk H locs ls hl hR hz)
theorem e_ishl (F : e_F K p l s m args meth c cc nL ret own) {x y : Int32} {z : Int} (hd : decode cc pc = .ok (.ishl, 1)) (hv : x <<< (y &&& 31) = eI z) (kk : e_V K p l e d mc s m args below meth c nL post px (pc + 1) (L) (.int (eI z) :: st) (w) (n) (k)) : e_V K p l e d mc s m args below meth c nL post px (pc) (L) (.int y :: .int x :: st) (w) (n) (k) := fun H locs ls hl hR hz => lv_ishl F.1 F.2.1 hd (by rw [hv]; exact kk H locs ls hl hR hz)
theorem e_ishr (F : e_F K p l s m args meth c cc nL ret own) {x y : Int32} {z : Int} (hd : decode cc pc = .ok (.ishr, 1)) (hv : x >>> (y &&& 31) = eI z) (kk : e_V K p l e d mc s m args below meth c nL post px (pc + 1) (L) (.int (eI z) :: st) (w) (n) (k)) : e_V K p l e d mc s m args below meth c nL post px (pc) (L) (.int y :: .int x :: st) (w) (n) (k) := fun H locs ls hl hR hz => lv_ishr F.1 F.2.1 hd (by rw [hv]; exact kk H locs ls hl hR hz)
theorem e_land (F : e_F K p l s m args meth c cc nL ret own) {x y : Int64} {z : Int} (hd : decode cc pc = .ok (.land, 1)) (hv : x &&& y = eJ z) (kk : e_V K p l e d mc s m args below meth c nL post px (pc + 1) (L) (.long (eJ z) :: st) (w) (n) (k)) : e_V K p l e d mc s m args below meth c nL post px (pc) (L) (.long y :: .long x :: st) (w) (n) (k) := fun H locs ls hl hR hz => lv_land F.1 F.2.1 hd (by rw [hv]; exact kk H locs ls hl hR hz)
theorem e_lshr (F : e_F K p l s m args meth c cc nL ret own) {x : Int64} {y : Int32} {z : Int} (hd : decode cc pc = .ok (.lshr, 1)) (hv : x >>> (y.toInt64 &&& 63) = eJ z) (kk : e_V K p l e d mc s m args below meth c nL post px (pc + 1) (L) (.long (eJ z) :: st) (w) (n) (k)) : e_V K p l e d mc s m args below meth c nL post px (pc) (L) (.int y :: .long x :: st) (w) (n) (k) := fun H locs ls hl hR hz => lv_lshr F.1 F.2.1 hd hv (kk H locs ls hl hR hz)
theorem e_idiv (F : e_F K p l s m args meth c cc nL ret own) {a b : Int} (hd : decode cc pc = .ok (.idiv, 1)) (ha : e_r a) (hb : e_r b) (h0 : b ≠ 0) (kk : e_V K p l e d mc s m args below meth c nL post px (pc + 1) (L) (.int (eI (a.tdiv b)) :: st) (w) (n) (k)) : e_V K p l e d mc s m args below meth c nL post px (pc) (L) (.int (eI b) :: .int (eI a) :: st) (w) (n) (k) := fun H locs ls hl hR hz => lv_idiv F.1 F.2.1 hd (fun h => h0 ((eI_eq hb (by decide)).mp h)) (by rw [eI_div ha hb]; exact kk H locs ls hl hR hz)
theorem e_irem (F : e_F K p l s m args meth c cc nL ret own) {a b : Int} (hd : decode cc pc = .ok (.irem, 1)) (ha : e_r a) (hb : e_r b) (h0 : b ≠ 0) (kk : e_V K p l e d mc s m args below meth c nL post px (pc + 1) (L) (.int (eI (a.tmod b)) :: st) (w) (n) (k)) : e_V K p l e d mc s m args below meth c nL post px (pc) (L) (.int (eI b) :: .int (eI a) :: st) (w) (n) (k) := fun H locs ls hl hR hz => lv_irem F.1 F.2.1 hd (fun h => h0 ((eI_eq hb (by decide)).mp h)) (by rw [eI_rem ha hb]; exact kk H locs ls hl hR hz)
theorem e_lrem (F : e_F K p l s m args meth c cc nL ret own) {a b : Int} (hd : decode cc pc = .ok (.lrem, 1)) (ha : e_r8 a) (hb : e_r8 b) (h0 : b ≠ 0) (kk : e_V K p l e d mc s m args below meth c nL post px (pc + 1) (L) (.long (eJ (a.tmod b)) :: st) (w) (n) (k)) : e_V K p l e d mc s m args below meth c nL post px (pc) (L) (.long (eJ b) :: .long (eJ a) :: st) (w) (n) (k) := fun H locs ls hl hR hz => lv_lrem F.1 F.2.1 hd (fun h => h0 ((eJ_eq hb (by decide)).mp h)) (by rw [eJ_rem ha hb]; exact kk H locs ls hl hR hz)
theorem e_i2l (F : e_F K p l s m args meth c cc nL ret own) {a : Int} (hd : decode cc pc = .ok (.i2l, 1)) (ha : e_r a) (kk : e_V K p l e d mc s m args below meth c nL post px (pc + 1) (L) (.long (eJ a) :: st) (w) (n) (k)) : e_V K p l e d mc s m args below meth c nL post px (pc) (L) (.int (eI a) :: st) (w) (n) (k) := fun H locs ls hl hR hz => lv_i2l F.1 F.2.1 hd (eI_l ha) (kk H locs ls hl hR hz)
theorem e_l2i (F : e_F K p l s m args meth c cc nL ret own) {a : Int} (hd : decode cc pc = .ok (.l2i, 1)) (kk : e_V K p l e d mc s m args below meth c nL post px (pc + 1) (L) (.int (eI a) :: st) (w) (n) (k)) : e_V K p l e d mc s m args below meth c nL post px (pc) (L) (.long (eJ a) :: st) (w) (n) (k) := fun H locs ls hl hR hz => lv_l2i F.1 F.2.1 hd eJ_i (kk H locs ls hl hR hz)
theorem e_lcmp (F : e_F K p l s m args meth c cc nL ret own) {a b : Int} (hd : decode cc pc = .ok (.lcmp, 1)) (ha : e_r8 a) (hb : e_r8 b) (kk : e_V K p l e d mc s m args below meth c nL post px (pc + 1) (L) (.int (eI (e_cmp a b)) :: st) (w) (n) (k)) : e_V K p l e d mc s m args below meth c nL post px (pc) (L) (.long (eJ b) :: .long (eJ a) :: st) (w) (n) (k) := fun H locs ls hl hR hz => W.lcmp F.1 F.2.1 hd (by rw [eJ_cmp ha hb]; exact kk H locs ls hl hR hz)
theorem e_dup (F : e_F K p l s m args meth c cc nL ret own) {v : Value} (hd : decode cc pc = .ok (.dup, 1)) (hv : v.category = 1) (kk : e_V K p l e d mc s m args below meth c nL post px (pc + 1) (L) (v :: v :: st) (w) (n) (k)) : e_V K p l e d mc s m args below meth c nL post px (pc) (L) (v :: st) (w) (n) (k) := fun H locs ls hl hR hz => lv_dup F.1 F.2.1 hd hv (kk H locs ls hl hR hz)
theorem e_pop (F : e_F K p l s m args meth c cc nL ret own) {v : Value} (hd : decode cc pc = .ok (.pop, 1)) (hv : v.category = 1) (kk : e_V K p l e d mc s m args below meth c nL post px (pc + 1) (L) (st) (w) (n) (k)) : e_V K p l e d mc s m args below meth c nL post px (pc) (L) (v :: st) (w) (n) (k) := fun H locs ls hl hR hz => lv_pop F.1 F.2.1 hd hv (kk H locs ls hl hR hz)
theorem e_icmp_eq (F : e_F K p l s m args meth c cc nL ret own) {a b : Int} {off : Int} (tgt : Nat) (hd : decode cc pc = .ok (.if_icmp .eq off, 3)) (ht : (pc : Int) + off = (tgt : Int)) (ha : e_r a) (hb : e_r b) (kt : a = b → e_V K p l e d mc s m args below meth c nL post px (tgt) (L) (st) (w) (n) (k)) (kf : ¬ (a = b) → e_V K p l e d mc s m args below meth c nL post px (pc + 3) (L) (st) (w) (n) (k)) : e_V K p l e d mc s m args below meth c nL post px (pc) (L) (.int (eI b) :: .int (eI a) :: st) (w) (n) (k) := by
  have hi := eI_eq ha hb
  exact fun H locs ls hl hR hz => lv_icmp_eq F.1 F.2.1 hd ht (fun h => kt (hi.mp h) H locs ls hl hR hz) (fun h => kf (fun q => h (hi.mpr q)) H locs ls hl hR hz)
theorem e_if_eq (F : e_F K p l s m args meth c cc nL ret own) {a : Int} {off : Int} (tgt : Nat) (hd : decode cc pc = .ok (.ifCond .eq off, 3)) (ht : (pc : Int) + off = (tgt : Int)) (ha : e_r a) (kt : a = 0 → e_V K p l e d mc s m args below meth c nL post px (tgt) (L) (st) (w) (n) (k)) (kf : ¬ (a = 0) → e_V K p l e d mc s m args below meth c nL post px (pc + 3) (L) (st) (w) (n) (k)) : e_V K p l e d mc s m args below meth c nL post px (pc) (L) (.int (eI a) :: st) (w) (n) (k) := by
  have hi := eI_eq ha (show e_r 0 by decide)
  exact fun H locs ls hl hR hz => lv_if_eq F.1 F.2.1 hd ht (fun h => kt (hi.mp h) H locs ls hl hR hz) (fun h => kf (fun q => h (hi.mpr q)) H locs ls hl hR hz)
theorem e_icmp_ne (F : e_F K p l s m args meth c cc nL ret own) {a b : Int} {off : Int} (tgt : Nat) (hd : decode cc pc = .ok (.if_icmp .ne off, 3)) (ht : (pc : Int) + off = (tgt : Int)) (ha : e_r a) (hb : e_r b) (kt : a ≠ b → e_V K p l e d mc s m args below meth c nL post px (tgt) (L) (st) (w) (n) (k)) (kf : a = b → e_V K p l e d mc s m args below meth c nL post px (pc + 3) (L) (st) (w) (n) (k)) : e_V K p l e d mc s m args below meth c nL post px (pc) (L) (.int (eI b) :: .int (eI a) :: st) (w) (n) (k) := by
  have hi := not_congr (eI_eq ha hb)
  exact fun H locs ls hl hR hz => lv_icmp_ne F.1 F.2.1 hd ht (fun h => kt (hi.mp h) H locs ls hl hR hz) (fun h => kf (Classical.not_not.mp (fun q => (hi.mpr q) h)) H locs ls hl hR hz)
theorem e_if_ne (F : e_F K p l s m args meth c cc nL ret own) {a : Int} {off : Int} (tgt : Nat) (hd : decode cc pc = .ok (.ifCond .ne off, 3)) (ht : (pc : Int) + off = (tgt : Int)) (ha : e_r a) (kt : a ≠ 0 → e_V K p l e d mc s m args below meth c nL post px (tgt) (L) (st) (w) (n) (k)) (kf : a = 0 → e_V K p l e d mc s m args below meth c nL post px (pc + 3) (L) (st) (w) (n) (k)) : e_V K p l e d mc s m args below meth c nL post px (pc) (L) (.int (eI a) :: st) (w) (n) (k) := by
  have hi := not_congr (eI_eq ha (show e_r 0 by decide))
  exact fun H locs ls hl hR hz => lv_if_ne F.1 F.2.1 hd ht (fun h => kt (hi.mp h) H locs ls hl hR hz) (fun h => kf (Classical.not_not.mp (fun q => (hi.mpr q) h)) H locs ls hl hR hz)
theorem e_icmp_lt (F : e_F K p l s m args meth c cc nL ret own) {a b : Int} {off : Int} (tgt : Nat) (hd : decode cc pc = .ok (.if_icmp .lt off, 3)) (ht : (pc : Int) + off = (tgt : Int)) (ha : e_r a) (hb : e_r b) (kt : a < b → e_V K p l e d mc s m args below meth c nL post px (tgt) (L) (st) (w) (n) (k)) (kf : ¬ (a < b) → e_V K p l e d mc s m args below meth c nL post px (pc + 3) (L) (st) (w) (n) (k)) : e_V K p l e d mc s m args below meth c nL post px (pc) (L) (.int (eI b) :: .int (eI a) :: st) (w) (n) (k) := by
  have hi := eI_lt ha hb
  exact fun H locs ls hl hR hz => lv_icmp_lt F.1 F.2.1 hd ht (fun h => kt (hi.mp h) H locs ls hl hR hz) (fun h => kf (fun q => h (hi.mpr q)) H locs ls hl hR hz)
theorem e_if_lt (F : e_F K p l s m args meth c cc nL ret own) {a : Int} {off : Int} (tgt : Nat) (hd : decode cc pc = .ok (.ifCond .lt off, 3)) (ht : (pc : Int) + off = (tgt : Int)) (ha : e_r a) (kt : a < 0 → e_V K p l e d mc s m args below meth c nL post px (tgt) (L) (st) (w) (n) (k)) (kf : ¬ (a < 0) → e_V K p l e d mc s m args below meth c nL post px (pc + 3) (L) (st) (w) (n) (k)) : e_V K p l e d mc s m args below meth c nL post px (pc) (L) (.int (eI a) :: st) (w) (n) (k) := by
  have hi := eI_lt ha (show e_r 0 by decide)
  exact fun H locs ls hl hR hz => lv_if_lt F.1 F.2.1 hd ht (fun h => kt (hi.mp h) H locs ls hl hR hz) (fun h => kf (fun q => h (hi.mpr q)) H locs ls hl hR hz)
theorem e_icmp_ge (F : e_F K p l s m args meth c cc nL ret own) {a b : Int} {off : Int} (tgt : Nat) (hd : decode cc pc = .ok (.if_icmp .ge off, 3)) (ht : (pc : Int) + off = (tgt : Int)) (ha : e_r a) (hb : e_r b) (kt : b ≤ a → e_V K p l e d mc s m args below meth c nL post px (tgt) (L) (st) (w) (n) (k)) (kf : ¬ (b ≤ a) → e_V K p l e d mc s m args below meth c nL post px (pc + 3) (L) (st) (w) (n) (k)) : e_V K p l e d mc s m args below meth c nL post px (pc) (L) (.int (eI b) :: .int (eI a) :: st) (w) (n) (k) := by
  have hi := eI_le hb ha
  exact fun H locs ls hl hR hz => lv_icmp_ge F.1 F.2.1 hd ht (fun h => kt (hi.mp h) H locs ls hl hR hz) (fun h => kf (fun q => h (hi.mpr q)) H locs ls hl hR hz)
theorem e_if_ge (F : e_F K p l s m args meth c cc nL ret own) {a : Int} {off : Int} (tgt : Nat) (hd : decode cc pc = .ok (.ifCond .ge off, 3)) (ht : (pc : Int) + off = (tgt : Int)) (ha : e_r a) (kt : 0 ≤ a → e_V K p l e d mc s m args below meth c nL post px (tgt) (L) (st) (w) (n) (k)) (kf : ¬ (0 ≤ a) → e_V K p l e d mc s m args below meth c nL post px (pc + 3) (L) (st) (w) (n) (k)) : e_V K p l e d mc s m args below meth c nL post px (pc) (L) (.int (eI a) :: st) (w) (n) (k) := by
  have hi := eI_le (show e_r 0 by decide) ha
  exact fun H locs ls hl hR hz => lv_if_ge F.1 F.2.1 hd ht (fun h => kt (hi.mp h) H locs ls hl hR hz) (fun h => kf (fun q => h (hi.mpr q)) H locs ls hl hR hz)
theorem e_icmp_gt (F : e_F K p l s m args meth c cc nL ret own) {a b : Int} {off : Int} (tgt : Nat) (hd : decode cc pc = .ok (.if_icmp .gt off, 3)) (ht : (pc : Int) + off = (tgt : Int)) (ha : e_r a) (hb : e_r b) (kt : b < a → e_V K p l e d mc s m args below meth c nL post px (tgt) (L) (st) (w) (n) (k)) (kf : ¬ (b < a) → e_V K p l e d mc s m args below meth c nL post px (pc + 3) (L) (st) (w) (n) (k)) : e_V K p l e d mc s m args below meth c nL post px (pc) (L) (.int (eI b) :: .int (eI a) :: st) (w) (n) (k) := by
  have hi := eI_lt hb ha
  exact fun H locs ls hl hR hz => lv_icmp_gt F.1 F.2.1 hd ht (fun h => kt (hi.mp h) H locs ls hl hR hz) (fun h => kf (fun q => h (hi.mpr q)) H locs ls hl hR hz)
theorem e_if_gt (F : e_F K p l s m args meth c cc nL ret own) {a : Int} {off : Int} (tgt : Nat) (hd : decode cc pc = .ok (.ifCond .gt off, 3)) (ht : (pc : Int) + off = (tgt : Int)) (ha : e_r a) (kt : 0 < a → e_V K p l e d mc s m args below meth c nL post px (tgt) (L) (st) (w) (n) (k)) (kf : ¬ (0 < a) → e_V K p l e d mc s m args below meth c nL post px (pc + 3) (L) (st) (w) (n) (k)) : e_V K p l e d mc s m args below meth c nL post px (pc) (L) (.int (eI a) :: st) (w) (n) (k) := by
  have hi := eI_lt (show e_r 0 by decide) ha
  exact fun H locs ls hl hR hz => lv_if_gt F.1 F.2.1 hd ht (fun h => kt (hi.mp h) H locs ls hl hR hz) (fun h => kf (fun q => h (hi.mpr q)) H locs ls hl hR hz)
theorem e_icmp_le (F : e_F K p l s m args meth c cc nL ret own) {a b : Int} {off : Int} (tgt : Nat) (hd : decode cc pc = .ok (.if_icmp .le off, 3)) (ht : (pc : Int) + off = (tgt : Int)) (ha : e_r a) (hb : e_r b) (kt : a ≤ b → e_V K p l e d mc s m args below meth c nL post px (tgt) (L) (st) (w) (n) (k)) (kf : ¬ (a ≤ b) → e_V K p l e d mc s m args below meth c nL post px (pc + 3) (L) (st) (w) (n) (k)) : e_V K p l e d mc s m args below meth c nL post px (pc) (L) (.int (eI b) :: .int (eI a) :: st) (w) (n) (k) := by
  have hi := eI_le ha hb
  exact fun H locs ls hl hR hz => lv_icmp_le F.1 F.2.1 hd ht (fun h => kt (hi.mp h) H locs ls hl hR hz) (fun h => kf (fun q => h (hi.mpr q)) H locs ls hl hR hz)
theorem e_if_le (F : e_F K p l s m args meth c cc nL ret own) {a : Int} {off : Int} (tgt : Nat) (hd : decode cc pc = .ok (.ifCond .le off, 3)) (ht : (pc : Int) + off = (tgt : Int)) (ha : e_r a) (kt : a ≤ 0 → e_V K p l e d mc s m args below meth c nL post px (tgt) (L) (st) (w) (n) (k)) (kf : ¬ (a ≤ 0) → e_V K p l e d mc s m args below meth c nL post px (pc + 3) (L) (st) (w) (n) (k)) : e_V K p l e d mc s m args below meth c nL post px (pc) (L) (.int (eI a) :: st) (w) (n) (k) := by
  have hi := eI_le ha (show e_r 0 by decide)
  exact fun H locs ls hl hR hz => lv_if_le F.1 F.2.1 hd ht (fun h => kt (hi.mp h) H locs ls hl hR hz) (fun h => kf (fun q => h (hi.mpr q)) H locs ls hl hR hz)
theorem e_goto (F : e_F K p l s m args meth c cc nL ret own) {off : Int} (tgt : Nat) (hd : decode cc pc = .ok (.goto off, 3)) (ht : (pc : Int) + off = (tgt : Int)) (kk : e_V K p l e d mc s m args below meth c nL post px (tgt) (L) (st) (w) (n) (k)) : e_V K p l e d mc s m args below meth c nL post px (pc) (L) (st) (w) (n) (k) := fun H locs ls hl hR hz => lv_goto F.1 F.2.1 hd ht (kk H locs ls hl hR hz)
theorem e_ifnonnull (F : e_F K p l s m args meth c cc nL ret own) {off : Int} {x : Nat} (tgt : Nat) (hd : decode cc pc = .ok (.ifnonnull off, 3)) (ht : (pc : Int) + off = (tgt : Int)) (kk : e_V K p l e d mc s m args below meth c nL post px (tgt) (L) (st) (w) (n) (k)) : e_V K p l e d mc s m args below meth c nL post px (pc) (L) (.ref x :: st) (w) (n) (k) := fun H locs ls hl hR hz => lv_ifnonnull F.1 F.2.1 hd ht (kk H locs ls hl hR hz)
theorem e_ifnonnullN (F : e_F K p l s m args meth c cc nL ret own) {off : Int} (hd : decode cc pc = .ok (.ifnonnull off, 3)) (kk : e_V K p l e d mc s m args below meth c nL post px (pc + 3) (L) (st) (w) (n) (k)) : e_V K p l e d mc s m args below meth c nL post px (pc) (L) (.null :: st) (w) (n) (k) := fun H locs ls hl hR hz => lv_ifnonnullN F.1 F.2.1 hd (kk H locs ls hl hR hz)
theorem e_ifnull (F : e_F K p l s m args meth c cc nL ret own) {off : Int} {x : Nat} (hd : decode cc pc = .ok (.ifnull off, 3)) (kk : e_V K p l e d mc s m args below meth c nL post px (pc + 3) (L) (st) (w) (n) (k)) : e_V K p l e d mc s m args below meth c nL post px (pc) (L) (.ref x :: st) (w) (n) (k) := fun H locs ls hl hR hz => lv_ifnull F.1 F.2.1 hd (kk H locs ls hl hR hz)
theorem e_ifnullN (F : e_F K p l s m args meth c cc nL ret own) {off : Int} (tgt : Nat) (hd : decode cc pc = .ok (.ifnull off, 3)) (ht : (pc : Int) + off = (tgt : Int)) (kk : e_V K p l e d mc s m args below meth c nL post px (tgt) (L) (st) (w) (n) (k)) : e_V K p l e d mc s m args below meth c nL post px (pc) (L) (.null :: st) (w) (n) (k) := fun H locs ls hl hR hz => lv_ifnullN F.1 F.2.1 hd ht (kk H locs ls hl hR hz)
theorem e_tabIn (F : e_F K p l s m args meth c cc nL ret own) {dflt lo hi : Int} {offs : Array Int} {len : Nat} {a off : Int} (tgt : Nat) (hd : decode cc pc = .ok (.tableswitch dflt lo hi offs, len)) (ha : e_r a) (h1 : lo ≤ a) (h2 : a ≤ hi) (ho : offs[(a - lo).toNat]? = some off) (ht : (pc : Int) + off = (tgt : Int)) (kk : e_V K p l e d mc s m args below meth c nL post px (tgt) (L) (st) (w) (n) (k)) : e_V K p l e d mc s m args below meth c nL post px (pc) (L) (.int (eI a) :: st) (w) (n) (k) := fun H locs ls hl hR hz => lv_tableIn F.1 F.2.1 hd (by rw [eI_toInt ha.1 ha.2]; omega) (by rw [eI_toInt ha.1 ha.2]; omega) (by rw [eI_toInt ha.1 ha.2]; exact ho) ht (kk H locs ls hl hR hz)
theorem e_tabOut (F : e_F K p l s m args meth c cc nL ret own) {dflt lo hi : Int} {offs : Array Int} {len : Nat} {a : Int} (tgt : Nat) (hd : decode cc pc = .ok (.tableswitch dflt lo hi offs, len)) (ha : e_r a) (h : a < lo ∨ hi < a) (ht : (pc : Int) + dflt = (tgt : Int)) (kk : e_V K p l e d mc s m args below meth c nL post px (tgt) (L) (st) (w) (n) (k)) : e_V K p l e d mc s m args below meth c nL post px (pc) (L) (.int (eI a) :: st) (w) (n) (k) := fun H locs ls hl hR hz => lv_tableOut F.1 F.2.1 hd (by rw [eI_toInt ha.1 ha.2]; exact h) ht (kk H locs ls hl hR hz)
theorem e_go {L' : List (Nat × Value)} (kk : e_V K p l e d mc s m args below meth c nL post px (pc) (L') (st) (w) (n) (k)) (hs : e_subs L' L) : e_V K p l e d mc s m args below meth c nL post px (pc) (L) (st) (w) (n) (k) := fun H locs ls hl hR hz => kk H locs ls (e_subs_has hl hs) hR hz
theorem e_wid {k' : Nat} (hk : k ≤ k') (kk : e_V K p l e d mc s m args below meth c nL post px (pc) (L) (st) (w) (n) (k')) : e_V K p l e d mc s m args below meth c nL post px (pc) (L) (st) (w) (n) (k) := fun H locs ls hl hR hz => W.widen hk (Nat.mul_le_mul_left 256 hk) (kk H locs ls hl hR hz)
theorem e_get (F : e_F K p l s m args meth c cc nL ret own) {a ci fi idx : Nat} {fs : List Value} {q : vw_C} {v : Value} (hw : w a = some (.inl (ci, fs))) (hc : e_cl[ci]? = some q) (hi : fi < q.2.2) (hm : Cond.fieldLink own idx (q.2.1 fi).1 (q.2.1 fi).2.1 (q.2.1 fi).2.2.1 ∈ e_TB) (hv : fs[fi]? = some v) (hd : decode cc pc = .ok (.getfield idx, 3)) (kk : e_V K p l e d mc s m args below meth c nL post px (pc + 3) (L) (v :: st) (w) (n) (k)) : e_V K p l e d mc s m args below meth c nL post px (pc) (L) (.ref a :: st) (w) (n) (k) := by
  obtain ⟨C, T, N⟩ := q
  exact fun H locs ls hl hR hz => va_get (D := K.2.1) (cl := e_cl) (tys := e_tys K) (ws := [(a, .inr (ci, fs))]) F.1 F.2.1 F.2.2.2.2.2.1 (e_clTB ci _ hc) F.2.2.2.2.1 F.2.2.2.2.2.2.2.2.1.1 (fun j x hx => by
    have hj : j < 1 := (List.getElem?_eq_some_iff.mp hx).1
    obtain rfl : j = 0 := by omega
    cases hx
    exact (hR.2.2.1 a _ hw).2) 0 rfl hc fi hi (F.2.2.2.2.2.1 _ hm) (fun _ h9 => h9) hv hd (kk H locs ls hl hR hz)
theorem e_getN (F : e_F K p l s m args meth c cc nL ret own) {a ci fi idx : Nat} {fs : List Value} {q : vw_C} {v : Value} {host : String} (hw : w a = some (.inl (ci, fs))) (hc : e_cl[ci]? = some q) (hi : fi < q.2.2) (hm : Cond.fieldLinkNest own idx (q.2.1 fi).1 (q.2.1 fi).2.1 (q.2.1 fi).2.2.1 host ∈ e_NW) (hv : fs[fi]? = some v) (hd : decode cc pc = .ok (.getfield idx, 3)) (kk : e_V K p l e d mc s m args below meth c nL post px (pc + 3) (L) (v :: st) (w) (n) (k)) : e_V K p l e d mc s m args below meth c nL post px (pc) (L) (.ref a :: st) (w) (n) (k) := by
  obtain ⟨C, T, N⟩ := q
  exact fun H locs ls hl hR hz => va_getN (D := K.2.1) (cl := e_cl) (tys := e_tys K) (ws := [(a, .inr (ci, fs))]) F.1 F.2.1 F.2.2.2.2.2.1 (e_clTB ci _ hc) F.2.2.2.2.1 F.2.2.2.2.2.2.2.2.1.1 (fun j x hx => by
    have hj : j < 1 := (List.getElem?_eq_some_iff.mp hx).1
    obtain rfl : j = 0 := by omega
    cases hx
    exact (hR.2.2.1 a _ hw).2) 0 rfl hc fi hi (va_Nw.use rfl (F.2.2.2.2.2.2.2.2.1.2.1 _ hm)) (fun _ h9 => h9) hv hd (kk H locs ls hl hR hz)
theorem e_set (F : e_F K p l s m args meth c cc nL ret own) {a ci fi idx : Nat} {fs : List Value} {q : vw_C} {v : Value} {host : String} (hw : w a = some (.inl (ci, fs))) (hc : e_cl[ci]? = some q) (hi : fi < q.2.2) (hm : Cond.fieldLink own idx (q.2.1 fi).1 (q.2.1 fi).2.1 (q.2.1 fi).2.2.1 ∈ e_TB) (hfin : (q.2.1 fi).2.2.2 = false) (hn : narrow (e_ty ci fi) v = v) (hfit : fits (e_ty ci fi) v = true) (hlen : fi < fs.length) (hd : decode cc pc = .ok (.putfield idx, 3)) (kk : e_V K p l e d mc s m args below meth c nL post px (pc + 3) (L) (st) (e_up w a (.inl (ci, fs.set fi v))) (n) (k)) : e_V K p l e d mc s m args below meth c nL post px (pc) (L) (v :: .ref a :: st) (w) (n) (k) := by
  intro H locs ls hl hR hz
  have hA := (hR.2.2.1 a _ hw)
  have hK := F.2.2.2.2.2.2.2.2.1.1
  have hts := F.2.2.2.2.2.1
  obtain ⟨r, h1, cell, q1, q2, q3, q4⟩ := hA.2
  have hr : r = q := Option.some.inj (h1.symm.trans hc)
  subst hr
  have hap := va_apart (own := own) (s := s) hts (e_clTB ci _ hc) (e_ty ci) (e_ty_ok ci _ hc) (e_nm ci _ hc) hK hc
  obtain ⟨hS, hfc, kC, hkC, hkind⟩ := hK.1 ci _ hc
  obtain ⟨cf, kf, fj, f, hif, hsl⟩ := hS fi hi
  have hlay := hts _ (e_clTB ci _ hc _ (u_in_lay hi))
  unfold u_lay at hlay
  have hst := (u_facts hfc hkC (u_lays hts (e_clTB ci _ hc) hi) hif).1
  rw [if_neg (by rw [hfin]; decide)] at hlay
  have h6 := u_store hfc hkC hkind hlay hif (e_ty_ok ci _ hc fi hi) hn hfit
  refine W.putK F.1 F.2.1 (f := f) ⟨F.2.2.2.2.1, hts _ hm, ⟨_, _, _, hif⟩, hst⟩ (by rw [q2]; exact h6) q1 q3 (by rw [hsl]; exact k2_hasslot (q4 fi hi)) rfl rfl hd fun H' e1 e2 e3 => ?_
  rw [hsl] at e1 ⊢
  refine kk H' _ ls hl (hR.up hw ⟨_, hc, t_OB.to (V := updV (vp_V fs) fi v) ⟨_, e1, q2, q3, t_set q4 hap hi v⟩ (fun j _ => vp_updV_set hlen v j)⟩ e2 e3) (fun z hz' => ?_)
  rcases List.mem_append.mp hz' with h | h
  · exact hz z h
  · rw [List.mem_singleton.mp h]; exact hA.1
theorem e_setF (F : e_F K p l s m args meth c cc nL ret own) {a ci fi idx : Nat} {fs : List Value} {q : vw_C} {v : Value} {host : String} (hw : w a = some (.inl (ci, fs))) (hc : e_cl[ci]? = some q) (hi : fi < q.2.2) (hm : Cond.fieldLink own idx (q.2.1 fi).1 (q.2.1 fi).2.1 (q.2.1 fi).2.2.1 ∈ e_TB) (hin2 : meth.name = "<init>") (hdecl : (q.2.1 fi).1 = own) (hfin : (q.2.1 fi).2.2.2 = true) (hn : narrow (e_ty ci fi) v = v) (hfit : fits (e_ty ci fi) v = true) (hlen : fi < fs.length) (hd : decode cc pc = .ok (.putfield idx, 3)) (kk : e_V K p l e d mc s m args below meth c nL post px (pc + 3) (L) (st) (e_up w a (.inl (ci, fs.set fi v))) (n) (k)) : e_V K p l e d mc s m args below meth c nL post px (pc) (L) (v :: .ref a :: st) (w) (n) (k) := by
  intro H locs ls hl hR hz
  have hA := (hR.2.2.1 a _ hw)
  have hK := F.2.2.2.2.2.2.2.2.1.1
  have hts := F.2.2.2.2.2.1
  obtain ⟨r, h1, cell, q1, q2, q3, q4⟩ := hA.2
  have hr : r = q := Option.some.inj (h1.symm.trans hc)
  subst hr
  have hap := va_apart (own := own) (s := s) hts (e_clTB ci _ hc) (e_ty ci) (e_ty_ok ci _ hc) (e_nm ci _ hc) hK hc
  obtain ⟨hS, hfc, kC, hkC, hkind⟩ := hK.1 ci _ hc
  obtain ⟨cf, kf, fj, f, hif, hsl⟩ := hS fi hi
  have hlay := hts _ (e_clTB ci _ hc _ (u_in_lay hi))
  unfold u_lay at hlay
  have hst := (u_facts hfc hkC (u_lays hts (e_clTB ci _ hc) hi) hif).1
  rw [if_pos hfin] at hlay
  have hcf : m.cls = cf := by
    obtain ⟨_, _, c', _, _, _, -, -, hf', -, -, -, hown2, -⟩ := Cond.laysFinal_spec hlay
    have e1 : c' = cf := by have := hif.symm.trans hf'; simp at this; exact this.1.symm
    rw [hdecl] at hown2
    rw [← e1]; exact Option.some.inj (F.2.2.2.2.1.symm.trans hown2)
  have h6 := u_fits hfc hkC hkind (Or.inr hlay) hif (e_ty_ok ci _ hc fi hi) hn hfit
  refine W.putFinK F.1 F.2.1 F.2.2.2.2.1 (hts _ hm) hif hst hcf hin2 (by rw [q2]; exact h6) q1 q3 (by rw [hsl]; exact k2_hasslot (q4 fi hi)) rfl rfl hd fun H' e1 e2 e3 => ?_
  rw [hsl] at e1 ⊢
  refine kk H' _ ls hl (hR.up hw ⟨_, hc, t_OB.to (V := updV (vp_V fs) fi v) ⟨_, e1, q2, q3, t_set q4 hap hi v⟩ (fun j _ => vp_updV_set hlen v j)⟩ e2 e3) (fun z hz' => ?_)
  rcases List.mem_append.mp hz' with h | h
  · exact hz z h
  · rw [List.mem_singleton.mp h]; exact hA.1
theorem e_arrI (F : e_F K p l s m args meth c cc nL ret own) : ArrOfT s (K.2.1.1 8) .int := (F.2.2.2.2.2.2.2.2.1.1.2 0 _ rfl).1
theorem e_arrD (F : e_F K p l s m args meth c cc nL ret own) : ArrOfT s (K.2.1.1 9) (.object "Secretshares$Deal") := (F.2.2.2.2.2.2.2.2.1.1.2 1 _ rfl).1
theorem e_arrR (F : e_F K p l s m args meth c cc nL ret own) : ArrOfT s (K.2.1.1 10) (.array .int) := (F.2.2.2.2.2.2.2.2.1.1.2 2 _ rfl).1
theorem e_iald (F : e_F K p l s m args meth c cc nL ret own) {a N : Nat} {f : Int → Int} {i : Int} (hw : w a = some (e_ia N f)) (h0 : 0 ≤ i) (hN : i < N) (hb : N < 2147483648) (hd : decode cc pc = .ok (.iaload, 1)) (kk : e_V K p l e d mc s m args below meth c nL post px (pc + 1) (L) (.int (eI (f i)) :: st) (w) (n) (k)) : e_V K p l e d mc s m args below meth c nL post px (pc) (L) (.int (eI i) :: .ref a :: st) (w) (n) (k) := by
  obtain ⟨x1, x2⟩ := e_ix h0 hN hb
  have x3 : i.toNat < N := by omega
  exact fun H locs ls hl hR hz => W.iald (v := .int (eI (f i))) F.1 F.2.1 (hR.2.2.1 a _ hw).2 (e_arrI F N _) (fun h => by cases h) (by rw [arrV_size]; exact x1) (by rw [x2, arrV_read _ _ x3]; dsimp only; rw [Int.toNat_of_nonneg h0]) rfl rfl hd (kk H locs ls hl hR hz)
theorem e_alenI (F : e_F K p l s m args meth c cc nL ret own) {a N : Nat} {f : Int → Int} (hw : w a = some (e_ia N f)) (hd : decode cc pc = .ok (.arraylength, 1)) (kk : e_V K p l e d mc s m args below meth c nL post px (pc + 1) (L) (.int (eI (N : Int)) :: st) (w) (n) (k)) : e_V K p l e d mc s m args below meth c nL post px (pc) (L) (.ref a :: st) (w) (n) (k) :=
  fun H locs ls hl hR hz => W.alen (n := eI (N : Int)) F.1 F.2.1 (hR.2.2.1 a _ hw).2 (e_arrI F N _) (by rw [arrV_size]; rfl) rfl rfl hd (kk H locs ls hl hR hz)
theorem e_aald9 (F : e_F K p l s m args meth c cc nL ret own) {a N b : Nat} {g : Nat → Value} {i : Int} (hw : w a = some (.inr (9, N, g))) (h0 : 0 ≤ i) (hN : i < N) (hb : N < 2147483648) (hv : g i.toNat = .ref b) (hd : decode cc pc = .ok (.aaload, 1)) (kk : e_V K p l e d mc s m args below meth c nL post px (pc + 1) (L) (.ref b :: st) (w) (n) (k)) : e_V K p l e d mc s m args below meth c nL post px (pc) (L) (.int (eI i) :: .ref a :: st) (w) (n) (k) := by
  obtain ⟨x1, x2⟩ := e_ix h0 hN hb
  have x3 : i.toNat < N := by omega
  exact fun H locs ls hl hR hz => W.aald (v := .ref b) (ty := .object "Secretshares$Deal") F.1 F.2.1 (hR.2.2.1 a _ hw).2 (e_arrD F N _) rfl (fun h => by cases h) (by rw [arrV_size]; exact x1) (by rw [x2, arrV_read _ _ x3]; dsimp only; rw [hv]) rfl rfl hd (kk H locs ls hl hR hz)
theorem e_alen9 (F : e_F K p l s m args meth c cc nL ret own) {a N : Nat} {g : Nat → Value} (hw : w a = some (.inr (9, N, g))) (hd : decode cc pc = .ok (.arraylength, 1)) (kk : e_V K p l e d mc s m args below meth c nL post px (pc + 1) (L) (.int (eI (N : Int)) :: st) (w) (n) (k)) : e_V K p l e d mc s m args below meth c nL post px (pc) (L) (.ref a :: st) (w) (n) (k) :=
  fun H locs ls hl hR hz => W.alen (n := eI (N : Int)) F.1 F.2.1 (hR.2.2.1 a _ hw).2 (e_arrD F N _) (by rw [arrV_size]; rfl) rfl rfl hd (kk H locs ls hl hR hz)
theorem e_aaldR (F : e_F K p l s m args meth c cc nL ret own) {a N : Nat} {f : Int → Option Nat} {i : Int} (hw : w a = some (e_ra N f)) (h0 : 0 ≤ i) (hN : i < N) (hb : N < 2147483648) (hd : decode cc pc = .ok (.aaload, 1)) (kk : e_V K p l e d mc s m args below meth c nL post px (pc + 1) (L) (va_rf (f i) :: st) (w) (n) (k)) : e_V K p l e d mc s m args below meth c nL post px (pc) (L) (.int (eI i) :: .ref a :: st) (w) (n) (k) := by
  obtain ⟨x1, x2⟩ := e_ix h0 hN hb
  have x3 : i.toNat < N := by omega
  exact fun H locs ls hl hR hz => W.aald (v := va_rf (f i)) (ty := .array .int) F.1 F.2.1 (hR.2.2.1 a _ hw).2 (e_arrR F N _) rfl (fun h => by cases h) (by rw [arrV_size]; exact x1) (by rw [x2, arrV_read _ _ x3]; dsimp only; rw [Int.toNat_of_nonneg h0]) rfl rfl hd (kk H locs ls hl hR hz)
theorem e_iast (F : e_F K p l s m args meth c cc nL ret own) {a N : Nat} {f : Int → Int} {i x : Int} (hw : w a = some (e_ia N f)) (h0 : 0 ≤ i) (hN : i < N) (hb : N < 2147483648) (hd : decode cc pc = .ok (.iastore, 1)) (kk : e_V K p l e d mc s m args below meth c nL post px (pc + 1) (L) (st) (e_up w a (e_ia N (e_fu f i x))) (n) (k)) : e_V K p l e d mc s m args below meth c nL post px (pc) (L) (.int (eI x) :: .int (eI i) :: .ref a :: st) (w) (n) (k) := by
  obtain ⟨x1, x2⟩ := e_ix h0 hN hb
  intro H locs ls hl hR hz
  have hA := (hR.2.2.1 a _ hw)
  refine W.iast F.1 F.2.1 hA.2 (e_arrI F N _) (fun h => by cases h) (by rw [arrV_size]; exact x1) rfl rfl hd fun H' e1 e2 e3 => ?_
  refine kk H' _ ls hl (hR.up hw ?_ e2 e3) (fun z hz' => ?_)
  · show H'[a]? = some (arrV _ _ _)
    rw [e1, arrV_store, x2]
    congr 2
    funext j
    unfold updV e_fu
    dsimp only
    by_cases hj : j = i.toNat
    · subst hj; rw [if_pos rfl, if_pos (by omega)]
    · rw [if_neg hj, if_neg (by omega)]
  · rcases List.mem_append.mp hz' with h | h
    · exact hz z h
    · rw [List.mem_singleton.mp h]; exact hA.1
theorem e_newI (F : e_F K p l s m args meth c cc nL ret own) {N : Nat} {z : Int} (hz0 : z = (N : Int)) (hN : N ≤ 256) (hk : k + 1 ≤ mc) (hm : Cond.arrayClass .int ∈ e_TB) (hd : decode cc pc = .ok (.newarray .int, 2)) (kk : e_V K p l e d mc s m args below meth c nL post px (pc + 2) (L) (.ref n :: st) (e_up w n (e_ia N (fun _ => 0))) (n + 1) (k + 1)) : e_V K p l e d mc s m args below meth c nL post px (pc) (L) (.int (eI z) :: st) (w) (n) (k) := by
  subst hz0
  intro H locs ls hl hR hz
  have hc : (eI (N : Int)).toNatClampNeg = N := by
    show (eI (N : Int)).toInt.toNat = N
    rw [eI_toInt (by omega) (by omega)]; omega
  have h0 : ¬ eI (N : Int) < 0 := by
    rw [Int32.lt_iff_toInt_lt, eI_toInt (by omega) (by omega)]
    have : (0 : Int32).toInt = 0 := by decide
    omega
  have hlt : k < mc := hk
  refine W.newa (atype := .int) F.1 F.2.1 (F.2.2.2.2.2.1 _ hm) rfl hd rfl h0 (by rw [hc]; show N * 4 ≤ 536870912; omega) hk (by rw [hc]; show 256 * k + N ≤ 256 * mc; omega) fun cA kA comp f1 f2 f3 => ?_
  have hcA : cA = K.2.1.1 8 := Option.some.inj (f1.symm.trans (F.2.2.2.2.2.2.2.2.1.1.2 0 _ rfl).2)
  subst hcA
  refine W.widen (k := k + 1) (n := 256 * (k + 1)) (Nat.le_refl _) (by rw [hc]; omega) ?_
  rw [hR.1]
  refine kk _ locs ls hl (hR.push ?_ (by rw [Array.size_push, hR.1]) (fun q hq => by rw [Array.getElem?_push, if_neg (by rw [hR.1]; omega)])) hz
  show _ = some (arrV _ _ _)
  rw [arrV_new, ← hR.1, Array.getElem?_push_size, hc]
  rfl
theorem e_newA9 (F : e_F K p l s m args meth c cc nL ret own) {N idx : Nat} {z : Int} (hz0 : z = (N : Int)) (hN : N ≤ 256) (hk : k + 1 ≤ mc) (hm : Cond.classLink own idx "Secretshares$Deal" ∈ e_TB) (hm2 : Cond.arrayOver (.object "Secretshares$Deal") ∈ e_NW) (hd : decode cc pc = .ok (.anewarray idx, 3)) (kk : e_V K p l e d mc s m args below meth c nL post px (pc + 3) (L) (.ref n :: st) (e_up w n (.inr (9, N, fun _ => .null))) (n + 1) (k + 1)) : e_V K p l e d mc s m args below meth c nL post px (pc) (L) (.int (eI z) :: st) (w) (n) (k) := by
  subst hz0
  intro H locs ls hl hR hz
  have hc : (eI (N : Int)).toNatClampNeg = N := by
    show (eI (N : Int)).toInt.toNat = N
    rw [eI_toInt (by omega) (by omega)]; omega
  have h0 : ¬ eI (N : Int) < 0 := by
    rw [Int32.lt_iff_toInt_lt, eI_toInt (by omega) (by omega)]
    have : (0 : Int32).toInt = 0 := by decide
    omega
  have hlt : k < mc := hk
  refine W.anew F.1 F.2.1 F.2.2.2.2.1 (F.2.2.2.2.2.1 _ hm) (F.2.2.2.2.2.2.2.2.1.2.1 _ hm2) rfl hd rfl h0 (by rw [hc]; omega) hk (by rw [hc]; show 256 * k + N ≤ 256 * mc; omega) fun cA kA comp f1 f2 f3 f4 => ?_
  obtain ⟨kA9, comp9, g1, g2, g3, g4⟩ := (F.2.2.2.2.2.2.2.2.1.1.2 1 _ rfl).2
  have hcA : cA = K.2.1.1 9 := Option.some.inj (f1.symm.trans g4)
  subst hcA
  refine W.widen (k := k + 1) (n := 256 * (k + 1)) (Nat.le_refl _) (by rw [hc]; omega) ?_
  rw [hR.1]
  refine kk _ locs ls hl (hR.push ?_ (by rw [Array.size_push, hR.1]) (fun q hq => by rw [Array.getElem?_push, if_neg (by rw [hR.1]; omega)])) hz
  show _ = some (arrV _ _ _)
  rw [arrV_new, ← hR.1, Array.getElem?_push_size, hc]
theorem e_newA10 (F : e_F K p l s m args meth c cc nL ret own) {N idx : Nat} {z : Int} (hz0 : z = (N : Int)) (hN : N ≤ 256) (hk : k + 1 ≤ mc) (hm : Cond.classLink own idx (FieldType.array .int).toString ∈ e_TB) (hm2 : Cond.arrayOver (.array .int) ∈ e_NW) (hd : decode cc pc = .ok (.anewarray idx, 3)) (kk : e_V K p l e d mc s m args below meth c nL post px (pc + 3) (L) (.ref n :: st) (e_up w n (e_ra N (fun _ => none))) (n + 1) (k + 1)) : e_V K p l e d mc s m args below meth c nL post px (pc) (L) (.int (eI z) :: st) (w) (n) (k) := by
  subst hz0
  intro H locs ls hl hR hz
  have hc : (eI (N : Int)).toNatClampNeg = N := by
    show (eI (N : Int)).toInt.toNat = N
    rw [eI_toInt (by omega) (by omega)]; omega
  have h0 : ¬ eI (N : Int) < 0 := by
    rw [Int32.lt_iff_toInt_lt, eI_toInt (by omega) (by omega)]
    have : (0 : Int32).toInt = 0 := by decide
    omega
  have hlt : k < mc := hk
  refine W.anewA F.1 F.2.1 F.2.2.2.2.1 (F.2.2.2.2.2.1 _ hm) (F.2.2.2.2.2.2.2.2.1.2.1 _ hm2) rfl hd rfl h0 (by rw [hc]; omega) hk (by rw [hc]; show 256 * k + N ≤ 256 * mc; omega) fun cA kA comp f1 f2 f3 f4 => ?_
  have hcA : cA = K.2.1.1 10 := Option.some.inj (f1.symm.trans (F.2.2.2.2.2.2.2.2.1.1.2 2 _ rfl).2)
  subst hcA
  refine W.widen (k := k + 1) (n := 256 * (k + 1)) (Nat.le_refl _) (by rw [hc]; omega) ?_
  rw [hR.1]
  refine kk _ locs ls hl (hR.push ?_ (by rw [Array.size_push, hR.1]) (fun q hq => by rw [Array.getElem?_push, if_neg (by rw [hR.1]; omega)])) hz
  show _ = some (arrV _ _ _)
  rw [arrV_new, ← hR.1, Array.getElem?_push_size, hc]
  rfl
theorem e_newO (F : e_F K p l s m args meth c cc nL ret own) {ci idx : Nat} {q : vw_C} {fs : List Value} (hc : e_cl[ci]? = some q) (hk : k + 1 ≤ mc) (hm1 : Cond.classLink own idx q.1 ∈ e_TB) (hm2 : Cond.instantiable q.1 q.2.2 ∈ e_TB) (hm3 : Cond.initialized q.1 ∈ e_TB) (hN : q.2.2 ≤ 256) (hfs : ∀ j, j < q.2.2 → defaultValue (e_ty ci j) = vp_V fs j) (hd : decode cc pc = .ok (.new idx, 3)) (kk : e_V K p l e d mc s m args below meth c nL post px (pc + 3) (L) (.ref n :: st) (e_up w n (.inl (ci, fs))) (n + 1) (k + 1)) : e_V K p l e d mc s m args below meth c nL post px (pc) (L) (st) (w) (n) (k) := by
  intro H locs ls hl hR hz
  have hts := F.2.2.2.2.2.1
  have hKn := F.2.2.2.2.2.2.2.2.1.1.1 ci _ hc
  refine W.newcK F.1 F.2.1 F.2.2.2.2.1 (hts _ hm1) (hts _ hm2) (hts _ hm3) rfl hd hk (by show 256 * k + _ ≤ 256 * mc; omega) hKn.2.1 hR.1 fun H1 kC hkC e1 z1 o1 => ?_
  refine W.widen (k := k + 1) (n := 256 * (k + 1)) (Nat.le_refl _) (by omega) ?_
  exact kk _ locs ls hl (hR.push ⟨_, hc, (u_born (e_ty ci) hts (e_clTB ci _ hc) hKn hkC e1 (e_ty_ok ci _ hc)).to hfs⟩ z1 o1) hz
theorem e_aastD (F : e_F K p l s m args meth c cc nL ret own) {a v N : Nat} {g : Nat → Value} {fs : List Value} {i : Int} (hw : w a = some (.inr (9, N, g))) (hv : w v = some (.inl (0, fs))) (h0 : 0 ≤ i) (hN : i < N) (hb : N < 2147483648) (hd : decode cc pc = .ok (.aastore, 1)) (kk : e_V K p l e d mc s m args below meth c nL post px (pc + 1) (L) (st) (e_up w a (.inr (9, N, fun j => if (j : Int) = i then .ref v else g j))) (n) (k)) : e_V K p l e d mc s m args below meth c nL post px (pc) (L) (.ref v :: .int (eI i) :: .ref a :: st) (w) (n) (k) := by
  obtain ⟨x1, x2⟩ := e_ix h0 hN hb
  intro H locs ls hl hR hz
  have hA := (hR.2.2.1 a _ hw)
  obtain ⟨r', hr', cellV, g1, g2, g3, -⟩ := (hR.2.2.1 v _ hv).2
  have hcls := (F.2.2.2.2.2.2.2.2.1.1.1 0 _ rfl).2
  obtain ⟨kA, comp, k1, k2, k3, -⟩ := (F.2.2.2.2.2.2.2.2.1.1.2 1 _ rfl).2
  have hcomp : comp = K.2.1.1 0 := Option.some.inj (k3.symm.trans hcls.1)
  subst hcomp
  obtain ⟨kC, hkC, -⟩ := hcls.2
  refine W.aast F.1 F.2.1 hA.2 (fun q h => by cases h) (fun h => by cases h) k1 k2 rfl hkC ⟨fun q => x1 (Or.inl q), by rw [arrV_size]; exact Nat.not_le.mp fun q => x1 (Or.inr q)⟩ g1 (fun q h => by rw [g3] at h; cases h) (by rw [g2]; exact hkC) (by rw [g2]; exact va_assign hcls) rfl rfl hd fun H' e1 e2 e3 => ?_
  refine kk H' _ ls hl (hR.up hw ?_ e2 e3) (fun z hz' => ?_)
  · show H'[a]? = some (arrV _ _ _)
    rw [e1, arrV_store, x2]
    congr 2
    funext j
    unfold updV
    dsimp only
    by_cases hj : j = i.toNat
    · subst hj; rw [if_pos rfl, if_pos (by omega)]
    · rw [if_neg hj, if_neg (by omega)]
  · rcases List.mem_append.mp hz' with h | h
    · exact hz z h
    · rw [List.mem_singleton.mp h]; exact hA.1
theorem e_gets (F : e_F K p l s m args meth c cc nL ret own) {i idx : Nat} {z : String × String × String × Value} (hz0 : (e_zs K)[i]? = some z) (hm : Cond.fieldLink own idx z.1 z.2.1 z.2.2.1 ∈ e_TB) (hd : decode cc pc = .ok (.getstatic idx, 3)) (kk : e_V K p l e d mc s m args below meth c nL post px (pc + 3) (L) (z.2.2.2 :: st) (w) (n) (k)) : e_V K p l e d mc s m args below meth c nL post px (pc) (L) (st) (w) (n) (k) := by
  intro H locs ls hl hR hz
  obtain ⟨cf, kf, fi, f, a, cell, h1, h2, h3, h4, h5, h6, h7, h8⟩ := F.2.2.2.2.2.2.2.2.1.2.2.1 z (List.mem_of_getElem? hz0)
  exact W.gets F.1 F.2.1 F.2.2.2.2.1 (F.2.2.2.2.2.1 _ hm) h1 h2 h3 h4 (by rw [hR.2.2.2.1 a (Nat.not_le.mp h8)]; exact h5) (fun e => by rw [e] at h6; cases h6) h7 rfl hd (kk H locs ls hl hR hz)
theorem e_getsN (F : e_F K p l s m args meth c cc nL ret own) {i idx : Nat} {host : String} {z : String × String × String × Value} (hz0 : (e_zs K)[i]? = some z) (hm : Cond.fieldLinkNest own idx z.1 z.2.1 z.2.2.1 host ∈ e_NW) (hd : decode cc pc = .ok (.getstatic idx, 3)) (kk : e_V K p l e d mc s m args below meth c nL post px (pc + 3) (L) (z.2.2.2 :: st) (w) (n) (k)) : e_V K p l e d mc s m args below meth c nL post px (pc) (L) (st) (w) (n) (k) := by
  intro H locs ls hl hR hz
  obtain ⟨cf, kf, fi, f, a, cell, h1, h2, h3, h4, h5, h6, h7, h8⟩ := F.2.2.2.2.2.2.2.2.1.2.2.1 z (List.mem_of_getElem? hz0)
  exact va_WgetsN F.1 F.2.1 F.2.2.2.2.1 (va_Nw.use rfl (F.2.2.2.2.2.2.2.2.1.2.1 _ hm)) h1 h2 h3 h4 (by rw [hR.2.2.2.1 a (Nat.not_le.mp h8)]; exact h5) (fun e => by rw [e] at h6; cases h6) h7 rfl hd (kk H locs ls hl hR hz)
theorem e_iushr (F : e_F K p l s m args meth c cc nL ret own) {x y : Int32} {z : Int} (hd : decode cc pc = .ok (.iushr, 1)) (hv : (x.toUInt32 >>> (y.toUInt32 &&& Int32.toUInt32 31)).toInt32 = eI z) (kk : e_V K p l e d mc s m args below meth c nL post px (pc + 1) (L) (.int (eI z) :: st) (w) (n) (k)) : e_V K p l e d mc s m args below meth c nL post px (pc) (L) (.int y :: .int x :: st) (w) (n) (k) :=
  fun H locs ls hl hR hz => lv_iushr F.1 F.2.1 hd hv (kk H locs ls hl hR hz)
theorem e_mmin (F : e_F K p l s m args meth c cc nL ret own) {a b : Int} {idx : Nat} (ha : e_r a) (hb : e_r b) (m1 : Cond.methodLink own idx Lib.Math.min.name ∈ e_TB) (m2 : Cond.static Lib.Math.min.name ∈ e_TB) (m3 : Cond.initialized "java/lang/Math" ∈ e_TB) (m4 : Cond.code Lib.Math.min.name Lib.Math.min.code 2 (some .int) ∈ e_TB) (hd : decode cc pc = .ok (.invokestatic idx, 3)) (hroom : (st.map fun v => v.category).sum ≤ 8) (hdd : 1 ≤ d) (hk : k ≤ mc) (kk : e_V K p l e d mc s m args below meth c nL post px (pc + 3) (L) (.int (eI (if b < a then b else a)) :: st) (w) (n) (k)) : e_V K p l e d mc s m args below meth c nL post px (pc) (L) (.int (eI b) :: .int (eI a) :: st) (w) (n) (k) := by
  intro H locs ls hl hR hz
  have hts := F.2.2.2.2.2.1
  refine va_mmin F.1 F.2.1 (by rw [F.2.2.1]; exact hl.1.symm) F.2.2.2.2.1 (hts _ m1) (hts _ m2) (hts _ m3) (hts _ m4) hdd (by show _ ≤ 64 * d; omega) hk (Nat.mul_le_mul_left 256 hk) hd ?_
  have h := eI_lt hb ha
  have e9 : (if eI b < eI a then eI b else eI a) = eI (if b < a then b else a) := by
    split
    · rename_i q; rw [if_pos (h.mp q)]
    · rename_i q; rw [if_neg (fun z => q (h.mpr z))]
  rw [e9]
  exact kk H locs ls hl hR hz
theorem e_mmax (F : e_F K p l s m args meth c cc nL ret own) {a b : Int} {idx : Nat} (ha : e_r a) (hb : e_r b) (m1 : Cond.methodLink own idx Lib.Math.max.name ∈ e_TB) (m2 : Cond.static Lib.Math.max.name ∈ e_TB) (m3 : Cond.initialized "java/lang/Math" ∈ e_TB) (m4 : Cond.code Lib.Math.max.name Lib.Math.max.code 2 (some .int) ∈ e_TB) (hd : decode cc pc = .ok (.invokestatic idx, 3)) (hroom : (st.map fun v => v.category).sum ≤ 8) (hdd : 1 ≤ d) (hk : k ≤ mc) (kk : e_V K p l e d mc s m args below meth c nL post px (pc + 3) (L) (.int (eI (if a < b then b else a)) :: st) (w) (n) (k)) : e_V K p l e d mc s m args below meth c nL post px (pc) (L) (.int (eI b) :: .int (eI a) :: st) (w) (n) (k) := by
  intro H locs ls hl hR hz
  have hts := F.2.2.2.2.2.1
  refine va_mmax F.1 F.2.1 (by rw [F.2.2.1]; exact hl.1.symm) F.2.2.2.2.1 (hts _ m1) (hts _ m2) (hts _ m3) (hts _ m4) hdd (by show _ ≤ 64 * d; omega) hk (Nat.mul_le_mul_left 256 hk) hd ?_
  have h := eI_lt ha hb
  have e9 : (if eI a < eI b then eI b else eI a) = eI (if a < b then b else a) := by
    split
    · rename_i q; rw [if_pos (h.mp q)]
    · rename_i q; rw [if_neg (fun z => q (h.mpr z))]
  rw [e9]
  exact kk H locs ls hl hR hz
theorem e_ialdS (F : e_F K p l s m args meth c cc nL ret own) {i : Nat} {j : Int} (hi : i < 6) (h0 : 0 ≤ j) (hN : j < 7) (hd : decode cc pc = .ok (.iaload, 1)) (kk : e_V K p l e d mc s m args below meth c nL post px (pc + 1) (L) (.int (eI ((e_row i).getD j.toNat 0)) :: st) (w) (n) (k)) : e_V K p l e d mc s m args below meth c nL post px (pc) (L) (.int (eI j) :: .ref (K.2.2 i) :: st) (w) (n) (k) := by
  obtain ⟨x1, x2⟩ := e_ix (N := 7) h0 hN (by decide)
  intro H locs ls hl hR hz
  have hT := F.2.2.2.2.2.2.2.2.1.2.2.2.1 i (by omega)
  rw [show e_sty i = .int from if_pos hi, show e_sln i = 7 from if_pos hi] at hT
  obtain ⟨cell, h1, h2, h3, h4, h5, h6, h7⟩ := hT
  exact W.iald (v := .int (eI ((e_row i).getD j.toNat 0))) F.1 F.2.1 (by rw [hR.2.2.2.1 _ (Nat.not_le.mp h7)]; exact h1) h2 h3 (fun q => x1 (q.imp id (fun q => Nat.le_trans h4 q))) (by rw [x2, h6 _ (by omega), show e_rowv i j.toNat = _ from if_pos hi]) rfl rfl hd (kk H locs ls hl hR hz)
theorem e_alenS (F : e_F K p l s m args meth c cc nL ret own) {i : Nat} (hi : i < 6) (hd : decode cc pc = .ok (.arraylength, 1)) (kk : e_V K p l e d mc s m args below meth c nL post px (pc + 1) (L) (.int (eI 7) :: st) (w) (n) (k)) : e_V K p l e d mc s m args below meth c nL post px (pc) (L) (.ref (K.2.2 i) :: st) (w) (n) (k) := by
  intro H locs ls hl hR hz
  have hT := F.2.2.2.2.2.2.2.2.1.2.2.2.1 i (by omega)
  rw [show e_sty i = .int from if_pos hi, show e_sln i = 7 from if_pos hi] at hT
  obtain ⟨cell, h1, h2, h3, h4, h5, h6, h7⟩ := hT
  exact W.alen (n := eI 7) F.1 F.2.1 (by rw [hR.2.2.2.1 _ (Nat.not_le.mp h7)]; exact h1) h2 (by rw [h5]; rfl) rfl rfl hd (kk H locs ls hl hR hz)
theorem e_oinit (F : e_F K p l s m args meth c cc nL ret own) {idx a : Nat} (hm1 : Cond.methodLink own idx Lib.objectInit ∈ e_TB) (hm2 : Cond.instanceMethod Lib.objectInit ∈ e_TB) (hm3 : Cond.code Lib.objectInit ⟨#[0xb1]⟩ 1 none ∈ e_TB) (hroom : (st.map fun v => v.category).sum ≤ 8) (hdd : 1 ≤ d) (hd : decode cc pc = .ok (.invokespecial idx, 3)) (kk : e_V K p l e d mc s m args below meth c nL post px (pc + 3) (L) (st) (w) (n) (k)) : e_V K p l e d mc s m args below meth c nL post px (pc) (L) (.ref a :: st) (w) (n) (k) := by
  intro H locs ls hl hR hz
  have hts := F.2.2.2.2.2.1
  exact W.objInit F.1 F.2.1 F.2.2.2.2.1 (hts _ hm1) (hts _ hm2) (hts _ hm3) rfl (by rw [F.2.2.1]; exact hl.1) rfl hd hdd (by show _ ≤ 64 * d; have := lv_room (m := m) (pc := pc) (ls := ls) (rest := .ref a :: st) hroom; omega) (kk H locs ls hl hR hz)
theorem e_iret (F : e_F K p l s m args meth c cc nL ret own) {x : Int32} (hr : ret = some .int) (hk : k ≤ mc) (hp : post (some (.int x)) w n) (hd : decode cc pc = .ok (.ireturn, 1)) : e_V K p l e d mc s m args below meth c nL post px (pc) (L) ([.int x]) (w) (n) (k) := by
  intro H locs ls hl hR hz
  refine vx_ret (W.widen hk (Nat.mul_le_mul_left 256 hk) ?_)
  exact W.iret F.1 F.2.1 (by rw [F.2.2.2.1]; exact hr) (fun t ht hW => ⟨_, w, n, rfl, hp, by rw [ht]; exact hR⟩) hz hd (hlocks := F.2.2.2.2.2.2.1)
theorem e_zret (F : e_F K p l s m args meth c cc nL ret own) {z : Int} (hr : ret = some .boolean) (hk : k ≤ mc) (h01 : z = 0 ∨ z = 1) (hp : post (some (.int (eI z))) w n) (hd : decode cc pc = .ok (.ireturn, 1)) : e_V K p l e d mc s m args below meth c nL post px (pc) (L) ([.int (eI z)]) (w) (n) (k) := by
  intro H locs ls hl hR hz
  refine vx_ret (W.widen hk (Nat.mul_le_mul_left 256 hk) ?_)
  exact W.zret (ty := .boolean) F.1 F.2.1 (by rw [F.2.2.2.1]; exact hr) (by rcases h01 with rfl | rfl <;> rfl) (fun t ht hW => ⟨_, w, n, rfl, hp, by rw [ht]; exact hR⟩) hz hd (hlocks := F.2.2.2.2.2.2.1)
theorem e_lret (F : e_F K p l s m args meth c cc nL ret own) {x : Int64} (hr : ret = some .long) (hk : k ≤ mc) (hp : post (some (.long x)) w n) (hd : decode cc pc = .ok (.lreturn, 1)) : e_V K p l e d mc s m args below meth c nL post px (pc) (L) ([.long x]) (w) (n) (k) := by
  intro H locs ls hl hR hz
  refine vx_ret (W.widen hk (Nat.mul_le_mul_left 256 hk) ?_)
  exact W.lret F.1 F.2.1 (by rw [F.2.2.2.1]; exact hr) (fun t ht hW => ⟨_, w, n, rfl, hp, by rw [ht]; exact hR⟩) hz hd (hlocks := F.2.2.2.2.2.2.1)
theorem e_vret (F : e_F K p l s m args meth c cc nL ret own) (hr : ret = none) (hk : k ≤ mc) (hp : post none w n) (hd : decode cc pc = .ok (.return_, 1)) : e_V K p l e d mc s m args below meth c nL post px (pc) (L) ([]) (w) (n) (k) := by
  intro H locs ls hl hR hz
  refine vx_ret (W.widen hk (Nat.mul_le_mul_left 256 hk) ?_)
  exact W.vret F.1 F.2.1 (by rw [F.2.2.2.1]; exact hr) (fun t ht hW => ⟨_, w, n, rfl, hp, by rw [ht]; exact hR⟩) hz hd (hlocks := F.2.2.2.2.2.2.1)
theorem e_aret (F : e_F K p l s m args meth c cc nL ret own) {v : Value} {rt : FieldType} (hr : ret = some rt) (hrt : (∃ n, rt = .object n) ∨ ∃ t, rt = .array t) (hv : v = .null ∨ ∃ a, v = .ref a) (hk : k ≤ mc) (hp : post (some v) w n) (hd : decode cc pc = .ok (.areturn, 1)) : e_V K p l e d mc s m args below meth c nL post px (pc) (L) ([v]) (w) (n) (k) := by
  intro H locs ls hl hR hz
  refine vx_ret (W.widen hk (Nat.mul_le_mul_left 256 hk) ?_)
  exact W.aret F.1 F.2.1 (by rw [F.2.2.2.1]; exact hr) hrt hv (fun t ht hW => ⟨_, w, n, rfl, hp, by rw [ht]; exact hR⟩) hz hd (hlocks := F.2.2.2.2.2.2.1)
theorem e_after (F : e_F K p l s m args meth c cc nL ret own) {mc2 : Nat} {post2 : Option Value → e_W → Nat → Prop} {px2 : String → e_W → Nat → Prop} {H : Heap} {locs : List Loc} {ls : Array Slot} {st0 : List Value} {a : Array Value} (hl : lv_has ls nL L) (hR : e_R K w n s H) (hz : ∀ z ∈ locs, K.1 ≤ z.base)
    (hr : vx_Run p l e (e_rm d mc) s m args below meth c H locs k (256 * k) mc2 (256 * mc2) (F0 m pc ls st0) st (e_Qc K post2 a) (e_XC K px2) (e_fr K)) (hk : k + mc2 ≤ mc)
    (kx : ∀ E w' n', px2 E w' n' → n ≤ n' → px E w' n') (kk : ∀ r w' n', post2 r w' n' → n ≤ n' → e_V K p l e d mc s m args below meth c nL post px (pc + 3) (L) (r.toList ++ st) (w') (n') (k + mc2)) :
    W p l e (e_rm d mc) s m args below meth c H locs k (256 * k) (vx_MQ below (e_Qc K post) (e_XC K px) args s mc (256 * mc) (e_fr K)) (F0 m pc ls st0) := by
  have hre : ∀ (w' : e_W) (n' : Nat) (st₀ : State) (H2 : Heap), st₀.heap = H → e_R K w' n' st₀ H2 → n ≤ n' ∧ e_R K w' n' s H2 := by
    intro w' n' st₀ H2 h0 h
    obtain ⟨g1, g2, g3, g4, g5⟩ := h
    have hn : n ≤ n' := by rw [← hR.1, ← h0]; exact g5
    exact ⟨hn, g1, g2, g3, fun q hq => by rw [g4 q hq, h0]; exact hR.2.2.2.1 q hq, Nat.le_trans hR.2.2.2.2 hn⟩
  intro T hT X
  rcases hr T hT X with ⟨v, st₀, t, T', L2, h0, X', hL2, e1, e2, ⟨r, w', n', hv, hp, hRR⟩, stp⟩ | ⟨q, st₀, t, T', L2, E, ce, h0, X', hL2, e1, e2, ⟨w', n', hp, hRR⟩, hce, hcv, hcl, stp⟩
  · cases hv
    obtain ⟨hn, hR2⟩ := hre w' n' st₀ t.heap h0 hRR
    obtain ⟨t2, a1, b1⟩ := kk v w' n' hp hn T'.heap (locs ++ L2) ls hl (by rw [e1]; exact hR2) (fun z hz' => (List.mem_append.mp hz').elim (hz z) (fun h => hL2 z h)) T' rfl (by rw [Nat.mul_add]; exact X')
    exact ⟨t2, stp t2 a1, b1⟩
  · obtain ⟨hn, hR2⟩ := hre w' n' st₀ t.heap h0 hRR
    have hlt : 256 * k + 256 * mc2 ≤ 256 * mc := by omega
    obtain ⟨t2, a1, b1⟩ := vx_out (pc := pc) (ls := ls) (rest := st) (E := E) (ce := ce) (q := q) (Qc := e_Qc K post) (XC := e_XC K px) (mc := mc) (ms := 256 * mc) (free := e_fr K) (H := T'.heap) (locs := locs ++ L2) (cells := k + mc2) (slots := 256 * k + 256 * mc2) (fun x hx => (F.2.2.2.2.2.2.2.1 x hx).elim) F.2.2.2.2.2.2.1 (by rw [e1]; exact hce) hcv hcl
      (fun t3 ht3 _ => ⟨w', n', kx E w' n' hp hn, by rw [ht3, e1]; exact hR2⟩) (fun z hz' => (List.mem_append.mp hz').elim (hz z) (fun h => hL2 z h)) hk hlt T' rfl X'
    exact ⟨t2, stp.trans a1, b1⟩
/-- what a call asks of the callee's name -/
def e_Y (y : MethodName) (bytes : ByteArray) (maxL : Nat) (rt : Option FieldType) (na : Nat) : Prop :=
  (y.cls ≠ "java/lang/invoke/MethodHandle" ∧ y.cls ≠ "java/lang/invoke/VarHandle") ∧ (parseMethodDescriptor y.desc).map (fun d => d.parameters.length) = some na ∧ maxL ≤ 45 ∧ Cond.code y bytes maxL rt ∈ e_TB ∧ Cond.initialized y.cls ∈ e_TB
def e_YV (y : MethodName) (bytes : ByteArray) (maxL : Nat) (rt : Option FieldType) (na : Nat) : Prop := e_Y y bytes maxL rt na ∧ Cond.instanceMethod y ∈ e_TB ∧ Cond.selects y.cls y y ∈ e_TB
def e_YS (y : MethodName) (bytes : ByteArray) (maxL : Nat) (rt : Option FieldType) (na : Nat) : Prop := e_Y y bytes maxL rt na ∧ Cond.static y ∈ e_TB
def e_YI (y : MethodName) (bytes : ByteArray) (maxL : Nat) (na : Nat) : Prop := e_Y y bytes maxL none na ∧ y.name = "<init>" ∧ Cond.instanceMethod y ∈ e_TB
theorem e_ws {y : MethodName} {bytes : ByteArray} {maxL : Nat} {rt : Option FieldType} {na : Nat} (Y : e_Y y bytes maxL rt na) : ∀ w ∈ Cond.code y bytes maxL rt :: e_TB, w ∈ e_TB := fun w h => (List.mem_cons.mp h).elim (fun h => by rw [h]; exact Y.2.2.2.1) id
theorem e_callB (F : e_F K p l s m args meth c cc nL ret own) {y : MethodName} {bytes : ByteArray} {maxL idx d2 mc2 : Nat} {rt : Option FieldType} {na : Nat} (Y : e_Y y bytes maxL rt na) (hm : Cond.methodLink own idx y ∈ e_TB) (hdd : d2 + 1 ≤ d) : CallB (e_rm d mc) s args own idx y bytes maxL rt (Cond.code y bytes maxL rt :: e_TB) (e_rm d2 mc2) mc2 (256 * mc2) na :=
  callB_of (ws' := e_TB) na F.2.2.2.2.2.1 (e_goodIn (e_ws Y)) rfl rfl rfl (F.2.2.2.2.2.1 _ Y.2.2.2.2) (F.2.2.2.2.2.1 _ hm) ⟨Y.1.1, Y.1.2, Y.2.1⟩ ⟨hdd, by have := Y.2.2.1; show 8 + (maxL + 11) + 64 * d2 ≤ 64 * d; omega⟩
theorem e_callN (F : e_F K p l s m args meth c cc nL ret own) {y : MethodName} {bytes : ByteArray} {maxL idx d2 mc2 : Nat} {rt : Option FieldType} {na : Nat} {host : String} (Y : e_Y y bytes maxL rt na) (hm : Cond.methodLinkNest own idx y host ∈ e_NW) (hdd : d2 + 1 ≤ d) : va_CN (e_rm d mc) s args own idx y host bytes maxL rt (Cond.code y bytes maxL rt :: e_TB) (e_rm d2 mc2) mc2 (256 * mc2) na :=
  va_cnB (ws' := e_TB) na F.2.2.2.2.2.1 (e_goodIn (e_ws Y)) rfl rfl rfl (F.2.2.2.2.2.2.2.2.1.2.1 _ hm) (F.2.2.2.2.2.1 _ Y.2.2.2.2) ⟨Y.1.1, Y.1.2, Y.2.1⟩ ⟨hdd, by have := Y.2.2.1; show 8 + (maxL + 11) + 64 * d2 ≤ 64 * d; omega⟩
theorem e_fix (F : e_F K p l s m args meth c cc nL ret own) : CallFix p m c cc nL s args e_TB own := ⟨F.1, F.2.1, F.2.2.1, F.2.2.2.2.1, F.2.2.2.2.2.1⟩
theorem e_pre (F : e_F K p l s m args meth c cc nL ret own) {as2 : List Value} {H : Heap} (hR : e_R K w n s H) : PreS s H (e_Pc K as2 w n) as2 := ⟨e_blind, fun U hU hW => ⟨rfl, F.2.2.2.2.2.2.2.2.1.go hW (fun q hq => by rw [hU]; exact hR.2.2.2.1 q hq), hR.re hU⟩⟩
theorem e_preV (F : e_F K p l s m args meth c cc nL ret own) {as2 : List Value} {H : Heap} {b ci : Nat} {fs : List Value} {q : vw_C} {C : String} (hR : e_R K w n s H) (hw : w b = some (.inl (ci, fs))) (hc : e_cl[ci]? = some q) (hC : q.1 = C) : PreV s H C b (e_Pc K (.ref b :: as2) w n) as2 := ⟨e_blind, by
    obtain ⟨r, h1, cell, q1, q2, q3, q4⟩ := (hR.2.2.1 b _ hw).2
    have hr : r = q := Option.some.inj (h1.symm.trans hc)
    subst hr
    subst hC
    exact ⟨cell, q1, by rw [q3]; rfl, by rw [q2]; exact (F.2.2.2.2.2.2.2.2.1.1.1 ci _ hc).2.1⟩, (e_pre F hR).2⟩
theorem e_callVV (F : e_F K p l s m args meth c cc nL ret own) {y : MethodName} {bytes : ByteArray} {maxL idx d2 mc2 na : Nat} {rt : Option FieldType} {as2 st0 : List Value} {post2 : Option Value → e_W → Nat → Prop} {px2 : String → e_W → Nat → Prop} {b ci : Nat} {fs : List Value} {q : vw_C} (Y : e_YV y bytes maxL rt na) (hst : st0 = as2.reverse ++ .ref b :: st) (hM : e_Met K l y (Cond.code y bytes maxL rt :: e_TB) d2 mc2 (.ref b :: as2) w n post2 px2) (hw : w b = some (.inl (ci, fs))) (hc : e_cl[ci]? = some q) (hC : q.1 = y.cls) (hm : Cond.methodLink own idx y ∈ e_TB) (hd : decode cc pc = .ok (.invokevirtual idx, 3)) (hn : as2.length = na) (hroom : (st.map fun v => v.category).sum ≤ 8) (hdd : d2 + 1 ≤ d) (hk : k + mc2 ≤ mc) (kx : ∀ E w' n', px2 E w' n' → n ≤ n' → px E w' n') (kk : ∀ r w' n', post2 r w' n' → n ≤ n' → e_V K p l e d mc s m args below meth c nL post px (pc + 3) (L) (r.toList ++ st) (w') (n') (k + mc2)) : e_V K p l e d mc s m args below meth c nL post px (pc) (L) (st0) (w) (n) (k) :=
  fun H locs ls hl hR hz => e_after F hl hR hz (vx_runV (e_fix F) (hM F.2.2.2.2.2.2.2.2.2) ⟨e_callB F Y.1 hm hdd, F.2.2.2.2.2.1 _ Y.2.1, F.2.2.2.2.2.1 _ Y.2.2⟩ (e_preV F hR hw hc hC) rfl hn hl.1 hst (lv_room hroom) hd ⟨hk, by show 256 * k + 256 * mc2 ≤ 256 * mc; omega⟩) hk kx kk
theorem e_callVN (F : e_F K p l s m args meth c cc nL ret own) {y : MethodName} {bytes : ByteArray} {maxL idx d2 mc2 na : Nat} {rt : Option FieldType} {as2 st0 : List Value} {post2 : Option Value → e_W → Nat → Prop} {px2 : String → e_W → Nat → Prop} {host : String} {b ci : Nat} {fs : List Value} {q : vw_C} (Y : e_YV y bytes maxL rt na) (hst : st0 = as2.reverse ++ .ref b :: st) (hM : e_Met K l y (Cond.code y bytes maxL rt :: e_TB) d2 mc2 (.ref b :: as2) w n post2 px2) (hw : w b = some (.inl (ci, fs))) (hc : e_cl[ci]? = some q) (hC : q.1 = y.cls) (hm : Cond.methodLinkNest own idx y host ∈ e_NW) (hd : decode cc pc = .ok (.invokevirtual idx, 3)) (hn : as2.length = na) (hroom : (st.map fun v => v.category).sum ≤ 8) (hdd : d2 + 1 ≤ d) (hk : k + mc2 ≤ mc) (kx : ∀ E w' n', px2 E w' n' → n ≤ n' → px E w' n') (kk : ∀ r w' n', post2 r w' n' → n ≤ n' → e_V K p l e d mc s m args below meth c nL post px (pc + 3) (L) (r.toList ++ st) (w') (n') (k + mc2)) : e_V K p l e d mc s m args below meth c nL post px (pc) (L) (st0) (w) (n) (k) :=
  fun H locs ls hl hR hz => e_after F hl hR hz (vx_runVN (e_fix F) (hM F.2.2.2.2.2.2.2.2.2) ⟨e_callN F Y.1 hm hdd, F.2.2.2.2.2.1 _ Y.2.1, F.2.2.2.2.2.1 _ Y.2.2⟩ (e_preV F hR hw hc hC) rfl hn hl.1 hst (lv_room hroom) hd ⟨hk, by show 256 * k + 256 * mc2 ≤ 256 * mc; omega⟩) hk kx kk
theorem e_callSS (F : e_F K p l s m args meth c cc nL ret own) {y : MethodName} {bytes : ByteArray} {maxL idx d2 mc2 na : Nat} {rt : Option FieldType} {as2 st0 : List Value} {post2 : Option Value → e_W → Nat → Prop} {px2 : String → e_W → Nat → Prop} (Y : e_YS y bytes maxL rt na) (hst : st0 = as2.reverse ++ st) (hM : e_Met K l y (Cond.code y bytes maxL rt :: e_TB) d2 mc2 as2 w n post2 px2) (hm : Cond.methodLink own idx y ∈ e_TB) (hd : decode cc pc = .ok (.invokestatic idx, 3)) (hn : as2.length = na) (hroom : (st.map fun v => v.category).sum ≤ 8) (hdd : d2 + 1 ≤ d) (hk : k + mc2 ≤ mc) (kx : ∀ E w' n', px2 E w' n' → n ≤ n' → px E w' n') (kk : ∀ r w' n', post2 r w' n' → n ≤ n' → e_V K p l e d mc s m args below meth c nL post px (pc + 3) (L) (r.toList ++ st) (w') (n') (k + mc2)) : e_V K p l e d mc s m args below meth c nL post px (pc) (L) (st0) (w) (n) (k) :=
  fun H locs ls hl hR hz => e_after F hl hR hz (vx_runS (e_fix F) (hM F.2.2.2.2.2.2.2.2.2) ⟨e_callB F Y.1 hm hdd, F.2.2.2.2.2.1 _ Y.2⟩ (e_pre F hR) rfl hn hl.1 hst (lv_room hroom) hd ⟨hk, by show 256 * k + 256 * mc2 ≤ 256 * mc; omega⟩) hk kx kk
theorem e_callSN (F : e_F K p l s m args meth c cc nL ret own) {y : MethodName} {bytes : ByteArray} {maxL idx d2 mc2 na : Nat} {rt : Option FieldType} {as2 st0 : List Value} {post2 : Option Value → e_W → Nat → Prop} {px2 : String → e_W → Nat → Prop} {host : String} (Y : e_YS y bytes maxL rt na) (hst : st0 = as2.reverse ++ st) (hM : e_Met K l y (Cond.code y bytes maxL rt :: e_TB) d2 mc2 as2 w n post2 px2) (hm : Cond.methodLinkNest own idx y host ∈ e_NW) (hd : decode cc pc = .ok (.invokestatic idx, 3)) (hn : as2.length = na) (hroom : (st.map fun v => v.category).sum ≤ 8) (hdd : d2 + 1 ≤ d) (hk : k + mc2 ≤ mc) (kx : ∀ E w' n', px2 E w' n' → n ≤ n' → px E w' n') (kk : ∀ r w' n', post2 r w' n' → n ≤ n' → e_V K p l e d mc s m args below meth c nL post px (pc + 3) (L) (r.toList ++ st) (w') (n') (k + mc2)) : e_V K p l e d mc s m args below meth c nL post px (pc) (L) (st0) (w) (n) (k) :=
  fun H locs ls hl hR hz => e_after F hl hR hz (vx_runSN (e_fix F) (hM F.2.2.2.2.2.2.2.2.2) ⟨e_callN F Y.1 hm hdd, F.2.2.2.2.2.1 _ Y.2, trivial⟩ (e_pre F hR) rfl hn hl.1 hst (lv_room hroom) hd ⟨hk, by show 256 * k + 256 * mc2 ≤ 256 * mc; omega⟩) hk kx kk
theorem e_callII (F : e_F K p l s m args meth c cc nL ret own) {y : MethodName} {bytes : ByteArray} {maxL idx d2 mc2 na : Nat} {as2 st0 : List Value} {post2 : Option Value → e_W → Nat → Prop} {px2 : String → e_W → Nat → Prop} {b : Nat} (Y : e_YI y bytes maxL na) (hst : st0 = as2.reverse ++ .ref b :: st) (hM : e_Met K l y (Cond.code y bytes maxL none :: e_TB) d2 mc2 (.ref b :: as2) w n post2 px2) (hm : Cond.methodLink own idx y ∈ e_TB) (hd : decode cc pc = .ok (.invokespecial idx, 3)) (hn : as2.length = na) (hroom : (st.map fun v => v.category).sum ≤ 8) (hdd : d2 + 1 ≤ d) (hk : k + mc2 ≤ mc) (kx : ∀ E w' n', px2 E w' n' → n ≤ n' → px E w' n') (kk : ∀ r w' n', post2 r w' n' → n ≤ n' → e_V K p l e d mc s m args below meth c nL post px (pc + 3) (L) (r.toList ++ st) (w') (n') (k + mc2)) : e_V K p l e d mc s m args below meth c nL post px (pc) (L) (st0) (w) (n) (k) :=
  fun H locs ls hl hR hz => e_after F hl hR hz (vx_runI (e_fix F) (hM F.2.2.2.2.2.2.2.2.2) ⟨e_callB F Y.1 hm hdd, Y.2.1, F.2.2.2.2.2.1 _ Y.2.2⟩ (e_pre F hR) rfl hn hl.1 hst (lv_room hroom) hd ⟨hk, by show 256 * k + 256 * mc2 ≤ 256 * mc; omega⟩) hk kx kk
theorem e_callIN (F : e_F K p l s m args meth c cc nL ret own) {y : MethodName} {bytes : ByteArray} {maxL idx d2 mc2 na : Nat} {as2 st0 : List Value} {post2 : Option Value → e_W → Nat → Prop} {px2 : String → e_W → Nat → Prop} {host : String} {b : Nat} (Y : e_YI y bytes maxL na) (hst : st0 = as2.reverse ++ .ref b :: st) (hM : e_Met K l y (Cond.code y bytes maxL none :: e_TB) d2 mc2 (.ref b :: as2) w n post2 px2) (hm : Cond.methodLinkNest own idx y host ∈ e_NW) (hd : decode cc pc = .ok (.invokespecial idx, 3)) (hn : as2.length = na) (hroom : (st.map fun v => v.category).sum ≤ 8) (hdd : d2 + 1 ≤ d) (hk : k + mc2 ≤ mc) (kx : ∀ E w' n', px2 E w' n' → n ≤ n' → px E w' n') (kk : ∀ r w' n', post2 r w' n' → n ≤ n' → e_V K p l e d mc s m args below meth c nL post px (pc + 3) (L) (r.toList ++ st) (w') (n') (k + mc2)) : e_V K p l e d mc s m args below meth c nL post px (pc) (L) (st0) (w) (n) (k) :=
  fun H locs ls hl hR hz => e_after F hl hR hz (vx_runIN (e_fix F) (hM F.2.2.2.2.2.2.2.2.2) ⟨e_callN F Y.1 hm hdd, Y.2.1, F.2.2.2.2.2.1 _ Y.2.2⟩ (e_pre F hR) rfl hn hl.1 hst (lv_room hroom) hd ⟨hk, by show 256 * k + 256 * mc2 ≤ 256 * mc; omega⟩) hk kx kk

theorem e_throwS (F : e_F K p l s m args meth c cc nL ret own) {cls text : String} {ik is ic : Nat} (hcls : Bundle.fit cls = true) (hk1 : Cond.classLink own ik cls ∈ e_TB) (hini : Cond.initialized cls ∈ e_TB) (hstr : (own, is, text) ∈ e_ST) (hat : ∀ w ∈ vx_atS own ic cls ["java/lang/RuntimeException", "java/lang/Exception"], w ∈ e_TB ∨ (w ∈ e_NW ∧ w.onTables = true)) (hgood : ∀ w ∈ Cond.classLink own ik cls :: Cond.initialized cls :: vx_atS own ic cls ["java/lang/RuntimeException", "java/lang/Exception"], vx_ot w = true)
    (d0 : decode cc pc = .ok (.new ik, 3)) (d3 : decode cc (pc + 3) = .ok (.dup, 1)) (d4 : decode cc (pc + 4) = .ok (.ldc is, 2)) (d6 : decode cc (pc + 6) = .ok (.invokespecial ic, 3)) (d9 : decode cc (pc + 9) = .ok (.athrow, 1)) (hroom : (st.map fun v => v.category).sum ≤ 8) (hdd : 6 ≤ d) (hk : k + 1 ≤ mc) (hpx : ∀ n', n ≤ n' → px cls w n') : e_V K p l e d mc s m args below meth c nL post px (pc) (L) (st) (w) (n) (k) := by
  intro H locs ls hl hR hz
  have hts := F.2.2.2.2.2.1
  have hG := F.2.2.2.2.2.2.2.2.1
  obtain ⟨sa, hsa⟩ := hG.2.2.2.2.2.2 _ hstr
  exact vx_throwS (names := ["java/lang/RuntimeException", "java/lang/Exception"]) (A := e_fr K) F.1 F.2.1 F.2.2.2.2.2.2.2.2.2 F.2.2.2.2.1 hcls (by decide +kernel) (hts _ hk1) (hts _ hini) hsa (fun w hw => (hat w hw).elim (hts w) (fun h => va_Nw.use h.2 (hG.2.1 w h.1))) hgood hG.2.2.2.2.1 hG.2.2.2.2.2.1 ⟨by rw [hR.1]; exact hR.2.2.2.2, fun q _ hn => hR.2.2.2.1 q (Nat.not_le.mp hn), hz⟩ (by rw [F.2.2.1]; exact hl.1) d0 d3 d4 d6 d9 (fun x hx => (F.2.2.2.2.2.2.2.1 x hx).elim) (by show 5 < d; omega) (by show (st.map fun v => v.category).sum + (13 * 3 + 43) ≤ 64 * d; omega) hk (by show 256 * k + 6 ≤ 256 * mc; omega) F.2.2.2.2.2.2.1
    (fun t _ h1 h2 => ⟨w, t.heap.size, hpx _ (by rw [← hR.1]; exact h1), rfl, Nat.le_trans hR.2.1 (by rw [← hR.1]; exact h1), fun q e he => ⟨(hR.2.2.1 q e he).1, (hR.2.2.1 q e he).2.kept (h2 q (by rw [hR.1]; exact hR.lt he))⟩, fun q hq => by rw [h2 q (by rw [hR.1]; exact Nat.lt_of_lt_of_le hq hR.2.1)]; exact hR.2.2.2.1 q hq, Nat.le_trans hR.2.2.2.2 (by rw [← hR.1]; exact h1)⟩) hz hk (by omega)
theorem e_throwSW (F : e_F K p l s m args meth c cc nL ret own) {cls text : String} {ik is ic : Nat} (hcls : Bundle.fit cls = true) (hk1 : Cond.classLink own ik cls ∈ e_TB) (hini : Cond.initialized cls ∈ e_TB) (hstr : (own, is, text) ∈ e_ST) (hat : ∀ w ∈ vx_atS own ic cls ["java/lang/RuntimeException", "java/lang/Exception"], w ∈ e_TB ∨ (w ∈ e_NW ∧ w.onTables = true)) (hgood : ∀ w ∈ Cond.classLink own ik cls :: Cond.initialized cls :: vx_atS own ic cls ["java/lang/RuntimeException", "java/lang/Exception"], vx_ot w = true)
    (d0 : decode cc pc = .ok (.new ik, 3)) (d3 : decode cc (pc + 3) = .ok (.dup, 1)) (d4 : decode cc (pc + 4) = .ok (.ldc_w is, 3)) (d6 : decode cc (pc + 7) = .ok (.invokespecial ic, 3)) (d9 : decode cc (pc + 10) = .ok (.athrow, 1)) (hroom : (st.map fun v => v.category).sum ≤ 8) (hdd : 6 ≤ d) (hk : k + 1 ≤ mc) (hpx : ∀ n', n ≤ n' → px cls w n') : e_V K p l e d mc s m args below meth c nL post px (pc) (L) (st) (w) (n) (k) := by
  intro H locs ls hl hR hz
  have hts := F.2.2.2.2.2.1
  have hG := F.2.2.2.2.2.2.2.2.1
  obtain ⟨sa, hsa⟩ := hG.2.2.2.2.2.2 _ hstr
  exact vx_throwSW (names := ["java/lang/RuntimeException", "java/lang/Exception"]) (A := e_fr K) F.1 F.2.1 F.2.2.2.2.2.2.2.2.2 F.2.2.2.2.1 hcls (by decide +kernel) (hts _ hk1) (hts _ hini) hsa (fun w hw => (hat w hw).elim (hts w) (fun h => va_Nw.use h.2 (hG.2.1 w h.1))) hgood hG.2.2.2.2.1 hG.2.2.2.2.2.1 ⟨by rw [hR.1]; exact hR.2.2.2.2, fun q _ hn => hR.2.2.2.1 q (Nat.not_le.mp hn), hz⟩ (by rw [F.2.2.1]; exact hl.1) d0 d3 d4 d6 d9 (fun x hx => (F.2.2.2.2.2.2.2.1 x hx).elim) (by show 5 < d; omega) (by show (st.map fun v => v.category).sum + (13 * 3 + 43) ≤ 64 * d; omega) hk (by show 256 * k + 6 ≤ 256 * mc; omega) F.2.2.2.2.2.2.1
    (fun t _ h1 h2 => ⟨w, t.heap.size, hpx _ (by rw [← hR.1]; exact h1), rfl, Nat.le_trans hR.2.1 (by rw [← hR.1]; exact h1), fun q e he => ⟨(hR.2.2.1 q e he).1, (hR.2.2.1 q e he).2.kept (h2 q (by rw [hR.1]; exact hR.lt he))⟩, fun q hq => by rw [h2 q (by rw [hR.1]; exact Nat.lt_of_lt_of_le hq hR.2.1)]; exact hR.2.2.2.1 q hq, Nat.le_trans hR.2.2.2.2 (by rw [← hR.1]; exact h1)⟩) hz hk (by omega)
end EV
theorem e_ofV {K : e_K} {l : Launch} {y : MethodName} {cc : ByteArray} {nL : Nat} {rt : Option FieldType} {d mc : Nat} {as : List Value} {w : e_W} {n : Nat} {post : Option Value → e_W → Nat → Prop} {px : String → e_W → Nat → Prop} (hy : plainName y.cls = true) (hsl : (lg_sl as).length ≤ nL)
    (body : ∀ p e s m args below meth c, e_F K p l s m args meth c cc nL rt y.cls → (meth.name = y.name) → e_V K p l e d mc s m args below meth c nL post px 0 (lv_args 0 as) [] w n 0) : e_Met K l y (Cond.code y cc nL rt :: e_TB) d mc as w n post px := by
  intro hst
  refine vx_ofW (cc := cc) (maxL := nL) (ret := rt) hy rfl ?_
  intro p e s m args below meth c s₁ B hml ht hv
  obtain ⟨rfl, hG, hR⟩ := hv
  have hts := atoms_spec B.pre
  have hb := body p e s m as.toArray below meth c ⟨B.exec, B.bytes, hml, B.returns, findClass_of_methodNamed B.named, fun w hw => hts w (List.mem_cons_of_mem _ hw), B.notSynchronized, ht, hG, hst⟩ (name_of_methodNamed B.named B.method).1
  rw [lg_entry_eq]
  exact hb s.heap [] _ (lv_entry as hsl) hR (fun z h => by cases h)
