section
/-! ===== BEGIN words of one list among another's, by their places ===== -/
theorem goodIn_r {big : List Cond} (ws : List Cond) (ps : List Nat) (hp : ws = ps.filterMap (fun i => big[i]?)) (h : ws.all goodWord = true) : GoodIn big ws := by
  intro w hw
  have h1 := List.all_eq_true.mp h w hw
  rw [hp] at hw
  obtain ⟨i, -, hi⟩ := List.mem_filterMap.mp hw
  have hm : w ∈ big := by first | exact List.mem_of_getElem? hi | exact List.getElem?_mem hi
  exact ⟨hm, good_of_word h1⟩
theorem goodIn_app {big a b : List Cond} (ha : GoodIn big a) (hb : GoodIn big b) : GoodIn big (a ++ b) := fun w h => (List.mem_append.mp h).elim (ha w) (hb w)
theorem goodIn_ca {big a b : List Cond} {c : Cond} (ha : GoodIn big (c :: a)) (hb : GoodIn big b) : GoodIn big (c :: (a ++ b)) := fun w h => (List.mem_cons.mp h).elim (fun e => ha w (List.mem_cons.mpr (Or.inl e))) (fun h => (List.mem_append.mp h).elim (fun h => ha w (List.mem_cons.mpr (Or.inr h))) (hb w))
theorem goodIn_sub {big ws : List Cond} (hm : ∀ w ∈ ws, w ∈ big) (h : ws.all goodWord = true) : GoodIn big ws := fun w hw => ⟨hm w hw, good_of_word (List.all_eq_true.mp h w hw)⟩
/-! ===== END ===== -/
/-! ===== BEGIN exceptions that leave a method, and their catching by the caller (launches without stack traces) ===== -/
section VXA
/-! The laws vx_back, vx_callV, vx_callS, vx_callSW, vx_throw0, vx_throwS follow proofs of the library, with one case more: JvmDerived/Free/Laws.lean (Back.of_free), Shelf42/LK1.lean (callV, callS), Shelf/KitTraced.lean (throwNew0V, throwNewS). -/
/-- where a method has thrown q: the class by its name, the cell, what was written, the world -/
def vx_T (XC : String → State → State → Prop) (st : State) (q : Addr) (t : State) (mc ms : Nat) (free : Addr → Prop) : Prop :=
  ∃ (E : String) (ce : Cell) (L : List Loc), XC E st t ∧ t.heap[q]? = some ce ∧ ce.vm = .none ∧ st.vm.findClass E = some ce.cls ∧ st.WarmedH t.vm ∧ st.sameButNew ({ t with vm := st.vm } : State) L mc ms ∧ ∀ z ∈ L, free z.base
def vx_Q (Qc : Array Value → State → Outcome → State → Prop) (XC : String → State → State → Prop) (mc ms : Nat) (free : Addr → Prop) : Array Value → State → Outcome → State → Prop := fun a st o t =>
  (Qc a st o t ∧ ∃ L, FrameEnd st o t L mc ms ∧ ∀ q ∈ L, free q.base) ∨ ∃ q, o = .threw q ∧ vx_T XC st q t mc ms free
/-- a callee that returns or throws -/
def vx_Met (l : Launch) (y : MethodName) (ws : List Cond) (rm : Room) (Pc : Array Value → State → Prop) (Qc : Array Value → State → Outcome → State → Prop) (XC : String → State → State → Prop) (mc ms : Nat) (free : Addr → Prop) : Prop :=
  MetFree l y (headSpec ws rm) Pc (fun _ _ _ _ _ => True) (vx_Q Qc XC mc ms free)
def vx_Post (XC : String → State → State → Prop) (mc ms : Nat) (free : Addr → Prop) : Pt → Array Value → Addr → Pt → Prop := fun A a q B =>
  ∃ (g : JFrame) (mk : MethodId) (t : State) (L : List Loc) (E : String) (ce : Cell), B.U.heap = t.heap ∧ B.U.vm = t.vm ∧ XC E (A.U.calling g mk a) t ∧ t.heap[q]? = some ce ∧ ce.vm = .none ∧ A.U.vm.findClass E = some ce.cls ∧ B.locs = A.locs ++ L ∧ (∀ z ∈ L, free z.base) ∧ B.cells = A.cells + mc ∧ B.slots = A.slots + ms
def vx_Back (l : Launch) (R : Room) (p : Program) (e : Env) (below : List Frame) (s : State) (sargs : Array Value) (y : MethodName) (len W9 : Nat)
    (Pre : Pt → Array Value → Prop) (Post : Pt → Array Value → Option Value → Pt → Prop) (PostX : Pt → Array Value → Addr → Pt → Prop) : Prop :=
  ∀ (m : MethodId) (meth : Method) (c : Code) (A : Pt) (g : JFrame) (ig : Instr) (mk : MethodId) (a : Array Value),
    Stand p l e R s m sargs below meth c A.U A.locs A.cells A.slots → g.method = m → g.locals.size = c.maxLocals → decode c.code g.pc = .ok (ig, len) →
    2 * g.monitorRoom + (g.stack.map fun v => v.category).sum ≤ W9 → A.U.methodNamed? y = some mk → Pre A a →
    (∃ (v : Option Value) (B : Pt), Stand p l e R s m sargs below meth c B.U B.locs B.cells B.slots ∧ Post A a v B ∧
      Steps p.tables e below (doInvoke e (A.U.setTop g) [] mk a).1 (B.U.setTop { g with pc := g.pc + len, stack := v.toList ++ g.stack })) ∨
    (∃ (q : Addr) (B : Pt), Stand p l e R s m sargs below meth c B.U B.locs B.cells B.slots ∧ PostX A a q B ∧
      Steps p.tables e below (doInvoke e (A.U.setTop g) [] mk a).1 ((B.U.setTop g).pushFrame (.throwing q)))
section Payer
variable {l : Launch} {R : Room} {p : Program} {e : Env} {below : List Frame} {s : State} {sargs : Array Value} {y : MethodName} {len W9 : Nat}
theorem vx_back {ws : List Cond} {rm : Room} {Pc : Array Value → State → Prop} {Qc : Array Value → State → Outcome → State → Prop} {XC : String → State → State → Prop} {mc ms : Nat} {free : Addr → Prop} {bytes : ByteArray} {maxL : Nat} {ret : Option FieldType}
    (hM : vx_Met l y ws rm Pc Qc XC mc ms free) (hblind : FrameBlind Pc) (hrc : rm.cells = mc) (hrs : rm.slots = ms)
    (hframes : rm.frames + 1 ≤ R.frames) (hlocals : W9 + (maxL + 11) + rm.locals ≤ R.locals)
    (hws : ∀ w ∈ ws, ∀ a' U, s.WarmedH U.vm → w.before a' U = true) (hcode : Cond.code y bytes maxL ret ∈ ws) (hinit : ∀ a' U, s.WarmedH U.vm → (Cond.initialized y.cls).before a' U = true) :
    vx_Back l R p e below s sargs y len W9 (PreOf R mc ms Pc) (PostOf Qc mc ms free) (vx_Post XC mc ms free) := by
  intro m meth c A g ig mk a X hg hsize hdg hW hn hp
  have h1 : (headSpec ws rm).pre.before a A.U = true := atoms_intro fun w hw => hws w hw _ _ X.warmed
  have h2 : (Cond.code y bytes maxL ret).before a A.U = true := hws _ hcode _ _ X.warmed
  have h3 : (Cond.initialized y.cls).before a A.U = true := hinit _ _ X.warmed
  have h4 : A.cells + (headSpec ws rm).room.cells ≤ R.cells := by rw [show (headSpec ws rm).room.cells = mc from hrc]; exact hp.1
  have h5 : A.slots + (headSpec ws rm).room.slots ≤ R.slots := by rw [show (headSpec ws rm).room.slots = ms from hrs]; exact hp.2.1
  have hPc : Pc a (A.U.calling g mk a) := hblind _ _ _ _ hp.2.2
  obtain ⟨U, Ls, c0, s0⟩ := A
  dsimp only [Pt.U, Pt.locs, Pt.cells, Pt.slots] at h1 h2 h3 h4 h5 X hn hPc ⊢
  obtain ⟨methY, cY, hmY, hcY, -, hlY, -, -, -, -⟩ := Cond.code_spec hn h2
  obtain ⟨kY, hkY, -⟩ := className_of_methodNamed hn
  have hinitY : kY.init = .initialized := Cond.initialized_spec (findClass_of_methodNamed hn) hkY h3
  have h : At U g.method c below := by rw [hg]; exact X.here
  have hlocals9 : W9 + (maxL + 11) + (headSpec ws rm).room.locals ≤ R.locals := hlocals
  have happ : (headSpec ws rm).appliesLoose y e.platform (U.calling g mk a) = true :=
    Spec.appliesLoose_calling (g := g) h hdg hn hkY hinitY
      (X.room_calling (g := g) (R' := (headSpec ws rm).room) hsize hmY hcY hframes (by rw [hlY]; omega) h4 h5) h1
  obtain ⟨mid, hmid⟩ := h.above
  have hfr : (U.setTop g).frames = (.java g :: mid) ++ below := by rw [State.frames_setTop' g h.top, hmid]; rfl
  obtain ⟨o, s₂, hsteps, -, hend, hq⟩ := Steps.callFree hM p X.admits X.cas X.clock (acts := []) hfr happ hPc trivial
  have hq' : vx_Q Qc XC mc ms free a (U.calling g mk a) o s₂ := hq
  rw [State.frames_setTop' g h.top] at hend
  obtain ⟨g₀, hg0⟩ := Option.isSome_iff_exists.mp h.top
  obtain ⟨r, hr⟩ := State.topJava?_eq_some.mp hg0
  have hr' : (({ U with heap := s₂.heap, slotsUsed := s₂.slotsUsed } : State).setVm s₂.vm).frames = .java g₀ :: r := hr
  rcases hq' with ⟨hqc, L, hfe, hL⟩ | ⟨q, rfl, E, ce, L, hx, hce, hcv, hcl, hW₂, hsm, hL⟩
  · obtain ⟨⟨v, rfl⟩, hW₂, e2, q2, q3, q4, q5, q6⟩ := id hfe
    have e3 : s₂ = ({ (U.calling g mk a).setFrames s₂.frames with heap := s₂.heap, slotsUsed := s₂.slotsUsed } : State).setVm s₂.vm := by
      have : s₂ = ({ s₂ with vm := (U.calling g mk a).vm } : State).setVm s₂.vm := rfl
      rw [e2] at this
      exact this
    obtain ⟨c₂, i₂, len₂, hc₂, hd₂, hf₂⟩ := hend
    have hW' : U.WarmedH s₂.vm := hW₂
    have hcc : c₂ = c := by
      have h1 : s₂.code? g.method = U.code? g.method := by
        rw [State.code?_eq, State.code?_eq, hW'.alike.method?]
      exact Option.some.inj (hc₂.symm.trans (h1.trans h.code))
    subst hcc
    have hlen : len₂ = len := by rw [hdg] at hd₂; cases hd₂; rfl
    subst hlen
    have hs₂ : s₂ = (({ U with heap := s₂.heap, slotsUsed := s₂.slotsUsed } : State).setVm s₂.vm).setTop { g with pc := g.pc + len₂, stack := v.toList ++ g.stack } := by
      refine e3.trans ?_
      rw [hf₂, State.calling_eq h.top, State.setFrames_setFrames, State.setTop_of_frames _ hr', hr]
      rfl
    have hsame : U.sameButNew ({ U with heap := s₂.heap, slotsUsed := s₂.slotsUsed } : State) L mc ms := by
      refine ⟨?_, q2, q3, q4, q5, q6⟩
      obtain ⟨t, ht, -⟩ := State.frames_cons hr
      show ({ U with heap := s₂.heap, slotsUsed := s₂.slotsUsed } : State) = { U.setFrames U.frames with heap := s₂.heap, slotsUsed := s₂.slotsUsed }
      rw [State.setFrames_self ht]
    subst hg
    refine Or.inl ⟨v, ⟨(({ U with heap := s₂.heap, slotsUsed := s₂.slotsUsed } : State).setVm s₂.vm), Ls ++ L, c0 + mc, s0 + ms⟩,
      ⟨X.admits, X.cas, X.clock, X.frames, X.room, X.hears, X.method, X.code, (X.here.setHeapUsed s₂.heap s₂.slotsUsed).setVm hW'.alike, X.tail, State.WarmedH.trans X.warmed hW', X.limits, X.bytes, X.same.trans (hsame.setVm s.vm)⟩,
      ⟨g, mk, s₂, L, rfl, rfl, hqc, rfl, hL, rfl, rfl⟩, ?_⟩
    show Steps p.tables e below _ ((({ U with heap := s₂.heap, slotsUsed := s₂.slotsUsed } : State).setVm s₂.vm).setTop { g with pc := g.pc + len₂, stack := v.toList ++ g.stack })
    rw [← hs₂]
    exact hsteps
  · obtain ⟨e2, q2, q3, q4, q5, q6⟩ := id hsm
    have e3 : s₂ = ({ (U.calling g mk a).setFrames s₂.frames with heap := s₂.heap, slotsUsed := s₂.slotsUsed } : State).setVm s₂.vm := by
      have : s₂ = ({ s₂ with vm := (U.calling g mk a).vm } : State).setVm s₂.vm := rfl
      rw [e2] at this
      exact this
    have hf₂ : s₂.frames = .throwing q :: .java g :: U.frames.tail := hend
    have hW' : U.WarmedH s₂.vm := hW₂
    have hs₂ : s₂ = ((({ U with heap := s₂.heap, slotsUsed := s₂.slotsUsed } : State).setVm s₂.vm).setTop g).pushFrame (.throwing q) := by
      refine e3.trans ?_
      rw [hf₂, State.calling_eq h.top, State.setFrames_setFrames, State.pushFrame, State.frames_setTop _ hr', State.setTop_of_frames _ hr', State.setFrames_setFrames, hr]
      rfl
    have hsame : U.sameButNew ({ U with heap := s₂.heap, slotsUsed := s₂.slotsUsed } : State) L mc ms := by
      refine ⟨?_, q2, q3, q4, q5, q6⟩
      obtain ⟨t, ht, -⟩ := State.frames_cons hr
      show ({ U with heap := s₂.heap, slotsUsed := s₂.slotsUsed } : State) = { U.setFrames U.frames with heap := s₂.heap, slotsUsed := s₂.slotsUsed }
      rw [State.setFrames_self ht]
    subst hg
    refine Or.inr ⟨q, ⟨(({ U with heap := s₂.heap, slotsUsed := s₂.slotsUsed } : State).setVm s₂.vm), Ls ++ L, c0 + mc, s0 + ms⟩,
      ⟨X.admits, X.cas, X.clock, X.frames, X.room, X.hears, X.method, X.code, (X.here.setHeapUsed s₂.heap s₂.slotsUsed).setVm hW'.alike, X.tail, State.WarmedH.trans X.warmed hW', X.limits, X.bytes, X.same.trans (hsame.setVm s.vm)⟩,
      ⟨g, mk, s₂, L, E, ce, rfl, rfl, hx, hce, hcv, hcl, rfl, hL, rfl, rfl⟩, ?_⟩
    show Steps p.tables e below _ (((({ U with heap := s₂.heap, slotsUsed := s₂.slotsUsed } : State).setVm s₂.vm).setTop g).pushFrame (.throwing q))
    rw [← hs₂]
    exact hsteps
end Payer
section Calls
variable {p : Program} {l : Launch} {e : Env} {R : Room} {s : State} {m : MethodId} {args : Array Value} {below : List Frame} {meth : Method} {c : Code} {T : State} {locs : List Loc} {cells slots : Nat}
theorem vx_callV (X : Stand p l e R s m args below meth c T locs cells slots) (hexec : p.tables.exec = Jvm.exec) {own C : String} {index : Nat} {y : MethodName} {bytes : ByteArray} {maxL : Nat} {ret : Option FieldType}
    (hown : s.vm.findClass own = some m.cls) (hlink : (Cond.methodLink own index y).before args s = true) (hinst : (Cond.instanceMethod y).before args s = true) (hsel : (Cond.selects C y y).before args s = true)
    (hcode : (Cond.code y bytes maxL ret).before args s = true) (hy : y.cls ≠ "java/lang/invoke/MethodHandle" ∧ y.cls ≠ "java/lang/invoke/VarHandle")
    {W9 : Nat} {Pre : Pt → Array Value → Prop} {Post : Pt → Array Value → Option Value → Pt → Prop} {PostX : Pt → Array Value → Addr → Pt → Prop} (hK : vx_Back l R p e below s args y 3 W9 Pre Post PostX)
    {b : Addr} {cellB : Cell} (hcell : T.heap[b]? = some cellB) (hobj : cellB.vm.isStatics = false) (hcls : s.vm.findClass C = some cellB.cls)
    {g : JFrame} (hg : g.method = m) (hsize : g.locals.size = c.maxLocals) {argsL rest : List Value} (hlen : ∀ sig, parseMethodDescriptor y.desc = some sig → argsL.length = sig.parameters.length)
    (hstack : g.stack = argsL.reverse ++ .ref b :: rest) (hW : 2 * g.monitorRoom + (rest.map fun v => v.category).sum ≤ W9) (hdg : decode c.code g.pc = .ok (.invokevirtual index, 3))
    (hpre : ∀ vm₁, s.WarmedH vm₁ → Pre ⟨T.setVm vm₁, locs, cells, slots⟩ (Value.ref b :: argsL).toArray) :
    (∃ (v : Option Value) (vm₁ : Vm) (B : Pt), s.WarmedH vm₁ ∧ Stand p l e R s m args below meth c B.U B.locs B.cells B.slots ∧ Post ⟨T.setVm vm₁, locs, cells, slots⟩ (Value.ref b :: argsL).toArray v B ∧
      ∀ target, Steps p.tables e below (B.U.setTop { g with pc := g.pc + 3, stack := v.toList ++ rest }) target → Steps p.tables e below (T.setTop g) target) ∨
    (∃ (q : Addr) (vm₁ : Vm) (B : Pt), s.WarmedH vm₁ ∧ Stand p l e R s m args below meth c B.U B.locs B.cells B.slots ∧ PostX ⟨T.setVm vm₁, locs, cells, slots⟩ (Value.ref b :: argsL).toArray q B ∧
      Steps p.tables e below (T.setTop g) ((B.U.setTop { g with stack := rest }).pushFrame (.throwing q))) := by
  obtain ⟨mk, methM, hnamed, hmethM, hstM, habM⟩ := Cond.instanceMethod_spec hinst
  obtain ⟨methM', cM, hmethM', -, -, -, -, -, -, hsigM⟩ := Cond.code_spec hnamed hcode
  cases hmethM.symm.trans hmethM'
  obtain ⟨c2, r2, m2, q1, q2, q3, q4, kP, hkP, hkPi⟩ := Cond.selects_spec hsel
  cases hcls.symm.trans q1
  cases (State.methodFound?_of_named hnamed hy).symm.trans q2
  cases hnamed.symm.trans q3
  have hselP : selectMethod e.platform s.vm cellB.cls mk = .method mk := by rw [Launch.admits_selectMethod X.admits]; exact q4
  obtain ⟨vm₁, X₁, hstep₁⟩ := X.invokevirtual hexec hown hlink hnamed hmethM hstM hkP hkPi hy (a := b) (cell := cellB) hcell
    (fun z h => by rw [h] at hobj; cases hobj) hselP hmethM habM hkP hkPi (g := g) hg (argsL := argsL) (rest := rest) (hlen _ hsigM) hstack hdg
  rcases hK m meth c ⟨T.setVm vm₁, locs, cells, slots⟩ { g with stack := rest } (.invokevirtual index) mk (Value.ref b :: argsL).toArray X₁ hg hsize hdg hW (X₁.named hnamed) (hpre vm₁ X₁.warmed) with ⟨v, B, X', hpost, hsteps⟩ | ⟨q, B, X', hpost, hsteps⟩
  · exact Or.inl ⟨v, vm₁, B, X₁.warmed, X', hpost, fun target h => hstep₁ _ fun acts => by rw [doInvoke_state]; exact hsteps.trans h⟩
  · exact Or.inr ⟨q, vm₁, B, X₁.warmed, X', hpost, hstep₁ _ fun acts => by rw [doInvoke_state]; exact hsteps⟩
theorem vx_callS (X : Stand p l e R s m args below meth c T locs cells slots) (hexec : p.tables.exec = Jvm.exec) {own : String} {index : Nat} {y : MethodName} {bytes : ByteArray} {maxL : Nat} {ret : Option FieldType}
    (hown : s.vm.findClass own = some m.cls) (hlink : (Cond.methodLink own index y).before args s = true) (hstat : (Cond.static y).before args s = true) (hinit : (Cond.initialized y.cls).before args s = true)
    (hcode : (Cond.code y bytes maxL ret).before args s = true) (hy : y.cls ≠ "java/lang/invoke/MethodHandle" ∧ y.cls ≠ "java/lang/invoke/VarHandle")
    {W9 : Nat} {Pre : Pt → Array Value → Prop} {Post : Pt → Array Value → Option Value → Pt → Prop} {PostX : Pt → Array Value → Addr → Pt → Prop} (hK : vx_Back l R p e below s args y 3 W9 Pre Post PostX)
    {g : JFrame} (hg : g.method = m) (hsize : g.locals.size = c.maxLocals) {argsL rest : List Value} (hlen : ∀ sig, parseMethodDescriptor y.desc = some sig → argsL.length = sig.parameters.length)
    (hstack : g.stack = argsL.reverse ++ rest) (hW : 2 * g.monitorRoom + (rest.map fun v => v.category).sum ≤ W9) (hdg : decode c.code g.pc = .ok (.invokestatic index, 3))
    (hpre : ∀ vm₁, s.WarmedH vm₁ → Pre ⟨T.setVm vm₁, locs, cells, slots⟩ argsL.toArray) :
    (∃ (v : Option Value) (vm₁ : Vm) (B : Pt), s.WarmedH vm₁ ∧ Stand p l e R s m args below meth c B.U B.locs B.cells B.slots ∧ Post ⟨T.setVm vm₁, locs, cells, slots⟩ argsL.toArray v B ∧
      ∀ target, Steps p.tables e below (B.U.setTop { g with pc := g.pc + 3, stack := v.toList ++ rest }) target → Steps p.tables e below (T.setTop g) target) ∨
    (∃ (q : Addr) (vm₁ : Vm) (B : Pt), s.WarmedH vm₁ ∧ Stand p l e R s m args below meth c B.U B.locs B.cells B.slots ∧ PostX ⟨T.setVm vm₁, locs, cells, slots⟩ argsL.toArray q B ∧
      Steps p.tables e below (T.setTop g) ((B.U.setTop { g with stack := rest }).pushFrame (.throwing q))) := by
  obtain ⟨mk, hnamed⟩ := Cond.code_named hcode
  obtain ⟨methM, cM, hmethM, -, -, -, -, -, -, hsigM⟩ := Cond.code_spec hnamed hcode
  have hstatic : methM.isStatic = true := Cond.static_spec hnamed hmethM hstat
  obtain ⟨kP, hkP, -⟩ := className_of_methodNamed hnamed
  have hinitP : kP.init = .initialized := Cond.initialized_spec (findClass_of_methodNamed hnamed) hkP hinit
  obtain ⟨vm₁, X₁, hstep₁⟩ := X.invokestatic hexec hown hlink hnamed hmethM hstatic hkP hinitP hy (g := g) hg (argsL := argsL) (rest := rest) (hlen _ hsigM) hstack hdg
  rcases hK m meth c ⟨T.setVm vm₁, locs, cells, slots⟩ { g with stack := rest } (.invokestatic index) mk argsL.toArray X₁ hg hsize hdg hW (X₁.named hnamed) (hpre vm₁ X₁.warmed) with ⟨v, B, X', hpost, hsteps⟩ | ⟨q, B, X', hpost, hsteps⟩
  · exact Or.inl ⟨v, vm₁, B, X₁.warmed, X', hpost, fun target h => hstep₁ _ fun acts => by rw [doInvoke_state]; exact hsteps.trans h⟩
  · exact Or.inr ⟨q, vm₁, B, X₁.warmed, X', hpost, hstep₁ _ fun acts => by rw [doInvoke_state]; exact hsteps⟩
end Calls
theorem vx_cls {s : State} {T : State} {vm₁ : Vm} {E : String} {k : ClassId} (hW : s.WarmedH vm₁) (h : (T.setVm vm₁).vm.findClass E = some k) : s.vm.findClass E = some k := by
  have h1 : vm₁.findClass E = some k := h
  rw [hW.alike.findClass] at h1
  exact h1
/-- the method's frame g, with q thrown over it -/
def vx_W (p : Program) (l : Launch) (e : Env) (R : Room) (s : State) (m : MethodId) (args : Array Value) (below : List Frame) (meth : Method) (c : Code) (H : Heap) (locs : List Loc) (cells slots : Nat) (Q : State → Prop) (g : JFrame) (q : Addr) : Prop :=
  ∀ T : State, T.heap = H → Stand p l e R s m args below meth c T locs cells slots → ∃ t, Steps p.tables e below ((T.setTop g).pushFrame (.throwing q)) t ∧ Q t
def vx_Run (p : Program) (l : Launch) (e : Env) (R : Room) (s : State) (m : MethodId) (args : Array Value) (below : List Frame) (meth : Method) (c : Code) (H : Heap) (locs : List Loc) (cells slots mc ms : Nat) (g : JFrame) (rest : List Value) (Qa : State → Outcome → State → Prop) (XC : String → State → State → Prop) (free : Addr → Prop) : Prop :=
  ∀ T : State, T.heap = H → Stand p l e R s m args below meth c T locs cells slots →
    (∃ (v : Option Value) (st₀ t T' : State) (L : List Loc), st₀.heap = H ∧ Stand p l e R s m args below meth c T' (locs ++ L) (cells + mc) (slots + ms) ∧ (∀ q ∈ L, free q.base) ∧ T'.heap = t.heap ∧ T'.vm = t.vm ∧ Qa st₀ (.returned v) t ∧
      Goes p e below T g T' { g with pc := g.pc + 3, stack := v.toList ++ rest }) ∨
    (∃ (q : Addr) (st₀ t T' : State) (L : List Loc) (E : String) (ce : Cell), st₀.heap = H ∧ Stand p l e R s m args below meth c T' (locs ++ L) (cells + mc) (slots + ms) ∧ (∀ z ∈ L, free z.base) ∧ T'.heap = t.heap ∧ T'.vm = t.vm ∧ XC E st₀ t ∧ t.heap[q]? = some ce ∧ ce.vm = .none ∧ s.vm.findClass E = some ce.cls ∧
      Steps p.tables e below (T.setTop g) ((T'.setTop { g with stack := rest }).pushFrame (.throwing q)))
def vx_X {S : Type} (px : S → Prop) (B : String → S → State → Prop) (A : Nat → Prop) : String → State → State → Prop := fun E st t => ∃ u : S, px u ∧ B E u t ∧ va_F A st t
section Runs
variable {p : Program} {l : Launch} {e : Env} {R : Room} {s : State} {m : MethodId} {args : Array Value} {below : List Frame} {meth : Method} {c : Code} {H : Heap} {locs : List Loc} {cells slots : Nat}
variable {y : MethodName} {bytes cc : ByteArray} {maxL nL mc ms n index : Nat} {ret : Option FieldType} {ws : List Cond} {rm : Room} {Pc : Array Value → State → Prop} {Qc : Array Value → State → Outcome → State → Prop} {XC : String → State → State → Prop} {free : Addr → Prop} {Ts : List Cond} {own C : String} {b : Addr} {As rest : List Value} {g : JFrame}
theorem vx_callBack (cb : CallB R s args own index y bytes maxL ret ws rm mc ms n) (hM : vx_Met l y ws rm Pc Qc XC mc ms free) (hbl : FrameBlind Pc) : vx_Back l R p e below s args y 3 8 (PreOf R mc ms Pc) (PostOf Qc mc ms free) (vx_Post XC mc ms free) := by
  obtain ⟨hrc, hrs, hfr, hlo, hws, hcw, -, hini, -⟩ := cb
  exact vx_back (bytes := bytes) (maxL := maxL) (ret := ret) hM hbl hrc hrs hfr hlo hws hcw (fun a' U hW => word_at hW (Or.inl (by first | rfl | simp [Cond.onTables, Cond.keeps, Cond.steady])) hini)
theorem vx_runV (S : CallFix p m c cc nL s args Ts own) (hM : vx_Met l y ws rm Pc Qc XC mc ms free) (cw : CallW R s args own C index y bytes maxL ret ws rm mc ms n) (hp : PreV s H C b Pc As)
    (hg : g.method = m) (hn : As.length = n) (hsize : g.locals.size = nL) (hstack : g.stack = As.reverse ++ .ref b :: rest) (hW : 2 * g.monitorRoom + (rest.map fun v => v.category).sum ≤ 8) (hdg : decode cc g.pc = .ok (.invokevirtual index, 3)) (hf : cells + mc ≤ R.cells ∧ slots + ms ≤ R.slots) :
    vx_Run p l e R s m args below meth c H locs cells slots mc ms g rest (Qc (Value.ref b :: As).toArray) XC free := by
  have hK : vx_Back l R p e below s args y 3 8 (PreOf R mc ms Pc) (PostOf Qc mc ms free) (vx_Post XC mc ms free) := vx_callBack cw.1 hM hp.1
  obtain ⟨⟨-, -, -, -, -, -, hcode, -, hy, hlen, hl⟩, hin, hse⟩ := cw
  obtain ⟨hx, hb, hml, ho, -⟩ := S
  obtain ⟨-, ⟨cellB, hcB, hoB, hclB⟩, hPc⟩ := hp
  intro T hT X
  rcases vx_callV X hx (C := C) (bytes := bytes) (maxL := maxL) (ret := ret) ho hl hin hse hcode hy hK (by rw [hT]; exact hcB) hoB hclB hg (hsize.trans hml.symm) (argsL := As) (rest := rest) (fun sig h => hn.trans (hlen sig h)) hstack hW (by rw [hb]; exact hdg)
    (fun vm₁ hW₁ => ⟨hf.1, hf.2, hPc (T.setVm vm₁) hT hW₁⟩) with ⟨v, vm₁, ⟨U', l2, c2, s2⟩, hW₁, X', ⟨g', mk, t, L, e1, e2, hq, h1, hL, h2, h3⟩, st⟩ | ⟨q, vm₁, ⟨U', l2, c2, s2⟩, hW₁, X', ⟨g', mk, t, L, E, ce, e1, e2, hq, hce, hcv, hcl, h1, hL, h2, h3⟩, st⟩
  · dsimp only [Pt.U, Pt.locs, Pt.cells, Pt.slots] at X' e1 e2 h1 h2 h3 st
    subst h1; subst h2; subst h3
    exact Or.inl ⟨v, (T.setVm vm₁).calling g' mk (Value.ref b :: As).toArray, t, U', L, hT, X', hL, e1, e2, hq, st⟩
  · dsimp only [Pt.U, Pt.locs, Pt.cells, Pt.slots] at X' e1 e2 h1 h2 h3 st hcl
    subst h1; subst h2; subst h3
    exact Or.inr ⟨q, (T.setVm vm₁).calling g' mk (Value.ref b :: As).toArray, t, U', L, E, ce, hT, X', hL, e1, e2, hq, hce, hcv, vx_cls hW₁ hcl, st⟩
theorem vx_runS (S : CallFix p m c cc nL s args Ts own) (hM : vx_Met l y ws rm Pc Qc XC mc ms free) (cw : CallB R s args own index y bytes maxL ret ws rm mc ms n ∧ (Cond.static y).before args s = true) (hp : PreS s H Pc As)
    (hg : g.method = m) (hn : As.length = n) (hsize : g.locals.size = nL) (hstack : g.stack = As.reverse ++ rest) (hW : 2 * g.monitorRoom + (rest.map fun v => v.category).sum ≤ 8) (hdg : decode cc g.pc = .ok (.invokestatic index, 3)) (hf : cells + mc ≤ R.cells ∧ slots + ms ≤ R.slots) :
    vx_Run p l e R s m args below meth c H locs cells slots mc ms g rest (Qc As.toArray) XC free := by
  have hK : vx_Back l R p e below s args y 3 8 (PreOf R mc ms Pc) (PostOf Qc mc ms free) (vx_Post XC mc ms free) := vx_callBack cw.1 hM hp.1
  obtain ⟨⟨-, -, -, -, -, -, hcode, hini, hy, hlen, hl⟩, hstt⟩ := cw
  obtain ⟨hx, hb, hml, ho, -⟩ := S
  intro T hT X
  rcases vx_callS X hx (bytes := bytes) (maxL := maxL) (ret := ret) ho hl hstt hini hcode hy hK hg (hsize.trans hml.symm) (argsL := As) (rest := rest) (fun sig h => hn.trans (hlen sig h)) hstack hW (by rw [hb]; exact hdg)
    (fun vm₁ hW₁ => ⟨hf.1, hf.2, hp.2 (T.setVm vm₁) hT hW₁⟩) with ⟨v, vm₁, ⟨U', l2, c2, s2⟩, hW₁, X', ⟨g', mk, t, L, e1, e2, hq, h1, hL, h2, h3⟩, st⟩ | ⟨q, vm₁, ⟨U', l2, c2, s2⟩, hW₁, X', ⟨g', mk, t, L, E, ce, e1, e2, hq, hce, hcv, hcl, h1, hL, h2, h3⟩, st⟩
  · dsimp only [Pt.U, Pt.locs, Pt.cells, Pt.slots] at X' e1 e2 h1 h2 h3 st
    subst h1; subst h2; subst h3
    exact Or.inl ⟨v, (T.setVm vm₁).calling g' mk As.toArray, t, U', L, hT, X', hL, e1, e2, hq, st⟩
  · dsimp only [Pt.U, Pt.locs, Pt.cells, Pt.slots] at X' e1 e2 h1 h2 h3 st hcl
    subst h1; subst h2; subst h3
    exact Or.inr ⟨q, (T.setVm vm₁).calling g' mk As.toArray, t, U', L, E, ce, hT, X', hL, e1, e2, hq, hce, hcv, vx_cls hW₁ hcl, st⟩
end Runs
section Rows
variable {p : Program} {l : Launch} {e : Env} {R : Room} {s : State} {m : MethodId} {args : Array Value} {below : List Frame} {meth : Method} {c : Code} {H : Heap} {locs : List Loc} {cells slots : Nat} {Q : State → Prop}
variable {mc ms : Nat} {free : Addr → Prop} {A0 A1 : Nat → Prop} {H0 : Heap} {a : Array Value} {pc : Nat} {ls : Array Slot} {st0 rest : List Value}
theorem vx_keep {st₀ t T' : State} {L : List Loc} (h0 : st₀.heap = H) (e1 : T'.heap = t.heap) (hS : va_S A0 H0 H locs) (hA : ∀ q, q < H.size → A1 q → A0 q) (hf : ∀ q, free q → A0 q) (hL : ∀ q ∈ L, free q.base) (hF : va_F A1 st₀ t) :
    H.size ≤ T'.heap.size ∧ (∀ q : Nat, q < H.size → ¬ A1 q → T'.heap[q]? = H[q]?) ∧ va_S A0 H0 T'.heap (locs ++ L) := by
  obtain ⟨hz, hk⟩ := hF
  rw [h0] at hz hk
  exact ⟨by rw [e1]; exact hz, fun q h1 h2 => by rw [e1]; exact hk q h1 h2,
    ⟨Nat.le_trans hS.1 (by rw [e1]; exact hz), fun q h1 h2 => by rw [e1, hk q (Nat.lt_of_lt_of_le h1 hS.1) (fun z => h2 (hA q (Nat.lt_of_lt_of_le h1 hS.1) z))]; exact hS.2.1 q h1 h2, fun q hq => by
      rcases List.mem_append.mp hq with h | h
      · exact hS.2.2 q h
      · exact hf _ (hL q h)⟩⟩
theorem vx_calli {S SX : Type} {post : Int32 → S → Prop} {px : SX → Prop} {B : S → State → Prop} {BX : String → SX → State → Prop} {AX : Nat → Prop} (hr : vx_Run p l e R s m args below meth c H locs cells slots mc ms (F0 m pc ls st0) rest (va_Qi post B A1 a) (vx_X px BX AX) free) (hS : va_S A0 H0 H locs) (hA : ∀ q, q < H.size → A1 q → A0 q) (hf : ∀ q, free q → A0 q) (hAX : ∀ q, q < H.size → AX q → A0 q)
    (kx : ∀ (E : String) (ce : Cell) (q9 : Addr) (u : SX) (t : State) (H1 : Heap) (locs1 : List Loc), t.heap = H1 → s.vm.Alike t.vm → px u → BX E u t → H.size ≤ H1.size → (∀ q : Nat, q < H.size → ¬ AX q → H1[q]? = H[q]?) → va_S A0 H0 H1 locs1 → H1[q9]? = some ce → ce.vm = .none → s.vm.findClass E = some ce.cls → vx_W p l e R s m args below meth c H1 locs1 (cells + mc) (slots + ms) Q (F0 m pc ls rest) q9)
    (kk : ∀ (r : Int32) (u : S) (t : State) (H1 : Heap) (locs1 : List Loc), t.heap = H1 → s.vm.Alike t.vm → post r u → B u t → H.size ≤ H1.size → (∀ q : Nat, q < H.size → ¬ A1 q → H1[q]? = H[q]?) → va_S A0 H0 H1 locs1 → W p l e R s m args below meth c H1 locs1 (cells + mc) (slots + ms) Q (F0 m (pc + 3) ls (.int r :: rest))) : W p l e R s m args below meth c H locs cells slots Q (F0 m pc ls st0) := by
  intro T hT X
  rcases hr T hT X with ⟨v, st₀, t, T', L, h0, X', hL, e1, e2, ⟨⟨r, u, hv, hp, hb⟩, hF⟩, st⟩ | ⟨q, st₀, t, T', L, E, ce, h0, X', hL, e1, e2, ⟨u, hp, hb, hF⟩, hce, hcv, hcl, st⟩
  · cases hv
    obtain ⟨k1, k2, k3⟩ := vx_keep h0 e1 hS hA hf hL hF
    obtain ⟨t2, a1, b1⟩ := kk r u t T'.heap (locs ++ L) e1.symm (by rw [← e2]; exact X'.warmed.alike) hp hb k1 k2 k3 T' rfl X'
    exact ⟨t2, st t2 a1, b1⟩
  · obtain ⟨k1, k2, k3⟩ := vx_keep h0 e1 hS hAX hf hL hF
    obtain ⟨t2, a1, b1⟩ := kx E ce q u t T'.heap (locs ++ L) e1.symm (by rw [← e2]; exact X'.warmed.alike) hp hb k1 k2 k3 (by rw [e1]; exact hce) hcv hcl T' rfl X'
    exact ⟨t2, st.trans a1, b1⟩
theorem vx_calll {S SX : Type} {post : Int64 → S → Prop} {px : SX → Prop} {B : S → State → Prop} {BX : String → SX → State → Prop} {AX : Nat → Prop} (hr : vx_Run p l e R s m args below meth c H locs cells slots mc ms (F0 m pc ls st0) rest (va_Ql post B A1 a) (vx_X px BX AX) free) (hS : va_S A0 H0 H locs) (hA : ∀ q, q < H.size → A1 q → A0 q) (hf : ∀ q, free q → A0 q) (hAX : ∀ q, q < H.size → AX q → A0 q)
    (kx : ∀ (E : String) (ce : Cell) (q9 : Addr) (u : SX) (t : State) (H1 : Heap) (locs1 : List Loc), t.heap = H1 → s.vm.Alike t.vm → px u → BX E u t → H.size ≤ H1.size → (∀ q : Nat, q < H.size → ¬ AX q → H1[q]? = H[q]?) → va_S A0 H0 H1 locs1 → H1[q9]? = some ce → ce.vm = .none → s.vm.findClass E = some ce.cls → vx_W p l e R s m args below meth c H1 locs1 (cells + mc) (slots + ms) Q (F0 m pc ls rest) q9)
    (kk : ∀ (r : Int64) (u : S) (t : State) (H1 : Heap) (locs1 : List Loc), t.heap = H1 → s.vm.Alike t.vm → post r u → B u t → H.size ≤ H1.size → (∀ q : Nat, q < H.size → ¬ A1 q → H1[q]? = H[q]?) → va_S A0 H0 H1 locs1 → W p l e R s m args below meth c H1 locs1 (cells + mc) (slots + ms) Q (F0 m (pc + 3) ls (.long r :: rest))) : W p l e R s m args below meth c H locs cells slots Q (F0 m pc ls st0) := by
  intro T hT X
  rcases hr T hT X with ⟨v, st₀, t, T', L, h0, X', hL, e1, e2, ⟨⟨r, u, hv, hp, hb⟩, hF⟩, st⟩ | ⟨q, st₀, t, T', L, E, ce, h0, X', hL, e1, e2, ⟨u, hp, hb, hF⟩, hce, hcv, hcl, st⟩
  · cases hv
    obtain ⟨k1, k2, k3⟩ := vx_keep h0 e1 hS hA hf hL hF
    obtain ⟨t2, a1, b1⟩ := kk r u t T'.heap (locs ++ L) e1.symm (by rw [← e2]; exact X'.warmed.alike) hp hb k1 k2 k3 T' rfl X'
    exact ⟨t2, st t2 a1, b1⟩
  · obtain ⟨k1, k2, k3⟩ := vx_keep h0 e1 hS hAX hf hL hF
    obtain ⟨t2, a1, b1⟩ := kx E ce q u t T'.heap (locs ++ L) e1.symm (by rw [← e2]; exact X'.warmed.alike) hp hb k1 k2 k3 (by rw [e1]; exact hce) hcv hcl T' rfl X'
    exact ⟨t2, st.trans a1, b1⟩
theorem vx_callf {S SX : Type} {post : UInt32 → S → Prop} {px : SX → Prop} {B : S → State → Prop} {BX : String → SX → State → Prop} {AX : Nat → Prop} (hr : vx_Run p l e R s m args below meth c H locs cells slots mc ms (F0 m pc ls st0) rest (va_Qf post B A1 a) (vx_X px BX AX) free) (hS : va_S A0 H0 H locs) (hA : ∀ q, q < H.size → A1 q → A0 q) (hf : ∀ q, free q → A0 q) (hAX : ∀ q, q < H.size → AX q → A0 q)
    (kx : ∀ (E : String) (ce : Cell) (q9 : Addr) (u : SX) (t : State) (H1 : Heap) (locs1 : List Loc), t.heap = H1 → s.vm.Alike t.vm → px u → BX E u t → H.size ≤ H1.size → (∀ q : Nat, q < H.size → ¬ AX q → H1[q]? = H[q]?) → va_S A0 H0 H1 locs1 → H1[q9]? = some ce → ce.vm = .none → s.vm.findClass E = some ce.cls → vx_W p l e R s m args below meth c H1 locs1 (cells + mc) (slots + ms) Q (F0 m pc ls rest) q9)
    (kk : ∀ (r : UInt32) (u : S) (t : State) (H1 : Heap) (locs1 : List Loc), t.heap = H1 → s.vm.Alike t.vm → post r u → B u t → H.size ≤ H1.size → (∀ q : Nat, q < H.size → ¬ A1 q → H1[q]? = H[q]?) → va_S A0 H0 H1 locs1 → W p l e R s m args below meth c H1 locs1 (cells + mc) (slots + ms) Q (F0 m (pc + 3) ls (.float r :: rest))) : W p l e R s m args below meth c H locs cells slots Q (F0 m pc ls st0) := by
  intro T hT X
  rcases hr T hT X with ⟨v, st₀, t, T', L, h0, X', hL, e1, e2, ⟨⟨r, u, hv, hp, hb⟩, hF⟩, st⟩ | ⟨q, st₀, t, T', L, E, ce, h0, X', hL, e1, e2, ⟨u, hp, hb, hF⟩, hce, hcv, hcl, st⟩
  · cases hv
    obtain ⟨k1, k2, k3⟩ := vx_keep h0 e1 hS hA hf hL hF
    obtain ⟨t2, a1, b1⟩ := kk r u t T'.heap (locs ++ L) e1.symm (by rw [← e2]; exact X'.warmed.alike) hp hb k1 k2 k3 T' rfl X'
    exact ⟨t2, st t2 a1, b1⟩
  · obtain ⟨k1, k2, k3⟩ := vx_keep h0 e1 hS hAX hf hL hF
    obtain ⟨t2, a1, b1⟩ := kx E ce q u t T'.heap (locs ++ L) e1.symm (by rw [← e2]; exact X'.warmed.alike) hp hb k1 k2 k3 (by rw [e1]; exact hce) hcv hcl T' rfl X'
    exact ⟨t2, st.trans a1, b1⟩
theorem vx_calld {S SX : Type} {post : UInt64 → S → Prop} {px : SX → Prop} {B : S → State → Prop} {BX : String → SX → State → Prop} {AX : Nat → Prop} (hr : vx_Run p l e R s m args below meth c H locs cells slots mc ms (F0 m pc ls st0) rest (va_Qd post B A1 a) (vx_X px BX AX) free) (hS : va_S A0 H0 H locs) (hA : ∀ q, q < H.size → A1 q → A0 q) (hf : ∀ q, free q → A0 q) (hAX : ∀ q, q < H.size → AX q → A0 q)
    (kx : ∀ (E : String) (ce : Cell) (q9 : Addr) (u : SX) (t : State) (H1 : Heap) (locs1 : List Loc), t.heap = H1 → s.vm.Alike t.vm → px u → BX E u t → H.size ≤ H1.size → (∀ q : Nat, q < H.size → ¬ AX q → H1[q]? = H[q]?) → va_S A0 H0 H1 locs1 → H1[q9]? = some ce → ce.vm = .none → s.vm.findClass E = some ce.cls → vx_W p l e R s m args below meth c H1 locs1 (cells + mc) (slots + ms) Q (F0 m pc ls rest) q9)
    (kk : ∀ (r : UInt64) (u : S) (t : State) (H1 : Heap) (locs1 : List Loc), t.heap = H1 → s.vm.Alike t.vm → post r u → B u t → H.size ≤ H1.size → (∀ q : Nat, q < H.size → ¬ A1 q → H1[q]? = H[q]?) → va_S A0 H0 H1 locs1 → W p l e R s m args below meth c H1 locs1 (cells + mc) (slots + ms) Q (F0 m (pc + 3) ls (.double r :: rest))) : W p l e R s m args below meth c H locs cells slots Q (F0 m pc ls st0) := by
  intro T hT X
  rcases hr T hT X with ⟨v, st₀, t, T', L, h0, X', hL, e1, e2, ⟨⟨r, u, hv, hp, hb⟩, hF⟩, st⟩ | ⟨q, st₀, t, T', L, E, ce, h0, X', hL, e1, e2, ⟨u, hp, hb, hF⟩, hce, hcv, hcl, st⟩
  · cases hv
    obtain ⟨k1, k2, k3⟩ := vx_keep h0 e1 hS hA hf hL hF
    obtain ⟨t2, a1, b1⟩ := kk r u t T'.heap (locs ++ L) e1.symm (by rw [← e2]; exact X'.warmed.alike) hp hb k1 k2 k3 T' rfl X'
    exact ⟨t2, st t2 a1, b1⟩
  · obtain ⟨k1, k2, k3⟩ := vx_keep h0 e1 hS hAX hf hL hF
    obtain ⟨t2, a1, b1⟩ := kx E ce q u t T'.heap (locs ++ L) e1.symm (by rw [← e2]; exact X'.warmed.alike) hp hb k1 k2 k3 (by rw [e1]; exact hce) hcv hcl T' rfl X'
    exact ⟨t2, st.trans a1, b1⟩
theorem vx_callv {S SX : Type} {post : S → Prop} {px : SX → Prop} {B : S → State → Prop} {BX : String → SX → State → Prop} {AX : Nat → Prop} (hr : vx_Run p l e R s m args below meth c H locs cells slots mc ms (F0 m pc ls st0) rest (va_Qv post B A1 a) (vx_X px BX AX) free) (hS : va_S A0 H0 H locs) (hA : ∀ q, q < H.size → A1 q → A0 q) (hf : ∀ q, free q → A0 q) (hAX : ∀ q, q < H.size → AX q → A0 q)
    (kx : ∀ (E : String) (ce : Cell) (q9 : Addr) (u : SX) (t : State) (H1 : Heap) (locs1 : List Loc), t.heap = H1 → s.vm.Alike t.vm → px u → BX E u t → H.size ≤ H1.size → (∀ q : Nat, q < H.size → ¬ AX q → H1[q]? = H[q]?) → va_S A0 H0 H1 locs1 → H1[q9]? = some ce → ce.vm = .none → s.vm.findClass E = some ce.cls → vx_W p l e R s m args below meth c H1 locs1 (cells + mc) (slots + ms) Q (F0 m pc ls rest) q9)
    (kk : ∀ (u : S) (t : State) (H1 : Heap) (locs1 : List Loc), t.heap = H1 → s.vm.Alike t.vm → post u → B u t → H.size ≤ H1.size → (∀ q : Nat, q < H.size → ¬ A1 q → H1[q]? = H[q]?) → va_S A0 H0 H1 locs1 → W p l e R s m args below meth c H1 locs1 (cells + mc) (slots + ms) Q (F0 m (pc + 3) ls (rest))) : W p l e R s m args below meth c H locs cells slots Q (F0 m pc ls st0) := by
  intro T hT X
  rcases hr T hT X with ⟨v, st₀, t, T', L, h0, X', hL, e1, e2, ⟨⟨u, hv, hp, hb⟩, hF⟩, st⟩ | ⟨q, st₀, t, T', L, E, ce, h0, X', hL, e1, e2, ⟨u, hp, hb, hF⟩, hce, hcv, hcl, st⟩
  · cases hv
    obtain ⟨k1, k2, k3⟩ := vx_keep h0 e1 hS hA hf hL hF
    obtain ⟨t2, a1, b1⟩ := kk u t T'.heap (locs ++ L) e1.symm (by rw [← e2]; exact X'.warmed.alike) hp hb k1 k2 k3 T' rfl X'
    exact ⟨t2, st t2 a1, b1⟩
  · obtain ⟨k1, k2, k3⟩ := vx_keep h0 e1 hS hAX hf hL hF
    obtain ⟨t2, a1, b1⟩ := kx E ce q u t T'.heap (locs ++ L) e1.symm (by rw [← e2]; exact X'.warmed.alike) hp hb k1 k2 k3 (by rw [e1]; exact hce) hcv hcl T' rfl X'
    exact ⟨t2, st.trans a1, b1⟩
/-- caught by the row x of this method's table; the rows ahead don't take it -/
theorem vx_catch {own name : String} {E : String} {ce : Cell} {q : Addr} (hown : s.vm.findClass own = some m.cls) (pre : List ExceptionTableEntry) (x : ExceptionTableEntry) (suf : List ExceptionTableEntry) (hsplit : c.exceptionTable.toList = pre ++ x :: suf)
    (hpass : ∀ z ∈ pre, covers z pc = false ∨ (z.catchType ≠ 0 ∧ ∃ nm : String, (Cond.classLink own z.catchType nm).before args s = true ∧ va_Nc E nm s)) (hx : covers x pc = true) (h0 : x.catchType ≠ 0)
    (hlink : (Cond.classLink own x.catchType name).before args s = true) (hcast : (Cond.castable E name).before args s = true) (hcell : H[q]? = some ce) (hv : ce.vm = .none) (hcl : s.vm.findClass E = some ce.cls)
    (kk : W p l e R s m args below meth c H locs cells slots Q (F0 m x.handlerPc ls [.ref q])) : vx_W p l e R s m args below meth c H locs cells slots Q (F0 m pc ls rest) q := by
  intro T hT X
  have hpl : e.platform.magicAccessors = ({} : Platform).magicAccessors := by rw [X.admits.platform]
  obtain ⟨c3, c4, hc3, hc4, hasg⟩ := Cond.castable_spec hcast
  cases Option.some.inj (hc3.symm.trans hcl)
  obtain ⟨c5, hc5, hcl5⟩ := Cond.classLink_spec hown hlink e.platform hpl
  cases Option.some.inj (hc4.symm.trans hc5)
  obtain ⟨vm', X', st⟩ := X.thenCaughtThrough q (g := F0 m pc ls rest) rfl (Steps.refl _) (by rw [hT]; exact hcell) (by rw [hv]; rfl) (by obtain ⟨k9, h9, -⟩ := Vm.findClass_spec hcl; exact ⟨k9, h9⟩) pre x suf hsplit
    (fun z hz => by
      rcases hpass z hz with h | ⟨hz0, nm, hl1, hn1⟩
      · exact Or.inl h
      · obtain ⟨c6, hc6, hcl6⟩ := Cond.classLink_spec hown hl1 e.platform hpl
        obtain ⟨a8, b8, h1, h2, h3⟩ := hn1
        cases Option.some.inj (h1.symm.trans hcl)
        cases Option.some.inj (h2.symm.trans hc6)
        exact Or.inr ⟨hz0, _, hcl6, h3⟩) hx (Or.inr ⟨h0, c4, hcl5, hasg⟩)
  obtain ⟨t, a1, b1⟩ := kk (T.setVm vm') hT X'
  exact ⟨t, st.trans a1, b1⟩
end Rows
section Ends
variable {p : Program} {l : Launch} {e : Env} {R : Room} {s : State} {m : MethodId} {args : Array Value} {below : List Frame} {meth : Method} {c : Code} {H : Heap} {locs : List Loc} {cells slots : Nat} {Q : State → Prop}
variable {mc ms : Nat} {free : Addr → Prop} {A0 A1 : Nat → Prop} {H0 : Heap} {a : Array Value} {ls : Array Slot} {st0 rest : List Value}
variable {Qc : Array Value → State → Outcome → State → Prop} {XC : String → State → State → Prop}
/-- what a body that may throw owes at its end -/
def vx_MQ (below : List Frame) (Qc : Array Value → State → Outcome → State → Prop) (XC : String → State → State → Prop) (a : Array Value) (s : State) (mc ms : Nat) (free : Addr → Prop) : State → Prop := fun t =>
  ∃ o, t.status = .running ∧ Ended t below o ∧ vx_Q Qc XC mc ms free a s o t
theorem vx_ret {g : JFrame} {mc ms : Nat} (k : W p l e R s m args below meth c H locs cells slots (MQ below Qc args s mc ms free) g) : W p l e R s m args below meth c H locs cells slots (vx_MQ below Qc XC args s mc ms free) g := by
  intro T hT X
  obtain ⟨t, a1, o, b1, b2, b3, b4⟩ := k T hT X
  exact ⟨t, a1, o, b1, b2, Or.inl ⟨b3, b4⟩⟩
/-- not caught here: it goes on to the caller -/
theorem vx_widen {g : JFrame} {q : Addr} {k n : Nat} (h1 : cells ≤ k) (h2 : slots ≤ n) (kk : vx_W p l e R s m args below meth c H locs k n Q g q) : vx_W p l e R s m args below meth c H locs cells slots Q g q := fun T hT X => kk T hT (stand_widen X h1 h2)
theorem vx_out {pc : Nat} {E : String} {ce : Cell} {q : Addr} {mc ms : Nat} (hout : ∀ x ∈ c.exceptionTable.toList, covers x pc = false) (hlocks : meth.locks = false) (hcell : H[q]? = some ce) (hv : ce.vm = .none) (hcl : s.vm.findClass E = some ce.cls)
    (hx : ∀ t : State, t.heap = H → s.vm.Alike t.vm → XC E s t) (hf : ∀ z ∈ locs, free z.base) (hc : cells ≤ mc) (hs : slots ≤ ms) :
    vx_W p l e R s m args below meth c H locs cells slots (vx_MQ below Qc XC args s mc ms free) (F0 m pc ls rest) q := by
  intro T hT X
  obtain ⟨st1, hrun, hend, hW, hsm⟩ := X.leaveThrown q (g := F0 m pc ls rest) rfl rfl rfl hout hlocks
  have hcell9 : (T.setFrames (.throwing q :: below)).heap[q]? = some ce := by
    show T.heap[q]? = some ce
    rw [hT]; exact hcell
  exact ⟨_, st1, .threw q, hrun, hend, Or.inr ⟨q, rfl, E, ce, locs, hx _ hT hW.alike, hcell9, hv, hcl, hW, hsm.mono hc hs, hf⟩⟩
theorem vx_frame {U : State} {k n : Nat} (h : s.sameButNew ({ U with vm := s.vm } : State) locs k n) : s.heap.size ≤ U.heap.size ∧ ∀ q : Nat, q < s.heap.size → (∀ z ∈ locs, z.base ≠ q) → U.heap[q]? = s.heap[q]? := by
  obtain ⟨-, h2, -, -, -, h6⟩ := h
  refine ⟨h2, fun q hq hz => ?_⟩
  obtain ⟨c9, e1, e2, e3, e4⟩ := h6 q _ (Array.getElem?_eq_getElem hq)
  have hs : c9.slots = (s.heap[q]).slots := Array.ext_getElem? fun i => e4 i fun hm => hz _ hm rfl
  have h9 : c9 = s.heap[q] := by
    rw [hs] at e2
    exact e2
  have e5 : U.heap[q]? = some c9 := e1
  rw [e5, h9, Array.getElem?_eq_getElem hq]
/-- the words of a throw but the four that speak of the heap -/
def vx_no (w : Cond) : Bool := decide (w ≠ .isRef (.static Bundle.tN "UNASSIGNED_STACK" Bundle.steD)) && decide (w ≠ .isRef (.static Bundle.tN "SUPPRESSED_SENTINEL" Bundle.listD)) && decide (w ≠ .laysStatic Bundle.tN "UNASSIGNED_STACK" Bundle.steD) && decide (w ≠ .laysStatic Bundle.tN "SUPPRESSED_SENTINEL" Bundle.listD)
def vx_at0 (own : String) (ic : Nat) (X : String) (names : List String) : List Cond := (Bundle.ownAtoms0 own ic X names).filter vx_no
def vx_atS (own : String) (ic : Nat) (X : String) (names : List String) : List Cond := (Bundle.ownAtoms own ic X names).filter vx_no
/-- a word that the tables alone decide, or a good one -/
def vx_ot (w : Cond) : Bool := w.onTables || goodWord w
theorem vx_ot_at {args a' : Array Value} {s U : State} {w : Cond} (hW : s.WarmedH U.vm) (hvm : s.vm = U.vm) (hg : vx_ot w = true) (h : w.before args s = true) : w.before a' U = true := by
  simp only [vx_ot, Bool.or_eq_true] at hg
  rcases hg with hg | hg
  · exact va_tabs hg hvm h
  · exact word_at hW (good_of_word hg) h
/-- a list's words: the good ones out of the method's own list, the others by premises of their own -/
theorem vx_hat {args : Array Value} {s : State} {L B : List Cond} (h1 : ∀ w ∈ L.filter goodWord, w.before args s = true) (h2 : ∀ w ∈ L.filter (fun w => !goodWord w), w ∈ B) (h3 : ∀ w ∈ B, w.before args s = true) : ∀ w ∈ L, w.before args s = true := by
  intro w hw
  by_cases g : goodWord w = true
  · exact h1 w (List.mem_filter.mpr ⟨hw, g⟩)
  · refine h3 w (h2 w (List.mem_filter.mpr ⟨hw, ?_⟩))
    show (!goodWord w) = true
    cases hgw : goodWord w
    · rfl
    · exact absurd hgw g
theorem vx_c {args : Array Value} {s : State} {w : Cond} {B : List Cond} (h : w.before args s = true) (t : ∀ w ∈ B, w.before args s = true) : ∀ w' ∈ w :: B, w'.before args s = true := fun w' h' => (List.mem_cons.mp h').elim (fun e => by rw [e]; exact h) (t w')
theorem vx_n {args : Array Value} {s : State} : ∀ w ∈ ([] : List Cond), w.before args s = true := fun _ h => nomatch h
theorem vx_own {args : Array Value} {s : State} {L : List Cond} (h1 : ∀ w ∈ L.filter vx_no, w.before args s = true)
    (hU : (Cond.isRef (.static Bundle.tN "UNASSIGNED_STACK" Bundle.steD)).before args s = true) (hN : (Cond.isRef (.static Bundle.tN "SUPPRESSED_SENTINEL" Bundle.listD)).before args s = true)
    (lU : (Cond.laysStatic Bundle.tN "UNASSIGNED_STACK" Bundle.steD).before args s = true) (lN : (Cond.laysStatic Bundle.tN "SUPPRESSED_SENTINEL" Bundle.listD).before args s = true) : ∀ w ∈ L, w.before args s = true := by
  intro w hw
  by_cases e1 : w = .isRef (.static Bundle.tN "UNASSIGNED_STACK" Bundle.steD)
  · rw [e1]; exact hU
  · by_cases e2 : w = .isRef (.static Bundle.tN "SUPPRESSED_SENTINEL" Bundle.listD)
    · rw [e2]; exact hN
    · by_cases e3 : w = .laysStatic Bundle.tN "UNASSIGNED_STACK" Bundle.steD
      · rw [e3]; exact lU
      · by_cases e4 : w = .laysStatic Bundle.tN "SUPPRESSED_SENTINEL" Bundle.listD
        · rw [e4]; exact lN
        · exact h1 w (List.mem_filter.mpr ⟨hw, by unfold vx_no; rw [decide_eq_true e1, decide_eq_true e2, decide_eq_true e3, decide_eq_true e4]; rfl⟩)
/-- where a static field lies, its class's statics cell in H -/
def vx_L (C n d : String) (A : Nat → Prop) (U : State) (H : Heap) : Prop := ∃ (c : ClassId) (k : Class) (i : Nat) (f : Field) (a : Nat) (cell : Cell), U.vm.findClass C = some c ∧ U.fieldFound? C n d = some (c, k, i, f) ∧ f.isStatic = true ∧ k.statics = some a ∧ H[a]? = some cell ∧ cell.vm.isStatics = true ∧ cell.cls = c ∧ f.slot < cell.slots.size ∧ k.staticTypes[f.slot]? = some f.type ∧ ¬ A a
theorem vx_L.moved {C n d : String} {A : Nat → Prop} {u U : State} {H : Heap} (hvm : u.vm.Alike U.vm) (h : vx_L C n d A u H) : vx_L C n d A U H := by
  obtain ⟨c, k, i, f, a, cell, h1, h2, h3, h4, h5, h6, h7, h8, h9, h10⟩ := h
  obtain ⟨k', hi', he⟩ := State.fieldFound?_setVm hvm h2
  exact ⟨c, k', i, f, a, cell, by rw [hvm.findClass]; exact h1, hi', h3, by rw [he]; exact h4, h5, h6, h7, h8, by rw [he]; exact h9, h10⟩
theorem vx_L.kept {C n d : String} {A : Nat → Prop} {U : State} {H H1 : Heap} (h : vx_L C n d A U H) (hq : ∀ a : Nat, a < H.size → ¬ A a → H1[a]? = H[a]?) : vx_L C n d A U H1 := by
  obtain ⟨c, k, i, f, a, cell, h1, h2, h3, h4, h5, h6, h7, h8, h9, h10⟩ := h
  exact ⟨c, k, i, f, a, cell, h1, h2, h3, h4, by rw [hq a (Array.getElem?_eq_some_iff.mp h5).1 h10]; exact h5, h6, h7, h8, h9, h10⟩
theorem vx_L.narrow {C n d : String} {A B : Nat → Prop} {U : State} {H : Heap} (h : vx_L C n d A U H) (hAB : ∀ q, B q → A q) : vx_L C n d B U H := by
  obtain ⟨c, k, i, f, a, cell, h1, h2, h3, h4, h5, h6, h7, h8, h9, h10⟩ := h
  exact ⟨c, k, i, f, a, cell, h1, h2, h3, h4, h5, h6, h7, h8, h9, fun z => h10 (hAB _ z)⟩
theorem vx_L.word {C n d : String} {A : Nat → Prop} {s : State} {args : Array Value} (h : vx_L C n d A s s.heap) : (Cond.laysStatic C n d).before args s = true := by
  obtain ⟨c, k, i, f, a, cell, h1, h2, h3, h4, h5, h6, h7, h8, h9, -⟩ := h
  show (Cond.laysStatic C n d).holds args s none s [] = true
  exact Cond.laysStatic_of h1 h2 h3 h4 h5 h6 h7 h8 h9
/-- .. and what it holds: null or some reference -/
def vx_Zq (C n d : String) (A : Nat → Prop) (U : State) (H : Heap) : Prop := va_Zq C n d A U H ∧ vx_L C n d A U H
theorem vx_Zq.moved {C n d : String} {A : Nat → Prop} {u U : State} {H : Heap} (hvm : u.vm.Alike U.vm) (h : vx_Zq C n d A u H) : vx_Zq C n d A U H := ⟨va_Zq.moved hvm h.1, vx_L.moved hvm h.2⟩
theorem vx_Zq.kept {C n d : String} {A : Nat → Prop} {U : State} {H H1 : Heap} (h : vx_Zq C n d A U H) (hq : ∀ a : Nat, a < H.size → ¬ A a → H1[a]? = H[a]?) : vx_Zq C n d A U H1 := ⟨va_Zq.kept h.1 hq, vx_L.kept h.2 hq⟩
theorem vx_Zq.narrow {C n d : String} {A B : Nat → Prop} {U : State} {H : Heap} (h : vx_Zq C n d A U H) (hAB : ∀ q, B q → A q) : vx_Zq C n d B U H := ⟨va_Zq.narrow h.1 hAB, vx_L.narrow h.2 hAB⟩
theorem vx_Zqof {args : Array Value} {s : State} {C n d : String} {A : Nat → Prop} (hl : (Cond.laysStatic C n d).before args s = true) (hini : (Cond.initialized C).before args s = true) (h : (Cond.isRef (.static C n d)).before args s = true) (hA : ∀ a : Nat, a < s.heap.size → ¬ A a) : vx_Zq C n d A s s.heap := by
  refine ⟨va_Zqof hl hini h hA, ?_⟩
  obtain ⟨c, k, i, f, a, cell, h1, h2, h3, h4, h5, h6, h7, h8, h9⟩ := Cond.laysStatic_spec hl
  exact ⟨c, k, i, f, a, cell, h1, h2, h3, h4, h5, h6, h7, h8, h9, hA a (Array.getElem?_eq_some_iff.mp h5).1⟩
theorem vx_isRef {C n d : String} {v : Value} {A : Nat → Prop} {s : State} {args : Array Value} (h : va_Z C n d v A s s.heap) (hv : v.isRef = true) : (Cond.isRef (.static C n d)).before args s = true := by
  obtain ⟨cf, kf, fi, f, a, cell, h1, h2, h3, h4, h5, h6, h7, -⟩ := h
  have he : (Term.static C n d).eval args s none [] s = some v := by
    simp [Term.eval, State.fieldNamed?, h1, h2, h4, h5, h6, h7]
  simp only [Cond.before, Cond.holds, Cond.value, he]
  cases v <;> simp_all [Value.isRef]
theorem vx_isRefq {C n d : String} {A : Nat → Prop} {s : State} {args : Array Value} (h : va_Zq C n d A s s.heap) : (Cond.isRef (.static C n d)).before args s = true := by
  rcases h with h | ⟨t, h⟩
  · exact vx_isRef h rfl
  · exact vx_isRef h rfl
/-- the same frame, seen from here: as if the method were called anew in this heap -/
theorem vx_rebase {T : State} (X : Stand p l e R s m args below meth c T locs cells slots) {R' : Room} (hf : R'.frames ≤ R.frames) (hl : R'.locals ≤ R.locals) (hc : cells + R'.cells ≤ R.cells) (hs : slots + R'.slots ≤ R.slots) :
    Stand p l e R' ((T.setVm s.vm).setFrames (.invoking m args :: below)) m args below meth c T [] 0 0 := by
  have htop : (T.setVm s.vm).topJava?.isSome := X.here.top
  have hF : ((T.setVm s.vm).setFrames (.invoking m args :: below)).frames = .invoking m args :: below := State.frames_setFrames _ (State.cur_lt_of_top htop)
  obtain ⟨g₀, hg0⟩ := Option.isSome_iff_exists.mp htop
  obtain ⟨r, hr⟩ := State.topJava?_eq_some.mp hg0
  have hl9 : e.platform.stackLimits (T.setVm s.vm).me = e.platform.stackLimits s.me := X.limits
  have hb9 : (T.setVm s.vm).me.stackBytes = s.me.stackBytes := X.bytes
  refine ⟨X.admits, X.cas, X.clock, hF, ?_, X.hears, X.method, X.code, X.here, X.tail, X.warmed, ?_, ?_, ?_⟩
  · have h := X.room
    have hU : ((T.setVm s.vm).setFrames (.invoking m args :: below)).localsInUse = s.localsInUse := by
      rw [State.localsInUse_invoking hF (meth := meth) (c := c) X.method X.code, State.localsInUse_invoking X.frames X.method X.code]
    simp only [State.hasRoom, Bool.and_eq_true, decide_eq_true_eq] at h ⊢
    obtain ⟨⟨⟨⟨h1, h2, h3, h4, h5, h6⟩, h7⟩, h8⟩, h9⟩ := h
    rw [X.frames, List.length_cons] at h2 h3
    have q1 := X.heapSize
    have q2 := X.used
    simp only [hF, hU, List.length_cons, State.stackLimits_setFrames, State.stackBytes_setFrames, hl9, hb9]
    refine ⟨⟨⟨⟨by omega, by omega, by omega, by omega, by omega, h6⟩, ?_⟩, ?_⟩, X.book⟩
    · show T.heap.size + R'.cells ≤ e.platform.maxCells
      omega
    · show T.slotsUsed + R'.slots ≤ e.platform.maxSlots
      omega
  · rw [State.stackLimits_setFrames]; rfl
  · rw [State.stackBytes_setFrames]; rfl
  · refine ⟨?_, Nat.le_refl _, Nat.le_refl _, ?_, ?_, fun a c9 h9 => ⟨c9, h9, rfl, rfl, fun _ _ => rfl⟩⟩
    · obtain ⟨t, ht, -⟩ := State.frames_cons hr
      show T.setVm s.vm = { ((T.setVm s.vm).setFrames (.invoking m args :: below)).setFrames (T.setVm s.vm).frames with heap := T.heap, slotsUsed := T.slotsUsed }
      rw [State.setFrames_setFrames, State.setFrames_self ht]
      rfl
    · show T.slotsUsed = T.slotsUsed + ((T.heap.toList.drop T.heap.size).map (·.slots.size)).sum
      rw [List.drop_eq_nil_of_le (Nat.le_of_eq Array.length_toList)]
      rfl
    · show ((T.heap.toList.drop T.heap.size).map (·.slots.size)).sum ≤ 0
      rw [List.drop_eq_nil_of_le (Nat.le_of_eq Array.length_toList)]
      exact Nat.le_refl _
/-- 'throw new E()': new; dup; invokespecial; athrow -/
theorem vx_throw0 {cc : ByteArray} {pc : Nat} (hexec : p.tables.exec = Jvm.exec) (hb : c.code = cc) (hl : l.stackTraces = false) {own cls : String} {names : List String} {ik ic mc ms : Nat} {A : Nat → Prop}
    (hown : s.vm.findClass own = some m.cls) (hcls : Bundle.fit cls = true) (hnames : ∀ n ∈ names, Bundle.fit n = true)
    (hk : (Cond.classLink own ik cls).before args s = true) (hini : (Cond.initialized cls).before args s = true) (hat : ∀ w ∈ vx_at0 own ic cls names, w.before args s = true)
    (hgood : ∀ w ∈ Cond.classLink own ik cls :: Cond.initialized cls :: vx_at0 own ic cls names, vx_ot w = true)
    (hU : vx_Zq Bundle.tN "UNASSIGNED_STACK" Bundle.steD A s s.heap) (hN : vx_Zq Bundle.tN "SUPPRESSED_SENTINEL" Bundle.listD A s s.heap) (hS : va_S A s.heap H locs) (hsize : ls.size = c.maxLocals)
    (d0 : decode cc pc = .ok (.new ik, 3)) (d3 : decode cc (pc + 3) = .ok (.dup, 1)) (d4 : decode cc (pc + 4) = .ok (.invokespecial ic, 3)) (d7 : decode cc (pc + 7) = .ok (.athrow, 1))
    (hout : ∀ x ∈ c.exceptionTable.toList, covers x (pc + 7) = false)
    (hRframes : names.length + 3 < R.frames) (hRlocals : (rest.map fun v => v.category).sum + (13 * (names.length + 1) + 42) ≤ R.locals) (hRcells : cells + 1 ≤ R.cells) (hRslots : slots + 6 ≤ R.slots) (hlocks : meth.locks = false)
    (hx : ∀ t : State, s.vm.Alike t.vm → H.size ≤ t.heap.size → (∀ q : Nat, q < H.size → t.heap[q]? = H[q]?) → XC cls s t)
    (hf : ∀ z ∈ locs, free z.base) (hc : cells + 1 ≤ mc) (hs : slots + 6 ≤ ms) :
    W p l e R s m args below meth c H locs cells slots (vx_MQ below Qc XC args s mc ms free) (F0 m pc ls rest) := by
  intro T hT X
  have htr : e.platform.stackTraces = false := (show e.platform.stackTraces = l.stackTraces by rw [X.admits.platform]).trans hl
  have Y := vx_rebase X (R' := { frames := R.frames, locals := R.locals, cells := 1, slots := 6 }) (Nat.le_refl _) (Nat.le_refl _) hRcells hRslots
  obtain ⟨s', hA⟩ : ∃ z, z = (T.setVm s.vm).setFrames (.invoking m args :: below) := ⟨_, rfl⟩
  rw [← hA] at Y
  have hvm : s'.vm = s.vm := by rw [hA]; rfl
  have hhp : s'.heap = H := by rw [hA]; exact hT
  have hW0 : s.WarmedH s'.vm := by rw [hvm]; exact State.WarmedH.refl s
  have hat' : ∀ w ∈ vx_at0 own ic cls names, w.before args s' = true := fun w hw => vx_ot_at hW0 hvm.symm (hgood w (List.mem_cons_of_mem _ (List.mem_cons_of_mem _ hw))) (hat w hw)
  have hk' : (Cond.classLink own ik cls).before args s' = true := vx_ot_at hW0 hvm.symm (hgood _ List.mem_cons_self) hk
  have hini' : (Cond.initialized cls).before args s' = true := vx_ot_at hW0 hvm.symm (hgood _ (List.mem_cons_of_mem _ List.mem_cons_self)) hini
  have hU' : vx_Zq Bundle.tN "UNASSIGNED_STACK" Bundle.steD A s' s'.heap := by rw [hhp]; exact vx_Zq.moved hW0.alike (hU.kept hS.2.1)
  have hN' : vx_Zq Bundle.tN "SUPPRESSED_SENTINEL" Bundle.listD A s' s'.heap := by rw [hhp]; exact vx_Zq.moved hW0.alike (hN.kept hS.2.1)
  have h : ∀ w ∈ Bundle.ownAtoms0 own ic cls names, w.before args s' = true := vx_own hat' (vx_isRefq hU'.1) (vx_isRefq hN'.1) hU'.2.word hN'.2.word
  have hown' : s'.vm.findClass own = some m.cls := by rw [hvm]; exact hown
  have hins : (Cond.instantiable cls 6).before args s' = true := h _ (by simp [Bundle.ownAtoms0])
  obtain ⟨vm₁, cX, kX, hfX, hkX, -, -, X₁, st1⟩ := Y.newCold hexec (own := own) (C := cls) (index := ik) (n := 6) hown' hk' hins hini'
    (g := F0 m pc ls rest) rfl (by rw [hb]; exact d0) (Nat.le_refl _) (Nat.le_refl _)
  generalize hT1 : (T.setVm vm₁).pushCell { cls := cX, slots := kX.instanceTypes.map defaultValue, vm := .none } = T1 at X₁ st1
  have hcat : (Value.ref T.heap.size).category = 1 := rfl
  have hcellA : T1.heap[T.heap.size]? = some (freshCell cX kX) := by rw [← hT1]; exact State.heap_pushCell_size _ _
  have d3' : decode c.code (pc + 3) = .ok (.dup, 1) := by rw [hb]; exact d3
  obtain ⟨U, hsteps, hrun, hend, hW, hsame, ce, hce, hO⟩ := X₁.ctorThrow0 hexec htr (own := own) (cls := cls) (names := names) (ic := ic) hown' hcls hnames h (fun x hx => nomatch hx) hfX hkX hcellA (by rw [hhp, hT]; exact Nat.le_refl _)
    (g := { method := m, pc := pc + 4, locals := ls, stack := .ref T.heap.size :: .ref T.heap.size :: rest, locked := none }) rfl hsize rfl rfl (rest := rest) rfl
    (by rw [hb]; exact d4) (by rw [hb]; exact d7) hout hRframes (by simp only [List.map_cons, List.sum_cons, hcat]; omega) hlocks
  obtain ⟨f1, f2⟩ := vx_frame hsame
  rw [hhp] at f1 f2
  have hWs : s.WarmedH U.vm := State.WarmedH.trans hW0 hW
  have hcl : s.vm.findClass cls = some ce.cls := by
    have h9 := hO.cls
    rw [hvm] at h9
    exact h9
  have hall : s.sameButNew ({ U with vm := s.vm } : State) locs mc ms := by
    subst hA
    obtain ⟨e1, e2⟩ := hsame
    rw [State.setFrames_setFrames] at e1
    have h2 : (T.setVm s.vm).sameButNew ({ U with vm := s.vm } : State) [] (0 + 1) (0 + 6) := ⟨e1, e2⟩
    have h3 := X.same.trans h2
    rw [List.append_nil] at h3
    exact h3.mono hc hs
  refine ⟨U, ?_, .threw T.heap.size, hrun, hend, Or.inr ⟨T.heap.size, rfl, cls, ce, locs, hx U hWs.alike f1 (fun q hq => f2 q hq (fun z hz => nomatch hz)), hce, hO.vm, hcl, hWs, hall, hf⟩⟩
  refine st1 _ ?_
  show Steps p.tables e below (T1.setTop { method := m, pc := pc + 3, locals := ls, stack := .ref T.heap.size :: rest, locked := none }) _
  jvm_step X₁.here [X₁.here.top, hexec, d3', Value.category]
  exact hsteps
/-- 'throw new E("text")': new; dup; ldc; invokespecial; athrow -/
theorem vx_throwS {cc : ByteArray} {pc : Nat} (hexec : p.tables.exec = Jvm.exec) (hb : c.code = cc) (hl : l.stackTraces = false) {own cls text : String} {names : List String} {ik is ic mc ms sa : Nat} {A : Nat → Prop}
    (hown : s.vm.findClass own = some m.cls) (hcls : Bundle.fit cls = true) (hnames : ∀ n ∈ names, Bundle.fit n = true)
    (hk : (Cond.classLink own ik cls).before args s = true) (hini : (Cond.initialized cls).before args s = true) (hstr : vk_R own is text sa s) (hat : ∀ w ∈ vx_atS own ic cls names, w.before args s = true)
    (hgood : ∀ w ∈ Cond.classLink own ik cls :: Cond.initialized cls :: vx_atS own ic cls names, vx_ot w = true)
    (hU : vx_Zq Bundle.tN "UNASSIGNED_STACK" Bundle.steD A s s.heap) (hN : vx_Zq Bundle.tN "SUPPRESSED_SENTINEL" Bundle.listD A s s.heap) (hS : va_S A s.heap H locs) (hsize : ls.size = c.maxLocals)
    (d0 : decode cc pc = .ok (.new ik, 3)) (d3 : decode cc (pc + 3) = .ok (.dup, 1)) (d4 : decode cc (pc + 4) = .ok (.ldc is, 2)) (d6 : decode cc (pc + 6) = .ok (.invokespecial ic, 3)) (d9 : decode cc (pc + 9) = .ok (.athrow, 1))
    (hout : ∀ x ∈ c.exceptionTable.toList, covers x (pc + 9) = false)
    (hRframes : names.length + 3 < R.frames) (hRlocals : (rest.map fun v => v.category).sum + (13 * (names.length + 1) + 43) ≤ R.locals) (hRcells : cells + 1 ≤ R.cells) (hRslots : slots + 6 ≤ R.slots) (hlocks : meth.locks = false)
    (hx : ∀ t : State, s.vm.Alike t.vm → H.size ≤ t.heap.size → (∀ q : Nat, q < H.size → t.heap[q]? = H[q]?) → XC cls s t)
    (hf : ∀ z ∈ locs, free z.base) (hc : cells + 1 ≤ mc) (hs : slots + 6 ≤ ms) :
    W p l e R s m args below meth c H locs cells slots (vx_MQ below Qc XC args s mc ms free) (F0 m pc ls rest) := by
  intro T hT X
  have htr : e.platform.stackTraces = false := (show e.platform.stackTraces = l.stackTraces by rw [X.admits.platform]).trans hl
  have Y := vx_rebase X (R' := { frames := R.frames, locals := R.locals, cells := 1, slots := 6 }) (Nat.le_refl _) (Nat.le_refl _) hRcells hRslots
  obtain ⟨s', hA⟩ : ∃ z, z = (T.setVm s.vm).setFrames (.invoking m args :: below) := ⟨_, rfl⟩
  rw [← hA] at Y
  have hvm : s'.vm = s.vm := by rw [hA]; rfl
  have hhp : s'.heap = H := by rw [hA]; exact hT
  have hW0 : s.WarmedH s'.vm := by rw [hvm]; exact State.WarmedH.refl s
  have hat' : ∀ w ∈ vx_atS own ic cls names, w.before args s' = true := fun w hw => vx_ot_at hW0 hvm.symm (hgood w (List.mem_cons_of_mem _ (List.mem_cons_of_mem _ hw))) (hat w hw)
  have hk' : (Cond.classLink own ik cls).before args s' = true := vx_ot_at hW0 hvm.symm (hgood _ List.mem_cons_self) hk
  have hini' : (Cond.initialized cls).before args s' = true := vx_ot_at hW0 hvm.symm (hgood _ (List.mem_cons_of_mem _ List.mem_cons_self)) hini
  have hU' : vx_Zq Bundle.tN "UNASSIGNED_STACK" Bundle.steD A s' s'.heap := by rw [hhp]; exact vx_Zq.moved hW0.alike (hU.kept hS.2.1)
  have hN' : vx_Zq Bundle.tN "SUPPRESSED_SENTINEL" Bundle.listD A s' s'.heap := by rw [hhp]; exact vx_Zq.moved hW0.alike (hN.kept hS.2.1)
  have h : ∀ w ∈ Bundle.ownAtoms own ic cls names, w.before args s' = true := vx_own hat' (vx_isRefq hU'.1) (vx_isRefq hN'.1) hU'.2.word hN'.2.word
  have hown' : s'.vm.findClass own = some m.cls := by rw [hvm]; exact hown
  have hins : (Cond.instantiable cls 6).before args s' = true := h _ (by simp [Bundle.ownAtoms])
  obtain ⟨vm₁, cX, kX, hfX, hkX, -, -, X₁, st1⟩ := Y.newCold hexec (own := own) (C := cls) (index := ik) (n := 6) hown' hk' hins hini'
    (g := F0 m pc ls rest) rfl (by rw [hb]; exact d0) (Nat.le_refl _) (Nat.le_refl _)
  generalize hT1 : (T.setVm vm₁).pushCell { cls := cX, slots := kX.instanceTypes.map defaultValue, vm := .none } = T1 at X₁ st1
  have hcat : (Value.ref T.heap.size).category = 1 := rfl
  have hcellA : T1.heap[T.heap.size]? = some (freshCell cX kX) := by rw [← hT1]; exact State.heap_pushCell_size _ _
  have d3' : decode c.code (pc + 3) = .ok (.dup, 1) := by rw [hb]; exact d3
  have d4' : decode c.code (pc + 4) = .ok (.ldc is, 2) := by rw [hb]; exact d4
  have hstr' : vk_R own is text sa s' := vk_R.warm hW0 hstr
  obtain ⟨U, hsteps, hrun, hend, hW, hsame, ce, hce, hO⟩ := X₁.ctorThrowS hexec htr (own := own) (cls := cls) (names := names) (ic := ic) hown' hcls hnames h (fun x hx => nomatch hx) hfX hkX hcellA (by rw [hhp, hT]; exact Nat.le_refl _) (msg := .ref sa) rfl
    (g := { method := m, pc := pc + 6, locals := ls, stack := .ref sa :: .ref T.heap.size :: .ref T.heap.size :: rest, locked := none }) rfl hsize rfl rfl (rest := rest) rfl
    (by rw [hb]; exact d6) (by rw [hb]; exact d9) hout hRframes (by simp only [List.map_cons, List.sum_cons, hcat]; omega) hlocks
  obtain ⟨f1, f2⟩ := vx_frame hsame
  rw [hhp] at f1 f2
  have hWs : s.WarmedH U.vm := State.WarmedH.trans hW0 hW
  have hcl : s.vm.findClass cls = some ce.cls := by
    have h9 := hO.cls
    rw [hvm] at h9
    exact h9
  have hall : s.sameButNew ({ U with vm := s.vm } : State) locs mc ms := by
    subst hA
    obtain ⟨e1, e2⟩ := hsame
    rw [State.setFrames_setFrames] at e1
    have h2 : (T.setVm s.vm).sameButNew ({ U with vm := s.vm } : State) [] (0 + 1) (0 + 6) := ⟨e1, e2⟩
    have h3 := X.same.trans h2
    rw [List.append_nil] at h3
    exact h3.mono hc hs
  refine ⟨U, ?_, .threw T.heap.size, hrun, hend, Or.inr ⟨T.heap.size, rfl, cls, ce, locs, hx U hWs.alike f1 (fun q hq => f2 q hq (fun z hz => nomatch hz)), hce, hO.vm, hcl, hWs, hall, hf⟩⟩
  refine st1 _ ?_
  show Steps p.tables e below (T1.setTop { method := m, pc := pc + 3, locals := ls, stack := .ref T.heap.size :: rest, locked := none }) _
  jvm_step X₁.here [X₁.here.top, hexec, d3', Value.category]
  exact X₁.ldcString hexec (own := own) (text := text) (index := is) (a := sa) hown' hstr'.1 hstr'.2
    (g := { method := m, pc := pc + 4, locals := ls, stack := .ref T.heap.size :: .ref T.heap.size :: rest, locked := none }) rfl d4' _ hsteps
/-- 'throw new E("text")', the text by a wide index -/
theorem vx_throwSW {cc : ByteArray} {pc : Nat} (hexec : p.tables.exec = Jvm.exec) (hb : c.code = cc) (hl : l.stackTraces = false) {own cls text : String} {names : List String} {ik is ic mc ms sa : Nat} {A : Nat → Prop}
    (hown : s.vm.findClass own = some m.cls) (hcls : Bundle.fit cls = true) (hnames : ∀ n ∈ names, Bundle.fit n = true)
    (hk : (Cond.classLink own ik cls).before args s = true) (hini : (Cond.initialized cls).before args s = true) (hstr : vk_R own is text sa s) (hat : ∀ w ∈ vx_atS own ic cls names, w.before args s = true)
    (hgood : ∀ w ∈ Cond.classLink own ik cls :: Cond.initialized cls :: vx_atS own ic cls names, vx_ot w = true)
    (hU : vx_Zq Bundle.tN "UNASSIGNED_STACK" Bundle.steD A s s.heap) (hN : vx_Zq Bundle.tN "SUPPRESSED_SENTINEL" Bundle.listD A s s.heap) (hS : va_S A s.heap H locs) (hsize : ls.size = c.maxLocals)
    (d0 : decode cc pc = .ok (.new ik, 3)) (d3 : decode cc (pc + 3) = .ok (.dup, 1)) (d4 : decode cc (pc + 4) = .ok (.ldc_w is, 3)) (d7 : decode cc (pc + 7) = .ok (.invokespecial ic, 3)) (d10 : decode cc (pc + 10) = .ok (.athrow, 1))
    (hout : ∀ x ∈ c.exceptionTable.toList, covers x (pc + 10) = false)
    (hRframes : names.length + 3 < R.frames) (hRlocals : (rest.map fun v => v.category).sum + (13 * (names.length + 1) + 43) ≤ R.locals) (hRcells : cells + 1 ≤ R.cells) (hRslots : slots + 6 ≤ R.slots) (hlocks : meth.locks = false)
    (hx : ∀ t : State, s.vm.Alike t.vm → H.size ≤ t.heap.size → (∀ q : Nat, q < H.size → t.heap[q]? = H[q]?) → XC cls s t)
    (hf : ∀ z ∈ locs, free z.base) (hc : cells + 1 ≤ mc) (hs : slots + 6 ≤ ms) :
    W p l e R s m args below meth c H locs cells slots (vx_MQ below Qc XC args s mc ms free) (F0 m pc ls rest) := by
  intro T hT X
  have htr : e.platform.stackTraces = false := (show e.platform.stackTraces = l.stackTraces by rw [X.admits.platform]).trans hl
  have Y := vx_rebase X (R' := { frames := R.frames, locals := R.locals, cells := 1, slots := 6 }) (Nat.le_refl _) (Nat.le_refl _) hRcells hRslots
  obtain ⟨s', hA⟩ : ∃ z, z = (T.setVm s.vm).setFrames (.invoking m args :: below) := ⟨_, rfl⟩
  rw [← hA] at Y
  have hvm : s'.vm = s.vm := by rw [hA]; rfl
  have hhp : s'.heap = H := by rw [hA]; exact hT
  have hW0 : s.WarmedH s'.vm := by rw [hvm]; exact State.WarmedH.refl s
  have hat' : ∀ w ∈ vx_atS own ic cls names, w.before args s' = true := fun w hw => vx_ot_at hW0 hvm.symm (hgood w (List.mem_cons_of_mem _ (List.mem_cons_of_mem _ hw))) (hat w hw)
  have hk' : (Cond.classLink own ik cls).before args s' = true := vx_ot_at hW0 hvm.symm (hgood _ List.mem_cons_self) hk
  have hini' : (Cond.initialized cls).before args s' = true := vx_ot_at hW0 hvm.symm (hgood _ (List.mem_cons_of_mem _ List.mem_cons_self)) hini
  have hU' : vx_Zq Bundle.tN "UNASSIGNED_STACK" Bundle.steD A s' s'.heap := by rw [hhp]; exact vx_Zq.moved hW0.alike (hU.kept hS.2.1)
  have hN' : vx_Zq Bundle.tN "SUPPRESSED_SENTINEL" Bundle.listD A s' s'.heap := by rw [hhp]; exact vx_Zq.moved hW0.alike (hN.kept hS.2.1)
  have h : ∀ w ∈ Bundle.ownAtoms own ic cls names, w.before args s' = true := vx_own hat' (vx_isRefq hU'.1) (vx_isRefq hN'.1) hU'.2.word hN'.2.word
  have hown' : s'.vm.findClass own = some m.cls := by rw [hvm]; exact hown
  have hins : (Cond.instantiable cls 6).before args s' = true := h _ (by simp [Bundle.ownAtoms])
  obtain ⟨vm₁, cX, kX, hfX, hkX, -, -, X₁, st1⟩ := Y.newCold hexec (own := own) (C := cls) (index := ik) (n := 6) hown' hk' hins hini'
    (g := F0 m pc ls rest) rfl (by rw [hb]; exact d0) (Nat.le_refl _) (Nat.le_refl _)
  generalize hT1 : (T.setVm vm₁).pushCell { cls := cX, slots := kX.instanceTypes.map defaultValue, vm := .none } = T1 at X₁ st1
  have hcat : (Value.ref T.heap.size).category = 1 := rfl
  have hcellA : T1.heap[T.heap.size]? = some (freshCell cX kX) := by rw [← hT1]; exact State.heap_pushCell_size _ _
  have d3' : decode c.code (pc + 3) = .ok (.dup, 1) := by rw [hb]; exact d3
  have d4' : decode c.code (pc + 4) = .ok (.ldc_w is, 3) := by rw [hb]; exact d4
  have hstr' : vk_R own is text sa s' := vk_R.warm hW0 hstr
  obtain ⟨U, hsteps, hrun, hend, hW, hsame, ce, hce, hO⟩ := X₁.ctorThrowS hexec htr (own := own) (cls := cls) (names := names) (ic := ic) hown' hcls hnames h (fun x hx => nomatch hx) hfX hkX hcellA (by rw [hhp, hT]; exact Nat.le_refl _) (msg := .ref sa) rfl
    (g := { method := m, pc := pc + 7, locals := ls, stack := .ref sa :: .ref T.heap.size :: .ref T.heap.size :: rest, locked := none }) rfl hsize rfl rfl (rest := rest) rfl
    (by rw [hb]; exact d7) (by rw [hb]; exact d10) hout hRframes (by simp only [List.map_cons, List.sum_cons, hcat]; omega) hlocks
  obtain ⟨f1, f2⟩ := vx_frame hsame
  rw [hhp] at f1 f2
  have hWs : s.WarmedH U.vm := State.WarmedH.trans hW0 hW
  have hcl : s.vm.findClass cls = some ce.cls := by
    have h9 := hO.cls
    rw [hvm] at h9
    exact h9
  have hall : s.sameButNew ({ U with vm := s.vm } : State) locs mc ms := by
    subst hA
    obtain ⟨e1, e2⟩ := hsame
    rw [State.setFrames_setFrames] at e1
    have h2 : (T.setVm s.vm).sameButNew ({ U with vm := s.vm } : State) [] (0 + 1) (0 + 6) := ⟨e1, e2⟩
    have h3 := X.same.trans h2
    rw [List.append_nil] at h3
    exact h3.mono hc hs
  refine ⟨U, ?_, .threw T.heap.size, hrun, hend, Or.inr ⟨T.heap.size, rfl, cls, ce, locs, hx U hWs.alike f1 (fun q hq => f2 q hq (fun z hz => nomatch hz)), hce, hO.vm, hcl, hWs, hall, hf⟩⟩
  refine st1 _ ?_
  show Steps p.tables e below (T1.setTop { method := m, pc := pc + 3, locals := ls, stack := .ref T.heap.size :: rest, locked := none }) _
  jvm_step X₁.here [X₁.here.top, hexec, d3', Value.category]
  exact X₁.ldcStringW hexec (own := own) (text := text) (index := is) (a := sa) hown' hstr'.1 hstr'.2
    (g := { method := m, pc := pc + 4, locals := ls, stack := .ref T.heap.size :: .ref T.heap.size :: rest, locked := none }) rfl d4' _ hsteps
end Ends
section Bodies
variable {l : Launch}
theorem vx_ofW {y : MethodName} {ws ws' : List Cond} {rm : Room} {Pc : Array Value → State → Prop} {Qc : Array Value → State → Outcome → State → Prop} {XC : String → State → State → Prop} {mc ms : Nat} {free : Addr → Prop} {cc : ByteArray} {maxL : Nat} {ret : Option FieldType}
    (hy : plainName y.cls = true) (hw : ws = Cond.code y cc maxL ret :: ws')
    (body : ∀ p e s m args below meth c s₁, BodyLoose p l y (headSpec ws rm) cc maxL ret e s m args below meth c s₁ → c.maxLocals = maxL → (∀ x ∈ c.exceptionTable.toList, False) → Pc args s →
      W p l e (headSpec ws rm).room s m args below meth c s.heap [] 0 0 (vx_MQ below Qc XC args s mc ms free) (entryFrame m args maxL)) : vx_Met l y ws rm Pc Qc XC mc ms free := by
  refine MetFree.of_bodyS (code := cc) (maxLocals := maxL) (ret := ret) hy ?_ ?_
  · intro args s m h hn
    obtain ⟨meth, c, h1, h2, h3, h4, h5, h6, -, -⟩ := Cond.code_spec hn (atoms_spec (ws := ws) h _ (by rw [hw]; exact List.mem_cons_self))
    exact ⟨meth, c, h1, h2, h3, h4, h5, h6⟩
  · intro p e s m args below meth c s₁ B hml hP _
    have hh0 : s₁.heap = s.heap := by rw [B.state]; rfl
    have ht : ∀ x ∈ c.exceptionTable.toList, False := by
      obtain ⟨meth9, c9, h1, h2, -, -, -, -, h7, -⟩ := Cond.code_spec B.named (atoms_spec (ws := ws) B.pre _ (by rw [hw]; exact List.mem_cons_self))
      cases Option.some.inj (h1.symm.trans B.method)
      cases Option.some.inj (h2.symm.trans (Stand.of_body B).code)
      intro x hx
      rw [Array.isEmpty_iff.mp h7] at hx
      cases hx
    obtain ⟨t, a1, o, b1, b2, b3⟩ := body p e s m args below meth c s₁ B hml ht hP s₁ hh0 (Stand.of_body B)
    exact ⟨t, o, a1, b1, b2, b3⟩
/-- the table of a body with handlers -/
theorem vx_table {p : Program} {x y : MethodName} {S : Spec} {cc bytes : ByteArray} {maxL maxL' : Nat} {ret ret' : Option FieldType} {e : Env} {s s₁ : State} {m : MethodId} {args : Array Value} {below : List Frame} {meth : Method} {c : Code} {hh : List (Nat × Nat × Nat × Nat)}
    (B : BodyLoose p l y S cc maxL ret e s m args below meth c s₁) (h : (Cond.codeWith y bytes maxL' ret' hh).before args s = true) : c.exceptionTable.toList = tableOf hh := by
  obtain ⟨m9, meth9, c9, hn9, h1, h2, -, -, h6, -⟩ := Cond.codeWith_spec h
  cases Option.some.inj (hn9.symm.trans B.named)
  cases Option.some.inj (h1.symm.trans B.method)
  cases Option.some.inj (h2.symm.trans (Stand.of_body B).code)
  rw [← h6, table_eq]
end Bodies
end VXA
/-! ===== END ===== -/
/-! ===== BEGIN a static call of a method with an exception table ===== -/
section VXS
variable {p : Program} {l : Launch} {e : Env} {R : Room} {s : State} {m : MethodId} {args : Array Value} {below : List Frame} {meth : Method} {c : Code} {T : State} {H : Heap} {locs : List Loc} {cells slots : Nat}
abbrev vx_CSW (R : Room) (s : State) (args : Array Value) (own : String) (index : Nat) (y : MethodName) (bytes : ByteArray) (maxL : Nat) (ret : Option FieldType) (hh : List (Nat × Nat × Nat × Nat)) (ws : List Cond) (rm : Room) (mc ms n : Nat) : Prop :=
  (rm.cells = mc ∧ rm.slots = ms ∧ rm.frames + 1 ≤ R.frames ∧ 8 + (maxL + 11) + rm.locals ≤ R.locals ∧ (∀ w ∈ ws, ∀ (a' : Array Value) (U : State), s.WarmedH U.vm → w.before a' U = true) ∧ Cond.codeWith y bytes maxL ret hh ∈ ws) ∧
  (Cond.codeWith y bytes maxL ret hh).before args s = true ∧ (Cond.initialized y.cls).before args s = true ∧ (y.cls ≠ "java/lang/invoke/MethodHandle" ∧ y.cls ≠ "java/lang/invoke/VarHandle") ∧
  (∀ sig, parseMethodDescriptor y.desc = some sig → n = sig.parameters.length) ∧ (Cond.methodLink own index y).before args s = true ∧ (Cond.static y).before args s = true
theorem vx_cwSW {own : String} {index maxL mc ms : Nat} {y : MethodName} {bytes : ByteArray} {ret : Option FieldType} {hh : List (Nat × Nat × Nat × Nat)} {Ts ws ws' : List Cond} {rm : Room} (n : Nat) (ht : ∀ w ∈ Ts, w.before args s = true) (hT : GoodIn Ts (va_wsS own index y ws)) (hw : ws = Cond.codeWith y bytes maxL ret hh :: ws') (hrc : rm.cells = mc) (hrs : rm.slots = ms)
    (hd : y.cls ≠ "java/lang/invoke/MethodHandle" ∧ y.cls ≠ "java/lang/invoke/VarHandle" ∧ (parseMethodDescriptor y.desc).map (fun d => d.parameters.length) = some n) (hR : rm.frames + 1 ≤ R.frames ∧ 8 + (maxL + 11) + rm.locals ≤ R.locals) :
    vx_CSW R s args own index y bytes maxL ret hh ws rm mc ms n := by
  have ok : ∀ w ∈ va_wsS own index y ws, w.before args s = true := fun w h => ht w (hT w h).1
  have hG : GoodIn Ts ws := fun w h => hT w (by unfold va_wsS; exact List.mem_append_right _ h)
  have hc : Cond.codeWith y bytes maxL ret hh ∈ ws := by rw [hw]; exact List.mem_cons_self
  refine ⟨⟨hrc, hrs, hR.1, hR.2, pay_in ht hG, hc⟩, ht _ (hG _ hc).1, ok _ (by simp [va_wsS]), ⟨hd.1, hd.2.1⟩, fun sig h => ?_, ok _ (by simp [va_wsS]), ok _ (by simp [va_wsS])⟩
  have h2 := hd.2.2
  rw [h] at h2
  exact (Option.some.inj h2).symm
theorem vx_callSW (X : Stand p l e R s m args below meth c T locs cells slots) (hexec : p.tables.exec = Jvm.exec) {own : String} {index : Nat} {y : MethodName} {bytes : ByteArray} {maxL : Nat} {ret : Option FieldType} {hh : List (Nat × Nat × Nat × Nat)}
    (hown : s.vm.findClass own = some m.cls) (hlink : (Cond.methodLink own index y).before args s = true) (hstat : (Cond.static y).before args s = true) (hinit : (Cond.initialized y.cls).before args s = true)
    (hcode : (Cond.codeWith y bytes maxL ret hh).before args s = true) (hy : y.cls ≠ "java/lang/invoke/MethodHandle" ∧ y.cls ≠ "java/lang/invoke/VarHandle")
    {W9 : Nat} {Pre : Pt → Array Value → Prop} {Post : Pt → Array Value → Option Value → Pt → Prop} (hK : Back l R p e below s args y 3 W9 Pre Post)
    {g : JFrame} (hg : g.method = m) (hsize : g.locals.size = c.maxLocals) {argsL rest : List Value} (hlen : ∀ sig, parseMethodDescriptor y.desc = some sig → argsL.length = sig.parameters.length)
    (hstack : g.stack = argsL.reverse ++ rest) (hW : 2 * g.monitorRoom + (rest.map fun v => v.category).sum ≤ W9) (hdg : decode c.code g.pc = .ok (.invokestatic index, 3))
    (hpre : ∀ vm₁, s.WarmedH vm₁ → Pre ⟨T.setVm vm₁, locs, cells, slots⟩ argsL.toArray) :
    ∃ (v : Option Value) (vm₁ : Vm) (B : Pt), s.WarmedH vm₁ ∧ Stand p l e R s m args below meth c B.U B.locs B.cells B.slots ∧ Post ⟨T.setVm vm₁, locs, cells, slots⟩ argsL.toArray v B ∧
      ∀ target, Steps p.tables e below (B.U.setTop { g with pc := g.pc + 3, stack := v.toList ++ rest }) target → Steps p.tables e below (T.setTop g) target := by
  obtain ⟨mk, methM, cM, hnamed, hmethM, -, -, -, -, -, -, hsigM⟩ := Cond.codeWith_spec hcode
  have hstatic : methM.isStatic = true := Cond.static_spec hnamed hmethM hstat
  obtain ⟨kP, hkP, -⟩ := className_of_methodNamed hnamed
  have hinitP : kP.init = .initialized := Cond.initialized_spec (findClass_of_methodNamed hnamed) hkP hinit
  obtain ⟨vm₁, X₁, hstep₁⟩ := X.invokestatic hexec hown hlink hnamed hmethM hstatic hkP hinitP hy (g := g) hg (argsL := argsL) (rest := rest) (hlen _ hsigM) hstack hdg
  obtain ⟨v, B, X', hpost, hsteps⟩ := hK m meth c ⟨T.setVm vm₁, locs, cells, slots⟩ { g with stack := rest } (.invokestatic index) mk argsL.toArray X₁ hg hsize hdg hW (X₁.named hnamed) (hpre vm₁ X₁.warmed)
  exact ⟨v, vm₁, B, X₁.warmed, X', hpost, fun target h => hstep₁ _ fun acts => by rw [doInvoke_state]; exact hsteps.trans h⟩
theorem vx_runSW {y : MethodName} {bytes cc : ByteArray} {maxL nL mc ms n index : Nat} {ret : Option FieldType} {hh : List (Nat × Nat × Nat × Nat)} {ws : List Cond} {rm : Room} {Pc : Array Value → State → Prop} {Qc : Array Value → State → Outcome → State → Prop} {free : Addr → Prop} {Ts : List Cond} {own : String} {As rest : List Value} {g : JFrame}
    (S : CallFix p m c cc nL s args Ts own) (hM : Met l y ws rm Pc Qc mc ms free) (cw : vx_CSW R s args own index y bytes maxL ret hh ws rm mc ms n) (hp : PreS s H Pc As)
    (hg : g.method = m) (hn : As.length = n) (hsize : g.locals.size = nL) (hstack : g.stack = As.reverse ++ rest) (hW : 2 * g.monitorRoom + (rest.map fun v => v.category).sum ≤ 8) (hdg : decode cc g.pc = .ok (.invokestatic index, 3)) (hf : cells + mc ≤ R.cells ∧ slots + ms ≤ R.slots) :
    va_Run p l e R s m args below meth c H locs cells slots mc ms g rest (Qc As.toArray) (free) := by
  obtain ⟨⟨hrc, hrs, hfr, hlo, hws, hcw⟩, hcode, hini, hy, hlen, hl, hstt⟩ := cw
  have hK : Back l R p e below s args y 3 8 (PreOf R mc ms Pc) (PostOf Qc mc ms free) := va_backW (hh := hh) (bytes := bytes) (maxL := maxL) (ret := ret) hM hp.1 hrc hrs hfr hlo hws hcw (fun a' U hW => word_at hW (Or.inl (by first | rfl | simp [Cond.onTables, Cond.keeps, Cond.steady])) hini)
  obtain ⟨hx, hb, hml, ho, -⟩ := S
  intro T hT X
  obtain ⟨v, vm₁, ⟨U', l2, c2, s2⟩, hW₁, X', ⟨g', mk, t, L, e1, e2, hq, h1, hL, h2, h3⟩, st⟩ := vx_callSW X hx (hh := hh) (bytes := bytes) (maxL := maxL) (ret := ret) ho hl hstt hini hcode hy hK hg (hsize.trans hml.symm) (argsL := As) (rest := rest) (fun sig h => hn.trans (hlen sig h)) hstack hW (by rw [hb]; exact hdg)
    (fun vm₁ hW₁ => ⟨hf.1, hf.2, hp.2 (T.setVm vm₁) hT hW₁⟩)
  dsimp only [Pt.U, Pt.locs, Pt.cells, Pt.slots] at X' e1 e2 h1 h2 h3 st
  subst h1; subst h2; subst h3
  exact ⟨v, (T.setVm vm₁).calling g' mk As.toArray, t, U', L, hT, X', hL, e1, e2, hq, st⟩
/-- not caught here, past rows that name other classes: it goes on to the caller -/
theorem vx_outP {p : Program} {l : Launch} {e : Env} {R : Room} {s : State} {m : MethodId} {args : Array Value} {below : List Frame} {meth : Method} {c : Code} {H : Heap} {locs : List Loc} {cells slots : Nat} {free : Addr → Prop} {ls : Array Slot} {rest : List Value} {Qc : Array Value → State → Outcome → State → Prop} {XC : String → State → State → Prop}
    {pc : Nat} {own E : String} {ce : Cell} {q : Addr} {mc ms : Nat} (hown : s.vm.findClass own = some m.cls) (hlocks : meth.locks = false)
    (hpass : ∀ z ∈ c.exceptionTable.toList, covers z pc = false ∨ (z.catchType ≠ 0 ∧ ∃ nm : String, (Cond.classLink own z.catchType nm).before args s = true ∧ va_Nc E nm s)) (hcell : H[q]? = some ce) (hv : ce.vm = .none) (hcl : s.vm.findClass E = some ce.cls)
    (hx : ∀ t : State, t.heap = H → s.vm.Alike t.vm → XC E s t) (hf : ∀ z ∈ locs, free z.base) (hc : cells ≤ mc) (hs : slots ≤ ms) :
    vx_W p l e R s m args below meth c H locs cells slots (vx_MQ below Qc XC args s mc ms free) (F0 m pc ls rest) q := by
  intro T hT X
  have hpl : e.platform.magicAccessors = ({} : Platform).magicAccessors := by rw [X.admits.platform]
  obtain ⟨vm', hW', X', st⟩ := X.outThrough hlocks q (g := F0 m pc ls rest) rfl rfl rfl (cell := ce) (by rw [hT]; exact hcell) (by rw [hv]; rfl)
    (by obtain ⟨k9, h9, -⟩ := Vm.findClass_spec hcl; exact ⟨k9, h9⟩) (fun z hz => by
      rcases hpass z hz with h | ⟨hz0, nm, hl1, hn1⟩
      · exact Or.inl h
      · obtain ⟨c6, hc6, hcl6⟩ := Cond.classLink_spec hown hl1 e.platform hpl
        obtain ⟨a8, b8, h1, h2, h3⟩ := hn1
        cases Option.some.inj (h1.symm.trans hcl)
        cases Option.some.inj (h2.symm.trans hc6)
        exact Or.inr ⟨hz0, _, hcl6, h3⟩)
  obtain ⟨g₀, hfr⟩ := X'.frames_eq
  have hcell9 : ((T.setVm vm').setFrames (.throwing q :: below)).heap[q]? = some ce := by
    show T.heap[q]? = some ce
    rw [hT]; exact hcell
  have hend : Ended ((T.setVm vm').setFrames (.throwing q :: below)) below (.threw q) := State.frames_setFrames _ (State.cur_lt_of_frames hfr)
  refine ⟨(T.setVm vm').setFrames (.throwing q :: below), ?_, .threw q, X'.here.running, hend, Or.inr ⟨q, rfl, E, ce, locs, hx _ hT (X'.ends _).1.alike, hcell9, hv, hcl, (X'.ends _).1, (X'.ends _).2.mono hc hs, hf⟩⟩
  rw [X.pushThrowing_eq]
  exact st
/-- a thing of a world lies in the heap -/
theorem vx_lt {D : va_G} {cl : List vw_C} {ws : va_W} {H1 : Heap} (h : va_P D cl ws H1) {k : Nat} {q : Nat × va_E} (hk : ws[k]? = some q) : q.1 < H1.size := (h k q hk).lt
end VXS
/-! ===== END ===== -/
/-! ===== BEGIN methods with a table of their own: called by a name, returning or throwing ===== -/
section VXH
/-! vx_backW, vx_callVX, vx_callSX, vx_callVW, vx_runVW, vx_runVX, vx_runSX, vx_ofWH follow the same proofs as their sisters above (Free/Laws.lean, Shelf42/LK1.lean); vx_outP calls Shelf42/NT130.lean (outThrough). -/
section
variable {l : Launch} {R : Room} {p : Program} {e : Env} {below : List Frame} {s : State} {sargs : Array Value} {y : MethodName} {len W9 : Nat}
theorem vx_backW {ws : List Cond} {rm : Room} {Pc : Array Value → State → Prop} {Qc : Array Value → State → Outcome → State → Prop} {XC : String → State → State → Prop} {mc ms : Nat} {free : Addr → Prop} {bytes : ByteArray} {maxL : Nat} {ret : Option FieldType} {hh : List (Nat × Nat × Nat × Nat)}
    (hM : vx_Met l y ws rm Pc Qc XC mc ms free) (hblind : FrameBlind Pc) (hrc : rm.cells = mc) (hrs : rm.slots = ms)
    (hframes : rm.frames + 1 ≤ R.frames) (hlocals : W9 + (maxL + 11) + rm.locals ≤ R.locals)
    (hws : ∀ w ∈ ws, ∀ a' U, s.WarmedH U.vm → w.before a' U = true) (hcode : Cond.codeWith y bytes maxL ret hh ∈ ws) (hinit : ∀ a' U, s.WarmedH U.vm → (Cond.initialized y.cls).before a' U = true) :
    vx_Back l R p e below s sargs y len W9 (PreOf R mc ms Pc) (PostOf Qc mc ms free) (vx_Post XC mc ms free) := by
  intro m meth c A g ig mk a X hg hsize hdg hW hn hp
  have h1 : (headSpec ws rm).pre.before a A.U = true := atoms_intro fun w hw => hws w hw _ _ X.warmed
  have h2 : (Cond.codeWith y bytes maxL ret hh).before a A.U = true := hws _ hcode _ _ X.warmed
  have h3 : (Cond.initialized y.cls).before a A.U = true := hinit _ _ X.warmed
  have h4 : A.cells + (headSpec ws rm).room.cells ≤ R.cells := by rw [show (headSpec ws rm).room.cells = mc from hrc]; exact hp.1
  have h5 : A.slots + (headSpec ws rm).room.slots ≤ R.slots := by rw [show (headSpec ws rm).room.slots = ms from hrs]; exact hp.2.1
  have hPc : Pc a (A.U.calling g mk a) := hblind _ _ _ _ hp.2.2
  obtain ⟨U, Ls, c0, s0⟩ := A
  dsimp only [Pt.U, Pt.locs, Pt.cells, Pt.slots] at h1 h2 h3 h4 h5 X hn hPc ⊢
  obtain ⟨m9, methY, cY, hn9, hmY, hcY, -, hlY, -⟩ := Cond.codeWith_spec h2
  cases Option.some.inj (hn9.symm.trans hn)
  obtain ⟨kY, hkY, -⟩ := className_of_methodNamed hn
  have hinitY : kY.init = .initialized := Cond.initialized_spec (findClass_of_methodNamed hn) hkY h3
  have h : At U g.method c below := by rw [hg]; exact X.here
  have hlocals9 : W9 + (maxL + 11) + (headSpec ws rm).room.locals ≤ R.locals := hlocals
  have happ : (headSpec ws rm).appliesLoose y e.platform (U.calling g mk a) = true :=
    Spec.appliesLoose_calling (g := g) h hdg hn hkY hinitY
      (X.room_calling (g := g) (R' := (headSpec ws rm).room) hsize hmY hcY hframes (by rw [hlY]; omega) h4 h5) h1
  obtain ⟨mid, hmid⟩ := h.above
  have hfr : (U.setTop g).frames = (.java g :: mid) ++ below := by rw [State.frames_setTop' g h.top, hmid]; rfl
  obtain ⟨o, s₂, hsteps, -, hend, hq⟩ := Steps.callFree hM p X.admits X.cas X.clock (acts := []) hfr happ hPc trivial
  have hq' : vx_Q Qc XC mc ms free a (U.calling g mk a) o s₂ := hq
  rw [State.frames_setTop' g h.top] at hend
  obtain ⟨g₀, hg0⟩ := Option.isSome_iff_exists.mp h.top
  obtain ⟨r, hr⟩ := State.topJava?_eq_some.mp hg0
  have hr' : (({ U with heap := s₂.heap, slotsUsed := s₂.slotsUsed } : State).setVm s₂.vm).frames = .java g₀ :: r := hr
  rcases hq' with ⟨hqc, L, hfe, hL⟩ | ⟨q, rfl, E, ce, L, hx, hce, hcv, hcl, hW₂, hsm, hL⟩
  · obtain ⟨⟨v, rfl⟩, hW₂, e2, q2, q3, q4, q5, q6⟩ := id hfe
    have e3 : s₂ = ({ (U.calling g mk a).setFrames s₂.frames with heap := s₂.heap, slotsUsed := s₂.slotsUsed } : State).setVm s₂.vm := by
      have : s₂ = ({ s₂ with vm := (U.calling g mk a).vm } : State).setVm s₂.vm := rfl
      rw [e2] at this
      exact this
    obtain ⟨c₂, i₂, len₂, hc₂, hd₂, hf₂⟩ := hend
    have hW' : U.WarmedH s₂.vm := hW₂
    have hcc : c₂ = c := by
      have h1 : s₂.code? g.method = U.code? g.method := by
        rw [State.code?_eq, State.code?_eq, hW'.alike.method?]
      exact Option.some.inj (hc₂.symm.trans (h1.trans h.code))
    subst hcc
    have hlen : len₂ = len := by rw [hdg] at hd₂; cases hd₂; rfl
    subst hlen
    have hs₂ : s₂ = (({ U with heap := s₂.heap, slotsUsed := s₂.slotsUsed } : State).setVm s₂.vm).setTop { g with pc := g.pc + len₂, stack := v.toList ++ g.stack } := by
      refine e3.trans ?_
      rw [hf₂, State.calling_eq h.top, State.setFrames_setFrames, State.setTop_of_frames _ hr', hr]
      rfl
    have hsame : U.sameButNew ({ U with heap := s₂.heap, slotsUsed := s₂.slotsUsed } : State) L mc ms := by
      refine ⟨?_, q2, q3, q4, q5, q6⟩
      obtain ⟨t, ht, -⟩ := State.frames_cons hr
      show ({ U with heap := s₂.heap, slotsUsed := s₂.slotsUsed } : State) = { U.setFrames U.frames with heap := s₂.heap, slotsUsed := s₂.slotsUsed }
      rw [State.setFrames_self ht]
    subst hg
    refine Or.inl ⟨v, ⟨(({ U with heap := s₂.heap, slotsUsed := s₂.slotsUsed } : State).setVm s₂.vm), Ls ++ L, c0 + mc, s0 + ms⟩,
      ⟨X.admits, X.cas, X.clock, X.frames, X.room, X.hears, X.method, X.code, (X.here.setHeapUsed s₂.heap s₂.slotsUsed).setVm hW'.alike, X.tail, State.WarmedH.trans X.warmed hW', X.limits, X.bytes, X.same.trans (hsame.setVm s.vm)⟩,
      ⟨g, mk, s₂, L, rfl, rfl, hqc, rfl, hL, rfl, rfl⟩, ?_⟩
    show Steps p.tables e below _ ((({ U with heap := s₂.heap, slotsUsed := s₂.slotsUsed } : State).setVm s₂.vm).setTop { g with pc := g.pc + len₂, stack := v.toList ++ g.stack })
    rw [← hs₂]
    exact hsteps
  · obtain ⟨e2, q2, q3, q4, q5, q6⟩ := id hsm
    have e3 : s₂ = ({ (U.calling g mk a).setFrames s₂.frames with heap := s₂.heap, slotsUsed := s₂.slotsUsed } : State).setVm s₂.vm := by
      have : s₂ = ({ s₂ with vm := (U.calling g mk a).vm } : State).setVm s₂.vm := rfl
      rw [e2] at this
      exact this
    have hf₂ : s₂.frames = .throwing q :: .java g :: U.frames.tail := hend
    have hW' : U.WarmedH s₂.vm := hW₂
    have hs₂ : s₂ = ((({ U with heap := s₂.heap, slotsUsed := s₂.slotsUsed } : State).setVm s₂.vm).setTop g).pushFrame (.throwing q) := by
      refine e3.trans ?_
      rw [hf₂, State.calling_eq h.top, State.setFrames_setFrames, State.pushFrame, State.frames_setTop _ hr', State.setTop_of_frames _ hr', State.setFrames_setFrames, hr]
      rfl
    have hsame : U.sameButNew ({ U with heap := s₂.heap, slotsUsed := s₂.slotsUsed } : State) L mc ms := by
      refine ⟨?_, q2, q3, q4, q5, q6⟩
      obtain ⟨t, ht, -⟩ := State.frames_cons hr
      show ({ U with heap := s₂.heap, slotsUsed := s₂.slotsUsed } : State) = { U.setFrames U.frames with heap := s₂.heap, slotsUsed := s₂.slotsUsed }
      rw [State.setFrames_self ht]
    subst hg
    refine Or.inr ⟨q, ⟨(({ U with heap := s₂.heap, slotsUsed := s₂.slotsUsed } : State).setVm s₂.vm), Ls ++ L, c0 + mc, s0 + ms⟩,
      ⟨X.admits, X.cas, X.clock, X.frames, X.room, X.hears, X.method, X.code, (X.here.setHeapUsed s₂.heap s₂.slotsUsed).setVm hW'.alike, X.tail, State.WarmedH.trans X.warmed hW', X.limits, X.bytes, X.same.trans (hsame.setVm s.vm)⟩,
      ⟨g, mk, s₂, L, E, ce, rfl, rfl, hx, hce, hcv, hcl, rfl, hL, rfl, rfl⟩, ?_⟩
    show Steps p.tables e below _ (((({ U with heap := s₂.heap, slotsUsed := s₂.slotsUsed } : State).setVm s₂.vm).setTop g).pushFrame (.throwing q))
    rw [← hs₂]
    exact hsteps
end
variable {p : Program} {l : Launch} {e : Env} {R : Room} {s : State} {m : MethodId} {args : Array Value} {below : List Frame} {meth : Method} {c : Code} {T : State} {H : Heap} {locs : List Loc} {cells slots : Nat}
theorem vx_callVX (X : Stand p l e R s m args below meth c T locs cells slots) (hexec : p.tables.exec = Jvm.exec) {own C : String} {index : Nat} {y : MethodName} {bytes : ByteArray} {maxL : Nat} {ret : Option FieldType} {hh : List (Nat × Nat × Nat × Nat)}
    (hown : s.vm.findClass own = some m.cls) (hlink : (Cond.methodLink own index y).before args s = true) (hinst : (Cond.instanceMethod y).before args s = true) (hsel : (Cond.selects C y y).before args s = true)
    (hcode : (Cond.codeWith y bytes maxL ret hh).before args s = true) (hy : y.cls ≠ "java/lang/invoke/MethodHandle" ∧ y.cls ≠ "java/lang/invoke/VarHandle")
    {W9 : Nat} {Pre : Pt → Array Value → Prop} {Post : Pt → Array Value → Option Value → Pt → Prop} {PostX : Pt → Array Value → Addr → Pt → Prop} (hK : vx_Back l R p e below s args y 3 W9 Pre Post PostX)
    {b : Addr} {cellB : Cell} (hcell : T.heap[b]? = some cellB) (hobj : cellB.vm.isStatics = false) (hcls : s.vm.findClass C = some cellB.cls)
    {g : JFrame} (hg : g.method = m) (hsize : g.locals.size = c.maxLocals) {argsL rest : List Value} (hlen : ∀ sig, parseMethodDescriptor y.desc = some sig → argsL.length = sig.parameters.length)
    (hstack : g.stack = argsL.reverse ++ .ref b :: rest) (hW : 2 * g.monitorRoom + (rest.map fun v => v.category).sum ≤ W9) (hdg : decode c.code g.pc = .ok (.invokevirtual index, 3))
    (hpre : ∀ vm₁, s.WarmedH vm₁ → Pre ⟨T.setVm vm₁, locs, cells, slots⟩ (Value.ref b :: argsL).toArray) :
    (∃ (v : Option Value) (vm₁ : Vm) (B : Pt), s.WarmedH vm₁ ∧ Stand p l e R s m args below meth c B.U B.locs B.cells B.slots ∧ Post ⟨T.setVm vm₁, locs, cells, slots⟩ (Value.ref b :: argsL).toArray v B ∧
      ∀ target, Steps p.tables e below (B.U.setTop { g with pc := g.pc + 3, stack := v.toList ++ rest }) target → Steps p.tables e below (T.setTop g) target) ∨
    (∃ (q : Addr) (vm₁ : Vm) (B : Pt), s.WarmedH vm₁ ∧ Stand p l e R s m args below meth c B.U B.locs B.cells B.slots ∧ PostX ⟨T.setVm vm₁, locs, cells, slots⟩ (Value.ref b :: argsL).toArray q B ∧
      Steps p.tables e below (T.setTop g) ((B.U.setTop { g with stack := rest }).pushFrame (.throwing q))) := by
  obtain ⟨mk, methM, hnamed, hmethM, hstM, habM⟩ := Cond.instanceMethod_spec hinst
  obtain ⟨m8, methM', cM, hn8, hmethM', -, -, -, -, -, -, hsigM⟩ := Cond.codeWith_spec hcode
  cases Option.some.inj (hn8.symm.trans hnamed)
  cases hmethM.symm.trans hmethM'
  obtain ⟨c2, r2, m2, q1, q2, q3, q4, kP, hkP, hkPi⟩ := Cond.selects_spec hsel
  cases hcls.symm.trans q1
  cases (State.methodFound?_of_named hnamed hy).symm.trans q2
  cases hnamed.symm.trans q3
  have hselP : selectMethod e.platform s.vm cellB.cls mk = .method mk := by rw [Launch.admits_selectMethod X.admits]; exact q4
  obtain ⟨vm₁, X₁, hstep₁⟩ := X.invokevirtual hexec hown hlink hnamed hmethM hstM hkP hkPi hy (a := b) (cell := cellB) hcell
    (fun z h => by rw [h] at hobj; cases hobj) hselP hmethM habM hkP hkPi (g := g) hg (argsL := argsL) (rest := rest) (hlen _ hsigM) hstack hdg
  rcases hK m meth c ⟨T.setVm vm₁, locs, cells, slots⟩ { g with stack := rest } (.invokevirtual index) mk (Value.ref b :: argsL).toArray X₁ hg hsize hdg hW (X₁.named hnamed) (hpre vm₁ X₁.warmed) with ⟨v, B, X', hpost, hsteps⟩ | ⟨q, B, X', hpost, hsteps⟩
  · exact Or.inl ⟨v, vm₁, B, X₁.warmed, X', hpost, fun target h => hstep₁ _ fun acts => by rw [doInvoke_state]; exact hsteps.trans h⟩
  · exact Or.inr ⟨q, vm₁, B, X₁.warmed, X', hpost, hstep₁ _ fun acts => by rw [doInvoke_state]; exact hsteps⟩
theorem vx_callSX (X : Stand p l e R s m args below meth c T locs cells slots) (hexec : p.tables.exec = Jvm.exec) {own : String} {index : Nat} {y : MethodName} {bytes : ByteArray} {maxL : Nat} {ret : Option FieldType} {hh : List (Nat × Nat × Nat × Nat)}
    (hown : s.vm.findClass own = some m.cls) (hlink : (Cond.methodLink own index y).before args s = true) (hstat : (Cond.static y).before args s = true) (hinit : (Cond.initialized y.cls).before args s = true)
    (hcode : (Cond.codeWith y bytes maxL ret hh).before args s = true) (hy : y.cls ≠ "java/lang/invoke/MethodHandle" ∧ y.cls ≠ "java/lang/invoke/VarHandle")
    {W9 : Nat} {Pre : Pt → Array Value → Prop} {Post : Pt → Array Value → Option Value → Pt → Prop} {PostX : Pt → Array Value → Addr → Pt → Prop} (hK : vx_Back l R p e below s args y 3 W9 Pre Post PostX)
    {g : JFrame} (hg : g.method = m) (hsize : g.locals.size = c.maxLocals) {argsL rest : List Value} (hlen : ∀ sig, parseMethodDescriptor y.desc = some sig → argsL.length = sig.parameters.length)
    (hstack : g.stack = argsL.reverse ++ rest) (hW : 2 * g.monitorRoom + (rest.map fun v => v.category).sum ≤ W9) (hdg : decode c.code g.pc = .ok (.invokestatic index, 3))
    (hpre : ∀ vm₁, s.WarmedH vm₁ → Pre ⟨T.setVm vm₁, locs, cells, slots⟩ argsL.toArray) :
    (∃ (v : Option Value) (vm₁ : Vm) (B : Pt), s.WarmedH vm₁ ∧ Stand p l e R s m args below meth c B.U B.locs B.cells B.slots ∧ Post ⟨T.setVm vm₁, locs, cells, slots⟩ argsL.toArray v B ∧
      ∀ target, Steps p.tables e below (B.U.setTop { g with pc := g.pc + 3, stack := v.toList ++ rest }) target → Steps p.tables e below (T.setTop g) target) ∨
    (∃ (q : Addr) (vm₁ : Vm) (B : Pt), s.WarmedH vm₁ ∧ Stand p l e R s m args below meth c B.U B.locs B.cells B.slots ∧ PostX ⟨T.setVm vm₁, locs, cells, slots⟩ argsL.toArray q B ∧
      Steps p.tables e below (T.setTop g) ((B.U.setTop { g with stack := rest }).pushFrame (.throwing q))) := by
  obtain ⟨mk, methM, cM, hnamed, hmethM, -, -, -, -, -, -, hsigM⟩ := Cond.codeWith_spec hcode
  have hstatic : methM.isStatic = true := Cond.static_spec hnamed hmethM hstat
  obtain ⟨kP, hkP, -⟩ := className_of_methodNamed hnamed
  have hinitP : kP.init = .initialized := Cond.initialized_spec (findClass_of_methodNamed hnamed) hkP hinit
  obtain ⟨vm₁, X₁, hstep₁⟩ := X.invokestatic hexec hown hlink hnamed hmethM hstatic hkP hinitP hy (g := g) hg (argsL := argsL) (rest := rest) (hlen _ hsigM) hstack hdg
  rcases hK m meth c ⟨T.setVm vm₁, locs, cells, slots⟩ { g with stack := rest } (.invokestatic index) mk argsL.toArray X₁ hg hsize hdg hW (X₁.named hnamed) (hpre vm₁ X₁.warmed) with ⟨v, B, X', hpost, hsteps⟩ | ⟨q, B, X', hpost, hsteps⟩
  · exact Or.inl ⟨v, vm₁, B, X₁.warmed, X', hpost, fun target h => hstep₁ _ fun acts => by rw [doInvoke_state]; exact hsteps.trans h⟩
  · exact Or.inr ⟨q, vm₁, B, X₁.warmed, X', hpost, hstep₁ _ fun acts => by rw [doInvoke_state]; exact hsteps⟩
theorem vx_callVW (X : Stand p l e R s m args below meth c T locs cells slots) (hexec : p.tables.exec = Jvm.exec) {own C : String} {index : Nat} {y : MethodName} {bytes : ByteArray} {maxL : Nat} {ret : Option FieldType} {hh : List (Nat × Nat × Nat × Nat)}
    (hown : s.vm.findClass own = some m.cls) (hlink : (Cond.methodLink own index y).before args s = true) (hinst : (Cond.instanceMethod y).before args s = true) (hsel : (Cond.selects C y y).before args s = true)
    (hcode : (Cond.codeWith y bytes maxL ret hh).before args s = true) (hy : y.cls ≠ "java/lang/invoke/MethodHandle" ∧ y.cls ≠ "java/lang/invoke/VarHandle")
    {W9 : Nat} {Pre : Pt → Array Value → Prop} {Post : Pt → Array Value → Option Value → Pt → Prop} (hK : Back l R p e below s args y 3 W9 Pre Post)
    {b : Addr} {cellB : Cell} (hcell : T.heap[b]? = some cellB) (hobj : cellB.vm.isStatics = false) (hcls : s.vm.findClass C = some cellB.cls)
    {g : JFrame} (hg : g.method = m) (hsize : g.locals.size = c.maxLocals) {argsL rest : List Value} (hlen : ∀ sig, parseMethodDescriptor y.desc = some sig → argsL.length = sig.parameters.length)
    (hstack : g.stack = argsL.reverse ++ .ref b :: rest) (hW : 2 * g.monitorRoom + (rest.map fun v => v.category).sum ≤ W9) (hdg : decode c.code g.pc = .ok (.invokevirtual index, 3))
    (hpre : ∀ vm₁, s.WarmedH vm₁ → Pre ⟨T.setVm vm₁, locs, cells, slots⟩ (Value.ref b :: argsL).toArray) :
    ∃ (v : Option Value) (vm₁ : Vm) (B : Pt), s.WarmedH vm₁ ∧ Stand p l e R s m args below meth c B.U B.locs B.cells B.slots ∧ Post ⟨T.setVm vm₁, locs, cells, slots⟩ (Value.ref b :: argsL).toArray v B ∧
      ∀ target, Steps p.tables e below (B.U.setTop { g with pc := g.pc + 3, stack := v.toList ++ rest }) target → Steps p.tables e below (T.setTop g) target := by
  obtain ⟨mk, methM, hnamed, hmethM, hstM, habM⟩ := Cond.instanceMethod_spec hinst
  obtain ⟨m8, methM', cM, hn8, hmethM', -, -, -, -, -, -, hsigM⟩ := Cond.codeWith_spec hcode
  cases Option.some.inj (hn8.symm.trans hnamed)
  cases hmethM.symm.trans hmethM'
  obtain ⟨c2, r2, m2, q1, q2, q3, q4, kP, hkP, hkPi⟩ := Cond.selects_spec hsel
  cases hcls.symm.trans q1
  cases (State.methodFound?_of_named hnamed hy).symm.trans q2
  cases hnamed.symm.trans q3
  have hselP : selectMethod e.platform s.vm cellB.cls mk = .method mk := by rw [Launch.admits_selectMethod X.admits]; exact q4
  obtain ⟨vm₁, X₁, hstep₁⟩ := X.invokevirtual hexec hown hlink hnamed hmethM hstM hkP hkPi hy (a := b) (cell := cellB) hcell
    (fun z h => by rw [h] at hobj; cases hobj) hselP hmethM habM hkP hkPi (g := g) hg (argsL := argsL) (rest := rest) (hlen _ hsigM) hstack hdg
  obtain ⟨v, B, X', hpost, hsteps⟩ := hK m meth c ⟨T.setVm vm₁, locs, cells, slots⟩ { g with stack := rest } (.invokevirtual index) mk (Value.ref b :: argsL).toArray X₁ hg hsize hdg hW (X₁.named hnamed) (hpre vm₁ X₁.warmed)
  exact ⟨v, vm₁, B, X₁.warmed, X', hpost, fun target h => hstep₁ _ fun acts => by rw [doInvoke_state]; exact hsteps.trans h⟩
abbrev vx_CVW (R : Room) (s : State) (args : Array Value) (own C : String) (index : Nat) (y : MethodName) (bytes : ByteArray) (maxL : Nat) (ret : Option FieldType) (hh : List (Nat × Nat × Nat × Nat)) (ws : List Cond) (rm : Room) (mc ms n : Nat) : Prop :=
  (rm.cells = mc ∧ rm.slots = ms ∧ rm.frames + 1 ≤ R.frames ∧ 8 + (maxL + 11) + rm.locals ≤ R.locals ∧ (∀ w ∈ ws, ∀ (a' : Array Value) (U : State), s.WarmedH U.vm → w.before a' U = true) ∧ Cond.codeWith y bytes maxL ret hh ∈ ws) ∧
  (Cond.codeWith y bytes maxL ret hh).before args s = true ∧ (Cond.initialized y.cls).before args s = true ∧ (y.cls ≠ "java/lang/invoke/MethodHandle" ∧ y.cls ≠ "java/lang/invoke/VarHandle") ∧
  (∀ sig, parseMethodDescriptor y.desc = some sig → n = sig.parameters.length) ∧ (Cond.methodLink own index y).before args s = true ∧ (Cond.instanceMethod y).before args s = true ∧ (Cond.selects C y y).before args s = true
theorem vx_cwVW {own C : String} {index maxL mc ms : Nat} {y : MethodName} {bytes : ByteArray} {ret : Option FieldType} {hh : List (Nat × Nat × Nat × Nat)} {Ts ws ws' : List Cond} {rm : Room} (n : Nat) (ht : ∀ w ∈ Ts, w.before args s = true) (hT : GoodIn Ts (wsV own index C y ws)) (hw : ws = Cond.codeWith y bytes maxL ret hh :: ws') (hrc : rm.cells = mc) (hrs : rm.slots = ms)
    (hd : y.cls = C ∧ y.cls ≠ "java/lang/invoke/MethodHandle" ∧ y.cls ≠ "java/lang/invoke/VarHandle" ∧ (parseMethodDescriptor y.desc).map (fun d => d.parameters.length) = some n) (hR : rm.frames + 1 ≤ R.frames ∧ 8 + (maxL + 11) + rm.locals ≤ R.locals) :
    vx_CVW R s args own C index y bytes maxL ret hh ws rm mc ms n := by
  obtain ⟨hC, hd⟩ := hd
  subst hC
  have ok : ∀ w ∈ wsV own index y.cls y ws, w.before args s = true := fun w h => ht w (hT w h).1
  have hG : GoodIn Ts ws := fun w h => hT w (by unfold wsV; exact List.mem_append_right _ h)
  have hc : Cond.codeWith y bytes maxL ret hh ∈ ws := by rw [hw]; exact List.mem_cons_self
  refine ⟨⟨hrc, hrs, hR.1, hR.2, pay_in ht hG, hc⟩, ht _ (hG _ hc).1, ok _ (by simp [wsV]), ⟨hd.1, hd.2.1⟩, fun sig h => ?_, ok _ (by simp [wsV]), ok _ (by simp [wsV]), ok _ (by simp [wsV])⟩
  have h2 := hd.2.2
  rw [h] at h2
  exact (Option.some.inj h2).symm
theorem vx_runVW {y : MethodName} {bytes cc : ByteArray} {maxL nL mc ms n index : Nat} {ret : Option FieldType} {hh : List (Nat × Nat × Nat × Nat)} {ws : List Cond} {rm : Room} {Pc : Array Value → State → Prop} {Qc : Array Value → State → Outcome → State → Prop} {free : Addr → Prop} {Ts : List Cond} {own C : String} {b : Addr} {As rest : List Value} {g : JFrame}
    (S : CallFix p m c cc nL s args Ts own) (hM : Met l y ws rm Pc Qc mc ms free) (cw : vx_CVW R s args own C index y bytes maxL ret hh ws rm mc ms n) (hp : PreV s H C b Pc As)
    (hg : g.method = m) (hn : As.length = n) (hsize : g.locals.size = nL) (hstack : g.stack = As.reverse ++ .ref b :: rest) (hW : 2 * g.monitorRoom + (rest.map fun v => v.category).sum ≤ 8) (hdg : decode cc g.pc = .ok (.invokevirtual index, 3)) (hf : cells + mc ≤ R.cells ∧ slots + ms ≤ R.slots) :
    va_Run p l e R s m args below meth c H locs cells slots mc ms g rest (Qc (Value.ref b :: As).toArray) free := by
  obtain ⟨⟨hrc, hrs, hfr, hlo, hws, hcw⟩, hcode, hini, hy, hlen, hl, hin, hse⟩ := cw
  have hK : Back l R p e below s args y 3 8 (PreOf R mc ms Pc) (PostOf Qc mc ms free) := va_backW (hh := hh) (bytes := bytes) (maxL := maxL) (ret := ret) hM hp.1 hrc hrs hfr hlo hws hcw (fun a' U hW => word_at hW (Or.inl (by first | rfl | simp [Cond.onTables, Cond.keeps, Cond.steady])) hini)
  obtain ⟨hx, hb, hml, ho, -⟩ := S
  obtain ⟨-, ⟨cellB, hcB, hoB, hclB⟩, hPc⟩ := hp
  intro T hT X
  obtain ⟨v, vm₁, ⟨U', l2, c2, s2⟩, hW₁, X', ⟨g', mk, t, L, e1, e2, hq, h1, hL, h2, h3⟩, st⟩ := vx_callVW X hx (C := C) (hh := hh) (bytes := bytes) (maxL := maxL) (ret := ret) ho hl hin hse hcode hy hK (by rw [hT]; exact hcB) hoB hclB hg (hsize.trans hml.symm) (argsL := As) (rest := rest) (fun sig h => hn.trans (hlen sig h)) hstack hW (by rw [hb]; exact hdg)
    (fun vm₁ hW₁ => ⟨hf.1, hf.2, hPc (T.setVm vm₁) hT hW₁⟩)
  dsimp only [Pt.U, Pt.locs, Pt.cells, Pt.slots] at X' e1 e2 h1 h2 h3 st
  subst h1; subst h2; subst h3
  exact ⟨v, (T.setVm vm₁).calling g' mk (Value.ref b :: As).toArray, t, U', L, hT, X', hL, e1, e2, hq, st⟩
section
variable {y : MethodName} {bytes cc : ByteArray} {maxL nL mc ms n index : Nat} {ret : Option FieldType} {ws : List Cond} {rm : Room} {Pc : Array Value → State → Prop} {Qc : Array Value → State → Outcome → State → Prop} {XC : String → State → State → Prop} {free : Addr → Prop} {Ts : List Cond} {own C : String} {b : Addr} {As rest : List Value} {g : JFrame}
theorem vx_runVX {hh : List (Nat × Nat × Nat × Nat)} (S : CallFix p m c cc nL s args Ts own) (hM : vx_Met l y ws rm Pc Qc XC mc ms free) (cw : vx_CVW R s args own C index y bytes maxL ret hh ws rm mc ms n) (hp : PreV s H C b Pc As)
    (hg : g.method = m) (hn : As.length = n) (hsize : g.locals.size = nL) (hstack : g.stack = As.reverse ++ .ref b :: rest) (hW : 2 * g.monitorRoom + (rest.map fun v => v.category).sum ≤ 8) (hdg : decode cc g.pc = .ok (.invokevirtual index, 3)) (hf : cells + mc ≤ R.cells ∧ slots + ms ≤ R.slots) :
    vx_Run p l e R s m args below meth c H locs cells slots mc ms g rest (Qc (Value.ref b :: As).toArray) XC free := by
  obtain ⟨⟨hrc, hrs, hfr, hlo, hws, hcw⟩, hcode, hini, hy, hlen, hl, hin, hse⟩ := cw
  have hK : vx_Back l R p e below s args y 3 8 (PreOf R mc ms Pc) (PostOf Qc mc ms free) (vx_Post XC mc ms free) := vx_backW (hh := hh) (bytes := bytes) (maxL := maxL) (ret := ret) hM hp.1 hrc hrs hfr hlo hws hcw (fun a' U hW => word_at hW (Or.inl (by first | rfl | simp [Cond.onTables, Cond.keeps, Cond.steady])) hini)
  obtain ⟨hx, hb, hml, ho, -⟩ := S
  obtain ⟨-, ⟨cellB, hcB, hoB, hclB⟩, hPc⟩ := hp
  intro T hT X
  rcases vx_callVX X hx (C := C) (hh := hh) (bytes := bytes) (maxL := maxL) (ret := ret) ho hl hin hse hcode hy hK (by rw [hT]; exact hcB) hoB hclB hg (hsize.trans hml.symm) (argsL := As) (rest := rest) (fun sig h => hn.trans (hlen sig h)) hstack hW (by rw [hb]; exact hdg)
    (fun vm₁ hW₁ => ⟨hf.1, hf.2, hPc (T.setVm vm₁) hT hW₁⟩) with ⟨v, vm₁, ⟨U', l2, c2, s2⟩, hW₁, X', ⟨g', mk, t, L, e1, e2, hq, h1, hL, h2, h3⟩, st⟩ | ⟨q, vm₁, ⟨U', l2, c2, s2⟩, hW₁, X', ⟨g', mk, t, L, E, ce, e1, e2, hq, hce, hcv, hcl, h1, hL, h2, h3⟩, st⟩
  · dsimp only [Pt.U, Pt.locs, Pt.cells, Pt.slots] at X' e1 e2 h1 h2 h3 st
    subst h1; subst h2; subst h3
    exact Or.inl ⟨v, (T.setVm vm₁).calling g' mk (Value.ref b :: As).toArray, t, U', L, hT, X', hL, e1, e2, hq, st⟩
  · dsimp only [Pt.U, Pt.locs, Pt.cells, Pt.slots] at X' e1 e2 h1 h2 h3 st hcl
    subst h1; subst h2; subst h3
    exact Or.inr ⟨q, (T.setVm vm₁).calling g' mk (Value.ref b :: As).toArray, t, U', L, E, ce, hT, X', hL, e1, e2, hq, hce, hcv, vx_cls hW₁ hcl, st⟩
theorem vx_runSX {hh : List (Nat × Nat × Nat × Nat)} (S : CallFix p m c cc nL s args Ts own) (hM : vx_Met l y ws rm Pc Qc XC mc ms free) (cw : vx_CSW R s args own index y bytes maxL ret hh ws rm mc ms n) (hp : PreS s H Pc As)
    (hg : g.method = m) (hn : As.length = n) (hsize : g.locals.size = nL) (hstack : g.stack = As.reverse ++ rest) (hW : 2 * g.monitorRoom + (rest.map fun v => v.category).sum ≤ 8) (hdg : decode cc g.pc = .ok (.invokestatic index, 3)) (hf : cells + mc ≤ R.cells ∧ slots + ms ≤ R.slots) :
    vx_Run p l e R s m args below meth c H locs cells slots mc ms g rest (Qc As.toArray) XC free := by
  obtain ⟨⟨hrc, hrs, hfr, hlo, hws, hcw⟩, hcode, hini, hy, hlen, hl, hstt⟩ := cw
  have hK : vx_Back l R p e below s args y 3 8 (PreOf R mc ms Pc) (PostOf Qc mc ms free) (vx_Post XC mc ms free) := vx_backW (hh := hh) (bytes := bytes) (maxL := maxL) (ret := ret) hM hp.1 hrc hrs hfr hlo hws hcw (fun a' U hW => word_at hW (Or.inl (by first | rfl | simp [Cond.onTables, Cond.keeps, Cond.steady])) hini)
  obtain ⟨hx, hb, hml, ho, -⟩ := S
  intro T hT X
  rcases vx_callSX X hx (hh := hh) (bytes := bytes) (maxL := maxL) (ret := ret) ho hl hstt hini hcode hy hK hg (hsize.trans hml.symm) (argsL := As) (rest := rest) (fun sig h => hn.trans (hlen sig h)) hstack hW (by rw [hb]; exact hdg)
    (fun vm₁ hW₁ => ⟨hf.1, hf.2, hp.2 (T.setVm vm₁) hT hW₁⟩) with ⟨v, vm₁, ⟨U', l2, c2, s2⟩, hW₁, X', ⟨g', mk, t, L, e1, e2, hq, h1, hL, h2, h3⟩, st⟩ | ⟨q, vm₁, ⟨U', l2, c2, s2⟩, hW₁, X', ⟨g', mk, t, L, E, ce, e1, e2, hq, hce, hcv, hcl, h1, hL, h2, h3⟩, st⟩
  · dsimp only [Pt.U, Pt.locs, Pt.cells, Pt.slots] at X' e1 e2 h1 h2 h3 st
    subst h1; subst h2; subst h3
    exact Or.inl ⟨v, (T.setVm vm₁).calling g' mk As.toArray, t, U', L, hT, X', hL, e1, e2, hq, st⟩
  · dsimp only [Pt.U, Pt.locs, Pt.cells, Pt.slots] at X' e1 e2 h1 h2 h3 st hcl
    subst h1; subst h2; subst h3
    exact Or.inr ⟨q, (T.setVm vm₁).calling g' mk As.toArray, t, U', L, E, ce, hT, X', hL, e1, e2, hq, hce, hcv, vx_cls hW₁ hcl, st⟩
end
end VXH
theorem vx_ofWH {l : Launch} {y : MethodName} {ws ws' : List Cond} {rm : Room} {Pc : Array Value → State → Prop} {Qc : Array Value → State → Outcome → State → Prop} {XC : String → State → State → Prop} {mc ms : Nat} {free : Addr → Prop} {cc : ByteArray} {maxL : Nat} {ret : Option FieldType} {hh : List (Nat × Nat × Nat × Nat)}
    (hy : plainName y.cls = true) (hw : ws = Cond.codeWith y cc maxL ret hh :: ws')
    (body : ∀ p e s m args below meth c s₁, BodyLoose p l y (headSpec ws rm) cc maxL ret e s m args below meth c s₁ → c.maxLocals = maxL → Pc args s →
      W p l e (headSpec ws rm).room s m args below meth c s.heap [] 0 0 (vx_MQ below Qc XC args s mc ms free) (entryFrame m args maxL)) : vx_Met l y ws rm Pc Qc XC mc ms free := by
  refine MetFree.of_bodyS (code := cc) (maxLocals := maxL) (ret := ret) hy ?_ ?_
  · intro args s m h hn
    obtain ⟨m9, meth, c, hn9, h1, h2, h3, h4, -, h5, h6, -⟩ := Cond.codeWith_spec (atoms_spec (ws := ws) h _ (by rw [hw]; exact List.mem_cons_self))
    cases hn.symm.trans hn9
    exact ⟨meth, c, h1, h2, h3, h4, h5, h6⟩
  · intro p e s m args below meth c s₁ B hml hP _
    have hh0 : s₁.heap = s.heap := by rw [B.state]; rfl
    obtain ⟨t, a1, o, b1, b2, b3⟩ := body p e s m args below meth c s₁ B hml hP s₁ hh0 (Stand.of_body B)
    exact ⟨t, o, a1, b1, b2, b3⟩
/-! ===== END ===== -/
/-! ===== BEGIN what the machine throws by itself, no traces kept ===== -/
section VXM
set_option maxHeartbeats 1000000 in
/-- the machine throws cls with the message text, no traces kept: from its note over the frame g to 'throwing' over the same frame (follows the proofs of Stand.vmThrowsMessage, Shelf/KitTracedVmS.lean, and Stand.throwsMessageColdBareV, StandMessageColdV.lean, without the step out of the frame) -/
theorem vx_vmAt {p : Program} {l : Launch} {e : Env} {R : Room} {s : State} {m₀ : MethodId} {args : Array Value} {below : List Frame} {meth : Method} {c : Code} {W : State} {locs : List Loc} {cells slots : Nat}
    (X : Stand p l e R s m₀ args below meth c W locs cells slots) (hexec : p.tables.exec = Jvm.exec) (htr : e.platform.stackTraces = false) {cls : String} {names : List String} {text : String}
    (hcls : Bundle.fit cls = true) (hnames : ∀ n ∈ names, Bundle.fit n = true) (hsoe : (cls == "java/lang/StackOverflowError") = false) (hoom : (cls == "java/lang/OutOfMemoryError") = false)
    (h : ∀ a ∈ Bundle.messageArmAtoms cls names, a.before args s = true)
    (hlocs : ∀ x ∈ locs, ∀ cell, s.heap[x.base]? = some cell → cell.vm.isStatics = false)
    (htext : (text == notModelled) = false) (hlimit : ¬ (stringBytes (stringToUtf16 text)).size > e.platform.arrayLengthLimit) (hheap : ¬ (stringBytes (stringToUtf16 text)).size * componentBytes .byte > e.platform.maxHeapBytes)
    {g : JFrame} (hg : g.method = m₀) (hsize : g.locals.size = c.maxLocals)
    (hRframes : names.length + 4 < R.frames) (hRlocals : 2 * g.monitorRoom + (g.stack.map fun v => v.category).sum + 10240 ≤ R.locals) (hshort : 13 * names.length + 55 ≤ 10240)
    (hRcells : cells + 3 ≤ R.cells) (hRslots : slots + ((stringBytes (stringToUtf16 text)).size + 4 + 6) ≤ R.slots) (hlocks : meth.locks = false) :
    ∃ (S : State) (q : Addr) (ce : Cell), (∀ target, Steps p.tables e below ((S.setTop g).pushFrame (.throwing q)) target → Steps p.tables e below ((W.setTop g).pushFrame (.throwNew cls (some text) none)) target) ∧
      Stand p l e R s m₀ args below meth c S locs (cells + 3) (slots + ((stringBytes (stringToUtf16 text)).size + 4 + 6)) ∧ S.heap[q]? = some ce ∧ s.vm.findClass cls = some ce.cls ∧ ce.vm = .none := by
  have howns : e.platform.frameOwnsMonitors = true := by rw [X.admits.platform]
  have hfin : e.platform.finalization = false := by rw [X.admits.platform]
  have hpl : e.platform.magicAccessors = ({} : Platform).magicAccessors := by rw [X.admits.platform]
  have a : ∀ x, x ∈ Bundle.messageArmAtoms cls names → x.holds args s none s [] = true := fun x hx => h x hx
  obtain ⟨T, Z0, L, -, Y⟩ := ThrowableC.of_atoms (args := args) howns hfin hpl (fun x hx => h x (by simp [Bundle.messageArmAtoms, hx]))
  obtain ⟨Z, M, LZ, LM, hnZ⟩ := Init0T.ofS_atoms (args := args) hpl L Y (fun x hx => h x (by simp [Bundle.messageArmAtoms, hx]))
  obtain ⟨P1, Ps, hlen, L1, hL, hP1m, hlink1, hlink⟩ := Bundle.chainS (args := args) hpl hnZ names cls hcls hnames (fun x hx => h x (by simp [Bundle.messageArmAtoms, hx]))
  obtain ⟨Zs, LZs, hn4, hfitv, hfitc⟩ := StringT.of_atoms (args := args) (fun x hx => h x (by simp [Bundle.messageArmAtoms, hx]))
  have hfound : s.vm.findClass cls = some P1.m.cls := findClass_of_methodNamed hP1m
  obtain ⟨c1, kX, hc1, hk, hord, -, -, hn6⟩ := Cond.instantiable_spec (a (.instantiable cls 6) (by simp [Bundle.messageArmAtoms]))
  cases Option.some.inj (hc1.symm.trans hfound)
  have hinit := Cond.initialized_spec hfound hk (a (.initialized cls) (by simp [Bundle.messageArmAtoms]))
  have hctor : kX.findMethod "<init>" "(Ljava/lang/String;)V" = some P1.m.idx := findMethod_of_methodNamed hP1m hk
  have hsel0 : selectMethod e.platform s.vm P1.m.cls T.fill0 = .method T.fill0 := by
    obtain ⟨c2, r2, m2, q1, q2, q3, q4, -⟩ := Cond.selects_spec (a (.selects cls Bundle.tFill0 Bundle.tFill0) (by simp [Bundle.messageArmAtoms]))
    cases Option.some.inj (q1.symm.trans hfound)
    cases Option.some.inj (q2.symm.trans (State.methodFound?_of_named Y.fill0 (by decide)))
    cases Option.some.inj (q3.symm.trans Y.fill0)
    rw [Launch.admits_selectMethod X.admits]; exact q4
  have hselF : selectMethod e.platform s.vm P1.m.cls T.fill = .method T.fill := by
    obtain ⟨c2, r2, m2, q1, q2, q3, q4, -⟩ := Cond.selects_spec (a (.selects cls Bundle.tFill Bundle.tFill) (by simp [Bundle.messageArmAtoms]))
    cases Option.some.inj (q1.symm.trans hfound)
    cases Option.some.inj (q2.symm.trans (State.methodFound?_of_named Y.fill (by decide)))
    cases Option.some.inj (q3.symm.trans Y.fill)
    rw [Launch.admits_selectMethod X.admits]; exact q4
  obtain ⟨cellS0, hcS0, hiss⟩ := Y.statics
  obtain ⟨u0, hu0⟩ := Cond.staticRefV Y.unassigned L.unassignedStatic L.statics hcS0 hiss (a (.isRef (.static Bundle.tN "UNASSIGNED_STACK" Bundle.steD)) (by simp [Bundle.messageArmAtoms]))
  obtain ⟨sen, hsen⟩ := Cond.staticRefV Y.sentinel L.sentinelStatic L.statics hcS0 hiss (a (.isRef (.static Bundle.tN "SUPPRESSED_SENTINEL" Bundle.listD)) (by simp [Bundle.messageArmAtoms]))
  obtain ⟨ci198, i198, fB, hk198, hg198, ha198, hsB, -, hnB, htB, hffB⟩ := Cond.ownField (t := .object "java/lang/Object") Y.found L.cls (by decide +kernel) (a (.fieldLink Bundle.tN 198 Bundle.tN "backtrace" "Ljava/lang/Object;") (by simp [Bundle.messageArmAtoms])) (a (.lays Bundle.tN Bundle.tN "backtrace" "Ljava/lang/Object;") (by simp [Bundle.messageArmAtoms])) e.platform hpl
  obtain ⟨cellS, hcS', heS, -, hkeep⟩ := X.same.2.2.2.2.2 T.aS cellS0 hcS0
  have hcellS : W.heap[T.aS]? = some cellS := hcS'
  have hout' : ∀ i, (⟨T.aS, i⟩ : Loc) ∉ locs := fun i hmem => by
    have := hlocs _ hmem cellS0 hcS0
    rw [hiss] at this; cases this
  have hknownS : cellS.vm ≠ .unknown := by
    rw [heS]; intro hu
    rw [show cellS0.vm = .unknown from hu] at hiss
    cases hiss
  have hvU : cellS.slots[T.fUnassigned.slot]? = some u0.v := by rw [hkeep _ (hout' _)]; exact hu0
  have hvSen : cellS.slots[T.fSentinel.slot]? = some sen.v := by rw [hkeep _ (hout' _)]; exact hsen
  obtain ⟨iM, hffM⟩ := Y.msg
  obtain ⟨tyC, dC, hdC, hdnC⟩ := Cond.laysAt hfound hk Y.cause (a (.lays cls Bundle.tN "cause" "Ljava/lang/Throwable;") (by simp [Bundle.messageArmAtoms]))
  obtain ⟨tyS, dS, hdS, hdnS⟩ := Cond.laysAt hfound hk Y.stack (a (.lays cls Bundle.tN "stackTrace" Bundle.steD) (by simp [Bundle.messageArmAtoms]))
  obtain ⟨tyP, dP, hdP, hdnP⟩ := Cond.laysAt hfound hk Y.supp (a (.lays cls Bundle.tN "suppressedExceptions" Bundle.listD) (by simp [Bundle.messageArmAtoms]))
  obtain ⟨tyM, dM, hdM, hdnM⟩ := Cond.laysAt hfound hk hffM (a (.lays cls Bundle.tN "detailMessage" "Ljava/lang/String;") (by simp [Bundle.messageArmAtoms]))
  obtain ⟨tyB, dB, hdB, hdnB⟩ := Cond.laysAt hfound hk hffB (a (.lays cls Bundle.tN "backtrace" "Ljava/lang/Object;") (by simp [Bundle.messageArmAtoms]))
  have bC := Cond.laysApart hdB hdC hdnB hdnC (by rw [hnB, Y.causeName]; decide)
  have bS := Cond.laysApart hdB hdS hdnB hdnS (by rw [hnB, Y.stackName]; decide)
  have bP := Cond.laysApart hdB hdP hdnB hdnP (by rw [hnB, Y.suppName]; decide)
  have hbk : ((preparedCellV T.toThrowableT (freshCell P1.m.cls kX) (W.heap.size + 2) u0 sen).withEntry W.cur).slots[fB.slot]? = some .null := by
    have := fresh_default (c := P1.m.cls) tyB
    rw [htB] at this
    simpa [preparedCellV, Cell.setSlot, Cell.withEntry, Array.getElem?_setIfInBounds, bC, bS, bP, bC.symm, bS.symm, bP.symm, defaultValue] using this
  have tkC := Takes.of_laid (v := .ref (W.heap.size + 2)) hk hord tyC (by rw [Y.causeType]; rfl)
  have tkS := Takes.of_laid (v := u0.v) hk hord tyS (by rw [Y.stackType]; exact fits_refV_array _ u0)
  have tkP := Takes.of_laid (v := sen.v) hk hord tyP (by rw [Y.suppType]; exact fits_refV_object _ sen)
  have tkM := Takes.of_laid (v := .ref (W.heap.size + 1)) hk hord tyM (by rw [Y.msgType]; rfl)
  have hskip : SkipFacts T e.platform s (fun u => u) u0 ((preparedCellV T.toThrowableT (freshCell P1.m.cls kX) (W.heap.size + 2) u0 sen).withEntry W.cur) := ⟨{ ci198 := ci198, i198 := i198, fBack := fB }, ⟨hk198, hg198, ha198, hsB⟩, hbk, fun _ _ => rfl⟩
  have h0 : At W g.method c below := by rw [hg]; exact X.here
  obtain ⟨hbeyond, hfreeW⟩ := X.vmMayThrow hsize (.throwNew cls (some text) none) (fun f hf => by cases hf) rfl hRlocals
  have hfr' : W.frames.length + Ps.length + 4 < (e.platform.stackLimits W.me).1 := by have := X.framesAbove hRframes; omega
  have hwd' : (stackUse (.java g :: W.frames.tail)).2 + 13 * Ps.length + 55 ≤ (e.platform.stackLimits W.me).2 := by have := X.stackAbove hsize (K := 13 * Ps.length + 55) (by omega); omega
  have hslots : W.slotsUsed + (stringBytes (stringToUtf16 text)).size + Zs.kS.instanceTypes.size + kX.instanceTypes.size ≤ e.platform.maxSlots := by
    have := X.slotsAbove hRslots
    rw [hn4, hn6]
    omega
  obtain ⟨vm', hW', st⟩ := Steps.vmThrowsMessageColdByV p (s₀ := s) (S := W) (g := g) h0 hexec T L Z LZ M LM X.warmed (t := W.cur) rfl Zs LZs P1 L1 Ps hL hlink1 hlink hsoe hoom hfound hk hinit hord hctor
    (Launch.admits_hotImplicitExceptions X.admits) hbeyond hfreeW htext hlimit hheap (X.cellsAbove hRcells) hslots (hfitv _) (hfitc _)
    (Nn := fun u => u) heapOnly_id (fun _ _ => rfl) (fun _ => rfl) (fun u x y => setCell_twice _ _ _ _) (fun _ => Nat.le_refl _) (cN := ((preparedCellV T.toThrowableT (freshCell P1.m.cls kX) (W.heap.size + 2) u0 sen).withEntry W.cur))
    hsel0 hcellS hknownS hvU tkS (fun _ hu => hu) (fun _ hu => hu) rfl rfl rfl (by simp [preparedCellV, Cell.setSlot, Cell.withEntry]) hskip (fun _ _ hA hW _ hroom _ hrest => L.nativeOff p htr hA hW hroom hrest) hselF hvSen tkC tkP tkM Y.objLocals rfl hfr' hwd'
  rw [plainBareV_eq T.toThrowableT (W.heap.size + 2) u0 sen (.ref (W.heap.size + 1)) W.cur rfl rfl] at st
  obtain ⟨-, -, w3, w4, -, -, -⟩ := withThrown_facts e.platform W Zs text P1.m.cls kX
  have X3 := ((X.pushed (bytesOf Zs.cB (stringToUtf16 text))).pushed (stringAt Zs.cS Zs.kS Zs.fv Zs.fc (stringToUtf16 text) W.heap.size)).pushed (freshCell P1.m.cls kX)
  rw [← withString_eq] at X3
  have X4 := X3.noted hW'
  have ha : (W.heap.size + 2) < ((withThrown W Zs text P1.m.cls kX).setVm vm').heap.size := by show _ < (withThrown W Zs text P1.m.cls kX).heap.size; rw [w3]; omega
  have hcell : ((withThrown W Zs text P1.m.cls kX).setVm vm').heap[(W.heap.size + 2)]? = some (freshCell P1.m.cls kX) := w4
  have X5 := ((((X4.stored hcell T.fCause.slot (.ref (W.heap.size + 2))).storedAgain ha T.fStack.slot u0.v).storedAgain ha T.fSupp.slot sen.v).storedAgain ha T.fStack.slot u0.v).storedAgain ha T.fMsg.slot (.ref (W.heap.size + 1))
  obtain ⟨g₁, hfrM⟩ := X5.frames_eq
  have hU : ((((withThrown W Zs text P1.m.cls kX).setVm vm').setCell (W.heap.size + 2) (plainBareV T.toThrowableT (freshCell P1.m.cls kX) (W.heap.size + 2) u0 sen (.ref (W.heap.size + 1)))).setTop g).pushFrame (.throwing (W.heap.size + 2)) = (((withThrown W Zs text P1.m.cls kX).setVm vm').setCell (W.heap.size + 2) (plainBareV T.toThrowableT (freshCell P1.m.cls kX) (W.heap.size + 2) u0 sen (.ref (W.heap.size + 1)))).setFrames (.throwing (W.heap.size + 2) :: .java g :: below) := by
    rw [State.pushFrame, State.frames_setTop _ hfrM, State.setTop_of_frames _ hfrM, State.setFrames_setFrames]
  have b1 : (bytesOf Zs.cB (stringToUtf16 text)).slots.size = (stringBytes (stringToUtf16 text)).size := by
    rw [(Cell.writeAll_facts _ _).2.2]; simp [bytes0]
  have b2 : (stringAt Zs.cS Zs.kS Zs.fv Zs.fc (stringToUtf16 text) W.heap.size).slots.size = 4 := by simp [string0, Cell.setSlot, hn4]
  have b3 : (freshCell P1.m.cls kX).slots.size = 6 := by simp [hn6]
  rw [b1, b2, b3] at X5
  have e9 : slots + (stringBytes (stringToUtf16 text)).size + 4 + 6 = slots + ((stringBytes (stringToUtf16 text)).size + 4 + 6) := by omega
  rw [e9] at X5
  simp only [List.append_assoc, List.cons_append, List.nil_append] at X5
  refine ⟨((withThrown W Zs text P1.m.cls kX).setVm vm').setCell (W.heap.size + 2) (plainBareV T.toThrowableT (freshCell P1.m.cls kX) (W.heap.size + 2) u0 sen (.ref (W.heap.size + 1))), W.heap.size + 2, _, fun target ht => st _ (by rw [X.tail, ← hU]; exact ht),
    X5.forget (fun y hy => ?_), heapAt_setCell_self _ ha, hfound, rfl⟩
  simp only [List.mem_cons, List.not_mem_nil, or_false] at hy
  have hge : s.heap.size ≤ W.heap.size := X.same.2.1
  rcases hy with rfl | rfl | rfl | rfl | rfl <;> exact Nat.le_trans hge (Nat.le_add_right _ 2)
set_option maxHeartbeats 1000000 in
/-- the machine throws NullPointerException, no traces kept: from its note over the frame g to 'throwing' over the same frame (follows the proof of Stand.vmThrowsNpe, Shelf42/KT2.lean; throwsNpeColdBareVAt, Shelf42/NT91.lean, called) -/
theorem vx_npeAt {p : Program} {l : Launch} {e : Env} {R : Room} {s : State} {m₀ : MethodId} {args : Array Value} {below : List Frame} {meth : Method} {c : Code} {W : State} {locs : List Loc} {cells slots : Nat}
    (X : Stand p l e R s m₀ args below meth c W locs cells slots) (hexec : p.tables.exec = Jvm.exec) (htr : e.platform.stackTraces = false) {n : Nat}
    (h : ∀ a ∈ Bundle.npeArmAtoms n, a.before args s = true)
    (hlocs : ∀ x ∈ locs, ∀ cell, s.heap[x.base]? = some cell → cell.vm.isStatics = false)
    {g : JFrame} (hg : g.method = m₀) (hsize : g.locals.size = c.maxLocals)
    (hRframes : 7 < R.frames) (hRlocals : 2 * g.monitorRoom + (g.stack.map fun v => v.category).sum + 10240 ≤ R.locals)
    (hRcells : cells + 1 ≤ R.cells) (hRslots : slots + n ≤ R.slots) (hlocks : meth.locks = false) :
    ∃ (S : State) (q : Addr) (ce : Cell), (∀ target, Steps p.tables e below ((S.setTop g).pushFrame (.throwing q)) target → Steps p.tables e below ((W.setTop g).pushFrame (.throwNew "java/lang/NullPointerException" none none)) target) ∧
      Stand p l e R s m₀ args below meth c S locs (cells + 1) (slots + n) ∧ S.heap[q]? = some ce ∧ s.vm.findClass "java/lang/NullPointerException" = some ce.cls ∧ ce.vm = .none := by
  have howns : e.platform.frameOwnsMonitors = true := by rw [X.admits.platform]
  have hfin : e.platform.finalization = false := by rw [X.admits.platform]
  have hpl : e.platform.magicAccessors = ({} : Platform).magicAccessors := by rw [X.admits.platform]
  have hpl2 : e.platform.arrayCloneIsPublic = true := by rw [X.admits.platform]
  have a' : ∀ x, x ∈ Bundle.npeArmAtoms n → x.holds args s none s [] = true := fun x hx => h x hx
  obtain ⟨T, Z, L, LZ, Y⟩ := ThrowableC.of_atoms (args := args) howns hfin hpl (fun x hx => h x (by simp [Bundle.npeArmAtoms, hx]))
  obtain ⟨N, LN, hcN, hnNF, hordN, hffS⟩ := NpeC.of_atoms (args := args) hpl hpl2 L Y (fun x hx => h x (by simp [Bundle.npeArmAtoms, hx]))
  obtain ⟨P1, L1, hP1m, hP1s⟩ := PassC.of_atoms (args := args) (s := s) hpl (X := Bundle.nN) (Y := Bundle.rN) (by decide) (by decide) LibCode.NullPointerException.Init0.at_0 LibCode.NullPointerException.Init0.at_1 LibCode.NullPointerException.Init0.at_4 (fun x hx => h x (by simp [Bundle.npeArmAtoms, hx]))
  obtain ⟨PR, LR, hPRm, hPRs⟩ := PassC.of_atoms (args := args) (s := s) hpl (X := Bundle.rN) (Y := Bundle.eN) (by decide) (by decide) LibCode.RuntimeException.Init0.at_0 LibCode.RuntimeException.Init0.at_1 LibCode.RuntimeException.Init0.at_4 (fun x hx => h x (by simp [Bundle.npeArmAtoms, hx]))
  obtain ⟨PE, LEx, hPEm, hPEs⟩ := PassC.of_atoms (args := args) (s := s) hpl (X := Bundle.eN) (Y := Bundle.tN) (by decide) (by decide) LibCode.Exception.Init0.at_0 LibCode.Exception.Init0.at_1 LibCode.Exception.Init0.at_4 (fun x hx => h x (by simp [Bundle.npeArmAtoms, hx]))
  have hfound : s.vm.findClass Bundle.nN = some P1.m.cls := findClass_of_methodNamed hP1m
  have ecls : N.cN = P1.m.cls := Option.some.inj (hcN.symm.trans hfound)
  have hk : s.vm.classes[P1.m.cls]? = some N.kN := by rw [← ecls]; exact LN.cls
  have hinit := Cond.initialized_spec hfound hk (a' (.initialized Bundle.nN) (by simp [Bundle.npeArmAtoms]))
  have hctor : N.kN.findMethod "<init>" "()V" = some P1.m.idx := findMethod_of_methodNamed hP1m hk
  obtain ⟨c1, k1, hc1, hk1, -, -, -, hn⟩ := Cond.instantiable_spec (a' (.instantiable Bundle.nN n) (by simp [Bundle.npeArmAtoms]))
  cases Option.some.inj (hc1.symm.trans hfound)
  cases Option.some.inj (hk1.symm.trans hk)
  have hfsz : (freshCell P1.m.cls N.kN).slots.size = n := by simp [hn]
  have hlink1 : P1.sup = PR.m := Option.some.inj (hP1s.symm.trans hPRm)
  have hlinkR : PR.sup = PE.m := Option.some.inj (hPRs.symm.trans hPEm)
  have hlinkE : PE.sup = Z.m T.toThrowableT := Option.some.inj (hPEs.symm.trans Y.init0)
  have hLs : ∀ P, P ∈ [PR, PE] → P.Links0 e.platform s := fun P hP => by
    simp only [List.mem_cons, List.not_mem_nil, or_false] at hP
    rcases hP with rfl | rfl
    · exact LR
    · exact LEx
  have hsel0 : selectMethod e.platform s.vm P1.m.cls T.fill0 = .method T.fill0 := by
    obtain ⟨c2, r2, m2, q1, q2, q3, q4, -⟩ := Cond.selects_spec (a' (.selects Bundle.nN Bundle.tFill0 Bundle.tFill0) (by simp [Bundle.npeArmAtoms]))
    cases Option.some.inj (q1.symm.trans hfound)
    cases Option.some.inj (q2.symm.trans (State.methodFound?_of_named Y.fill0 (by decide)))
    cases Option.some.inj (q3.symm.trans Y.fill0)
    rw [Launch.admits_selectMethod X.admits]; exact q4
  have hselF : selectMethod e.platform s.vm P1.m.cls T.fill = .method N.fill := by
    obtain ⟨c2, r2, m2, q1, q2, q3, q4, -⟩ := Cond.selects_spec (a' (.selects Bundle.nN Bundle.tFill Bundle.nFill) (by simp [Bundle.npeArmAtoms]))
    cases Option.some.inj (q1.symm.trans hfound)
    cases Option.some.inj (q2.symm.trans (State.methodFound?_of_named Y.fill (by decide)))
    cases Option.some.inj (q3.symm.trans hnNF)
    rw [Launch.admits_selectMethod X.admits]; exact q4
  obtain ⟨cellS0, hcS0, hiss⟩ := Y.statics
  obtain ⟨u0, hu0⟩ := Cond.staticRefV Y.unassigned L.unassignedStatic L.statics hcS0 hiss (a' (.isRef (.static Bundle.tN "UNASSIGNED_STACK" Bundle.steD)) (by simp [Bundle.npeArmAtoms]))
  obtain ⟨sen, hsen⟩ := Cond.staticRefV Y.sentinel L.sentinelStatic L.statics hcS0 hiss (a' (.isRef (.static Bundle.tN "SUPPRESSED_SENTINEL" Bundle.listD)) (by simp [Bundle.npeArmAtoms]))
  obtain ⟨ci198, i198, fB, hk198, hg198, ha198, hsB, -, hnB, htB, hffB⟩ := Cond.ownField (t := .object "java/lang/Object") Y.found L.cls (by decide +kernel) (a' (.fieldLink Bundle.tN 198 Bundle.tN "backtrace" Bundle.objD) (by simp [Bundle.npeArmAtoms])) (a' (.lays Bundle.tN Bundle.tN "backtrace" Bundle.objD) (by simp [Bundle.npeArmAtoms])) e.platform hpl
  obtain ⟨cellS, hcS', heS, -, hkeep⟩ := X.same.2.2.2.2.2 T.aS cellS0 hcS0
  have hcellS : W.heap[T.aS]? = some cellS := hcS'
  have hout' : ∀ i, (⟨T.aS, i⟩ : Loc) ∉ locs := fun i hmem => by
    have := hlocs _ hmem cellS0 hcS0
    rw [hiss] at this; cases this
  have hknownS : cellS.vm ≠ .unknown := by
    rw [heS]; intro hu
    rw [show cellS0.vm = .unknown from hu] at hiss
    cases hiss
  have hvU : cellS.slots[T.fUnassigned.slot]? = some u0.v := by rw [hkeep _ (hout' _)]; exact hu0
  have hvSen : cellS.slots[T.fSentinel.slot]? = some sen.v := by rw [hkeep _ (hout' _)]; exact hsen
  obtain ⟨tyC, dC, hdC, hdnC⟩ := Cond.laysAt hfound hk Y.cause (a' (.lays Bundle.nN Bundle.tN "cause" "Ljava/lang/Throwable;") (by simp [Bundle.npeArmAtoms]))
  obtain ⟨tyS, dS, hdS, hdnS⟩ := Cond.laysAt hfound hk Y.stack (a' (.lays Bundle.nN Bundle.tN "stackTrace" Bundle.steD) (by simp [Bundle.npeArmAtoms]))
  obtain ⟨tyP, dP, hdP, hdnP⟩ := Cond.laysAt hfound hk Y.supp (a' (.lays Bundle.nN Bundle.tN "suppressedExceptions" Bundle.listD) (by simp [Bundle.npeArmAtoms]))
  obtain ⟨tyX, dX, hdX, hdnX⟩ := Cond.laysAt hfound hk hffS (a' (.lays Bundle.nN Bundle.nN "extendedMessageState" "I") (by simp [Bundle.npeArmAtoms, Bundle.npeAtoms]))
  obtain ⟨hnX, htX⟩ := State.fieldFound?_type hffS (t := .int) (by decide +kernel)
  have xC := Cond.laysApart hdC hdX hdnC hdnX (by rw [hnX, Y.causeName]; decide)
  have xS := Cond.laysApart hdS hdX hdnS hdnX (by rw [hnX, Y.stackName]; decide)
  have xP := Cond.laysApart hdP hdX hdnP hdnX (by rw [hnX, Y.suppName]; decide)
  have hv0 : (freshCell P1.m.cls N.kN).slots[N.fState.slot]? = some (.int 0) := by
    have := fresh_default (c := P1.m.cls) tyX
    rw [htX] at this; exact this
  obtain ⟨tyB, dB, hdB, hdnB⟩ := Cond.laysAt hfound hk hffB (a' (.lays Bundle.nN Bundle.tN "backtrace" Bundle.objD) (by simp [Bundle.npeArmAtoms]))
  have bC := Cond.laysApart hdB hdC hdnB hdnC (by rw [hnB, Y.causeName]; decide)
  have bS := Cond.laysApart hdB hdS hdnB hdnS (by rw [hnB, Y.stackName]; decide)
  have bP := Cond.laysApart hdB hdP hdnB hdnP (by rw [hnB, Y.suppName]; decide)
  have bX := Cond.laysApart hdB hdX hdnB hdnX (by rw [hnB, hnX]; decide)
  have hbk : ((npeCell N.toNpeT (preparedCellV T.toThrowableT (freshCell P1.m.cls N.kN) W.heap.size u0 sen) W.cur).withEntry W.cur).slots[fB.slot]? = some .null := by
    have := fresh_default (c := P1.m.cls) tyB
    rw [htB] at this
    simpa [npeCell, preparedCellV, Cell.setSlot, Cell.withEntry, Array.getElem?_setIfInBounds, bC, bS, bP, bX, bC.symm, bS.symm, bP.symm, bX.symm, defaultValue] using this
  have tkC := Takes.of_laid (v := .ref W.heap.size) hk hordN tyC (by rw [Y.causeType]; rfl)
  have tkS := Takes.of_laid (v := u0.v) hk hordN tyS (by rw [Y.stackType]; exact fits_refV_array _ u0)
  have tkP := Takes.of_laid (v := sen.v) hk hordN tyP (by rw [Y.suppType]; exact fits_refV_object _ sen)
  have tkX := Takes.of_laid (v := .int 1) hk hordN tyX (by rw [htX]; rfl)
  have hskip : SkipFacts T e.platform s (fun u => u) u0 ((npeCell N.toNpeT (preparedCellV T.toThrowableT (freshCell P1.m.cls N.kN) W.heap.size u0 sen) W.cur).withEntry W.cur) := ⟨{ ci198 := ci198, i198 := i198, fBack := fB }, ⟨hk198, hg198, ha198, hsB⟩, hbk, fun _ _ => rfl⟩
  obtain ⟨vm', X3, st, -⟩ := X.throwsNpeColdBareVAt hexec hg hsize T L Z LZ N LN P1 L1 [PR, PE] hLs hlink1 ⟨hlinkR, hlinkE, trivial⟩ hfound hk hinit hordN hctor hsel0 hselF hcellS hknownS hvU hvSen
    hv0 xC xS xP tkC tkS tkP tkX Y.objLocals hskip (fun _ _ hA hW _ hroom _ hrest => L.nativeOff p htr hA hW hroom hrest) (by simpa using hRframes) hRlocals (by simp) hRcells (by rw [hn]; exact hRslots)
  have hlt : W.heap.size < ((W.pushCell (freshCell P1.m.cls N.kN)).setVm vm').heap.size := by
    show W.heap.size < (W.pushCell (freshCell P1.m.cls N.kN)).heap.size
    rw [State.heap_size_pushCell]; omega
  rw [hfsz] at X3
  obtain ⟨g₁, hfrM⟩ := X3.frames_eq
  have hU : ((((W.pushCell (freshCell P1.m.cls N.kN)).setVm vm').setCell W.heap.size (npeBareV T.toThrowableT N.toNpeT (freshCell P1.m.cls N.kN) W.heap.size u0 sen)).setTop g).pushFrame (.throwing W.heap.size) = (((W.pushCell (freshCell P1.m.cls N.kN)).setVm vm').setCell W.heap.size (npeBareV T.toThrowableT N.toNpeT (freshCell P1.m.cls N.kN) W.heap.size u0 sen)).setFrames (.throwing W.heap.size :: .java g :: below) := by
    rw [State.pushFrame, State.frames_setTop _ hfrM, State.setTop_of_frames _ hfrM, State.setFrames_setFrames]
  refine ⟨_, W.heap.size, _, fun target ht => st.trans (by rw [← hU]; exact ht), X3.forget (fun y hy => ?_), heapAt_setCell_self _ hlt, hfound, rfl⟩
  simp only [List.mem_cons, List.not_mem_nil, or_false] at hy
  have hge : s.heap.size ≤ W.heap.size := X.same.2.1
  rcases hy with rfl | rfl | rfl | rfl | rfl <;> exact hge
/-- the words of a machine's NullPointerException, but the four that speak of the heap -/
def vx_atN (n : Nat) : List Cond := (Bundle.npeArmAtoms n).filter vx_no
/-- the words of a machine's throw with a message, but the four that speak of the heap -/
def vx_atM (X : String) (names : List String) : List Cond := (Bundle.messageArmAtoms X names).filter vx_no
section
variable {p : Program} {l : Launch} {e : Env} {R : Room} {s : State} {m : MethodId} {args : Array Value} {below : List Frame} {meth : Method} {c : Code} {H : Heap} {locs : List Loc} {cells slots : Nat}
/-- a frame seen from a rebased start, seen from the first start again -/
theorem vx_back9 {T S : State} {R' : Room} {k n : Nat} (X : Stand p l e R s m args below meth c T locs cells slots) (Y : Stand p l e R' ((T.setVm s.vm).setFrames (.invoking m args :: below)) m args below meth c T [] 0 0) (Z : Stand p l e R' ((T.setVm s.vm).setFrames (.invoking m args :: below)) m args below meth c S [] k n) :
    Stand p l e R s m args below meth c S locs (cells + k) (slots + n) := by
  have hW0 : s.WarmedH ((T.setVm s.vm).setFrames (.invoking m args :: below)).vm := State.WarmedH.refl s
  refine { admits := X.admits, cas := X.cas, clock := X.clock, frames := X.frames, room := X.room, hears := X.hears, method := X.method, code := X.code, here := Z.here, tail := Z.tail, warmed := State.WarmedH.trans hW0 Z.warmed, limits := Z.limits.trans (Y.limits.symm.trans X.limits), bytes := Z.bytes.trans (Y.bytes.symm.trans X.bytes), same := ?_ }
  obtain ⟨e1, e2⟩ := Z.same
  rw [State.setFrames_setFrames] at e1
  have h2 : (T.setVm s.vm).sameButNew (S.setVm s.vm) [] k n := ⟨e1, e2⟩
  have h3 := X.same.trans h2
  rw [List.append_nil] at h3
  exact h3
/-- from the machine's note that E is thrown here with this text -/
def vx_Note (p : Program) (l : Launch) (e : Env) (R : Room) (s : State) (m : MethodId) (args : Array Value) (below : List Frame) (meth : Method) (c : Code) (H : Heap) (locs : List Loc) (cells slots : Nat) (Q : State → Prop) (g : JFrame) (E text : String) : Prop :=
  ∀ T : State, T.heap = H → Stand p l e R s m args below meth c T locs cells slots → ∃ t, Steps p.tables e below ((T.setTop g).pushFrame (.throwNew E (some text) none)) t ∧ Q t
theorem vx_vm {pc : Nat} {ls : Array Slot} {rest : List Value} {Q : State → Prop} (hexec : p.tables.exec = Jvm.exec) (hl : l.stackTraces = false) {cls text : String} {names : List String} {nb : Nat} {A : Nat → Prop}
    (hcls : Bundle.fit cls = true) (hnames : ∀ n ∈ names, Bundle.fit n = true) (hsoe : (cls == "java/lang/StackOverflowError") = false) (hoom : (cls == "java/lang/OutOfMemoryError") = false)
    (hat : ∀ w ∈ vx_atM cls names, w.before args s = true) (hgood : ∀ w ∈ vx_atM cls names, vx_ot w = true)
    (hU : vx_Zq Bundle.tN "UNASSIGNED_STACK" Bundle.steD A s s.heap) (hN : vx_Zq Bundle.tN "SUPPRESSED_SENTINEL" Bundle.listD A s s.heap) (hS : va_S A s.heap H locs) (hsize : ls.size = c.maxLocals)
    (htext : (text == notModelled) = false) (hnb : (stringBytes (stringToUtf16 text)).size ≤ nb) (hnb1 : nb ≤ 1000)
    (hRframes : names.length + 4 < R.frames) (hRlocals : (rest.map fun v => v.category).sum + 10240 ≤ R.locals) (hshort : 13 * names.length + 55 ≤ 10240) (hRcells : cells + 3 ≤ R.cells) (hRslots : slots + (nb + 10) ≤ R.slots) (hlocks : meth.locks = false)
    (k : ∀ (H1 : Heap) (q9 : Addr) (ce : Cell), H.size ≤ H1.size → (∀ q : Nat, q < H.size → H1[q]? = H[q]?) → va_S A s.heap H1 locs → H1[q9]? = some ce → ce.vm = .none → s.vm.findClass cls = some ce.cls → vx_W p l e R s m args below meth c H1 locs (cells + 3) (slots + (nb + 10)) Q (F0 m pc ls rest) q9) :
    vx_Note p l e R s m args below meth c H locs cells slots Q (F0 m pc ls rest) cls text := by
  intro T hT X
  have htr : e.platform.stackTraces = false := (show e.platform.stackTraces = l.stackTraces by rw [X.admits.platform]).trans hl
  have Y := vx_rebase X (R' := { frames := R.frames, locals := R.locals, cells := 3, slots := nb + 10 }) (Nat.le_refl _) (Nat.le_refl _) hRcells hRslots
  have hhp : ((T.setVm s.vm).setFrames (.invoking m args :: below)).heap = H := hT
  have hW0 : s.WarmedH ((T.setVm s.vm).setFrames (.invoking m args :: below)).vm := State.WarmedH.refl s
  have hat' : ∀ w ∈ vx_atM cls names, w.before args ((T.setVm s.vm).setFrames (.invoking m args :: below)) = true := fun w hw => vx_ot_at hW0 rfl (hgood w hw) (hat w hw)
  have hU' : vx_Zq Bundle.tN "UNASSIGNED_STACK" Bundle.steD A ((T.setVm s.vm).setFrames (.invoking m args :: below)) ((T.setVm s.vm).setFrames (.invoking m args :: below)).heap := by rw [hhp]; exact vx_Zq.moved hW0.alike (hU.kept hS.2.1)
  have hN' : vx_Zq Bundle.tN "SUPPRESSED_SENTINEL" Bundle.listD A ((T.setVm s.vm).setFrames (.invoking m args :: below)) ((T.setVm s.vm).setFrames (.invoking m args :: below)).heap := by rw [hhp]; exact vx_Zq.moved hW0.alike (hN.kept hS.2.1)
  obtain ⟨S, q, ce, st, Z, hce, hcl', hv⟩ := vx_vmAt Y hexec htr (cls := cls) (names := names) (text := text) hcls hnames hsoe hoom (vx_own hat' (vx_isRefq hU'.1) (vx_isRefq hN'.1) hU'.2.word hN'.2.word) (fun x hx => nomatch hx) htext
    (by rw [Launch.admits_arrayLengthLimit X.admits]; omega) (by rw [Launch.admits_maxHeapBytes X.admits]; simp only [componentBytes]; omega)
    (g := F0 m pc ls rest) rfl hsize hRframes (by show 2 * 0 + (rest.map fun v => v.category).sum + 10240 ≤ R.locals; omega) hshort (by show 0 + 3 ≤ 3; omega) (by show 0 + (_ + 4 + 6) ≤ nb + 10; omega) hlocks
  obtain ⟨f1, f2⟩ := vx_frame Z.same
  have f1' : H.size ≤ S.heap.size := by rw [← hT]; exact f1
  have f2' : ∀ q : Nat, q < H.size → S.heap[q]? = H[q]? := fun q hq => by
    rw [← hT]
    exact f2 q (by rw [← hT] at hq; exact hq) (fun z hz => nomatch hz)
  have X5 := vx_back9 X Y Z
  have X6 : Stand p l e R s m args below meth c S locs (cells + 3) (slots + (nb + 10)) := { X5 with same := X5.same.mono (by omega) (by omega) }
  obtain ⟨t, a1, b1⟩ := k S.heap q ce f1' f2' ⟨Nat.le_trans hS.1 f1', fun q h1 h2 => (f2' q (Nat.lt_of_lt_of_le h1 hS.1)).trans (hS.2.1 q h1 h2), hS.2.2⟩ hce hv hcl' S rfl X6
  exact ⟨t, st t a1, b1⟩
/-- from the machine's note that NullPointerException is thrown here -/
def vx_NoteN (p : Program) (l : Launch) (e : Env) (R : Room) (s : State) (m : MethodId) (args : Array Value) (below : List Frame) (meth : Method) (c : Code) (H : Heap) (locs : List Loc) (cells slots : Nat) (Q : State → Prop) (g : JFrame) : Prop :=
  ∀ T : State, T.heap = H → Stand p l e R s m args below meth c T locs cells slots → ∃ t, Steps p.tables e below ((T.setTop g).pushFrame (.throwNew "java/lang/NullPointerException" none none)) t ∧ Q t
theorem vx_npe {pc : Nat} {ls : Array Slot} {rest : List Value} {Q : State → Prop} (hexec : p.tables.exec = Jvm.exec) (hl : l.stackTraces = false) {nb : Nat} {A : Nat → Prop}
    (hat : ∀ w ∈ vx_atN nb, w.before args s = true) (hgood : ∀ w ∈ vx_atN nb, vx_ot w = true)
    (hU : vx_Zq Bundle.tN "UNASSIGNED_STACK" Bundle.steD A s s.heap) (hN : vx_Zq Bundle.tN "SUPPRESSED_SENTINEL" Bundle.listD A s s.heap) (hS : va_S A s.heap H locs) (hsize : ls.size = c.maxLocals)
    (hRframes : 7 < R.frames) (hRlocals : (rest.map fun v => v.category).sum + 10240 ≤ R.locals) (hRcells : cells + 1 ≤ R.cells) (hRslots : slots + nb ≤ R.slots) (hlocks : meth.locks = false)
    (k : ∀ (H1 : Heap) (q9 : Addr) (ce : Cell), H.size ≤ H1.size → (∀ q : Nat, q < H.size → H1[q]? = H[q]?) → va_S A s.heap H1 locs → H1[q9]? = some ce → ce.vm = .none → s.vm.findClass "java/lang/NullPointerException" = some ce.cls → vx_W p l e R s m args below meth c H1 locs (cells + 1) (slots + nb) Q (F0 m pc ls rest) q9) :
    vx_NoteN p l e R s m args below meth c H locs cells slots Q (F0 m pc ls rest) := by
  intro T hT X
  have htr : e.platform.stackTraces = false := (show e.platform.stackTraces = l.stackTraces by rw [X.admits.platform]).trans hl
  have Y := vx_rebase X (R' := { frames := R.frames, locals := R.locals, cells := 1, slots := nb }) (Nat.le_refl _) (Nat.le_refl _) hRcells hRslots
  have hhp : ((T.setVm s.vm).setFrames (.invoking m args :: below)).heap = H := hT
  have hW0 : s.WarmedH ((T.setVm s.vm).setFrames (.invoking m args :: below)).vm := State.WarmedH.refl s
  have hat' : ∀ w ∈ vx_atN nb, w.before args ((T.setVm s.vm).setFrames (.invoking m args :: below)) = true := fun w hw => vx_ot_at hW0 rfl (hgood w hw) (hat w hw)
  have hU' : vx_Zq Bundle.tN "UNASSIGNED_STACK" Bundle.steD A ((T.setVm s.vm).setFrames (.invoking m args :: below)) ((T.setVm s.vm).setFrames (.invoking m args :: below)).heap := by rw [hhp]; exact vx_Zq.moved hW0.alike (hU.kept hS.2.1)
  have hN' : vx_Zq Bundle.tN "SUPPRESSED_SENTINEL" Bundle.listD A ((T.setVm s.vm).setFrames (.invoking m args :: below)) ((T.setVm s.vm).setFrames (.invoking m args :: below)).heap := by rw [hhp]; exact vx_Zq.moved hW0.alike (hN.kept hS.2.1)
  obtain ⟨S, q, ce, st, Z, hce, hcl', hv⟩ := vx_npeAt Y hexec htr (n := nb) (vx_own hat' (vx_isRefq hU'.1) (vx_isRefq hN'.1) hU'.2.word hN'.2.word) (fun x hx => nomatch hx)
    (g := F0 m pc ls rest) rfl hsize hRframes (by show 2 * 0 + (rest.map fun v => v.category).sum + 10240 ≤ R.locals; omega) (by show 0 + 1 ≤ 1; omega) (by show 0 + nb ≤ nb; omega) hlocks
  obtain ⟨f1, f2⟩ := vx_frame Z.same
  have f1' : H.size ≤ S.heap.size := by rw [← hT]; exact f1
  have f2' : ∀ q : Nat, q < H.size → S.heap[q]? = H[q]? := fun q hq => by
    rw [← hT]
    exact f2 q (by rw [← hT] at hq; exact hq) (fun z hz => nomatch hz)
  have X5 := vx_back9 X Y Z
  have X6 : Stand p l e R s m args below meth c S locs (cells + 1) (slots + nb) := { X5 with same := X5.same.mono (by omega) (by omega) }
  obtain ⟨t, a1, b1⟩ := k S.heap q ce f1' f2' ⟨Nat.le_trans hS.1 f1', fun q h1 h2 => (f2' q (Nat.lt_of_lt_of_le h1 hS.1)).trans (hS.2.1 q h1 h2), hS.2.2⟩ hce hv hcl' S rfl X6
  exact ⟨t, st t a1, b1⟩
variable {Q : State → Prop} {cc : ByteArray} {pc : Nat} {ls : Array Slot} {rest : List Value}
theorem vx_idivZ (hexec : p.tables.exec = Jvm.exec) (hb : c.code = cc) {a b : Int32} (h0 : b = 0) (d : decode cc pc = .ok (.idiv, 1)) (k : vx_Note p l e R s m args below meth c H locs cells slots Q (F0 m pc ls rest) "java/lang/ArithmeticException" "/ by zero") :
    W p l e R s m args below meth c H locs cells slots Q (F0 m pc ls (.int b :: .int a :: rest)) := by
  intro T hT X
  obtain ⟨t, st, q⟩ := k T hT X
  exact ⟨t, X.idivZero hexec (g := F0 m pc ls (.int b :: .int a :: rest)) rfl (a := a) (rest := rest) (by rw [h0]) (by rw [hb]; exact d) t st, q⟩
theorem vx_iremZ (hexec : p.tables.exec = Jvm.exec) (hb : c.code = cc) {a b : Int32} (h0 : b = 0) (d : decode cc pc = .ok (.irem, 1)) (k : vx_Note p l e R s m args below meth c H locs cells slots Q (F0 m pc ls rest) "java/lang/ArithmeticException" "/ by zero") :
    W p l e R s m args below meth c H locs cells slots Q (F0 m pc ls (.int b :: .int a :: rest)) := by
  intro T hT X
  obtain ⟨t, st, q⟩ := k T hT X
  exact ⟨t, X.iremZero hexec (g := F0 m pc ls (.int b :: .int a :: rest)) rfl (a := a) (rest := rest) (by rw [h0]) (by rw [hb]; exact d) t st, q⟩
theorem vx_ldivZ (hexec : p.tables.exec = Jvm.exec) (hb : c.code = cc) {a b : Int64} (h0 : b = 0) (d : decode cc pc = .ok (.ldiv, 1)) (k : vx_Note p l e R s m args below meth c H locs cells slots Q (F0 m pc ls rest) "java/lang/ArithmeticException" "/ by zero") :
    W p l e R s m args below meth c H locs cells slots Q (F0 m pc ls (.long b :: .long a :: rest)) := by
  intro T hT X
  obtain ⟨t, st, q⟩ := k T hT X
  exact ⟨t, X.ldivZero hexec (g := F0 m pc ls (.long b :: .long a :: rest)) rfl (a := a) (rest := rest) (by rw [h0]) (by rw [hb]; exact d) t st, q⟩
theorem vx_lremZ (hexec : p.tables.exec = Jvm.exec) (hb : c.code = cc) {a b : Int64} (h0 : b = 0) (d : decode cc pc = .ok (.lrem, 1)) (k : vx_Note p l e R s m args below meth c H locs cells slots Q (F0 m pc ls rest) "java/lang/ArithmeticException" "/ by zero") :
    W p l e R s m args below meth c H locs cells slots Q (F0 m pc ls (.long b :: .long a :: rest)) := by
  intro T hT X
  obtain ⟨t, st, q⟩ := k T hT X
  exact ⟨t, X.lremZero hexec (g := F0 m pc ls (.long b :: .long a :: rest)) rfl (a := a) (rest := rest) (by rw [h0]) (by rw [hb]; exact d) t st, q⟩
theorem vx_ialdZ {D : va_G} {cl : List vw_C} {ws : va_W} {tys : List (ClassId × FieldType)} {a : Nat} (hexec : p.tables.exec = Jvm.exec) (hb : c.code = cc) (hK : va_K D cl tys s) (hP : va_P D cl ws H) (q0 t0 : Nat) {cA : ClassId} {n : Nat} {f : Nat → Int32} (ha : ws[q0]? = some (a, .inl (cA, n, .inl f))) (ht : tys[t0]? = some (cA, .int)) {i : Int32} (hout : ¬ vp_in i n) (hdg : decode cc pc = .ok (.iaload, 1))
    (k : ∀ tx : String, tx = (toString "Index " ++ toString i ++ toString " out of bounds for length " ++ toString n : String) → vx_Note p l e R s m args below meth c H locs cells slots Q (F0 m pc ls rest) "java/lang/ArrayIndexOutOfBoundsException" tx) : W p l e R s m args below meth c H locs cells slots Q (F0 m pc ls (.int i :: .ref a :: rest)) := by
  intro T hT X
  obtain ⟨t, st, q⟩ := k _ rfl T hT X
  refine ⟨t, ?_, q⟩
  have h1 := X.ialoadOut hexec (by rw [hT]; exact hP q0 _ ha) ((hK.2 t0 _ ht).1 n (fun j => .int (f j))) (j := i) (by show (i < 0 ∨ (arrV _ _ _).slots.size ≤ _); rw [arrV_size]; exact Classical.byContradiction hout) (g := F0 m pc ls (.int i :: .ref a :: rest)) rfl (rest := rest) rfl (by rw [hb]; exact hdg) t
  simp only [arrV_size] at h1
  exact h1 st
theorem vx_iastZ {D : va_G} {cl : List vw_C} {ws : va_W} {tys : List (ClassId × FieldType)} {a : Nat} (hexec : p.tables.exec = Jvm.exec) (hb : c.code = cc) (hK : va_K D cl tys s) (hP : va_P D cl ws H) (q0 t0 : Nat) {cA : ClassId} {n : Nat} {f : Nat → Int32} (ha : ws[q0]? = some (a, .inl (cA, n, .inl f))) (ht : tys[t0]? = some (cA, .int)) {i : Int32} {x : Int32} (hout : ¬ vp_in i n) (hdg : decode cc pc = .ok (.iastore, 1))
    (k : ∀ tx : String, tx = (toString "Index " ++ toString i ++ toString " out of bounds for length " ++ toString n : String) → vx_Note p l e R s m args below meth c H locs cells slots Q (F0 m pc ls rest) "java/lang/ArrayIndexOutOfBoundsException" tx) : W p l e R s m args below meth c H locs cells slots Q (F0 m pc ls (.int x :: .int i :: .ref a :: rest)) := by
  intro T hT X
  obtain ⟨t, st, q⟩ := k _ rfl T hT X
  refine ⟨t, ?_, q⟩
  have h1 := X.iastoreOut hexec (by rw [hT]; exact hP q0 _ ha) ((hK.2 t0 _ ht).1 n (fun j => .int (f j))) (j := i) (by show (i < 0 ∨ (arrV _ _ _).slots.size ≤ _); rw [arrV_size]; exact Classical.byContradiction hout) (g := F0 m pc ls (.int x :: .int i :: .ref a :: rest)) rfl (rest := rest) rfl (by rw [hb]; exact hdg) t
  simp only [arrV_size] at h1
  exact h1 st
theorem vx_baldZ {D : va_G} {cl : List vw_C} {ws : va_W} {tys : List (ClassId × FieldType)} {a : Nat} (hexec : p.tables.exec = Jvm.exec) (hb : c.code = cc) (hK : va_K D cl tys s) (hP : va_P D cl ws H) (q0 t0 : Nat) {cA : ClassId} {n : Nat} {f : Nat → Int32} (ha : ws[q0]? = some (a, .inl (cA, n, .inl f))) (ht : tys[t0]? = some (cA, .byte)) {i : Int32} (hout : ¬ vp_in i n) (hdg : decode cc pc = .ok (.baload, 1))
    (k : ∀ tx : String, tx = (toString "Index " ++ toString i ++ toString " out of bounds for length " ++ toString n : String) → vx_Note p l e R s m args below meth c H locs cells slots Q (F0 m pc ls rest) "java/lang/ArrayIndexOutOfBoundsException" tx) : W p l e R s m args below meth c H locs cells slots Q (F0 m pc ls (.int i :: .ref a :: rest)) := by
  intro T hT X
  obtain ⟨t, st, q⟩ := k _ rfl T hT X
  refine ⟨t, ?_, q⟩
  have h1 := X.baloadOut hexec (by rw [hT]; exact hP q0 _ ha) ((hK.2 t0 _ ht).1 n (fun j => .int (f j))) (j := i) (by show (i < 0 ∨ (arrV _ _ _).slots.size ≤ _); rw [arrV_size]; exact Classical.byContradiction hout) (g := F0 m pc ls (.int i :: .ref a :: rest)) rfl (rest := rest) rfl (by rw [hb]; exact hdg) t
  simp only [arrV_size] at h1
  exact h1 st
theorem vx_bastZ {D : va_G} {cl : List vw_C} {ws : va_W} {tys : List (ClassId × FieldType)} {a : Nat} (hexec : p.tables.exec = Jvm.exec) (hb : c.code = cc) (hK : va_K D cl tys s) (hP : va_P D cl ws H) (q0 t0 : Nat) {cA : ClassId} {n : Nat} {f : Nat → Int32} (ha : ws[q0]? = some (a, .inl (cA, n, .inl f))) (ht : tys[t0]? = some (cA, .byte)) {i : Int32} {x : Int32} (hout : ¬ vp_in i n) (hdg : decode cc pc = .ok (.bastore, 1))
    (k : ∀ tx : String, tx = (toString "Index " ++ toString i ++ toString " out of bounds for length " ++ toString n : String) → vx_Note p l e R s m args below meth c H locs cells slots Q (F0 m pc ls rest) "java/lang/ArrayIndexOutOfBoundsException" tx) : W p l e R s m args below meth c H locs cells slots Q (F0 m pc ls (.int x :: .int i :: .ref a :: rest)) := by
  intro T hT X
  obtain ⟨t, st, q⟩ := k _ rfl T hT X
  refine ⟨t, ?_, q⟩
  have h1 := X.bastoreOut hexec (by rw [hT]; exact hP q0 _ ha) ((hK.2 t0 _ ht).1 n (fun j => .int (f j))) (j := i) (by show (i < 0 ∨ (arrV _ _ _).slots.size ≤ _); rw [arrV_size]; exact Classical.byContradiction hout) (g := F0 m pc ls (.int x :: .int i :: .ref a :: rest)) rfl (rest := rest) rfl (by rw [hb]; exact hdg) t
  simp only [arrV_size] at h1
  exact h1 st
theorem vx_zaldZ {D : va_G} {cl : List vw_C} {ws : va_W} {tys : List (ClassId × FieldType)} {a : Nat} (hexec : p.tables.exec = Jvm.exec) (hb : c.code = cc) (hK : va_K D cl tys s) (hP : va_P D cl ws H) (q0 t0 : Nat) {cA : ClassId} {n : Nat} {f : Nat → Int32} (ha : ws[q0]? = some (a, .inl (cA, n, .inl f))) (ht : tys[t0]? = some (cA, .boolean)) {i : Int32} (hout : ¬ vp_in i n) (hdg : decode cc pc = .ok (.baload, 1))
    (k : ∀ tx : String, tx = (toString "Index " ++ toString i ++ toString " out of bounds for length " ++ toString n : String) → vx_Note p l e R s m args below meth c H locs cells slots Q (F0 m pc ls rest) "java/lang/ArrayIndexOutOfBoundsException" tx) : W p l e R s m args below meth c H locs cells slots Q (F0 m pc ls (.int i :: .ref a :: rest)) := by
  intro T hT X
  obtain ⟨t, st, q⟩ := k _ rfl T hT X
  refine ⟨t, ?_, q⟩
  have h1 := X.baloadOut hexec (by rw [hT]; exact hP q0 _ ha) ((hK.2 t0 _ ht).1 n (fun j => .int (f j))) (j := i) (by show (i < 0 ∨ (arrV _ _ _).slots.size ≤ _); rw [arrV_size]; exact Classical.byContradiction hout) (g := F0 m pc ls (.int i :: .ref a :: rest)) rfl (rest := rest) rfl (by rw [hb]; exact hdg) t
  simp only [arrV_size] at h1
  exact h1 st
theorem vx_zastZ {D : va_G} {cl : List vw_C} {ws : va_W} {tys : List (ClassId × FieldType)} {a : Nat} (hexec : p.tables.exec = Jvm.exec) (hb : c.code = cc) (hK : va_K D cl tys s) (hP : va_P D cl ws H) (q0 t0 : Nat) {cA : ClassId} {n : Nat} {f : Nat → Int32} (ha : ws[q0]? = some (a, .inl (cA, n, .inl f))) (ht : tys[t0]? = some (cA, .boolean)) {i : Int32} {x : Int32} (hout : ¬ vp_in i n) (hdg : decode cc pc = .ok (.bastore, 1))
    (k : ∀ tx : String, tx = (toString "Index " ++ toString i ++ toString " out of bounds for length " ++ toString n : String) → vx_Note p l e R s m args below meth c H locs cells slots Q (F0 m pc ls rest) "java/lang/ArrayIndexOutOfBoundsException" tx) : W p l e R s m args below meth c H locs cells slots Q (F0 m pc ls (.int x :: .int i :: .ref a :: rest)) := by
  intro T hT X
  obtain ⟨t, st, q⟩ := k _ rfl T hT X
  refine ⟨t, ?_, q⟩
  have h1 := X.bastoreOut hexec (by rw [hT]; exact hP q0 _ ha) ((hK.2 t0 _ ht).1 n (fun j => .int (f j))) (j := i) (by show (i < 0 ∨ (arrV _ _ _).slots.size ≤ _); rw [arrV_size]; exact Classical.byContradiction hout) (g := F0 m pc ls (.int x :: .int i :: .ref a :: rest)) rfl (rest := rest) rfl (by rw [hb]; exact hdg) t
  simp only [arrV_size] at h1
  exact h1 st
theorem vx_caldZ {D : va_G} {cl : List vw_C} {ws : va_W} {tys : List (ClassId × FieldType)} {a : Nat} (hexec : p.tables.exec = Jvm.exec) (hb : c.code = cc) (hK : va_K D cl tys s) (hP : va_P D cl ws H) (q0 t0 : Nat) {cA : ClassId} {n : Nat} {f : Nat → Int32} (ha : ws[q0]? = some (a, .inl (cA, n, .inl f))) (ht : tys[t0]? = some (cA, .char)) {i : Int32} (hout : ¬ vp_in i n) (hdg : decode cc pc = .ok (.caload, 1))
    (k : ∀ tx : String, tx = (toString "Index " ++ toString i ++ toString " out of bounds for length " ++ toString n : String) → vx_Note p l e R s m args below meth c H locs cells slots Q (F0 m pc ls rest) "java/lang/ArrayIndexOutOfBoundsException" tx) : W p l e R s m args below meth c H locs cells slots Q (F0 m pc ls (.int i :: .ref a :: rest)) := by
  intro T hT X
  obtain ⟨t, st, q⟩ := k _ rfl T hT X
  refine ⟨t, ?_, q⟩
  have h1 := X.caloadOut hexec (by rw [hT]; exact hP q0 _ ha) ((hK.2 t0 _ ht).1 n (fun j => .int (f j))) (j := i) (by show (i < 0 ∨ (arrV _ _ _).slots.size ≤ _); rw [arrV_size]; exact Classical.byContradiction hout) (g := F0 m pc ls (.int i :: .ref a :: rest)) rfl (rest := rest) rfl (by rw [hb]; exact hdg) t
  simp only [arrV_size] at h1
  exact h1 st
theorem vx_castZ {D : va_G} {cl : List vw_C} {ws : va_W} {tys : List (ClassId × FieldType)} {a : Nat} (hexec : p.tables.exec = Jvm.exec) (hb : c.code = cc) (hK : va_K D cl tys s) (hP : va_P D cl ws H) (q0 t0 : Nat) {cA : ClassId} {n : Nat} {f : Nat → Int32} (ha : ws[q0]? = some (a, .inl (cA, n, .inl f))) (ht : tys[t0]? = some (cA, .char)) {i : Int32} {x : Int32} (hout : ¬ vp_in i n) (hdg : decode cc pc = .ok (.castore, 1))
    (k : ∀ tx : String, tx = (toString "Index " ++ toString i ++ toString " out of bounds for length " ++ toString n : String) → vx_Note p l e R s m args below meth c H locs cells slots Q (F0 m pc ls rest) "java/lang/ArrayIndexOutOfBoundsException" tx) : W p l e R s m args below meth c H locs cells slots Q (F0 m pc ls (.int x :: .int i :: .ref a :: rest)) := by
  intro T hT X
  obtain ⟨t, st, q⟩ := k _ rfl T hT X
  refine ⟨t, ?_, q⟩
  have h1 := X.castoreOut hexec (by rw [hT]; exact hP q0 _ ha) ((hK.2 t0 _ ht).1 n (fun j => .int (f j))) (j := i) (by show (i < 0 ∨ (arrV _ _ _).slots.size ≤ _); rw [arrV_size]; exact Classical.byContradiction hout) (g := F0 m pc ls (.int x :: .int i :: .ref a :: rest)) rfl (rest := rest) rfl (by rw [hb]; exact hdg) t
  simp only [arrV_size] at h1
  exact h1 st
theorem vx_saldZ {D : va_G} {cl : List vw_C} {ws : va_W} {tys : List (ClassId × FieldType)} {a : Nat} (hexec : p.tables.exec = Jvm.exec) (hb : c.code = cc) (hK : va_K D cl tys s) (hP : va_P D cl ws H) (q0 t0 : Nat) {cA : ClassId} {n : Nat} {f : Nat → Int32} (ha : ws[q0]? = some (a, .inl (cA, n, .inl f))) (ht : tys[t0]? = some (cA, .short)) {i : Int32} (hout : ¬ vp_in i n) (hdg : decode cc pc = .ok (.saload, 1))
    (k : ∀ tx : String, tx = (toString "Index " ++ toString i ++ toString " out of bounds for length " ++ toString n : String) → vx_Note p l e R s m args below meth c H locs cells slots Q (F0 m pc ls rest) "java/lang/ArrayIndexOutOfBoundsException" tx) : W p l e R s m args below meth c H locs cells slots Q (F0 m pc ls (.int i :: .ref a :: rest)) := by
  intro T hT X
  obtain ⟨t, st, q⟩ := k _ rfl T hT X
  refine ⟨t, ?_, q⟩
  have h1 := X.saloadOut hexec (by rw [hT]; exact hP q0 _ ha) ((hK.2 t0 _ ht).1 n (fun j => .int (f j))) (j := i) (by show (i < 0 ∨ (arrV _ _ _).slots.size ≤ _); rw [arrV_size]; exact Classical.byContradiction hout) (g := F0 m pc ls (.int i :: .ref a :: rest)) rfl (rest := rest) rfl (by rw [hb]; exact hdg) t
  simp only [arrV_size] at h1
  exact h1 st
theorem vx_sastZ {D : va_G} {cl : List vw_C} {ws : va_W} {tys : List (ClassId × FieldType)} {a : Nat} (hexec : p.tables.exec = Jvm.exec) (hb : c.code = cc) (hK : va_K D cl tys s) (hP : va_P D cl ws H) (q0 t0 : Nat) {cA : ClassId} {n : Nat} {f : Nat → Int32} (ha : ws[q0]? = some (a, .inl (cA, n, .inl f))) (ht : tys[t0]? = some (cA, .short)) {i : Int32} {x : Int32} (hout : ¬ vp_in i n) (hdg : decode cc pc = .ok (.sastore, 1))
    (k : ∀ tx : String, tx = (toString "Index " ++ toString i ++ toString " out of bounds for length " ++ toString n : String) → vx_Note p l e R s m args below meth c H locs cells slots Q (F0 m pc ls rest) "java/lang/ArrayIndexOutOfBoundsException" tx) : W p l e R s m args below meth c H locs cells slots Q (F0 m pc ls (.int x :: .int i :: .ref a :: rest)) := by
  intro T hT X
  obtain ⟨t, st, q⟩ := k _ rfl T hT X
  refine ⟨t, ?_, q⟩
  have h1 := X.sastoreOut hexec (by rw [hT]; exact hP q0 _ ha) ((hK.2 t0 _ ht).1 n (fun j => .int (f j))) (j := i) (by show (i < 0 ∨ (arrV _ _ _).slots.size ≤ _); rw [arrV_size]; exact Classical.byContradiction hout) (g := F0 m pc ls (.int x :: .int i :: .ref a :: rest)) rfl (rest := rest) rfl (by rw [hb]; exact hdg) t
  simp only [arrV_size] at h1
  exact h1 st
theorem vx_laldZ {D : va_G} {cl : List vw_C} {ws : va_W} {tys : List (ClassId × FieldType)} {a : Nat} (hexec : p.tables.exec = Jvm.exec) (hb : c.code = cc) (hK : va_K D cl tys s) (hP : va_P D cl ws H) (q0 t0 : Nat) {cA : ClassId} {n : Nat} {f : Nat → Int64} (ha : ws[q0]? = some (a, .inl (cA, n, .inr (.inl f)))) (ht : tys[t0]? = some (cA, .long)) {i : Int32} (hout : ¬ vp_in i n) (hdg : decode cc pc = .ok (.laload, 1))
    (k : ∀ tx : String, tx = (toString "Index " ++ toString i ++ toString " out of bounds for length " ++ toString n : String) → vx_Note p l e R s m args below meth c H locs cells slots Q (F0 m pc ls rest) "java/lang/ArrayIndexOutOfBoundsException" tx) : W p l e R s m args below meth c H locs cells slots Q (F0 m pc ls (.int i :: .ref a :: rest)) := by
  intro T hT X
  obtain ⟨t, st, q⟩ := k _ rfl T hT X
  refine ⟨t, ?_, q⟩
  have h1 := X.laloadOut hexec (by rw [hT]; exact hP q0 _ ha) ((hK.2 t0 _ ht).1 n (fun j => .long (f j))) (j := i) (by show (i < 0 ∨ (arrV _ _ _).slots.size ≤ _); rw [arrV_size]; exact Classical.byContradiction hout) (g := F0 m pc ls (.int i :: .ref a :: rest)) rfl (rest := rest) rfl (by rw [hb]; exact hdg) t
  simp only [arrV_size] at h1
  exact h1 st
theorem vx_lastZ {D : va_G} {cl : List vw_C} {ws : va_W} {tys : List (ClassId × FieldType)} {a : Nat} (hexec : p.tables.exec = Jvm.exec) (hb : c.code = cc) (hK : va_K D cl tys s) (hP : va_P D cl ws H) (q0 t0 : Nat) {cA : ClassId} {n : Nat} {f : Nat → Int64} (ha : ws[q0]? = some (a, .inl (cA, n, .inr (.inl f)))) (ht : tys[t0]? = some (cA, .long)) {i : Int32} {x : Int64} (hout : ¬ vp_in i n) (hdg : decode cc pc = .ok (.lastore, 1))
    (k : ∀ tx : String, tx = (toString "Index " ++ toString i ++ toString " out of bounds for length " ++ toString n : String) → vx_Note p l e R s m args below meth c H locs cells slots Q (F0 m pc ls rest) "java/lang/ArrayIndexOutOfBoundsException" tx) : W p l e R s m args below meth c H locs cells slots Q (F0 m pc ls (.long x :: .int i :: .ref a :: rest)) := by
  intro T hT X
  obtain ⟨t, st, q⟩ := k _ rfl T hT X
  refine ⟨t, ?_, q⟩
  have h1 := X.lastoreOut hexec (by rw [hT]; exact hP q0 _ ha) ((hK.2 t0 _ ht).1 n (fun j => .long (f j))) (j := i) (by show (i < 0 ∨ (arrV _ _ _).slots.size ≤ _); rw [arrV_size]; exact Classical.byContradiction hout) (g := F0 m pc ls (.long x :: .int i :: .ref a :: rest)) rfl (rest := rest) rfl (by rw [hb]; exact hdg) t
  simp only [arrV_size] at h1
  exact h1 st
theorem vx_faldZ {D : va_G} {cl : List vw_C} {ws : va_W} {tys : List (ClassId × FieldType)} {a : Nat} (hexec : p.tables.exec = Jvm.exec) (hb : c.code = cc) (hK : va_K D cl tys s) (hP : va_P D cl ws H) (q0 t0 : Nat) {cA : ClassId} {n : Nat} {f : Nat → UInt32} (ha : ws[q0]? = some (a, .inl (cA, n, .inr (.inr (.inl f))))) (ht : tys[t0]? = some (cA, .float)) {i : Int32} (hout : ¬ vp_in i n) (hdg : decode cc pc = .ok (.faload, 1))
    (k : ∀ tx : String, tx = (toString "Index " ++ toString i ++ toString " out of bounds for length " ++ toString n : String) → vx_Note p l e R s m args below meth c H locs cells slots Q (F0 m pc ls rest) "java/lang/ArrayIndexOutOfBoundsException" tx) : W p l e R s m args below meth c H locs cells slots Q (F0 m pc ls (.int i :: .ref a :: rest)) := by
  intro T hT X
  obtain ⟨t, st, q⟩ := k _ rfl T hT X
  refine ⟨t, ?_, q⟩
  have h1 := X.faloadOut hexec (by rw [hT]; exact hP q0 _ ha) ((hK.2 t0 _ ht).1 n (fun j => .float (f j))) (j := i) (by show (i < 0 ∨ (arrV _ _ _).slots.size ≤ _); rw [arrV_size]; exact Classical.byContradiction hout) (g := F0 m pc ls (.int i :: .ref a :: rest)) rfl (rest := rest) rfl (by rw [hb]; exact hdg) t
  simp only [arrV_size] at h1
  exact h1 st
theorem vx_fastZ {D : va_G} {cl : List vw_C} {ws : va_W} {tys : List (ClassId × FieldType)} {a : Nat} (hexec : p.tables.exec = Jvm.exec) (hb : c.code = cc) (hK : va_K D cl tys s) (hP : va_P D cl ws H) (q0 t0 : Nat) {cA : ClassId} {n : Nat} {f : Nat → UInt32} (ha : ws[q0]? = some (a, .inl (cA, n, .inr (.inr (.inl f))))) (ht : tys[t0]? = some (cA, .float)) {i : Int32} {x : UInt32} (hout : ¬ vp_in i n) (hdg : decode cc pc = .ok (.fastore, 1))
    (k : ∀ tx : String, tx = (toString "Index " ++ toString i ++ toString " out of bounds for length " ++ toString n : String) → vx_Note p l e R s m args below meth c H locs cells slots Q (F0 m pc ls rest) "java/lang/ArrayIndexOutOfBoundsException" tx) : W p l e R s m args below meth c H locs cells slots Q (F0 m pc ls (.float x :: .int i :: .ref a :: rest)) := by
  intro T hT X
  obtain ⟨t, st, q⟩ := k _ rfl T hT X
  refine ⟨t, ?_, q⟩
  have h1 := X.fastoreOut hexec (by rw [hT]; exact hP q0 _ ha) ((hK.2 t0 _ ht).1 n (fun j => .float (f j))) (j := i) (by show (i < 0 ∨ (arrV _ _ _).slots.size ≤ _); rw [arrV_size]; exact Classical.byContradiction hout) (g := F0 m pc ls (.float x :: .int i :: .ref a :: rest)) rfl (rest := rest) rfl (by rw [hb]; exact hdg) t
  simp only [arrV_size] at h1
  exact h1 st
theorem vx_daldZ {D : va_G} {cl : List vw_C} {ws : va_W} {tys : List (ClassId × FieldType)} {a : Nat} (hexec : p.tables.exec = Jvm.exec) (hb : c.code = cc) (hK : va_K D cl tys s) (hP : va_P D cl ws H) (q0 t0 : Nat) {cA : ClassId} {n : Nat} {f : Nat → UInt64} (ha : ws[q0]? = some (a, .inl (cA, n, .inr (.inr (.inr (.inl f)))))) (ht : tys[t0]? = some (cA, .double)) {i : Int32} (hout : ¬ vp_in i n) (hdg : decode cc pc = .ok (.daload, 1))
    (k : ∀ tx : String, tx = (toString "Index " ++ toString i ++ toString " out of bounds for length " ++ toString n : String) → vx_Note p l e R s m args below meth c H locs cells slots Q (F0 m pc ls rest) "java/lang/ArrayIndexOutOfBoundsException" tx) : W p l e R s m args below meth c H locs cells slots Q (F0 m pc ls (.int i :: .ref a :: rest)) := by
  intro T hT X
  obtain ⟨t, st, q⟩ := k _ rfl T hT X
  refine ⟨t, ?_, q⟩
  have h1 := X.daloadOut hexec (by rw [hT]; exact hP q0 _ ha) ((hK.2 t0 _ ht).1 n (fun j => .double (f j))) (j := i) (by show (i < 0 ∨ (arrV _ _ _).slots.size ≤ _); rw [arrV_size]; exact Classical.byContradiction hout) (g := F0 m pc ls (.int i :: .ref a :: rest)) rfl (rest := rest) rfl (by rw [hb]; exact hdg) t
  simp only [arrV_size] at h1
  exact h1 st
theorem vx_dastZ {D : va_G} {cl : List vw_C} {ws : va_W} {tys : List (ClassId × FieldType)} {a : Nat} (hexec : p.tables.exec = Jvm.exec) (hb : c.code = cc) (hK : va_K D cl tys s) (hP : va_P D cl ws H) (q0 t0 : Nat) {cA : ClassId} {n : Nat} {f : Nat → UInt64} (ha : ws[q0]? = some (a, .inl (cA, n, .inr (.inr (.inr (.inl f)))))) (ht : tys[t0]? = some (cA, .double)) {i : Int32} {x : UInt64} (hout : ¬ vp_in i n) (hdg : decode cc pc = .ok (.dastore, 1))
    (k : ∀ tx : String, tx = (toString "Index " ++ toString i ++ toString " out of bounds for length " ++ toString n : String) → vx_Note p l e R s m args below meth c H locs cells slots Q (F0 m pc ls rest) "java/lang/ArrayIndexOutOfBoundsException" tx) : W p l e R s m args below meth c H locs cells slots Q (F0 m pc ls (.double x :: .int i :: .ref a :: rest)) := by
  intro T hT X
  obtain ⟨t, st, q⟩ := k _ rfl T hT X
  refine ⟨t, ?_, q⟩
  have h1 := X.dastoreOut hexec (by rw [hT]; exact hP q0 _ ha) ((hK.2 t0 _ ht).1 n (fun j => .double (f j))) (j := i) (by show (i < 0 ∨ (arrV _ _ _).slots.size ≤ _); rw [arrV_size]; exact Classical.byContradiction hout) (g := F0 m pc ls (.double x :: .int i :: .ref a :: rest)) rfl (rest := rest) rfl (by rw [hb]; exact hdg) t
  simp only [arrV_size] at h1
  exact h1 st
theorem vx_arraylengthN (hexec : p.tables.exec = Jvm.exec) (hb : c.code = cc) (hdg : decode cc pc = .ok (.arraylength, 1)) (k : vx_NoteN p l e R s m args below meth c H locs cells slots Q (F0 m pc ls rest)) : W p l e R s m args below meth c H locs cells slots Q (F0 m pc ls (.null :: rest)) := by
  intro T hT X
  obtain ⟨t, st, q⟩ := k T hT X
  exact ⟨t, X.arraylengthNull hexec (g := F0 m pc ls (.null :: rest)) rfl (rest := rest) rfl (by rw [hb]; exact hdg) t st, q⟩
theorem vx_ialoadN (hexec : p.tables.exec = Jvm.exec) (hb : c.code = cc) {i : Int32} (hdg : decode cc pc = .ok (.iaload, 1)) (k : vx_NoteN p l e R s m args below meth c H locs cells slots Q (F0 m pc ls rest)) : W p l e R s m args below meth c H locs cells slots Q (F0 m pc ls (.int i :: .null :: rest)) := by
  intro T hT X
  obtain ⟨t, st, q⟩ := k T hT X
  exact ⟨t, X.ialoadNull hexec (g := F0 m pc ls (.int i :: .null :: rest)) rfl (rest := rest) rfl (by rw [hb]; exact hdg) t st, q⟩
theorem vx_laloadN (hexec : p.tables.exec = Jvm.exec) (hb : c.code = cc) {i : Int32} (hdg : decode cc pc = .ok (.laload, 1)) (k : vx_NoteN p l e R s m args below meth c H locs cells slots Q (F0 m pc ls rest)) : W p l e R s m args below meth c H locs cells slots Q (F0 m pc ls (.int i :: .null :: rest)) := by
  intro T hT X
  obtain ⟨t, st, q⟩ := k T hT X
  exact ⟨t, X.laloadNull hexec (g := F0 m pc ls (.int i :: .null :: rest)) rfl (rest := rest) rfl (by rw [hb]; exact hdg) t st, q⟩
theorem vx_faloadN (hexec : p.tables.exec = Jvm.exec) (hb : c.code = cc) {i : Int32} (hdg : decode cc pc = .ok (.faload, 1)) (k : vx_NoteN p l e R s m args below meth c H locs cells slots Q (F0 m pc ls rest)) : W p l e R s m args below meth c H locs cells slots Q (F0 m pc ls (.int i :: .null :: rest)) := by
  intro T hT X
  obtain ⟨t, st, q⟩ := k T hT X
  exact ⟨t, X.faloadNull hexec (g := F0 m pc ls (.int i :: .null :: rest)) rfl (rest := rest) rfl (by rw [hb]; exact hdg) t st, q⟩
theorem vx_daloadN (hexec : p.tables.exec = Jvm.exec) (hb : c.code = cc) {i : Int32} (hdg : decode cc pc = .ok (.daload, 1)) (k : vx_NoteN p l e R s m args below meth c H locs cells slots Q (F0 m pc ls rest)) : W p l e R s m args below meth c H locs cells slots Q (F0 m pc ls (.int i :: .null :: rest)) := by
  intro T hT X
  obtain ⟨t, st, q⟩ := k T hT X
  exact ⟨t, X.daloadNull hexec (g := F0 m pc ls (.int i :: .null :: rest)) rfl (rest := rest) rfl (by rw [hb]; exact hdg) t st, q⟩
theorem vx_aaloadN (hexec : p.tables.exec = Jvm.exec) (hb : c.code = cc) {i : Int32} (hdg : decode cc pc = .ok (.aaload, 1)) (k : vx_NoteN p l e R s m args below meth c H locs cells slots Q (F0 m pc ls rest)) : W p l e R s m args below meth c H locs cells slots Q (F0 m pc ls (.int i :: .null :: rest)) := by
  intro T hT X
  obtain ⟨t, st, q⟩ := k T hT X
  exact ⟨t, X.aaloadNull hexec (g := F0 m pc ls (.int i :: .null :: rest)) rfl (rest := rest) rfl (by rw [hb]; exact hdg) t st, q⟩
theorem vx_baloadN (hexec : p.tables.exec = Jvm.exec) (hb : c.code = cc) {i : Int32} (hdg : decode cc pc = .ok (.baload, 1)) (k : vx_NoteN p l e R s m args below meth c H locs cells slots Q (F0 m pc ls rest)) : W p l e R s m args below meth c H locs cells slots Q (F0 m pc ls (.int i :: .null :: rest)) := by
  intro T hT X
  obtain ⟨t, st, q⟩ := k T hT X
  exact ⟨t, X.baloadNull hexec (g := F0 m pc ls (.int i :: .null :: rest)) rfl (rest := rest) rfl (by rw [hb]; exact hdg) t st, q⟩
theorem vx_caloadN (hexec : p.tables.exec = Jvm.exec) (hb : c.code = cc) {i : Int32} (hdg : decode cc pc = .ok (.caload, 1)) (k : vx_NoteN p l e R s m args below meth c H locs cells slots Q (F0 m pc ls rest)) : W p l e R s m args below meth c H locs cells slots Q (F0 m pc ls (.int i :: .null :: rest)) := by
  intro T hT X
  obtain ⟨t, st, q⟩ := k T hT X
  exact ⟨t, X.caloadNull hexec (g := F0 m pc ls (.int i :: .null :: rest)) rfl (rest := rest) rfl (by rw [hb]; exact hdg) t st, q⟩
theorem vx_saloadN (hexec : p.tables.exec = Jvm.exec) (hb : c.code = cc) {i : Int32} (hdg : decode cc pc = .ok (.saload, 1)) (k : vx_NoteN p l e R s m args below meth c H locs cells slots Q (F0 m pc ls rest)) : W p l e R s m args below meth c H locs cells slots Q (F0 m pc ls (.int i :: .null :: rest)) := by
  intro T hT X
  obtain ⟨t, st, q⟩ := k T hT X
  exact ⟨t, X.saloadNull hexec (g := F0 m pc ls (.int i :: .null :: rest)) rfl (rest := rest) rfl (by rw [hb]; exact hdg) t st, q⟩
theorem vx_iastoreN (hexec : p.tables.exec = Jvm.exec) (hb : c.code = cc) {x : Int32} {i : Int32} (hdg : decode cc pc = .ok (.iastore, 1)) (k : vx_NoteN p l e R s m args below meth c H locs cells slots Q (F0 m pc ls rest)) : W p l e R s m args below meth c H locs cells slots Q (F0 m pc ls (.int x :: .int i :: .null :: rest)) := by
  intro T hT X
  obtain ⟨t, st, q⟩ := k T hT X
  exact ⟨t, X.iastoreNull hexec (g := F0 m pc ls (.int x :: .int i :: .null :: rest)) rfl (rest := rest) rfl (by rw [hb]; exact hdg) t st, q⟩
theorem vx_lastoreN (hexec : p.tables.exec = Jvm.exec) (hb : c.code = cc) {x : Int64} {i : Int32} (hdg : decode cc pc = .ok (.lastore, 1)) (k : vx_NoteN p l e R s m args below meth c H locs cells slots Q (F0 m pc ls rest)) : W p l e R s m args below meth c H locs cells slots Q (F0 m pc ls (.long x :: .int i :: .null :: rest)) := by
  intro T hT X
  obtain ⟨t, st, q⟩ := k T hT X
  exact ⟨t, X.lastoreNull hexec (g := F0 m pc ls (.long x :: .int i :: .null :: rest)) rfl (rest := rest) rfl (by rw [hb]; exact hdg) t st, q⟩
theorem vx_fastoreN (hexec : p.tables.exec = Jvm.exec) (hb : c.code = cc) {x : UInt32} {i : Int32} (hdg : decode cc pc = .ok (.fastore, 1)) (k : vx_NoteN p l e R s m args below meth c H locs cells slots Q (F0 m pc ls rest)) : W p l e R s m args below meth c H locs cells slots Q (F0 m pc ls (.float x :: .int i :: .null :: rest)) := by
  intro T hT X
  obtain ⟨t, st, q⟩ := k T hT X
  exact ⟨t, X.fastoreNull hexec (g := F0 m pc ls (.float x :: .int i :: .null :: rest)) rfl (rest := rest) rfl (by rw [hb]; exact hdg) t st, q⟩
theorem vx_dastoreN (hexec : p.tables.exec = Jvm.exec) (hb : c.code = cc) {x : UInt64} {i : Int32} (hdg : decode cc pc = .ok (.dastore, 1)) (k : vx_NoteN p l e R s m args below meth c H locs cells slots Q (F0 m pc ls rest)) : W p l e R s m args below meth c H locs cells slots Q (F0 m pc ls (.double x :: .int i :: .null :: rest)) := by
  intro T hT X
  obtain ⟨t, st, q⟩ := k T hT X
  exact ⟨t, X.dastoreNull hexec (g := F0 m pc ls (.double x :: .int i :: .null :: rest)) rfl (rest := rest) rfl (by rw [hb]; exact hdg) t st, q⟩
theorem vx_bastoreN (hexec : p.tables.exec = Jvm.exec) (hb : c.code = cc) {x : Int32} {i : Int32} (hdg : decode cc pc = .ok (.bastore, 1)) (k : vx_NoteN p l e R s m args below meth c H locs cells slots Q (F0 m pc ls rest)) : W p l e R s m args below meth c H locs cells slots Q (F0 m pc ls (.int x :: .int i :: .null :: rest)) := by
  intro T hT X
  obtain ⟨t, st, q⟩ := k T hT X
  exact ⟨t, X.bastoreNull hexec (g := F0 m pc ls (.int x :: .int i :: .null :: rest)) rfl (rest := rest) rfl (by rw [hb]; exact hdg) t st, q⟩
theorem vx_castoreN (hexec : p.tables.exec = Jvm.exec) (hb : c.code = cc) {x : Int32} {i : Int32} (hdg : decode cc pc = .ok (.castore, 1)) (k : vx_NoteN p l e R s m args below meth c H locs cells slots Q (F0 m pc ls rest)) : W p l e R s m args below meth c H locs cells slots Q (F0 m pc ls (.int x :: .int i :: .null :: rest)) := by
  intro T hT X
  obtain ⟨t, st, q⟩ := k T hT X
  exact ⟨t, X.castoreNull hexec (g := F0 m pc ls (.int x :: .int i :: .null :: rest)) rfl (rest := rest) rfl (by rw [hb]; exact hdg) t st, q⟩
theorem vx_sastoreN (hexec : p.tables.exec = Jvm.exec) (hb : c.code = cc) {x : Int32} {i : Int32} (hdg : decode cc pc = .ok (.sastore, 1)) (k : vx_NoteN p l e R s m args below meth c H locs cells slots Q (F0 m pc ls rest)) : W p l e R s m args below meth c H locs cells slots Q (F0 m pc ls (.int x :: .int i :: .null :: rest)) := by
  intro T hT X
  obtain ⟨t, st, q⟩ := k T hT X
  exact ⟨t, X.sastoreNull hexec (g := F0 m pc ls (.int x :: .int i :: .null :: rest)) rfl (rest := rest) rfl (by rw [hb]; exact hdg) t st, q⟩
theorem vx_invokeN {own C : String} {index maxL : Nat} {y : MethodName} {bytes : ByteArray} {ret : Option FieldType} (hexec : p.tables.exec = Jvm.exec) (hb : c.code = cc) (hown : s.vm.findClass own = some m.cls) (hlink : (Cond.methodLink own index y).before args s = true) (hinst : (Cond.instanceMethod y).before args s = true) (hcode : (Cond.code y bytes maxL ret).before args s = true) (hsel : (Cond.selects C y y).before args s = true)
    (hx : y.cls ≠ "java/lang/invoke/MethodHandle" ∧ y.cls ≠ "java/lang/invoke/VarHandle") {As : List Value} (hlen : (parseMethodDescriptor y.desc).map (fun d => d.parameters.length) = some As.length) (hdg : decode cc pc = .ok (.invokevirtual index, 3))
    (k : vx_NoteN p l e R s m args below meth c H locs cells slots Q (F0 m pc ls rest)) {st0 : List Value} (hst : st0 = As.reverse ++ .null :: rest) : W p l e R s m args below meth c H locs cells slots Q (F0 m pc ls st0) := by
  intro T hT X
  obtain ⟨r0, r, hn, hrm, hstR, hsigR⟩ := va_Decl.of hinst hcode
  obtain ⟨c2, r2, m2, q1, q2, q3, q4, kP, hkP, hkPi⟩ := Cond.selects_spec hsel
  cases hn.symm.trans q3
  have hl9 : As.length = r.sig.parameters.length := by
    rw [hsigR] at hlen
    exact (Option.some.inj hlen).symm
  obtain ⟨vm', X1, st1⟩ := X.invokevirtualNull hexec hown hlink hn hrm hstR hkP hkPi hx (g := F0 m pc ls st0) rfl (argsL := As) (rest := rest) hl9 hst (by rw [hb]; exact hdg)
  obtain ⟨t, st, q⟩ := k (T.setVm vm') hT X1
  exact ⟨t, st1 t st, q⟩
theorem vx_newarrayZ {atype : ArrayType} (hexec : p.tables.exec = Jvm.exec) (hb : c.code = cc) {n : Int32} (h0 : n < 0) (hdg : decode cc pc = .ok (.newarray atype, 2)) (k : ∀ tx : String, tx = toString n → vx_Note p l e R s m args below meth c H locs cells slots Q (F0 m pc ls rest) "java/lang/NegativeArraySizeException" tx) : W p l e R s m args below meth c H locs cells slots Q (F0 m pc ls (.int n :: rest)) := by
  intro T hT X
  obtain ⟨t, st, q⟩ := k _ rfl T hT X
  exact ⟨t, X.newarrayNegative hexec (g := F0 m pc ls (.int n :: rest)) rfl h0 (rest := rest) rfl (by rw [hb]; exact hdg) t st, q⟩
end
end VXM
/-! ===== END ===== -/
/-! ===== BEGIN an exception as an object: made, kept, thrown later (no traces kept) ===== -/
section VXK
variable {p : Program} {l : Launch} {e : Env} {R : Room} {s : State} {m₀ : MethodId} {args : Array Value} {below : List Frame} {meth : Method} {c : Code} {W : State} {locs : List Loc} {cells slots : Nat}
set_option maxHeartbeats 1000000 in
theorem vx_ctorMadeS (X : Stand p l e R s m₀ args below meth c W locs cells slots) (hexec : p.tables.exec = Jvm.exec) (htr : e.platform.stackTraces = false) {own cls : String} {names : List String} {ic : Nat}
    (hown : s.vm.findClass own = some m₀.cls) (hcls : Bundle.fit cls = true) (hnames : ∀ n ∈ names, Bundle.fit n = true)
    (h : ∀ a ∈ Bundle.ownAtoms own ic cls names, a.before args s = true)
    (hlocs : ∀ x ∈ locs, ∀ cell, s.heap[x.base]? = some cell → cell.vm.isStatics = false)
    {a : Addr} {cX : ClassId} {kX : Class} (hfoundX : s.vm.findClass cls = some cX) (hkX : s.vm.classes[cX]? = some kX) (hcell : W.heap[a]? = some (freshCell cX kX)) (hnew : s.heap.size ≤ a)
    {msg : Value} (hmsg : msg.isRef = true)
    {g : JFrame} (hg : g.method = m₀) (hsize : g.locals.size = c.maxLocals) {rest : List Value} (hstack : g.stack = msg :: .ref a :: .ref a :: rest)
    (hd6 : decode c.code g.pc = .ok (.invokespecial ic, 3))
    (hRframes : names.length + 3 < R.frames) (hRlocals : 2 * g.monitorRoom + ((Value.ref a :: rest).map fun v => v.category).sum + (13 * (names.length + 1) + 42) ≤ R.locals) :
    ∃ (V : State) (ce : Cell) (L : List Loc), Stand p l e R s m₀ args below meth c (V.setCell a ce) (locs ++ L) cells slots ∧ (∀ y ∈ L, y.base = a) ∧ a < V.heap.size ∧ ce.cls = cX ∧ ce.vm = .none ∧
      ∀ target, Steps p.tables e below ((V.setCell a ce).setTop { g with stack := .ref a :: rest, pc := g.pc + 3 }) target → Steps p.tables e below (W.setTop g) target := by
  have howns : e.platform.frameOwnsMonitors = true := by rw [X.admits.platform]
  have hfin : e.platform.finalization = false := by rw [X.admits.platform]
  have hpl : e.platform.magicAccessors = ({} : Platform).magicAccessors := by rw [X.admits.platform]
  have a' : ∀ x, x ∈ Bundle.ownAtoms own ic cls names → x.holds args s none s [] = true := fun x hx => h x hx
  obtain ⟨T, Z0, L, -, Y⟩ := ThrowableC.of_atoms (args := args) howns hfin hpl (fun x hx => h x (by simp [Bundle.ownAtoms, hx]))
  obtain ⟨Z, M, LZ, LM, hnZ⟩ := Init0T.ofS_atoms (args := args) hpl L Y (fun x hx => h x (by simp [Bundle.ownAtoms, hx]))
  obtain ⟨P1, Ps, hlen, L1, hL, hP1m, hlink1, hlink⟩ := Bundle.chainS (args := args) hpl hnZ names cls hcls hnames (fun x hx => h x (by simp [Bundle.ownAtoms, hx]))
  have hfound : s.vm.findClass cls = some P1.m.cls := findClass_of_methodNamed hP1m
  cases Option.some.inj (hfoundX.symm.trans hfound)
  obtain ⟨c1, kX', hc1, hk, hord, -, -, hn6⟩ := Cond.instantiable_spec (a' (.instantiable cls 6) (by simp [Bundle.ownAtoms]))
  cases Option.some.inj (hc1.symm.trans hfound)
  cases Option.some.inj (hkX.symm.trans hk)
  have hsel0 : selectMethod e.platform s.vm P1.m.cls T.fill0 = .method T.fill0 := by
    obtain ⟨c2, r2, m2, q1, q2, q3, q4, -⟩ := Cond.selects_spec (a' (.selects cls Bundle.tFill0 Bundle.tFill0) (by simp [Bundle.ownAtoms]))
    cases Option.some.inj (q1.symm.trans hfound)
    cases Option.some.inj (q2.symm.trans (State.methodFound?_of_named Y.fill0 (by decide)))
    cases Option.some.inj (q3.symm.trans Y.fill0)
    rw [Launch.admits_selectMethod X.admits]; exact q4
  have hselF : selectMethod e.platform s.vm P1.m.cls T.fill = .method T.fill := by
    obtain ⟨c2, r2, m2, q1, q2, q3, q4, -⟩ := Cond.selects_spec (a' (.selects cls Bundle.tFill Bundle.tFill) (by simp [Bundle.ownAtoms]))
    cases Option.some.inj (q1.symm.trans hfound)
    cases Option.some.inj (q2.symm.trans (State.methodFound?_of_named Y.fill (by decide)))
    cases Option.some.inj (q3.symm.trans Y.fill)
    rw [Launch.admits_selectMethod X.admits]; exact q4
  obtain ⟨cellS0, hcS0, hiss⟩ := Y.statics
  obtain ⟨u0, hu0⟩ := Cond.staticRefV Y.unassigned L.unassignedStatic L.statics hcS0 hiss (a' (.isRef (.static Bundle.tN "UNASSIGNED_STACK" Bundle.steD)) (by simp [Bundle.ownAtoms]))
  obtain ⟨sen, hsen⟩ := Cond.staticRefV Y.sentinel L.sentinelStatic L.statics hcS0 hiss (a' (.isRef (.static Bundle.tN "SUPPRESSED_SENTINEL" Bundle.listD)) (by simp [Bundle.ownAtoms]))
  obtain ⟨ci198, i198, fB, hk198, hg198, ha198, hsB, -, hnB, htB, hffB⟩ := Cond.ownField (t := .object "java/lang/Object") Y.found L.cls (by decide +kernel) (a' (.fieldLink Bundle.tN 198 Bundle.tN "backtrace" "Ljava/lang/Object;") (by simp [Bundle.ownAtoms])) (a' (.lays Bundle.tN Bundle.tN "backtrace" "Ljava/lang/Object;") (by simp [Bundle.ownAtoms])) e.platform hpl
  obtain ⟨cellS, hcS', heS, -, hkeep⟩ := X.same.2.2.2.2.2 T.aS cellS0 hcS0
  have hcellS : W.heap[T.aS]? = some cellS := hcS'
  have hout' : ∀ i, (⟨T.aS, i⟩ : Loc) ∉ locs := fun i hmem => by
    have := hlocs _ hmem cellS0 hcS0
    rw [hiss] at this; cases this
  have hknownS : cellS.vm ≠ .unknown := by
    rw [heS]; intro hu
    rw [show cellS0.vm = .unknown from hu] at hiss
    cases hiss
  have hneS : T.aS ≠ a := Nat.ne_of_lt (Nat.lt_of_lt_of_le (Array.getElem?_eq_some_iff.mp hcS0).1 hnew)
  obtain ⟨iM, hffM⟩ := Y.msg
  obtain ⟨tyC, dC, hdC, hdnC⟩ := Cond.laysAt hfound hk Y.cause (a' (.lays cls Bundle.tN "cause" "Ljava/lang/Throwable;") (by simp [Bundle.ownAtoms]))
  obtain ⟨tyS, dS, hdS, hdnS⟩ := Cond.laysAt hfound hk Y.stack (a' (.lays cls Bundle.tN "stackTrace" Bundle.steD) (by simp [Bundle.ownAtoms]))
  obtain ⟨tyP, dP, hdP, hdnP⟩ := Cond.laysAt hfound hk Y.supp (a' (.lays cls Bundle.tN "suppressedExceptions" Bundle.listD) (by simp [Bundle.ownAtoms]))
  obtain ⟨tyM, dM, hdM, hdnM⟩ := Cond.laysAt hfound hk hffM (a' (.lays cls Bundle.tN "detailMessage" "Ljava/lang/String;") (by simp [Bundle.ownAtoms]))
  obtain ⟨tyB, dB, hdB, hdnB⟩ := Cond.laysAt hfound hk hffB (a' (.lays cls Bundle.tN "backtrace" "Ljava/lang/Object;") (by simp [Bundle.ownAtoms]))
  have bC := Cond.laysApart hdB hdC hdnB hdnC (by rw [hnB, Y.causeName]; decide)
  have bS := Cond.laysApart hdB hdS hdnB hdnS (by rw [hnB, Y.stackName]; decide)
  have bP := Cond.laysApart hdB hdP hdnB hdnP (by rw [hnB, Y.suppName]; decide)
  have hskip : SkipFacts T e.platform s (fun u => u) u0 ((preparedCellV T.toThrowableT (freshCell P1.m.cls kX) a u0 sen).withEntry W.cur) :=
    ⟨{ ci198 := ci198, i198 := i198, fBack := fB }, ⟨hk198, hg198, ha198, hsB⟩, by
      have := fresh_default (c := P1.m.cls) tyB
      rw [htB] at this
      simpa [preparedCellV, Cell.setSlot, Cell.withEntry, Array.getElem?_setIfInBounds, bC, bS, bP, bC.symm, bS.symm, bP.symm, defaultValue] using this, fun _ _ => rfl⟩
  obtain ⟨tm, methC, cdC, kC, vm₁, hnC, -, -, -, -, -, -, -, hW₁, st1⟩ := Steps.initColdS (tb := p.tables) (e := e) (below := below) (s := s) (U := W) X.here hexec X.warmed hpl hown (t := Bundle.initS cls) rfl rfl (Bundle.fit_spec hcls).2
    (a' (.methodLink own ic (Bundle.initS cls)) (by simp [Bundle.ownAtoms])) (h (.instanceMethod (Bundle.initS cls)) (by cases names <;> simp [Bundle.ownAtoms, Bundle.chainSAtoms, Bundle.passSAtoms])) (bytes := Bundle.six) (maxL := 2) (h (.code (Bundle.initS cls) Bundle.six 2 none) (by cases names <;> simp [Bundle.ownAtoms, Bundle.chainSAtoms, Bundle.passSAtoms]))
    (f := g) hg (a := a) (msg := msg) (rest := .ref a :: rest) hstack hd6
  cases Option.some.inj (hnC.symm.trans hP1m)
  have X₁ := X.noted hW₁
  obtain ⟨vm₂, X₂, st2⟩ := X₁.ctorMessageOffV hexec (g := { g with stack := .ref a :: rest }) hg hsize T L Z LZ M LM (P1 :: Ps)
    (fun P hP => by rcases List.mem_cons.mp hP with rfl | hP; exact L1; exact hL P hP) ⟨hlink1, hlink⟩ (u0 := u0) (sen := sen) (self := a) hmsg (cell := freshCell P1.m.cls kX) (cellS := cellS)
    hcell (fun _ => by simp) (by simp) rfl rfl hsel0 hselF hcellS hneS hknownS (by rw [hkeep _ (hout' _)]; exact hu0) (by rw [hkeep _ (hout' _)]; exact hsen)
    (Takes.of_laid hk hord tyC (by rw [Y.causeType]; rfl)) (Takes.of_laid hk hord tyS (by rw [Y.stackType]; exact fits_refV_array _ u0)) (Takes.of_laid hk hord tyP (by rw [Y.suppType]; exact fits_refV_object _ sen))
    (Takes.of_laid hk hord tyM (by rw [Y.msgType]; exact fits_refV_object _ ⟨msg, hmsg⟩)) Y.objLocals hskip htr [] hd6
    (by simp only [List.length_cons, hlen]; omega) (by simp only [List.length_cons, hlen]; exact hRlocals)
  have hlt : a < ((W.setVm vm₁).setVm vm₂).heap.size := (Array.getElem?_eq_some_iff.mp hcell).1
  refine ⟨(W.setVm vm₁).setVm vm₂, _, _, X₂, fun y hy => ?_, hlt, rfl, rfl, fun target hwalk => st1 _ (fun acts => ?_)⟩
  · simp only [List.mem_cons, List.not_mem_nil, or_false] at hy
    rcases hy with rfl | rfl | rfl | rfl | rfl <;> rfl
  · rw [doInvoke_state]
    exact st2 _ hwalk
set_option maxHeartbeats 1000000 in
theorem vx_ctorMade0 (X : Stand p l e R s m₀ args below meth c W locs cells slots) (hexec : p.tables.exec = Jvm.exec) (htr : e.platform.stackTraces = false) {own cls : String} {names : List String} {ic : Nat}
    (hown : s.vm.findClass own = some m₀.cls) (hcls : Bundle.fit cls = true) (hnames : ∀ n ∈ names, Bundle.fit n = true)
    (h : ∀ a ∈ Bundle.ownAtoms0 own ic cls names, a.before args s = true)
    (hlocs : ∀ x ∈ locs, ∀ cell, s.heap[x.base]? = some cell → cell.vm.isStatics = false)
    {a : Addr} {cX : ClassId} {kX : Class} (hfoundX : s.vm.findClass cls = some cX) (hkX : s.vm.classes[cX]? = some kX) (hcell : W.heap[a]? = some (freshCell cX kX)) (hnew : s.heap.size ≤ a)
    {g : JFrame} (hg : g.method = m₀) (hsize : g.locals.size = c.maxLocals) {rest : List Value} (hstack : g.stack = .ref a :: .ref a :: rest)
    (hd6 : decode c.code g.pc = .ok (.invokespecial ic, 3))
    (hRframes : names.length + 3 < R.frames) (hRlocals : 2 * g.monitorRoom + ((Value.ref a :: rest).map fun v => v.category).sum + (13 * (names.length + 1) + 41) ≤ R.locals) :
    ∃ (V : State) (ce : Cell) (L : List Loc), Stand p l e R s m₀ args below meth c (V.setCell a ce) (locs ++ L) cells slots ∧ (∀ y ∈ L, y.base = a) ∧ a < V.heap.size ∧ ce.cls = cX ∧ ce.vm = .none ∧
      ∀ target, Steps p.tables e below ((V.setCell a ce).setTop { g with stack := .ref a :: rest, pc := g.pc + 3 }) target → Steps p.tables e below (W.setTop g) target := by
  have howns : e.platform.frameOwnsMonitors = true := by rw [X.admits.platform]
  have hfin : e.platform.finalization = false := by rw [X.admits.platform]
  have hpl : e.platform.magicAccessors = ({} : Platform).magicAccessors := by rw [X.admits.platform]
  have a' : ∀ x, x ∈ Bundle.ownAtoms0 own ic cls names → x.holds args s none s [] = true := fun x hx => h x hx
  obtain ⟨T, Z, L, LZ, Y⟩ := ThrowableC.of_atoms (args := args) howns hfin hpl (fun x hx => h x (by simp [Bundle.ownAtoms0, hx]))
  obtain ⟨P1, Ps, hlen, L1, hL, hP1m, hlink1, hlink⟩ := Bundle.chain0 (args := args) hpl Y.init0 names cls hcls hnames (fun x hx => h x (by simp [Bundle.ownAtoms0, hx]))
  have hfound : s.vm.findClass cls = some P1.m.cls := findClass_of_methodNamed hP1m
  cases Option.some.inj (hfoundX.symm.trans hfound)
  obtain ⟨c1, kX', hc1, hk, hord, -, -, hn6⟩ := Cond.instantiable_spec (a' (.instantiable cls 6) (by simp [Bundle.ownAtoms0]))
  cases Option.some.inj (hc1.symm.trans hfound)
  cases Option.some.inj (hkX.symm.trans hk)
  have hsel0 : selectMethod e.platform s.vm P1.m.cls T.fill0 = .method T.fill0 := by
    obtain ⟨c2, r2, m2, q1, q2, q3, q4, -⟩ := Cond.selects_spec (a' (.selects cls Bundle.tFill0 Bundle.tFill0) (by simp [Bundle.ownAtoms0]))
    cases Option.some.inj (q1.symm.trans hfound)
    cases Option.some.inj (q2.symm.trans (State.methodFound?_of_named Y.fill0 (by decide)))
    cases Option.some.inj (q3.symm.trans Y.fill0)
    rw [Launch.admits_selectMethod X.admits]; exact q4
  have hselF : selectMethod e.platform s.vm P1.m.cls T.fill = .method T.fill := by
    obtain ⟨c2, r2, m2, q1, q2, q3, q4, -⟩ := Cond.selects_spec (a' (.selects cls Bundle.tFill Bundle.tFill) (by simp [Bundle.ownAtoms0]))
    cases Option.some.inj (q1.symm.trans hfound)
    cases Option.some.inj (q2.symm.trans (State.methodFound?_of_named Y.fill (by decide)))
    cases Option.some.inj (q3.symm.trans Y.fill)
    rw [Launch.admits_selectMethod X.admits]; exact q4
  obtain ⟨cellS0, hcS0, hiss⟩ := Y.statics
  obtain ⟨u0, hu0⟩ := Cond.staticRefV Y.unassigned L.unassignedStatic L.statics hcS0 hiss (a' (.isRef (.static Bundle.tN "UNASSIGNED_STACK" Bundle.steD)) (by simp [Bundle.ownAtoms0]))
  obtain ⟨sen, hsen⟩ := Cond.staticRefV Y.sentinel L.sentinelStatic L.statics hcS0 hiss (a' (.isRef (.static Bundle.tN "SUPPRESSED_SENTINEL" Bundle.listD)) (by simp [Bundle.ownAtoms0]))
  obtain ⟨ci198, i198, fB, hk198, hg198, ha198, hsB, -, hnB, htB, hffB⟩ := Cond.ownField (t := .object "java/lang/Object") Y.found L.cls (by decide +kernel) (a' (.fieldLink Bundle.tN 198 Bundle.tN "backtrace" "Ljava/lang/Object;") (by simp [Bundle.ownAtoms0])) (a' (.lays Bundle.tN Bundle.tN "backtrace" "Ljava/lang/Object;") (by simp [Bundle.ownAtoms0])) e.platform hpl
  obtain ⟨cellS, hcS', heS, -, hkeep⟩ := X.same.2.2.2.2.2 T.aS cellS0 hcS0
  have hcellS : W.heap[T.aS]? = some cellS := hcS'
  have hout' : ∀ i, (⟨T.aS, i⟩ : Loc) ∉ locs := fun i hmem => by
    have := hlocs _ hmem cellS0 hcS0
    rw [hiss] at this; cases this
  have hknownS : cellS.vm ≠ .unknown := by
    rw [heS]; intro hu
    rw [show cellS0.vm = .unknown from hu] at hiss
    cases hiss
  have hneS : T.aS ≠ a := Nat.ne_of_lt (Nat.lt_of_lt_of_le (Array.getElem?_eq_some_iff.mp hcS0).1 hnew)
  obtain ⟨iM, hffM⟩ := Y.msg
  obtain ⟨tyC, dC, hdC, hdnC⟩ := Cond.laysAt hfound hk Y.cause (a' (.lays cls Bundle.tN "cause" "Ljava/lang/Throwable;") (by simp [Bundle.ownAtoms0]))
  obtain ⟨tyS, dS, hdS, hdnS⟩ := Cond.laysAt hfound hk Y.stack (a' (.lays cls Bundle.tN "stackTrace" Bundle.steD) (by simp [Bundle.ownAtoms0]))
  obtain ⟨tyP, dP, hdP, hdnP⟩ := Cond.laysAt hfound hk Y.supp (a' (.lays cls Bundle.tN "suppressedExceptions" Bundle.listD) (by simp [Bundle.ownAtoms0]))
  obtain ⟨tyM, dM, hdM, hdnM⟩ := Cond.laysAt hfound hk hffM (a' (.lays cls Bundle.tN "detailMessage" "Ljava/lang/String;") (by simp [Bundle.ownAtoms0]))
  obtain ⟨tyB, dB, hdB, hdnB⟩ := Cond.laysAt hfound hk hffB (a' (.lays cls Bundle.tN "backtrace" "Ljava/lang/Object;") (by simp [Bundle.ownAtoms0]))
  have bC := Cond.laysApart hdB hdC hdnB hdnC (by rw [hnB, Y.causeName]; decide)
  have bS := Cond.laysApart hdB hdS hdnB hdnS (by rw [hnB, Y.stackName]; decide)
  have bP := Cond.laysApart hdB hdP hdnB hdnP (by rw [hnB, Y.suppName]; decide)
  have hskip : SkipFacts T e.platform s (fun u => u) u0 ((preparedCellV T.toThrowableT (freshCell P1.m.cls kX) a u0 sen).withEntry W.cur) :=
    ⟨{ ci198 := ci198, i198 := i198, fBack := fB }, ⟨hk198, hg198, ha198, hsB⟩, by
      have := fresh_default (c := P1.m.cls) tyB
      rw [htB] at this
      simpa [preparedCellV, Cell.setSlot, Cell.withEntry, Array.getElem?_setIfInBounds, bC, bS, bP, bC.symm, bS.symm, bP.symm, defaultValue] using this, fun _ _ => rfl⟩
  obtain ⟨tm, methC, cdC, kC, vm₁, hnC, -, -, -, -, -, -, -, hW₁, st1⟩ := Steps.initCold (tb := p.tables) (e := e) (below := below) (s := s) (U := W) X.here hexec X.warmed hpl hown (t := Bundle.init0 cls) rfl rfl (Bundle.fit_spec hcls).2
    (a' (.methodLink own ic (Bundle.init0 cls)) (by simp [Bundle.ownAtoms0])) (h (.instanceMethod (Bundle.init0 cls)) (by cases names <;> simp [Bundle.ownAtoms0, Bundle.chain0Atoms, Bundle.passAtoms])) (bytes := Bundle.five) (maxL := 1) (h (.code (Bundle.init0 cls) Bundle.five 1 none) (by cases names <;> simp [Bundle.ownAtoms0, Bundle.chain0Atoms, Bundle.passAtoms]))
    (f := g) hg (a := a) (rest := .ref a :: rest) hstack hd6
  cases Option.some.inj (hnC.symm.trans hP1m)
  have X₁ := X.noted hW₁
  obtain ⟨vm₂, X₂, st2⟩ := X₁.ctorPlainOffV hexec (g := { g with stack := .ref a :: rest }) hg hsize T L Z LZ (P1 :: Ps)
    (fun P hP => by rcases List.mem_cons.mp hP with rfl | hP; exact L1; exact hL P hP) ⟨hlink1, hlink⟩ (u0 := u0) (sen := sen) (self := a) (cell := freshCell P1.m.cls kX) (cellS := cellS)
    hcell (fun _ => by simp) (by simp) rfl rfl hsel0 hselF hcellS hneS hknownS (by rw [hkeep _ (hout' _)]; exact hu0) (by rw [hkeep _ (hout' _)]; exact hsen)
    (Takes.of_laid hk hord tyC (by rw [Y.causeType]; rfl)) (Takes.of_laid hk hord tyS (by rw [Y.stackType]; exact fits_refV_array _ u0)) (Takes.of_laid hk hord tyP (by rw [Y.suppType]; exact fits_refV_object _ sen)) Y.objLocals hskip htr [] hd6
    (by simp only [List.length_cons, hlen]; omega) (by simp only [List.length_cons, hlen]; exact hRlocals)
  have hlt : a < ((W.setVm vm₁).setVm vm₂).heap.size := (Array.getElem?_eq_some_iff.mp hcell).1
  refine ⟨(W.setVm vm₁).setVm vm₂, _, _, X₂, fun y hy => ?_, hlt, rfl, rfl, fun target hwalk => st1 _ (fun acts => ?_)⟩
  · simp only [List.mem_cons, List.not_mem_nil, or_false] at hy
    rcases hy with rfl | rfl | rfl | rfl <;> rfl
  · rw [doInvoke_state]
    exact st2 _ hwalk
end VXK
section VXK2
variable {p : Program} {l : Launch} {e : Env} {R : Room} {s : State} {m : MethodId} {args : Array Value} {below : List Frame} {meth : Method} {c : Code} {H : Heap} {locs : List Loc} {cells slots : Nat} {Q : State → Prop}
variable {ls : Array Slot} {rest : List Value} {D : va_G} {cl : List vw_C} {tys : List (ClassId × FieldType)} {ws : va_W}
/-- 'new E("text")' that isn't thrown at once: the object goes on the stack -/
theorem vx_makeS {cc : ByteArray} {pc : Nat} (hexec : p.tables.exec = Jvm.exec) (hb : c.code = cc) (hl : l.stackTraces = false) {own cls text : String} {names : List String} {ik is ic sa ci : Nat} {A : Nat → Prop} {T0 : u_T}
    (hown : s.vm.findClass own = some m.cls) (hcls : Bundle.fit cls = true) (hnames : ∀ n ∈ names, Bundle.fit n = true)
    (hk : (Cond.classLink own ik cls).before args s = true) (hini : (Cond.initialized cls).before args s = true) (hstr : vk_R own is text sa s) (hat : ∀ w ∈ vx_atS own ic cls names, w.before args s = true)
    (hgood : ∀ w ∈ Cond.classLink own ik cls :: Cond.initialized cls :: vx_atS own ic cls names, vx_ot w = true)
    (hU : vx_Zq Bundle.tN "UNASSIGNED_STACK" Bundle.steD A s s.heap) (hN : vx_Zq Bundle.tN "SUPPRESSED_SENTINEL" Bundle.listD A s s.heap) (hS : va_S A s.heap H locs) (hsize : ls.size = c.maxLocals)
    (d0 : decode cc pc = .ok (.new ik, 3)) (d3 : decode cc (pc + 3) = .ok (.dup, 1)) (d4 : decode cc (pc + 4) = .ok (.ldc is, 2)) (d6 : decode cc (pc + 6) = .ok (.invokespecial ic, 3))
    (hK : va_K D cl tys s) (hP : va_P D cl ws H) (hD : va_D A ws) (hA : ∀ q, s.heap.size ≤ q → A q) (hc : cl[ci]? = some (cls, T0, 0))
    (hRframes : names.length + 3 < R.frames) (hRlocals : (rest.map fun v => v.category).sum + (13 * (names.length + 1) + 43) ≤ R.locals) (hRcells : cells + 1 ≤ R.cells) (hRslots : slots + 6 ≤ R.slots)
    (kk : ∀ (q : Nat) (H1 : Heap), va_P D cl (ws ++ [(q, .inr (ci, []))]) H1 → va_D A (ws ++ [(q, .inr (ci, []))]) → va_S A s.heap H1 locs → W p l e R s m args below meth c H1 locs (cells + 1) (slots + 6) Q (F0 m (pc + 9) ls (.ref q :: rest))) :
    W p l e R s m args below meth c H locs cells slots Q (F0 m pc ls rest) := by
  intro T hT X
  subst hT
  have htr : e.platform.stackTraces = false := (show e.platform.stackTraces = l.stackTraces by rw [X.admits.platform]).trans hl
  have Y := vx_rebase X (R' := { frames := R.frames, locals := R.locals, cells := 1, slots := 6 }) (Nat.le_refl _) (Nat.le_refl _) hRcells hRslots
  obtain ⟨s', hA'⟩ : ∃ z, z = (T.setVm s.vm).setFrames (.invoking m args :: below) := ⟨_, rfl⟩
  rw [← hA'] at Y
  have hvm : s'.vm = s.vm := by rw [hA']; rfl
  have hhp : s'.heap = T.heap := by rw [hA']; rfl
  have hW0 : s.WarmedH s'.vm := by rw [hvm]; exact State.WarmedH.refl s
  have hat' : ∀ w ∈ vx_atS own ic cls names, w.before args s' = true := fun w hw => vx_ot_at hW0 hvm.symm (hgood w (List.mem_cons_of_mem _ (List.mem_cons_of_mem _ hw))) (hat w hw)
  have hk' : (Cond.classLink own ik cls).before args s' = true := vx_ot_at hW0 hvm.symm (hgood _ List.mem_cons_self) hk
  have hini' : (Cond.initialized cls).before args s' = true := vx_ot_at hW0 hvm.symm (hgood _ (List.mem_cons_of_mem _ List.mem_cons_self)) hini
  have hU' : vx_Zq Bundle.tN "UNASSIGNED_STACK" Bundle.steD A s' s'.heap := by rw [hhp]; exact vx_Zq.moved hW0.alike (hU.kept hS.2.1)
  have hN' : vx_Zq Bundle.tN "SUPPRESSED_SENTINEL" Bundle.listD A s' s'.heap := by rw [hhp]; exact vx_Zq.moved hW0.alike (hN.kept hS.2.1)
  have h : ∀ w ∈ Bundle.ownAtoms own ic cls names, w.before args s' = true := vx_own hat' (vx_isRefq hU'.1) (vx_isRefq hN'.1) hU'.2.word hN'.2.word
  have hown' : s'.vm.findClass own = some m.cls := by rw [hvm]; exact hown
  have hins : (Cond.instantiable cls 6).before args s' = true := h _ (by simp [Bundle.ownAtoms])
  obtain ⟨vm₁, cX, kX, hfX, hkX, -, -, X₁, st1⟩ := Y.newCold hexec (own := own) (C := cls) (index := ik) (n := 6) hown' hk' hins hini'
    (g := F0 m pc ls rest) rfl (by rw [hb]; exact d0) (Nat.le_refl _) (Nat.le_refl _)
  generalize hT1 : (T.setVm vm₁).pushCell { cls := cX, slots := kX.instanceTypes.map defaultValue, vm := .none } = T1 at X₁ st1
  have hcat : (Value.ref T.heap.size).category = 1 := rfl
  have hcellA : T1.heap[T.heap.size]? = some (freshCell cX kX) := by rw [← hT1]; exact State.heap_pushCell_size _ _
  have d3' : decode c.code (pc + 3) = .ok (.dup, 1) := by rw [hb]; exact d3
  have d4' : decode c.code (pc + 4) = .ok (.ldc is, 2) := by rw [hb]; exact d4
  have hstr' : vk_R own is text sa s' := vk_R.warm hW0 hstr
  obtain ⟨V, ce, L, Z, hL, hlt, hcl9, hvm9, st⟩ := vx_ctorMadeS X₁ hexec htr (own := own) (cls := cls) (names := names) (ic := ic) hown' hcls hnames h (fun x hx => nomatch hx) hfX hkX hcellA (by rw [hhp]; exact Nat.le_refl _) (msg := .ref sa) rfl
    (g := { method := m, pc := pc + 6, locals := ls, stack := .ref sa :: .ref T.heap.size :: .ref T.heap.size :: rest, locked := none }) rfl hsize (rest := rest) rfl
    (by rw [hb]; exact d6) hRframes (by simp only [List.map_cons, List.sum_cons, hcat]; omega)
  have Z0 := Stand.forget (locs := []) Z (fun y hy => by rw [hL y hy, hhp]; exact Nat.le_refl _)
  obtain ⟨f1, f2⟩ := vx_frame Z0.same
  rw [hhp] at f1 f2
  have hcid : ce.cls = D.1 ci := by
    rw [hcl9]
    have h1 := (hK.1 ci _ hc).2.1
    rw [hvm] at hfX
    exact Option.some.inj (hfX.symm.trans h1)
  have hh : (V.setCell T.heap.size ce).heap[T.heap.size]? = some ce := heapAt_setCell_self (s := V) ce hlt
  subst hA'
  have X5 := vx_back9 X Y Z0
  have X6 : Stand p l e R s m args below meth c (V.setCell T.heap.size ce) locs (cells + 1) (slots + 6) := { X5 with same := X5.same.mono (by omega) (by omega) }
  have hk9 : ∀ (k : Nat) (x : Nat × va_E), ws[k]? = some x → (V.setCell T.heap.size ce).heap[x.1]? = T.heap[x.1]? := fun k x hx => f2 x.1 ((hP k x hx).lt) (fun z hz => nomatch hz)
  obtain ⟨t, a1, b1⟩ := kk T.heap.size (V.setCell T.heap.size ce).heap ((hP.kept hk9).app (fun k x hx => by
      have hz : k < 1 := (List.getElem?_eq_some_iff.mp hx).1
      rw [show k = 0 by omega] at hx
      cases hx
      exact ⟨_, hc, ce, hh, hcid, hvm9, fun k hk => absurd hk (Nat.not_lt_zero k)⟩)) (hD.push hP rfl (hA _ hS.1)) ⟨Nat.le_trans hS.1 f1, fun q h1 h2 => (f2 q (Nat.lt_of_lt_of_le h1 hS.1) (fun z hz => nomatch hz)).trans (hS.2.1 q h1 h2), hS.2.2⟩ _ rfl X6
  refine ⟨t, st1 _ ?_, b1⟩
  show Steps p.tables e below (T1.setTop { method := m, pc := pc + 3, locals := ls, stack := .ref T.heap.size :: rest, locked := none }) _
  jvm_step X₁.here [X₁.here.top, hexec, d3', Value.category]
  exact X₁.ldcString hexec (own := own) (text := text) (index := is) (a := sa) hown' hstr'.1 hstr'.2
    (g := { method := m, pc := pc + 4, locals := ls, stack := .ref T.heap.size :: .ref T.heap.size :: rest, locked := none }) rfl d4' _ (st _ a1)
/-- 'new E()' that isn't thrown at once: the object goes on the stack -/
theorem vx_make0 {cc : ByteArray} {pc : Nat} (hexec : p.tables.exec = Jvm.exec) (hb : c.code = cc) (hl : l.stackTraces = false) {own cls : String} {names : List String} {ik ic ci : Nat} {A : Nat → Prop} {T0 : u_T}
    (hown : s.vm.findClass own = some m.cls) (hcls : Bundle.fit cls = true) (hnames : ∀ n ∈ names, Bundle.fit n = true)
    (hk : (Cond.classLink own ik cls).before args s = true) (hini : (Cond.initialized cls).before args s = true) (hat : ∀ w ∈ vx_at0 own ic cls names, w.before args s = true)
    (hgood : ∀ w ∈ Cond.classLink own ik cls :: Cond.initialized cls :: vx_at0 own ic cls names, vx_ot w = true)
    (hU : vx_Zq Bundle.tN "UNASSIGNED_STACK" Bundle.steD A s s.heap) (hN : vx_Zq Bundle.tN "SUPPRESSED_SENTINEL" Bundle.listD A s s.heap) (hS : va_S A s.heap H locs) (hsize : ls.size = c.maxLocals)
    (d0 : decode cc pc = .ok (.new ik, 3)) (d3 : decode cc (pc + 3) = .ok (.dup, 1)) (d4 : decode cc (pc + 4) = .ok (.invokespecial ic, 3))
    (hK : va_K D cl tys s) (hP : va_P D cl ws H) (hD : va_D A ws) (hA : ∀ q, s.heap.size ≤ q → A q) (hc : cl[ci]? = some (cls, T0, 0))
    (hRframes : names.length + 3 < R.frames) (hRlocals : (rest.map fun v => v.category).sum + (13 * (names.length + 1) + 42) ≤ R.locals) (hRcells : cells + 1 ≤ R.cells) (hRslots : slots + 6 ≤ R.slots)
    (kk : ∀ (q : Nat) (H1 : Heap), va_P D cl (ws ++ [(q, .inr (ci, []))]) H1 → va_D A (ws ++ [(q, .inr (ci, []))]) → va_S A s.heap H1 locs → W p l e R s m args below meth c H1 locs (cells + 1) (slots + 6) Q (F0 m (pc + 7) ls (.ref q :: rest))) :
    W p l e R s m args below meth c H locs cells slots Q (F0 m pc ls rest) := by
  intro T hT X
  subst hT
  have htr : e.platform.stackTraces = false := (show e.platform.stackTraces = l.stackTraces by rw [X.admits.platform]).trans hl
  have Y := vx_rebase X (R' := { frames := R.frames, locals := R.locals, cells := 1, slots := 6 }) (Nat.le_refl _) (Nat.le_refl _) hRcells hRslots
  obtain ⟨s', hA'⟩ : ∃ z, z = (T.setVm s.vm).setFrames (.invoking m args :: below) := ⟨_, rfl⟩
  rw [← hA'] at Y
  have hvm : s'.vm = s.vm := by rw [hA']; rfl
  have hhp : s'.heap = T.heap := by rw [hA']; rfl
  have hW0 : s.WarmedH s'.vm := by rw [hvm]; exact State.WarmedH.refl s
  have hat' : ∀ w ∈ vx_at0 own ic cls names, w.before args s' = true := fun w hw => vx_ot_at hW0 hvm.symm (hgood w (List.mem_cons_of_mem _ (List.mem_cons_of_mem _ hw))) (hat w hw)
  have hk' : (Cond.classLink own ik cls).before args s' = true := vx_ot_at hW0 hvm.symm (hgood _ List.mem_cons_self) hk
  have hini' : (Cond.initialized cls).before args s' = true := vx_ot_at hW0 hvm.symm (hgood _ (List.mem_cons_of_mem _ List.mem_cons_self)) hini
  have hU' : vx_Zq Bundle.tN "UNASSIGNED_STACK" Bundle.steD A s' s'.heap := by rw [hhp]; exact vx_Zq.moved hW0.alike (hU.kept hS.2.1)
  have hN' : vx_Zq Bundle.tN "SUPPRESSED_SENTINEL" Bundle.listD A s' s'.heap := by rw [hhp]; exact vx_Zq.moved hW0.alike (hN.kept hS.2.1)
  have h : ∀ w ∈ Bundle.ownAtoms0 own ic cls names, w.before args s' = true := vx_own hat' (vx_isRefq hU'.1) (vx_isRefq hN'.1) hU'.2.word hN'.2.word
  have hown' : s'.vm.findClass own = some m.cls := by rw [hvm]; exact hown
  have hins : (Cond.instantiable cls 6).before args s' = true := h _ (by simp [Bundle.ownAtoms0])
  obtain ⟨vm₁, cX, kX, hfX, hkX, -, -, X₁, st1⟩ := Y.newCold hexec (own := own) (C := cls) (index := ik) (n := 6) hown' hk' hins hini'
    (g := F0 m pc ls rest) rfl (by rw [hb]; exact d0) (Nat.le_refl _) (Nat.le_refl _)
  generalize hT1 : (T.setVm vm₁).pushCell { cls := cX, slots := kX.instanceTypes.map defaultValue, vm := .none } = T1 at X₁ st1
  have hcat : (Value.ref T.heap.size).category = 1 := rfl
  have hcellA : T1.heap[T.heap.size]? = some (freshCell cX kX) := by rw [← hT1]; exact State.heap_pushCell_size _ _
  have d3' : decode c.code (pc + 3) = .ok (.dup, 1) := by rw [hb]; exact d3
  obtain ⟨V, ce, L, Z, hL, hlt, hcl9, hvm9, st⟩ := vx_ctorMade0 X₁ hexec htr (own := own) (cls := cls) (names := names) (ic := ic) hown' hcls hnames h (fun x hx => nomatch hx) hfX hkX hcellA (by rw [hhp]; exact Nat.le_refl _)
    (g := { method := m, pc := pc + 4, locals := ls, stack := .ref T.heap.size :: .ref T.heap.size :: rest, locked := none }) rfl hsize (rest := rest) rfl
    (by rw [hb]; exact d4) hRframes (by simp only [List.map_cons, List.sum_cons, hcat]; omega)
  have Z0 := Stand.forget (locs := []) Z (fun y hy => by rw [hL y hy, hhp]; exact Nat.le_refl _)
  obtain ⟨f1, f2⟩ := vx_frame Z0.same
  rw [hhp] at f1 f2
  have hcid : ce.cls = D.1 ci := by
    rw [hcl9]
    have h1 := (hK.1 ci _ hc).2.1
    rw [hvm] at hfX
    exact Option.some.inj (hfX.symm.trans h1)
  have hh : (V.setCell T.heap.size ce).heap[T.heap.size]? = some ce := heapAt_setCell_self (s := V) ce hlt
  subst hA'
  have X5 := vx_back9 X Y Z0
  have X6 : Stand p l e R s m args below meth c (V.setCell T.heap.size ce) locs (cells + 1) (slots + 6) := { X5 with same := X5.same.mono (by omega) (by omega) }
  have hk9 : ∀ (k : Nat) (x : Nat × va_E), ws[k]? = some x → (V.setCell T.heap.size ce).heap[x.1]? = T.heap[x.1]? := fun k x hx => f2 x.1 ((hP k x hx).lt) (fun z hz => nomatch hz)
  obtain ⟨t, a1, b1⟩ := kk T.heap.size (V.setCell T.heap.size ce).heap ((hP.kept hk9).app (fun k x hx => by
      have hz : k < 1 := (List.getElem?_eq_some_iff.mp hx).1
      rw [show k = 0 by omega] at hx
      cases hx
      exact ⟨_, hc, ce, hh, hcid, hvm9, fun k hk => absurd hk (Nat.not_lt_zero k)⟩)) (hD.push hP rfl (hA _ hS.1)) ⟨Nat.le_trans hS.1 f1, fun q h1 h2 => (f2 q (Nat.lt_of_lt_of_le h1 hS.1) (fun z hz => nomatch hz)).trans (hS.2.1 q h1 h2), hS.2.2⟩ _ rfl X6
  refine ⟨t, st1 _ ?_, b1⟩
  show Steps p.tables e below (T1.setTop { method := m, pc := pc + 3, locals := ls, stack := .ref T.heap.size :: rest, locked := none }) _
  jvm_step X₁.here [X₁.here.top, hexec, d3', Value.category]
  exact st _ a1
/-- 'throw x' of an object that was made before -/
theorem vx_athrow {cc : ByteArray} {pc : Nat} (hexec : p.tables.exec = Jvm.exec) (hb : c.code = cc) {q : Addr} (hdg : decode cc pc = .ok (.athrow, 1)) (k : vx_W p l e R s m args below meth c H locs cells slots Q (F0 m pc ls rest) q) : W p l e R s m args below meth c H locs cells slots Q (F0 m pc ls (.ref q :: rest)) := by
  intro T hT X
  obtain ⟨t, st, hq⟩ := k T hT X
  refine ⟨t, ?_, hq⟩
  have hdg' : decode c.code pc = .ok (.athrow, 1) := by rw [hb]; exact hdg
  jvm_step X.here [X.here.top, hexec, hdg', athrow.wp_sem]
  exact st
end VXK2
/-! ===== END ===== -/
/-! ===== BEGIN a constructor that throws (launches without stack traces) ===== -/
section VXIA
variable {p : Program} {l : Launch} {e : Env} {R : Room} {s : State} {m : MethodId} {args : Array Value} {below : List Frame} {meth : Method} {c : Code} {T : State} {locs : List Loc} {cells slots : Nat}
theorem vx_callI (X : Stand p l e R s m args below meth c T locs cells slots) (hexec : p.tables.exec = Jvm.exec) {own : String} {index : Nat} {y : MethodName} {bytes : ByteArray} {maxL : Nat}
    (hown : s.vm.findClass own = some m.cls) (hy1 : y.name = "<init>") (hlink : (Cond.methodLink own index y).before args s = true) (hinst : (Cond.instanceMethod y).before args s = true)
    (hcode : (Cond.code y bytes maxL none).before args s = true) (hy : y.cls ≠ "java/lang/invoke/MethodHandle" ∧ y.cls ≠ "java/lang/invoke/VarHandle")
    {W9 : Nat} {Pre : Pt → Array Value → Prop} {Post : Pt → Array Value → Option Value → Pt → Prop} {PostX : Pt → Array Value → Addr → Pt → Prop} (hK : vx_Back l R p e below s args y 3 W9 Pre Post PostX)
    {g : JFrame} (hg : g.method = m) (hsize : g.locals.size = c.maxLocals) {a : Addr} {argsL rest : List Value} (hlen : ∀ sig, parseMethodDescriptor y.desc = some sig → argsL.length = sig.parameters.length)
    (hstack : g.stack = argsL.reverse ++ .ref a :: rest) (hW : 2 * g.monitorRoom + (rest.map fun v => v.category).sum ≤ W9) (hdg : decode c.code g.pc = .ok (.invokespecial index, 3))
    (hpre : ∀ vm₁, s.WarmedH vm₁ → Pre ⟨T.setVm vm₁, locs, cells, slots⟩ (Value.ref a :: argsL).toArray) :
    (∃ (v : Option Value) (vm₁ : Vm) (B : Pt), s.WarmedH vm₁ ∧ Stand p l e R s m args below meth c B.U B.locs B.cells B.slots ∧ Post ⟨T.setVm vm₁, locs, cells, slots⟩ (Value.ref a :: argsL).toArray v B ∧
      ∀ target, Steps p.tables e below (B.U.setTop { g with pc := g.pc + 3, stack := v.toList ++ rest }) target → Steps p.tables e below (T.setTop g) target) ∨
    (∃ (q : Addr) (vm₁ : Vm) (B : Pt), s.WarmedH vm₁ ∧ Stand p l e R s m args below meth c B.U B.locs B.cells B.slots ∧ PostX ⟨T.setVm vm₁, locs, cells, slots⟩ (Value.ref a :: argsL).toArray q B ∧
      Steps p.tables e below (T.setTop g) ((B.U.setTop { g with stack := rest }).pushFrame (.throwing q))) := by
  subst hg
  have hpl : e.platform.magicAccessors = ({} : Platform).magicAccessors := by rw [X.admits.platform]
  obtain ⟨mk, methM, cM, kP, vm₁, hnamed, hmethM, hcodeM, -, hlocalsM, -, hkP, -, hW₁, hstep₁⟩ := Steps.initColdArgs (e := e) X.here hexec X.warmed hpl hown hy1 hy hlink hinst hcode (f := g) rfl hlen hstack hdg
  have X₁ := X.noted hW₁
  rcases hK g.method meth c ⟨T.setVm vm₁, locs, cells, slots⟩ { g with stack := rest } (.invokespecial index) mk (Value.ref a :: argsL).toArray X₁ rfl hsize hdg hW (X₁.named hnamed) (hpre vm₁ X₁.warmed) with ⟨v, B, X', hpost, hsteps⟩ | ⟨q, B, X', hpost, hsteps⟩
  · exact Or.inl ⟨v, vm₁, B, X₁.warmed, X', hpost, fun target h => hstep₁ _ fun acts => by rw [doInvoke_state]; exact hsteps.trans h⟩
  · exact Or.inr ⟨q, vm₁, B, X₁.warmed, X', hpost, hstep₁ _ fun acts => by rw [doInvoke_state]; exact hsteps⟩
end VXIA
section VXIB
variable {p : Program} {l : Launch} {e : Env} {R : Room} {s : State} {m : MethodId} {args : Array Value} {below : List Frame} {meth : Method} {c : Code} {H : Heap} {locs : List Loc} {cells slots : Nat}
variable {y : MethodName} {bytes cc : ByteArray} {maxL nL mc ms n index : Nat} {ret : Option FieldType} {ws : List Cond} {rm : Room} {Pc : Array Value → State → Prop} {Qc : Array Value → State → Outcome → State → Prop} {XC : String → State → State → Prop} {free : Addr → Prop} {Ts : List Cond} {own C : String} {b : Addr} {As rest : List Value} {g : JFrame}
theorem vx_runI (S : CallFix p m c cc nL s args Ts own) (hM : vx_Met l y ws rm Pc Qc XC mc ms free) (cw : CallB R s args own index y bytes maxL none ws rm mc ms n ∧ y.name = "<init>" ∧ (Cond.instanceMethod y).before args s = true) (hp : PreS s H Pc (.ref b :: As))
    (hg : g.method = m) (hn : As.length = n) (hsize : g.locals.size = nL) (hstack : g.stack = As.reverse ++ .ref b :: rest) (hW : 2 * g.monitorRoom + (rest.map fun v => v.category).sum ≤ 8) (hdg : decode cc g.pc = .ok (.invokespecial index, 3)) (hf : cells + mc ≤ R.cells ∧ slots + ms ≤ R.slots) :
    vx_Run p l e R s m args below meth c H locs cells slots mc ms g rest (Qc (Value.ref b :: As).toArray) XC free := by
  have hK : vx_Back l R p e below s args y 3 8 (PreOf R mc ms Pc) (PostOf Qc mc ms free) (vx_Post XC mc ms free) := vx_callBack cw.1 hM hp.1
  obtain ⟨⟨-, -, -, -, -, -, hcode, -, hy, hlen, hl⟩, hy1, hin⟩ := cw
  obtain ⟨hx, hb, hml, ho, -⟩ := S
  have hPc := hp.2
  intro T hT X
  rcases vx_callI X hx (bytes := bytes) (maxL := maxL) ho hy1 hl hin hcode hy hK hg (hsize.trans hml.symm) (a := b) (argsL := As) (rest := rest) (fun sig h => hn.trans (hlen sig h)) hstack hW (by rw [hb]; exact hdg)
    (fun vm₁ hW₁ => ⟨hf.1, hf.2, hPc (T.setVm vm₁) hT hW₁⟩) with ⟨v, vm₁, ⟨U', l2, c2, s2⟩, hW₁, X', ⟨g', mk, t, L, e1, e2, hq, h1, hL, h2, h3⟩, st⟩ | ⟨q, vm₁, ⟨U', l2, c2, s2⟩, hW₁, X', ⟨g', mk, t, L, E, ce, e1, e2, hq, hce, hcv, hcl, h1, hL, h2, h3⟩, st⟩
  · dsimp only [Pt.U, Pt.locs, Pt.cells, Pt.slots] at X' e1 e2 h1 h2 h3 st
    subst h1; subst h2; subst h3
    exact Or.inl ⟨v, (T.setVm vm₁).calling g' mk (Value.ref b :: As).toArray, t, U', L, hT, X', hL, e1, e2, hq, st⟩
  · dsimp only [Pt.U, Pt.locs, Pt.cells, Pt.slots] at X' e1 e2 h1 h2 h3 st hcl
    subst h1; subst h2; subst h3
    exact Or.inr ⟨q, (T.setVm vm₁).calling g' mk (Value.ref b :: As).toArray, t, U', L, E, ce, hT, X', hL, e1, e2, hq, hce, hcv, vx_cls hW₁ hcl, st⟩
end VXIB
/-! ===== END ===== -/
/-! ===== BEGIN a private constructor of a nest mate that throws ===== -/
section VXIC
variable {p : Program} {l : Launch} {e : Env} {R : Room} {s : State} {m : MethodId} {args : Array Value} {below : List Frame} {meth : Method} {c : Code} {T : State} {locs : List Loc} {cells slots : Nat}
theorem vx_callIN (X : Stand p l e R s m args below meth c T locs cells slots) (hexec : p.tables.exec = Jvm.exec) {own : String} {index : Nat} {host : String} {y : MethodName} {bytes : ByteArray} {maxL : Nat}
    (hown : s.vm.findClass own = some m.cls) (hy1 : y.name = "<init>") (hlink : (Cond.methodLinkNest own index y host).before args s = true) (hinst : (Cond.instanceMethod y).before args s = true)
    (hcode : (Cond.code y bytes maxL none).before args s = true) (hy : y.cls ≠ "java/lang/invoke/MethodHandle" ∧ y.cls ≠ "java/lang/invoke/VarHandle")
    {W9 : Nat} {Pre : Pt → Array Value → Prop} {Post : Pt → Array Value → Option Value → Pt → Prop} {PostX : Pt → Array Value → Addr → Pt → Prop} (hK : vx_Back l R p e below s args y 3 W9 Pre Post PostX)
    {g : JFrame} (hg : g.method = m) (hsize : g.locals.size = c.maxLocals) {a : Addr} {argsL rest : List Value} (hlen : ∀ sig, parseMethodDescriptor y.desc = some sig → argsL.length = sig.parameters.length)
    (hstack : g.stack = argsL.reverse ++ .ref a :: rest) (hW : 2 * g.monitorRoom + (rest.map fun v => v.category).sum ≤ W9) (hdg : decode c.code g.pc = .ok (.invokespecial index, 3))
    (hpre : ∀ vm₁, s.WarmedH vm₁ → Pre ⟨T.setVm vm₁, locs, cells, slots⟩ (Value.ref a :: argsL).toArray) :
    (∃ (v : Option Value) (vm₁ : Vm) (B : Pt), s.WarmedH vm₁ ∧ Stand p l e R s m args below meth c B.U B.locs B.cells B.slots ∧ Post ⟨T.setVm vm₁, locs, cells, slots⟩ (Value.ref a :: argsL).toArray v B ∧
      ∀ target, Steps p.tables e below (B.U.setTop { g with pc := g.pc + 3, stack := v.toList ++ rest }) target → Steps p.tables e below (T.setTop g) target) ∨
    (∃ (q : Addr) (vm₁ : Vm) (B : Pt), s.WarmedH vm₁ ∧ Stand p l e R s m args below meth c B.U B.locs B.cells B.slots ∧ PostX ⟨T.setVm vm₁, locs, cells, slots⟩ (Value.ref a :: argsL).toArray q B ∧
      Steps p.tables e below (T.setTop g) ((B.U.setTop { g with stack := rest }).pushFrame (.throwing q))) := by
  subst hg
  have hpl : e.platform.magicAccessors = ({} : Platform).magicAccessors := by rw [X.admits.platform]
  obtain ⟨mk, methM, cM, kP, vm₁, hnamed, hmethM, hcodeM, -, hlocalsM, -, hkP, -, hW₁, hstep₁⟩ := Steps.initColdArgsNest (e := e) X.here hexec X.warmed hpl hown hy1 hy hlink hinst hcode (f := g) rfl hlen hstack hdg
  have X₁ := X.noted hW₁
  rcases hK g.method meth c ⟨T.setVm vm₁, locs, cells, slots⟩ { g with stack := rest } (.invokespecial index) mk (Value.ref a :: argsL).toArray X₁ rfl hsize hdg hW (X₁.named hnamed) (hpre vm₁ X₁.warmed) with ⟨v, B, X', hpost, hsteps⟩ | ⟨q, B, X', hpost, hsteps⟩
  · exact Or.inl ⟨v, vm₁, B, X₁.warmed, X', hpost, fun target h => hstep₁ _ fun acts => by rw [doInvoke_state]; exact hsteps.trans h⟩
  · exact Or.inr ⟨q, vm₁, B, X₁.warmed, X', hpost, hstep₁ _ fun acts => by rw [doInvoke_state]; exact hsteps⟩
end VXIC
section VXID
variable {p : Program} {l : Launch} {e : Env} {R : Room} {s : State} {m : MethodId} {args : Array Value} {below : List Frame} {meth : Method} {c : Code} {H : Heap} {locs : List Loc} {cells slots : Nat}
theorem vx_runIN {y : MethodName} {bytes cc : ByteArray} {maxL nL mc ms n index : Nat} {ws : List Cond} {rm : Room} {Pc : Array Value → State → Prop} {Qc : Array Value → State → Outcome → State → Prop} {XC : String → State → State → Prop} {free : Addr → Prop} {Ts : List Cond} {own host : String} {b : Addr} {As rest : List Value} {g : JFrame}
    (S : CallFix p m c cc nL s args Ts own) (hM : vx_Met l y ws rm Pc Qc XC mc ms free) (cw : va_CN R s args own index y host bytes maxL none ws rm mc ms n ∧ y.name = "<init>" ∧ (Cond.instanceMethod y).before args s = true) (hp : PreS s H Pc (.ref b :: As))
    (hg : g.method = m) (hn : As.length = n) (hsize : g.locals.size = nL) (hstack : g.stack = As.reverse ++ .ref b :: rest) (hW : 2 * g.monitorRoom + (rest.map fun v => v.category).sum ≤ 8) (hdg : decode cc g.pc = .ok (.invokespecial index, 3)) (hf : cells + mc ≤ R.cells ∧ slots + ms ≤ R.slots) :
    vx_Run p l e R s m args below meth c H locs cells slots mc ms g rest (Qc (Value.ref b :: As).toArray) XC free := by
  obtain ⟨⟨⟨hrc, hrs, hfr, hlo, hws, hcw⟩, hcode, hini, hy, hlen, hl⟩, hx1, hx2⟩ := cw
  have hK : vx_Back l R p e below s args y 3 8 (PreOf R mc ms Pc) (PostOf Qc mc ms free) (vx_Post XC mc ms free) := vx_back (bytes := bytes) (maxL := maxL) (ret := none) hM hp.1 hrc hrs hfr hlo hws hcw (fun a' U hW => word_at hW (Or.inl (by first | rfl | simp [Cond.onTables, Cond.keeps, Cond.steady])) hini)
  obtain ⟨hx, hb, hml, ho, -⟩ := S
  have hPc := hp.2
  intro T hT X
  rcases vx_callIN X hx (bytes := bytes) (maxL := maxL) ho hx1 hl hx2 hcode hy hK hg (hsize.trans hml.symm) (a := b) (argsL := As) (rest := rest) (fun sig h => hn.trans (hlen sig h)) hstack hW (by rw [hb]; exact hdg)
    (fun vm₁ hW₁ => ⟨hf.1, hf.2, hPc (T.setVm vm₁) hT hW₁⟩) with ⟨v, vm₁, ⟨U', l2, c2, s2⟩, hW₁, X', ⟨g', mk, t, L, e1, e2, hq, h1, hL, h2, h3⟩, st⟩ | ⟨q, vm₁, ⟨U', l2, c2, s2⟩, hW₁, X', ⟨g', mk, t, L, E, ce, e1, e2, hq, hce, hcv, hcl, h1, hL, h2, h3⟩, st⟩
  · dsimp only [Pt.U, Pt.locs, Pt.cells, Pt.slots] at X' e1 e2 h1 h2 h3 st
    subst h1; subst h2; subst h3
    exact Or.inl ⟨v, (T.setVm vm₁).calling g' mk (Value.ref b :: As).toArray, t, U', L, hT, X', hL, e1, e2, hq, st⟩
  · dsimp only [Pt.U, Pt.locs, Pt.cells, Pt.slots] at X' e1 e2 h1 h2 h3 st hcl
    subst h1; subst h2; subst h3
    exact Or.inr ⟨q, (T.setVm vm₁).calling g' mk (Value.ref b :: As).toArray, t, U', L, E, ce, hT, X', hL, e1, e2, hq, hce, hcv, vx_cls hW₁ hcl, st⟩
end VXID
/-! ===== END ===== -/
/-! ===== BEGIN a method of a class above, found by the receiver, that may throw (follows va_callVU, va_runU of this kit) ===== -/
section
variable {p : Program} {l : Launch} {e : Env} {R : Room} {s : State} {m : MethodId} {args : Array Value} {below : List Frame} {meth : Method} {c : Code} {H : Heap} {locs : List Loc} {cells slots : Nat}
theorem vx_callVU {T : State} {locs : List Loc} {cells slots : Nat} (X : Stand p l e R s m args below meth c T locs cells slots) (hexec : p.tables.exec = Jvm.exec) {own C owner : String} {index : Nat} {x y : MethodName} {bytes : ByteArray} {maxL : Nat} {ret : Option FieldType}
    (hown : s.vm.findClass own = some m.cls) (hlink : (Cond.methodLink own index x).before args s = true) (hsame : (Cond.sameMethod x.cls owner x.name x.desc).before args s = true)
    (hd0 : va_Decl s ⟨owner, x.name, x.desc⟩) (howner : owner ≠ "java/lang/invoke/MethodHandle" ∧ owner ≠ "java/lang/invoke/VarHandle")
    (hsel : (Cond.selects C x y).before args s = true) (hinst : (Cond.instanceMethod y).before args s = true) (hcode : (Cond.code y bytes maxL ret).before args s = true)
    {W : Nat} {Pre : Pt → Array Value → Prop} {Post : Pt → Array Value → Option Value → Pt → Prop} {PostX : Pt → Array Value → Addr → Pt → Prop} (hK : vx_Back l R p e below s args y 3 W Pre Post PostX)
    {b : Addr} {cellB : Cell} (hcell : T.heap[b]? = some cellB) (hobj : cellB.vm.isStatics = false) (hcls : s.vm.findClass C = some cellB.cls)
    {g : JFrame} (hg : g.method = m) (hsize : g.locals.size = c.maxLocals) {argsL rest : List Value} (hlen : ∀ sig, parseMethodDescriptor x.desc = some sig → argsL.length = sig.parameters.length)
    (hstack : g.stack = argsL.reverse ++ .ref b :: rest) (hW : 2 * g.monitorRoom + (rest.map fun v => v.category).sum ≤ W) (hdg : decode c.code g.pc = .ok (.invokevirtual index, 3))
    (hpre : ∀ vm₁, s.WarmedH vm₁ → Pre ⟨T.setVm vm₁, locs, cells, slots⟩ (Value.ref b :: argsL).toArray) :
    (∃ (v : Option Value) (vm₁ : Vm) (B : Pt), s.WarmedH vm₁ ∧ Stand p l e R s m args below meth c B.U B.locs B.cells B.slots ∧ Post ⟨T.setVm vm₁, locs, cells, slots⟩ (Value.ref b :: argsL).toArray v B ∧
      ∀ target, Steps p.tables e below (B.U.setTop { g with pc := g.pc + 3, stack := v.toList ++ rest }) target → Steps p.tables e below (T.setTop g) target) ∨
    (∃ (q : Addr) (vm₁ : Vm) (B : Pt), s.WarmedH vm₁ ∧ Stand p l e R s m args below meth c B.U B.locs B.cells B.slots ∧ PostX ⟨T.setVm vm₁, locs, cells, slots⟩ (Value.ref b :: argsL).toArray q B ∧
      Steps p.tables e below (T.setTop g) ((B.U.setTop { g with stack := rest }).pushFrame (.throwing q))) := by
  obtain ⟨r0, r, hn, hrm, hstR, hsigR⟩ := hd0
  obtain ⟨cn, ck, r1, hcn, hck, hni, hf, hn1⟩ := Cond.sameMethod_found hsame
  cases hn.symm.trans hn1
  obtain ⟨mk, methM, hnamed, hmethM, -, habM⟩ := Cond.instanceMethod_spec hinst
  obtain ⟨c2, r2, m2, q1, q2, q3, q4, kP, hkP, hkPi⟩ := Cond.selects_spec hsel
  cases hcls.symm.trans q1
  cases hf.symm.trans q2
  cases hnamed.symm.trans q3
  have hselP : selectMethod e.platform s.vm cellB.cls r0 = .method mk := by rw [Launch.admits_selectMethod X.admits]; exact q4
  obtain ⟨vm₁, X₁, hstep₁⟩ := X.invokevirtualUp hexec hown hlink hsame howner hn hrm hstR (a := b) (cell := cellB) hcell
    (fun z h => by rw [h] at hobj; cases hobj) hselP hmethM habM hkP hkPi (g := g) hg (argsL := argsL) (rest := rest) (hlen _ hsigR) hstack hdg
  rcases hK m meth c ⟨T.setVm vm₁, locs, cells, slots⟩ { g with stack := rest } (.invokevirtual index) mk (Value.ref b :: argsL).toArray X₁ hg hsize hdg hW (X₁.named hnamed) (hpre vm₁ X₁.warmed) with ⟨v, B, X', hpost, hsteps⟩ | ⟨q, B, X', hpost, hsteps⟩
  · exact Or.inl ⟨v, vm₁, B, X₁.warmed, X', hpost, fun target h => hstep₁ _ fun acts => by rw [doInvoke_state]; exact hsteps.trans h⟩
  · exact Or.inr ⟨q, vm₁, B, X₁.warmed, X', hpost, hstep₁ _ fun acts => by rw [doInvoke_state]; exact hsteps⟩
theorem vx_runU {x y : MethodName} {bytes cc : ByteArray} {maxL nL mc ms n index : Nat} {ret : Option FieldType} {ws : List Cond} {rm : Room} {Pc : Array Value → State → Prop} {Qc : Array Value → State → Outcome → State → Prop} {XC : String → State → State → Prop} {free : Addr → Prop} {Ts : List Cond} {own C owner : String} {b : Addr} {As rest : List Value} {g : JFrame}
    (S : CallFix p m c cc nL s args Ts own) (hM : vx_Met l y ws rm Pc Qc XC mc ms free) (cw : va_CU R s args own C owner index x y bytes maxL ret ws rm mc ms n) (hp : PreV s H C b Pc As)
    (hg : g.method = m) (hn : As.length = n) (hsize : g.locals.size = nL) (hstack : g.stack = As.reverse ++ .ref b :: rest) (hW : 2 * g.monitorRoom + (rest.map fun v => v.category).sum ≤ 8) (hdg : decode cc g.pc = .ok (.invokevirtual index, 3)) (hf : cells + mc ≤ R.cells ∧ slots + ms ≤ R.slots) :
    vx_Run p l e R s m args below meth c H locs cells slots mc ms g rest (Qc (Value.ref b :: As).toArray) XC free := by
  obtain ⟨hrc, hrs, hfr, hlo, hws, hcw⟩ := cw.back
  have hini := cw.init
  have hK : vx_Back l R p e below s args y 3 8 (PreOf R mc ms Pc) (PostOf Qc mc ms free) (vx_Post XC mc ms free) := vx_back (bytes := bytes) (maxL := maxL) (ret := ret) hM hp.1 hrc hrs hfr hlo hws hcw (fun a' U hW => word_at hW (Or.inl (by first | rfl | simp [Cond.onTables, Cond.keeps, Cond.steady])) hini)
  obtain ⟨hx, hb, hml, ho, -⟩ := S
  obtain ⟨-, ⟨cellB, hcB, hoB, hclB⟩, hPc⟩ := hp
  intro T hT X
  rcases vx_callVU X hx (C := C) (owner := owner) (bytes := bytes) (maxL := maxL) (ret := ret) ho cw.link cw.same cw.decl cw.notMH cw.sel cw.inst cw.code hK (by rw [hT]; exact hcB) hoB hclB hg (hsize.trans hml.symm) (argsL := As) (rest := rest) (fun sig h => hn.trans (cw.len sig h)) hstack hW (by rw [hb]; exact hdg)
    (fun vm₁ hW₁ => ⟨hf.1, hf.2, hPc (T.setVm vm₁) hT hW₁⟩) with ⟨v, vm₁, ⟨U', l2, c2, s2⟩, hW₁, X', ⟨g', mk, t, L, e1, e2, hq, h1, hL, h2, h3⟩, st⟩ | ⟨q, vm₁, ⟨U', l2, c2, s2⟩, hW₁, X', ⟨g', mk, t, L, E, ce, e1, e2, hq, hce, hcv, hcl, h1, hL, h2, h3⟩, st⟩
  · dsimp only [Pt.U, Pt.locs, Pt.cells, Pt.slots] at X' e1 e2 h1 h2 h3 st
    subst h1; subst h2; subst h3
    exact Or.inl ⟨v, (T.setVm vm₁).calling g' mk (Value.ref b :: As).toArray, t, U', L, hT, X', hL, e1, e2, hq, st⟩
  · dsimp only [Pt.U, Pt.locs, Pt.cells, Pt.slots] at X' e1 e2 h1 h2 h3 st hcl
    subst h1; subst h2; subst h3
    exact Or.inr ⟨q, (T.setVm vm₁).calling g' mk (Value.ref b :: As).toArray, t, U', L, E, ce, hT, X', hL, e1, e2, hq, hce, hcv, vx_cls hW₁ hcl, st⟩
end
/-! ===== END ===== -/
/-! ===== BEGIN super.m(..) that may throw (follows va_callSU, va_runSU) ===== -/
section
variable {p : Program} {l : Launch} {e : Env} {R : Room} {s : State} {m : MethodId} {args : Array Value} {below : List Frame} {meth : Method} {c : Code} {H : Heap} {locs : List Loc} {cells slots : Nat}
theorem vx_callSU {T : State} {locs : List Loc} {cells slots : Nat} (X : Stand p l e R s m args below meth c T locs cells slots) (hexec : p.tables.exec = Jvm.exec) {own : String} {index : Nat} {y : MethodName} {bytes : ByteArray} {maxL : Nat} {ret : Option FieldType}
    (hown : s.vm.findClass own = some m.cls) (hlink : (Cond.methodLink own index y).before args s = true) (hsame : (Cond.sameMethod y.cls y.cls y.name y.desc).before args s = true) (hsup : (Cond.superclass own y.cls).before args s = true)
    (hinst : (Cond.instanceMethod y).before args s = true) (hcode : (Cond.code y bytes maxL ret).before args s = true) (hno : y.name ≠ "<init>")
    {W : Nat} {Pre : Pt → Array Value → Prop} {Post : Pt → Array Value → Option Value → Pt → Prop} {PostX : Pt → Array Value → Addr → Pt → Prop} (hK : vx_Back l R p e below s args y 3 W Pre Post PostX)
    {b : Addr} {cellB : Cell} {kB : Class} (hcell : T.heap[b]? = some cellB) (hobj : cellB.vm.isStatics = false) (hkB : s.vm.classes[cellB.cls]? = some kB)
    {g : JFrame} (hg : g.method = m) (hsize : g.locals.size = c.maxLocals) {argsL rest : List Value} (hlen : ∀ sig, parseMethodDescriptor y.desc = some sig → argsL.length = sig.parameters.length)
    (hstack : g.stack = argsL.reverse ++ .ref b :: rest) (hW : 2 * g.monitorRoom + (rest.map fun v => v.category).sum ≤ W) (hdg : decode c.code g.pc = .ok (.invokespecial index, 3))
    (hpre : ∀ vm₁, s.WarmedH vm₁ → Pre ⟨T.setVm vm₁, locs, cells, slots⟩ (Value.ref b :: argsL).toArray) :
    (∃ (v : Option Value) (vm₁ : Vm) (B : Pt), s.WarmedH vm₁ ∧ Stand p l e R s m args below meth c B.U B.locs B.cells B.slots ∧ Post ⟨T.setVm vm₁, locs, cells, slots⟩ (Value.ref b :: argsL).toArray v B ∧
      ∀ target, Steps p.tables e below (B.U.setTop { g with pc := g.pc + 3, stack := v.toList ++ rest }) target → Steps p.tables e below (T.setTop g) target) ∨
    (∃ (q : Addr) (vm₁ : Vm) (B : Pt), s.WarmedH vm₁ ∧ Stand p l e R s m args below meth c B.U B.locs B.cells B.slots ∧ PostX ⟨T.setVm vm₁, locs, cells, slots⟩ (Value.ref b :: argsL).toArray q B ∧
      Steps p.tables e below (T.setTop g) ((B.U.setTop { g with stack := rest }).pushFrame (.throwing q))) := by
  obtain ⟨mk, methM, hnamed, hmethM, hstM, habM⟩ := Cond.instanceMethod_spec hinst
  obtain ⟨methM', cM, hmethM', -, -, -, -, -, -, hsigM⟩ := Cond.code_spec hnamed hcode
  cases hmethM.symm.trans hmethM'
  obtain ⟨ps, dk, kp, hps, hdk, hkp, hsuper, -, -, hnid⟩ := Cond.superclass_spec hown hsup
  have hn : s.methodNamed? ⟨y.cls, y.name, y.desc⟩ = some mk := hnamed
  have hpm : ps = mk.cls := Option.some.inj (hps.symm.trans (findClass_of_methodNamed hnamed))
  have hsub : s.vm.isSubclass ps mk.cls = true := by rw [hpm]; simp [Vm.isSubclass, Vm.isSubclassAux]
  obtain ⟨vm₁, X₁, hstep₁⟩ := X.invokespecialUp hexec hown hlink hsame hn hmethM hstM habM hno hdk hnid hps hsuper hsub (a := b) (cell := cellB) hcell
    (fun z h => by rw [h] at hobj; cases hobj) hkB (g := g) hg (argsL := argsL) (rest := rest) (hlen _ hsigM) hstack hdg
  rcases hK m meth c ⟨T.setVm vm₁, locs, cells, slots⟩ { g with stack := rest } (.invokespecial index) mk (Value.ref b :: argsL).toArray X₁ hg hsize hdg hW (X₁.named hnamed) (hpre vm₁ X₁.warmed) with ⟨v, B, X', hpost, hsteps⟩ | ⟨q, B, X', hpost, hsteps⟩
  · exact Or.inl ⟨v, vm₁, B, X₁.warmed, X', hpost, fun target h => hstep₁ _ (by rw [doInvoke_state]; exact hsteps.trans h)⟩
  · exact Or.inr ⟨q, vm₁, B, X₁.warmed, X', hpost, hstep₁ _ (by rw [doInvoke_state]; exact hsteps)⟩
theorem vx_runSU {y : MethodName} {bytes cc : ByteArray} {maxL nL mc ms n index : Nat} {ret : Option FieldType} {ws : List Cond} {rm : Room} {Pc : Array Value → State → Prop} {Qc : Array Value → State → Outcome → State → Prop} {XC : String → State → State → Prop} {free : Addr → Prop} {Ts : List Cond} {own C : String} {cC : ClassId} {b : Addr} {As rest : List Value} {g : JFrame}
    (hat : ClassAt s C cC) (S : CallFix p m c cc nL s args Ts own) (hM : vx_Met l y ws rm Pc Qc XC mc ms free) (cw : va_CS R s args own index y bytes maxL ret ws rm mc ms n) (hp : PreV s H C b Pc As)
    (hg : g.method = m) (hn : As.length = n) (hsize : g.locals.size = nL) (hstack : g.stack = As.reverse ++ .ref b :: rest) (hW : 2 * g.monitorRoom + (rest.map fun v => v.category).sum ≤ 8) (hdg : decode cc g.pc = .ok (.invokespecial index, 3)) (hf : cells + mc ≤ R.cells ∧ slots + ms ≤ R.slots) :
    vx_Run p l e R s m args below meth c H locs cells slots mc ms g rest (Qc (Value.ref b :: As).toArray) XC free := by
  obtain ⟨⟨hrc, hrs, hfr, hlo, hws, hcw⟩, hl1, hl2, hl3, hl4, hini, hcode, hno, hlen⟩ := cw
  have hK : vx_Back l R p e below s args y 3 8 (PreOf R mc ms Pc) (PostOf Qc mc ms free) (vx_Post XC mc ms free) := vx_back (bytes := bytes) (maxL := maxL) (ret := ret) hM hp.1 hrc hrs hfr hlo hws hcw (fun a' U hW => word_at hW (Or.inl (by first | rfl | simp [Cond.onTables, Cond.keeps, Cond.steady])) hini)
  obtain ⟨hx, hb, hml, ho, -⟩ := S
  obtain ⟨-, ⟨cellB, hcB, hoB, hclB⟩, hPc⟩ := hp
  obtain ⟨hfc, kB, hkB, -⟩ := hat
  cases hfc.symm.trans hclB
  intro T hT X
  rcases vx_callSU X hx (bytes := bytes) (maxL := maxL) (ret := ret) ho hl1 hl2 hl3 hl4 hcode hno hK (by rw [hT]; exact hcB) hoB hkB hg (hsize.trans hml.symm) (argsL := As) (rest := rest) (fun sig h => hn.trans (hlen sig h)) hstack hW (by rw [hb]; exact hdg)
    (fun vm₁ hW₁ => ⟨hf.1, hf.2, hPc (T.setVm vm₁) hT hW₁⟩) with ⟨v, vm₁, ⟨U', l2, c2, s2⟩, hW₁, X', ⟨g', mk, t, L, e1, e2, hq, h1, hL, h2, h3⟩, st⟩ | ⟨q, vm₁, ⟨U', l2, c2, s2⟩, hW₁, X', ⟨g', mk, t, L, E, ce, e1, e2, hq, hce, hcv, hcl, h1, hL, h2, h3⟩, st⟩
  · dsimp only [Pt.U, Pt.locs, Pt.cells, Pt.slots] at X' e1 e2 h1 h2 h3 st
    subst h1; subst h2; subst h3
    exact Or.inl ⟨v, (T.setVm vm₁).calling g' mk (Value.ref b :: As).toArray, t, U', L, hT, X', hL, e1, e2, hq, st⟩
  · dsimp only [Pt.U, Pt.locs, Pt.cells, Pt.slots] at X' e1 e2 h1 h2 h3 st hcl
    subst h1; subst h2; subst h3
    exact Or.inr ⟨q, (T.setVm vm₁).calling g' mk (Value.ref b :: As).toArray, t, U', L, E, ce, hT, X', hL, e1, e2, hq, hce, hcv, vx_cls hW₁ hcl, st⟩
end
/-! ===== END ===== -/
/-! ===== BEGIN a private method of a nest mate that may throw (follows va_callVN, va_callSN, va_runVN, va_runSN) ===== -/
section
variable {p : Program} {l : Launch} {e : Env} {R : Room} {s : State} {m : MethodId} {args : Array Value} {below : List Frame} {meth : Method} {c : Code} {H : Heap} {locs : List Loc} {cells slots : Nat}
variable {T : State}
theorem vx_callVN (X : Stand p l e R s m args below meth c T locs cells slots) (hexec : p.tables.exec = Jvm.exec) {own C : String} {index : Nat} {host : String} {y : MethodName} {bytes : ByteArray} {maxL : Nat} {ret : Option FieldType}
    (hown : s.vm.findClass own = some m.cls) (hlink : (Cond.methodLinkNest own index y host).before args s = true) (hinst : (Cond.instanceMethod y).before args s = true) (hsel : (Cond.selects C y y).before args s = true)
    (hcode : (Cond.code y bytes maxL ret).before args s = true) (hy : y.cls ≠ "java/lang/invoke/MethodHandle" ∧ y.cls ≠ "java/lang/invoke/VarHandle")
    {W : Nat} {Pre : Pt → Array Value → Prop} {Post : Pt → Array Value → Option Value → Pt → Prop} {PostX : Pt → Array Value → Addr → Pt → Prop} (hK : vx_Back l R p e below s args y 3 W Pre Post PostX)
    {b : Addr} {cellB : Cell} (hcell : T.heap[b]? = some cellB) (hobj : cellB.vm.isStatics = false) (hcls : s.vm.findClass C = some cellB.cls)
    {g : JFrame} (hg : g.method = m) (hsize : g.locals.size = c.maxLocals) {argsL rest : List Value} (hlen : ∀ sig, parseMethodDescriptor y.desc = some sig → argsL.length = sig.parameters.length)
    (hstack : g.stack = argsL.reverse ++ .ref b :: rest) (hW : 2 * g.monitorRoom + (rest.map fun v => v.category).sum ≤ W) (hdg : decode c.code g.pc = .ok (.invokevirtual index, 3))
    (hpre : ∀ vm₁, s.WarmedH vm₁ → Pre ⟨T.setVm vm₁, locs, cells, slots⟩ (Value.ref b :: argsL).toArray) :
    (∃ (v : Option Value) (vm₁ : Vm) (B : Pt), s.WarmedH vm₁ ∧ Stand p l e R s m args below meth c B.U B.locs B.cells B.slots ∧ Post ⟨T.setVm vm₁, locs, cells, slots⟩ (Value.ref b :: argsL).toArray v B ∧
      ∀ target, Steps p.tables e below (B.U.setTop { g with pc := g.pc + 3, stack := v.toList ++ rest }) target → Steps p.tables e below (T.setTop g) target) ∨
    (∃ (q : Addr) (vm₁ : Vm) (B : Pt), s.WarmedH vm₁ ∧ Stand p l e R s m args below meth c B.U B.locs B.cells B.slots ∧ PostX ⟨T.setVm vm₁, locs, cells, slots⟩ (Value.ref b :: argsL).toArray q B ∧
      Steps p.tables e below (T.setTop g) ((B.U.setTop { g with stack := rest }).pushFrame (.throwing q))) := by
  obtain ⟨mk, methM, hnamed, hmethM, hstM, habM⟩ := Cond.instanceMethod_spec hinst
  obtain ⟨methM', cM, hmethM', -, -, -, -, -, -, hsigM⟩ := Cond.code_spec hnamed hcode
  cases hmethM.symm.trans hmethM'
  obtain ⟨c2, r2, m2, q1, q2, q3, q4, kP, hkP, hkPi⟩ := Cond.selects_spec hsel
  cases hcls.symm.trans q1
  cases (State.methodFound?_of_named hnamed hy).symm.trans q2
  cases hnamed.symm.trans q3
  have hselP : selectMethod e.platform s.vm cellB.cls mk = .method mk := by rw [Launch.admits_selectMethod X.admits]; exact q4
  obtain ⟨vm₁, X₁, hstep₁⟩ := X.invokevirtualNest hexec hown hlink hnamed hmethM hstM hkP hkPi hy (a := b) (cell := cellB) hcell
    (fun z h => by rw [h] at hobj; cases hobj) hselP hmethM habM hkP hkPi (g := g) hg (argsL := argsL) (rest := rest) (hlen _ hsigM) hstack hdg
  rcases hK m meth c ⟨T.setVm vm₁, locs, cells, slots⟩ { g with stack := rest } (.invokevirtual index) mk (Value.ref b :: argsL).toArray X₁ hg hsize hdg hW (X₁.named hnamed) (hpre vm₁ X₁.warmed) with ⟨v, B, X', hpost, hsteps⟩ | ⟨q, B, X', hpost, hsteps⟩
  · exact Or.inl ⟨v, vm₁, B, X₁.warmed, X', hpost, fun target h => hstep₁ _ fun acts => by rw [doInvoke_state]; exact hsteps.trans h⟩
  · exact Or.inr ⟨q, vm₁, B, X₁.warmed, X', hpost, hstep₁ _ fun acts => by rw [doInvoke_state]; exact hsteps⟩
theorem vx_callSN (X : Stand p l e R s m args below meth c T locs cells slots) (hexec : p.tables.exec = Jvm.exec) {own : String} {index : Nat} {host : String} {y : MethodName} {bytes : ByteArray} {maxL : Nat} {ret : Option FieldType}
    (hown : s.vm.findClass own = some m.cls) (hlink : (Cond.methodLinkNest own index y host).before args s = true) (hstat : (Cond.static y).before args s = true) (hinit : (Cond.initialized y.cls).before args s = true)
    (hcode : (Cond.code y bytes maxL ret).before args s = true) (hy : y.cls ≠ "java/lang/invoke/MethodHandle" ∧ y.cls ≠ "java/lang/invoke/VarHandle")
    {W : Nat} {Pre : Pt → Array Value → Prop} {Post : Pt → Array Value → Option Value → Pt → Prop} {PostX : Pt → Array Value → Addr → Pt → Prop} (hK : vx_Back l R p e below s args y 3 W Pre Post PostX)
    {g : JFrame} (hg : g.method = m) (hsize : g.locals.size = c.maxLocals) {argsL rest : List Value} (hlen : ∀ sig, parseMethodDescriptor y.desc = some sig → argsL.length = sig.parameters.length)
    (hstack : g.stack = argsL.reverse ++ rest) (hW : 2 * g.monitorRoom + (rest.map fun v => v.category).sum ≤ W) (hdg : decode c.code g.pc = .ok (.invokestatic index, 3))
    (hpre : ∀ vm₁, s.WarmedH vm₁ → Pre ⟨T.setVm vm₁, locs, cells, slots⟩ argsL.toArray) :
    (∃ (v : Option Value) (vm₁ : Vm) (B : Pt), s.WarmedH vm₁ ∧ Stand p l e R s m args below meth c B.U B.locs B.cells B.slots ∧ Post ⟨T.setVm vm₁, locs, cells, slots⟩ argsL.toArray v B ∧
      ∀ target, Steps p.tables e below (B.U.setTop { g with pc := g.pc + 3, stack := v.toList ++ rest }) target → Steps p.tables e below (T.setTop g) target) ∨
    (∃ (q : Addr) (vm₁ : Vm) (B : Pt), s.WarmedH vm₁ ∧ Stand p l e R s m args below meth c B.U B.locs B.cells B.slots ∧ PostX ⟨T.setVm vm₁, locs, cells, slots⟩ argsL.toArray q B ∧
      Steps p.tables e below (T.setTop g) ((B.U.setTop { g with stack := rest }).pushFrame (.throwing q))) := by
  obtain ⟨mk, hnamed⟩ := Cond.code_named hcode
  obtain ⟨methM, cM, hmethM, -, -, -, -, -, -, hsigM⟩ := Cond.code_spec hnamed hcode
  have hstatic : methM.isStatic = true := Cond.static_spec hnamed hmethM hstat
  obtain ⟨kP, hkP, -⟩ := className_of_methodNamed hnamed
  have hinitP : kP.init = .initialized := Cond.initialized_spec (findClass_of_methodNamed hnamed) hkP hinit
  obtain ⟨vm₁, X₁, hstep₁⟩ := X.invokestaticNest hexec hown hlink hnamed hmethM hstatic hkP hinitP hy (g := g) hg (argsL := argsL) (rest := rest) (hlen _ hsigM) hstack hdg
  rcases hK m meth c ⟨T.setVm vm₁, locs, cells, slots⟩ { g with stack := rest } (.invokestatic index) mk argsL.toArray X₁ hg hsize hdg hW (X₁.named hnamed) (hpre vm₁ X₁.warmed) with ⟨v, B, X', hpost, hsteps⟩ | ⟨q, B, X', hpost, hsteps⟩
  · exact Or.inl ⟨v, vm₁, B, X₁.warmed, X', hpost, fun target h => hstep₁ _ fun acts => by rw [doInvoke_state]; exact hsteps.trans h⟩
  · exact Or.inr ⟨q, vm₁, B, X₁.warmed, X', hpost, hstep₁ _ fun acts => by rw [doInvoke_state]; exact hsteps⟩
theorem vx_runVN {y : MethodName} {bytes cc : ByteArray} {maxL nL mc ms n index : Nat} {ret : Option FieldType} {ws : List Cond} {rm : Room} {Pc : Array Value → State → Prop} {Qc : Array Value → State → Outcome → State → Prop} {XC : String → State → State → Prop} {free : Addr → Prop} {Ts : List Cond} {own C host : String} {b : Addr} {As rest : List Value} {g : JFrame}
    (S : CallFix p m c cc nL s args Ts own) (hM : vx_Met l y ws rm Pc Qc XC mc ms free) (cw : va_CN R s args own index y host bytes maxL ret ws rm mc ms n ∧ (Cond.instanceMethod y).before args s = true ∧ (Cond.selects C y y).before args s = true) (hp : PreV s H C b Pc As)
    (hg : g.method = m) (hn : As.length = n) (hsize : g.locals.size = nL) (hstack : g.stack = As.reverse ++ .ref b :: rest) (hW : 2 * g.monitorRoom + (rest.map fun v => v.category).sum ≤ 8) (hdg : decode cc g.pc = .ok (.invokevirtual index, 3)) (hf : cells + mc ≤ R.cells ∧ slots + ms ≤ R.slots) :
    vx_Run p l e R s m args below meth c H locs cells slots mc ms g rest (Qc (Value.ref b :: As).toArray) XC free := by
  obtain ⟨⟨⟨hrc, hrs, hfr, hlo, hws, hcw⟩, hcode, hini, hy, hlen, hl⟩, hx1, hx2⟩ := cw
  have hK : vx_Back l R p e below s args y 3 8 (PreOf R mc ms Pc) (PostOf Qc mc ms free) (vx_Post XC mc ms free) := vx_back (bytes := bytes) (maxL := maxL) (ret := ret) hM hp.1 hrc hrs hfr hlo hws hcw (fun a' U hW => word_at hW (Or.inl (by first | rfl | simp [Cond.onTables, Cond.keeps, Cond.steady])) hini)
  obtain ⟨hx, hb, hml, ho, -⟩ := S
  obtain ⟨-, ⟨cellB, hcB, hoB, hclB⟩, hPc⟩ := hp
  intro T hT X
  rcases vx_callVN X hx (C := C) (bytes := bytes) (maxL := maxL) (ret := ret) ho hl hx1 hx2 hcode hy hK (by rw [hT]; exact hcB) hoB hclB hg (hsize.trans hml.symm) (argsL := As) (rest := rest) (fun sig h => hn.trans (hlen sig h)) hstack hW (by rw [hb]; exact hdg)
    (fun vm₁ hW₁ => ⟨hf.1, hf.2, hPc (T.setVm vm₁) hT hW₁⟩) with ⟨v, vm₁, ⟨U', l2, c2, s2⟩, hW₁, X', ⟨g', mk, t, L, e1, e2, hq, h1, hL, h2, h3⟩, st⟩ | ⟨q, vm₁, ⟨U', l2, c2, s2⟩, hW₁, X', ⟨g', mk, t, L, E, ce, e1, e2, hq, hce, hcv, hcl, h1, hL, h2, h3⟩, st⟩
  · dsimp only [Pt.U, Pt.locs, Pt.cells, Pt.slots] at X' e1 e2 h1 h2 h3 st
    subst h1; subst h2; subst h3
    exact Or.inl ⟨v, (T.setVm vm₁).calling g' mk (Value.ref b :: As).toArray, t, U', L, hT, X', hL, e1, e2, hq, st⟩
  · dsimp only [Pt.U, Pt.locs, Pt.cells, Pt.slots] at X' e1 e2 h1 h2 h3 st hcl
    subst h1; subst h2; subst h3
    exact Or.inr ⟨q, (T.setVm vm₁).calling g' mk (Value.ref b :: As).toArray, t, U', L, E, ce, hT, X', hL, e1, e2, hq, hce, hcv, vx_cls hW₁ hcl, st⟩
theorem vx_runSN {y : MethodName} {bytes cc : ByteArray} {maxL nL mc ms n index : Nat} {ret : Option FieldType} {ws : List Cond} {rm : Room} {Pc : Array Value → State → Prop} {Qc : Array Value → State → Outcome → State → Prop} {XC : String → State → State → Prop} {free : Addr → Prop} {Ts : List Cond} {own host : String} {As rest : List Value} {g : JFrame}
    (S : CallFix p m c cc nL s args Ts own) (hM : vx_Met l y ws rm Pc Qc XC mc ms free) (cw : va_CN R s args own index y host bytes maxL ret ws rm mc ms n ∧ (Cond.static y).before args s = true ∧ True) (hp : PreS s H Pc As)
    (hg : g.method = m) (hn : As.length = n) (hsize : g.locals.size = nL) (hstack : g.stack = As.reverse ++ rest) (hW : 2 * g.monitorRoom + (rest.map fun v => v.category).sum ≤ 8) (hdg : decode cc g.pc = .ok (.invokestatic index, 3)) (hf : cells + mc ≤ R.cells ∧ slots + ms ≤ R.slots) :
    vx_Run p l e R s m args below meth c H locs cells slots mc ms g rest (Qc As.toArray) XC free := by
  obtain ⟨⟨⟨hrc, hrs, hfr, hlo, hws, hcw⟩, hcode, hini, hy, hlen, hl⟩, hx1, hx2⟩ := cw
  have hK : vx_Back l R p e below s args y 3 8 (PreOf R mc ms Pc) (PostOf Qc mc ms free) (vx_Post XC mc ms free) := vx_back (bytes := bytes) (maxL := maxL) (ret := ret) hM hp.1 hrc hrs hfr hlo hws hcw (fun a' U hW => word_at hW (Or.inl (by first | rfl | simp [Cond.onTables, Cond.keeps, Cond.steady])) hini)
  obtain ⟨hx, hb, hml, ho, -⟩ := S
  have hPc := hp.2
  intro T hT X
  rcases vx_callSN X hx (bytes := bytes) (maxL := maxL) (ret := ret) ho hl hx1 hini hcode hy hK hg (hsize.trans hml.symm) (argsL := As) (rest := rest) (fun sig h => hn.trans (hlen sig h)) hstack hW (by rw [hb]; exact hdg)
    (fun vm₁ hW₁ => ⟨hf.1, hf.2, hPc (T.setVm vm₁) hT hW₁⟩) with ⟨v, vm₁, ⟨U', l2, c2, s2⟩, hW₁, X', ⟨g', mk, t, L, e1, e2, hq, h1, hL, h2, h3⟩, st⟩ | ⟨q, vm₁, ⟨U', l2, c2, s2⟩, hW₁, X', ⟨g', mk, t, L, E, ce, e1, e2, hq, hce, hcv, hcl, h1, hL, h2, h3⟩, st⟩
  · dsimp only [Pt.U, Pt.locs, Pt.cells, Pt.slots] at X' e1 e2 h1 h2 h3 st
    subst h1; subst h2; subst h3
    exact Or.inl ⟨v, (T.setVm vm₁).calling g' mk As.toArray, t, U', L, hT, X', hL, e1, e2, hq, st⟩
  · dsimp only [Pt.U, Pt.locs, Pt.cells, Pt.slots] at X' e1 e2 h1 h2 h3 st hcl
    subst h1; subst h2; subst h3
    exact Or.inr ⟨q, (T.setVm vm₁).calling g' mk As.toArray, t, U', L, E, ce, hT, X', hL, e1, e2, hq, hce, hcv, vx_cls hW₁ hcl, st⟩
end
/-! ===== END ===== -/
/-! ===== BEGIN calls by an interface of methods that may throw (vx_callIF, vx_runF follow va_callIF, va_runF of this kit) ===== -/
section
variable {p : Program} {l : Launch} {e : Env} {R : Room} {s : State} {m : MethodId} {args : Array Value} {below : List Frame} {meth : Method} {c : Code} {H : Heap} {locs : List Loc} {cells slots : Nat} {Q : State → Prop}
variable {mc ms : Nat} {free : Addr → Prop} {A0 A1 : Nat → Prop} {H0 : Heap} {a : Array Value} {pc : Nat} {ls : Array Slot} {st0 rest : List Value}
def vx_Run5 (p : Program) (l : Launch) (e : Env) (R : Room) (s : State) (m : MethodId) (args : Array Value) (below : List Frame) (meth : Method) (c : Code) (H : Heap) (locs : List Loc) (cells slots mc ms : Nat) (g : JFrame) (rest : List Value) (Qa : State → Outcome → State → Prop) (XC : String → State → State → Prop) (free : Addr → Prop) : Prop :=
  ∀ T : State, T.heap = H → Stand p l e R s m args below meth c T locs cells slots →
    (∃ (v : Option Value) (st₀ t T' : State) (L : List Loc), st₀.heap = H ∧ Stand p l e R s m args below meth c T' (locs ++ L) (cells + mc) (slots + ms) ∧ (∀ q ∈ L, free q.base) ∧ T'.heap = t.heap ∧ T'.vm = t.vm ∧ Qa st₀ (.returned v) t ∧
      Goes p e below T g T' { g with pc := g.pc + 5, stack := v.toList ++ rest }) ∨
    (∃ (q : Addr) (st₀ t T' : State) (L : List Loc) (E : String) (ce : Cell), st₀.heap = H ∧ Stand p l e R s m args below meth c T' (locs ++ L) (cells + mc) (slots + ms) ∧ (∀ z ∈ L, free z.base) ∧ T'.heap = t.heap ∧ T'.vm = t.vm ∧ XC E st₀ t ∧ t.heap[q]? = some ce ∧ ce.vm = .none ∧ s.vm.findClass E = some ce.cls ∧
      Steps p.tables e below (T.setTop g) ((T'.setTop { g with stack := rest }).pushFrame (.throwing q)))
theorem vx_callIF {T : State} (X : Stand p l e R s m args below meth c T locs cells slots) (hexec : p.tables.exec = Jvm.exec) {own C : String} {index count : Nat} {x y : MethodName} {bytes : ByteArray} {maxL : Nat} {ret : Option FieldType}
    (hown : s.vm.findClass own = some m.cls) (hlink : (Cond.methodLink own index x).before args s = true) (hdecl : (Cond.declares x).before args s = true) (hface : (Cond.interfaceMethod x.cls x.cls x.name x.desc).before args s = true)
    (hsel : (Cond.selects C x y).before args s = true) (hinst : (Cond.instanceMethod y).before args s = true) (hpub : (Cond.publicMethod y).before args s = true) (hunh : (Cond.unhidden C x.name x.desc).before args s = true)
    (hcast : (Cond.castable C x.cls).before args s = true) (hcode : (Cond.code y bytes maxL ret).before args s = true) (hx : x.cls ≠ "java/lang/invoke/MethodHandle" ∧ x.cls ≠ "java/lang/invoke/VarHandle")
    {W9 : Nat} {Pre : Pt → Array Value → Prop} {Post : Pt → Array Value → Option Value → Pt → Prop} {PostX : Pt → Array Value → Addr → Pt → Prop} (hK : vx_Back l R p e below s args y 5 W9 Pre Post PostX)
    {b : Addr} {cellB : Cell} {kB : Class} (hcell : T.heap[b]? = some cellB) (hobj : cellB.vm.isStatics = false) (hcls : s.vm.findClass C = some cellB.cls) (hkB : s.vm.classes[cellB.cls]? = some kB)
    {g : JFrame} (hg : g.method = m) (hsize : g.locals.size = c.maxLocals) {argsL rest : List Value} (hlen : ∀ sig, parseMethodDescriptor x.desc = some sig → argsL.length = sig.parameters.length)
    (hstack : g.stack = argsL.reverse ++ .ref b :: rest) (hW : 2 * g.monitorRoom + (rest.map fun v => v.category).sum ≤ W9) (hdg : decode c.code g.pc = .ok (.invokeinterface index count, 5))
    (hpre : ∀ vm₁, s.WarmedH vm₁ → Pre ⟨T.setVm vm₁, locs, cells, slots⟩ (Value.ref b :: argsL).toArray) :
    (∃ (v : Option Value) (vm₁ : Vm) (B : Pt), s.WarmedH vm₁ ∧ Stand p l e R s m args below meth c B.U B.locs B.cells B.slots ∧ Post ⟨T.setVm vm₁, locs, cells, slots⟩ (Value.ref b :: argsL).toArray v B ∧
      ∀ target, Steps p.tables e below (B.U.setTop { g with pc := g.pc + 5, stack := v.toList ++ rest }) target → Steps p.tables e below (T.setTop g) target) ∨
    (∃ (q : Addr) (vm₁ : Vm) (B : Pt), s.WarmedH vm₁ ∧ Stand p l e R s m args below meth c B.U B.locs B.cells B.slots ∧ PostX ⟨T.setVm vm₁, locs, cells, slots⟩ (Value.ref b :: argsL).toArray q B ∧
      Steps p.tables e below (T.setTop g) ((B.U.setTop { g with stack := rest }).pushFrame (.throwing q))) := by
  obtain ⟨r0, r, hn, hrm, hstR, hsigR⟩ := Cond.declares_spec hdecl
  obtain ⟨cL, kL, r1, hcL, hkL, hiL, hfoundL, hn1⟩ := Cond.interfaceMethod_spec hface
  cases hn.symm.trans hn1
  have hr0cls : r0.cls = cL := Option.some.inj ((findClass_of_methodNamed hn).symm.trans hcL)
  obtain ⟨hnameR, hdescR⟩ := name_of_methodNamed hn hrm
  obtain ⟨mk, methM, hnamed, hmethM, -, habM⟩ := Cond.instanceMethod_spec hinst
  obtain ⟨c2, r2, m2, q1, q2, q3, q4, -⟩ := Cond.selects_spec hsel
  cases hcls.symm.trans q1
  cases hfoundL.symm.trans q2
  cases hnamed.symm.trans q3
  have hselP : selectMethod e.platform s.vm cellB.cls r0 = .method mk := by rw [Launch.admits_selectMethod X.admits]; exact q4
  have hpubM : hasFlag methM.accessFlags Acc.public_ = true := Cond.publicMethod_spec hnamed hmethM hpub
  have hway : ((cellB.cls :: s.vm.superclasses cellB.cls).any fun k => (declaredIn s.vm r.name r.desc k).any fun (_, z) => z.isPrivate || z.isStatic) = false := by
    rw [hnameR, hdescR]; exact Cond.unhidden_spec hcls hunh
  obtain ⟨c3, t3, w1, w2, w3⟩ := Cond.castable_spec hcast
  cases hcls.symm.trans w1
  cases hcL.symm.trans w2
  obtain ⟨vm₁, X₁, hstep₁⟩ := X.invokeinterface hexec hown hlink hn hrm hstR (by rw [hr0cls]; exact hkL) hiL hx (a := b) (cell := cellB) (kcell := kB) hcell
    (fun z h => by rw [h] at hobj; cases hobj) hkB (by rw [hr0cls]; exact w3) hselP hmethM hway hpubM habM (g := g) hg (argsL := argsL) (rest := rest) (hlen _ hsigR) hstack hdg
  rcases hK m meth c ⟨T.setVm vm₁, locs, cells, slots⟩ { g with stack := rest } (.invokeinterface index count) mk (Value.ref b :: argsL).toArray X₁ hg hsize hdg hW (X₁.named hnamed) (hpre vm₁ X₁.warmed) with ⟨v, B, X', hpost, hsteps⟩ | ⟨q, B, X', hpost, hsteps⟩
  · exact Or.inl ⟨v, vm₁, B, X₁.warmed, X', hpost, fun target h => hstep₁ _ fun acts => by rw [doInvoke_state]; exact hsteps.trans h⟩
  · exact Or.inr ⟨q, vm₁, B, X₁.warmed, X', hpost, hstep₁ _ fun acts => by rw [doInvoke_state]; exact hsteps⟩
theorem vx_runF {x y : MethodName} {bytes cc : ByteArray} {maxL nL mc ms n index count : Nat} {ret : Option FieldType} {ws : List Cond} {rm : Room} {Pc : Array Value → State → Prop} {Qc : Array Value → State → Outcome → State → Prop} {XC : String → State → State → Prop} {free : Addr → Prop} {Ts : List Cond} {own C : String} {cC : ClassId} {b : Addr} {As rest : List Value} {g : JFrame}
    (hat : ClassAt s C cC) (S : CallFix p m c cc nL s args Ts own) (hM : vx_Met l y ws rm Pc Qc XC mc ms free) (cw : va_CI R s args own C index x y bytes maxL ret ws rm mc ms n) (hp : PreV s H C b Pc As)
    (hg : g.method = m) (hn : As.length = n) (hsize : g.locals.size = nL) (hstack : g.stack = As.reverse ++ .ref b :: rest) (hW : 2 * g.monitorRoom + (rest.map fun v => v.category).sum ≤ 8) (hdg : decode cc g.pc = .ok (.invokeinterface index count, 5)) (hf : cells + mc ≤ R.cells ∧ slots + ms ≤ R.slots) :
    vx_Run5 p l e R s m args below meth c H locs cells slots mc ms g rest (Qc (Value.ref b :: As).toArray) XC free := by
  obtain ⟨hrc, hrs, hfr, hlo, hws, hcw⟩ := cw.back
  have hini := cw.init
  have hK : vx_Back l R p e below s args y 5 8 (PreOf R mc ms Pc) (PostOf Qc mc ms free) (vx_Post XC mc ms free) := vx_back (bytes := bytes) (maxL := maxL) (ret := ret) hM hp.1 hrc hrs hfr hlo hws hcw (fun a' U hW => word_at hW (Or.inl (by first | rfl | simp [Cond.onTables, Cond.keeps, Cond.steady])) hini)
  obtain ⟨hx, hb, hml, ho, -⟩ := S
  obtain ⟨-, ⟨cellB, hcB, hoB, hclB⟩, hPc⟩ := hp
  obtain ⟨hfc, kB, hkB, -⟩ := hat
  cases hfc.symm.trans hclB
  intro T hT X
  rcases vx_callIF X hx (C := C) (bytes := bytes) (maxL := maxL) (ret := ret) ho cw.link cw.decl cw.face cw.sel cw.inst cw.pub cw.unh cw.cast cw.code cw.notMH hK (by rw [hT]; exact hcB) hoB hclB hkB hg (hsize.trans hml.symm) (argsL := As) (rest := rest) (fun sig h => hn.trans (cw.len sig h)) hstack hW (by rw [hb]; exact hdg)
    (fun vm₁ hW₁ => ⟨hf.1, hf.2, hPc (T.setVm vm₁) hT hW₁⟩) with ⟨v, vm₁, ⟨U', l2, c2, s2⟩, hW₁, X', ⟨g', mk, t, L, e1, e2, hq, h1, hL, h2, h3⟩, st⟩ | ⟨q, vm₁, ⟨U', l2, c2, s2⟩, hW₁, X', ⟨g', mk, t, L, E, ce, e1, e2, hq, hce, hcv, hcl, h1, hL, h2, h3⟩, st⟩
  · dsimp only [Pt.U, Pt.locs, Pt.cells, Pt.slots] at X' e1 e2 h1 h2 h3 st
    subst h1; subst h2; subst h3
    exact Or.inl ⟨v, (T.setVm vm₁).calling g' mk (Value.ref b :: As).toArray, t, U', L, hT, X', hL, e1, e2, hq, st⟩
  · dsimp only [Pt.U, Pt.locs, Pt.cells, Pt.slots] at X' e1 e2 h1 h2 h3 st hcl
    subst h1; subst h2; subst h3
    exact Or.inr ⟨q, (T.setVm vm₁).calling g' mk (Value.ref b :: As).toArray, t, U', L, E, ce, hT, X', hL, e1, e2, hq, hce, hcv, vx_cls hW₁ hcl, st⟩
theorem vx_callFv {S SX : Type} {post : S → Prop} {px : SX → Prop} {B : S → State → Prop} {BX : String → SX → State → Prop} {AX : Nat → Prop} (hr : vx_Run5 p l e R s m args below meth c H locs cells slots mc ms (F0 m pc ls st0) rest (va_Qv post B A1 a) (vx_X px BX AX) free) (hS : va_S A0 H0 H locs) (hA : ∀ q, q < H.size → A1 q → A0 q) (hf : ∀ q, free q → A0 q) (hAX : ∀ q, q < H.size → AX q → A0 q)
    (kx : ∀ (E : String) (ce : Cell) (q9 : Addr) (u : SX) (t : State) (H1 : Heap) (locs1 : List Loc), t.heap = H1 → s.vm.Alike t.vm → px u → BX E u t → H.size ≤ H1.size → (∀ q : Nat, q < H.size → ¬ AX q → H1[q]? = H[q]?) → va_S A0 H0 H1 locs1 → H1[q9]? = some ce → ce.vm = .none → s.vm.findClass E = some ce.cls → vx_W p l e R s m args below meth c H1 locs1 (cells + mc) (slots + ms) Q (F0 m pc ls rest) q9)
    (kk : ∀ (u : S) (t : State) (H1 : Heap) (locs1 : List Loc), t.heap = H1 → s.vm.Alike t.vm → post u → B u t → H.size ≤ H1.size → (∀ q : Nat, q < H.size → ¬ A1 q → H1[q]? = H[q]?) → va_S A0 H0 H1 locs1 → W p l e R s m args below meth c H1 locs1 (cells + mc) (slots + ms) Q (F0 m (pc + 5) ls (rest))) : W p l e R s m args below meth c H locs cells slots Q (F0 m pc ls st0) := by
  intro T hT X
  rcases hr T hT X with ⟨v, st₀, t, T', L, h0, X', hL, e1, e2, ⟨⟨u, hv, hp, hb⟩, hF⟩, st⟩ | ⟨q, st₀, t, T', L, E, ce, h0, X', hL, e1, e2, ⟨u, hp, hb, hF⟩, hce, hcv, hcl, st⟩
  · cases hv
    obtain ⟨k1, k2, k3⟩ := vx_keep h0 e1 hS hA hf hL hF
    obtain ⟨t2, a1, b1⟩ := kk u t T'.heap (locs ++ L) e1.symm (by rw [← e2]; exact X'.warmed.alike) hp hb k1 k2 k3 T' rfl X'
    exact ⟨t2, st t2 a1, b1⟩
  · obtain ⟨k1, k2, k3⟩ := vx_keep h0 e1 hS hAX hf hL hF
    obtain ⟨t2, a1, b1⟩ := kx E ce q u t T'.heap (locs ++ L) e1.symm (by rw [← e2]; exact X'.warmed.alike) hp hb k1 k2 k3 (by rw [e1]; exact hce) hcv hcl T' rfl X'
    exact ⟨t2, st.trans a1, b1⟩
theorem vx_callFi {S SX : Type} {post : Int32 → S → Prop} {px : SX → Prop} {B : S → State → Prop} {BX : String → SX → State → Prop} {AX : Nat → Prop} (hr : vx_Run5 p l e R s m args below meth c H locs cells slots mc ms (F0 m pc ls st0) rest (va_Qi post B A1 a) (vx_X px BX AX) free) (hS : va_S A0 H0 H locs) (hA : ∀ q, q < H.size → A1 q → A0 q) (hf : ∀ q, free q → A0 q) (hAX : ∀ q, q < H.size → AX q → A0 q)
    (kx : ∀ (E : String) (ce : Cell) (q9 : Addr) (u : SX) (t : State) (H1 : Heap) (locs1 : List Loc), t.heap = H1 → s.vm.Alike t.vm → px u → BX E u t → H.size ≤ H1.size → (∀ q : Nat, q < H.size → ¬ AX q → H1[q]? = H[q]?) → va_S A0 H0 H1 locs1 → H1[q9]? = some ce → ce.vm = .none → s.vm.findClass E = some ce.cls → vx_W p l e R s m args below meth c H1 locs1 (cells + mc) (slots + ms) Q (F0 m pc ls rest) q9)
    (kk : ∀ (r : Int32) (u : S) (t : State) (H1 : Heap) (locs1 : List Loc), t.heap = H1 → s.vm.Alike t.vm → post r u → B u t → H.size ≤ H1.size → (∀ q : Nat, q < H.size → ¬ A1 q → H1[q]? = H[q]?) → va_S A0 H0 H1 locs1 → W p l e R s m args below meth c H1 locs1 (cells + mc) (slots + ms) Q (F0 m (pc + 5) ls (.int r :: rest))) : W p l e R s m args below meth c H locs cells slots Q (F0 m pc ls st0) := by
  intro T hT X
  rcases hr T hT X with ⟨v, st₀, t, T', L, h0, X', hL, e1, e2, ⟨⟨r, u, hv, hp, hb⟩, hF⟩, st⟩ | ⟨q, st₀, t, T', L, E, ce, h0, X', hL, e1, e2, ⟨u, hp, hb, hF⟩, hce, hcv, hcl, st⟩
  · cases hv
    obtain ⟨k1, k2, k3⟩ := vx_keep h0 e1 hS hA hf hL hF
    obtain ⟨t2, a1, b1⟩ := kk r u t T'.heap (locs ++ L) e1.symm (by rw [← e2]; exact X'.warmed.alike) hp hb k1 k2 k3 T' rfl X'
    exact ⟨t2, st t2 a1, b1⟩
  · obtain ⟨k1, k2, k3⟩ := vx_keep h0 e1 hS hAX hf hL hF
    obtain ⟨t2, a1, b1⟩ := kx E ce q u t T'.heap (locs ++ L) e1.symm (by rw [← e2]; exact X'.warmed.alike) hp hb k1 k2 k3 (by rw [e1]; exact hce) hcv hcl T' rfl X'
    exact ⟨t2, st.trans a1, b1⟩
theorem vx_callFl {S SX : Type} {post : Int64 → S → Prop} {px : SX → Prop} {B : S → State → Prop} {BX : String → SX → State → Prop} {AX : Nat → Prop} (hr : vx_Run5 p l e R s m args below meth c H locs cells slots mc ms (F0 m pc ls st0) rest (va_Ql post B A1 a) (vx_X px BX AX) free) (hS : va_S A0 H0 H locs) (hA : ∀ q, q < H.size → A1 q → A0 q) (hf : ∀ q, free q → A0 q) (hAX : ∀ q, q < H.size → AX q → A0 q)
    (kx : ∀ (E : String) (ce : Cell) (q9 : Addr) (u : SX) (t : State) (H1 : Heap) (locs1 : List Loc), t.heap = H1 → s.vm.Alike t.vm → px u → BX E u t → H.size ≤ H1.size → (∀ q : Nat, q < H.size → ¬ AX q → H1[q]? = H[q]?) → va_S A0 H0 H1 locs1 → H1[q9]? = some ce → ce.vm = .none → s.vm.findClass E = some ce.cls → vx_W p l e R s m args below meth c H1 locs1 (cells + mc) (slots + ms) Q (F0 m pc ls rest) q9)
    (kk : ∀ (r : Int64) (u : S) (t : State) (H1 : Heap) (locs1 : List Loc), t.heap = H1 → s.vm.Alike t.vm → post r u → B u t → H.size ≤ H1.size → (∀ q : Nat, q < H.size → ¬ A1 q → H1[q]? = H[q]?) → va_S A0 H0 H1 locs1 → W p l e R s m args below meth c H1 locs1 (cells + mc) (slots + ms) Q (F0 m (pc + 5) ls (.long r :: rest))) : W p l e R s m args below meth c H locs cells slots Q (F0 m pc ls st0) := by
  intro T hT X
  rcases hr T hT X with ⟨v, st₀, t, T', L, h0, X', hL, e1, e2, ⟨⟨r, u, hv, hp, hb⟩, hF⟩, st⟩ | ⟨q, st₀, t, T', L, E, ce, h0, X', hL, e1, e2, ⟨u, hp, hb, hF⟩, hce, hcv, hcl, st⟩
  · cases hv
    obtain ⟨k1, k2, k3⟩ := vx_keep h0 e1 hS hA hf hL hF
    obtain ⟨t2, a1, b1⟩ := kk r u t T'.heap (locs ++ L) e1.symm (by rw [← e2]; exact X'.warmed.alike) hp hb k1 k2 k3 T' rfl X'
    exact ⟨t2, st t2 a1, b1⟩
  · obtain ⟨k1, k2, k3⟩ := vx_keep h0 e1 hS hAX hf hL hF
    obtain ⟨t2, a1, b1⟩ := kx E ce q u t T'.heap (locs ++ L) e1.symm (by rw [← e2]; exact X'.warmed.alike) hp hb k1 k2 k3 (by rw [e1]; exact hce) hcv hcl T' rfl X'
    exact ⟨t2, st.trans a1, b1⟩
theorem vx_callFf {S SX : Type} {post : UInt32 → S → Prop} {px : SX → Prop} {B : S → State → Prop} {BX : String → SX → State → Prop} {AX : Nat → Prop} (hr : vx_Run5 p l e R s m args below meth c H locs cells slots mc ms (F0 m pc ls st0) rest (va_Qf post B A1 a) (vx_X px BX AX) free) (hS : va_S A0 H0 H locs) (hA : ∀ q, q < H.size → A1 q → A0 q) (hf : ∀ q, free q → A0 q) (hAX : ∀ q, q < H.size → AX q → A0 q)
    (kx : ∀ (E : String) (ce : Cell) (q9 : Addr) (u : SX) (t : State) (H1 : Heap) (locs1 : List Loc), t.heap = H1 → s.vm.Alike t.vm → px u → BX E u t → H.size ≤ H1.size → (∀ q : Nat, q < H.size → ¬ AX q → H1[q]? = H[q]?) → va_S A0 H0 H1 locs1 → H1[q9]? = some ce → ce.vm = .none → s.vm.findClass E = some ce.cls → vx_W p l e R s m args below meth c H1 locs1 (cells + mc) (slots + ms) Q (F0 m pc ls rest) q9)
    (kk : ∀ (r : UInt32) (u : S) (t : State) (H1 : Heap) (locs1 : List Loc), t.heap = H1 → s.vm.Alike t.vm → post r u → B u t → H.size ≤ H1.size → (∀ q : Nat, q < H.size → ¬ A1 q → H1[q]? = H[q]?) → va_S A0 H0 H1 locs1 → W p l e R s m args below meth c H1 locs1 (cells + mc) (slots + ms) Q (F0 m (pc + 5) ls (.float r :: rest))) : W p l e R s m args below meth c H locs cells slots Q (F0 m pc ls st0) := by
  intro T hT X
  rcases hr T hT X with ⟨v, st₀, t, T', L, h0, X', hL, e1, e2, ⟨⟨r, u, hv, hp, hb⟩, hF⟩, st⟩ | ⟨q, st₀, t, T', L, E, ce, h0, X', hL, e1, e2, ⟨u, hp, hb, hF⟩, hce, hcv, hcl, st⟩
  · cases hv
    obtain ⟨k1, k2, k3⟩ := vx_keep h0 e1 hS hA hf hL hF
    obtain ⟨t2, a1, b1⟩ := kk r u t T'.heap (locs ++ L) e1.symm (by rw [← e2]; exact X'.warmed.alike) hp hb k1 k2 k3 T' rfl X'
    exact ⟨t2, st t2 a1, b1⟩
  · obtain ⟨k1, k2, k3⟩ := vx_keep h0 e1 hS hAX hf hL hF
    obtain ⟨t2, a1, b1⟩ := kx E ce q u t T'.heap (locs ++ L) e1.symm (by rw [← e2]; exact X'.warmed.alike) hp hb k1 k2 k3 (by rw [e1]; exact hce) hcv hcl T' rfl X'
    exact ⟨t2, st.trans a1, b1⟩
theorem vx_callFd {S SX : Type} {post : UInt64 → S → Prop} {px : SX → Prop} {B : S → State → Prop} {BX : String → SX → State → Prop} {AX : Nat → Prop} (hr : vx_Run5 p l e R s m args below meth c H locs cells slots mc ms (F0 m pc ls st0) rest (va_Qd post B A1 a) (vx_X px BX AX) free) (hS : va_S A0 H0 H locs) (hA : ∀ q, q < H.size → A1 q → A0 q) (hf : ∀ q, free q → A0 q) (hAX : ∀ q, q < H.size → AX q → A0 q)
    (kx : ∀ (E : String) (ce : Cell) (q9 : Addr) (u : SX) (t : State) (H1 : Heap) (locs1 : List Loc), t.heap = H1 → s.vm.Alike t.vm → px u → BX E u t → H.size ≤ H1.size → (∀ q : Nat, q < H.size → ¬ AX q → H1[q]? = H[q]?) → va_S A0 H0 H1 locs1 → H1[q9]? = some ce → ce.vm = .none → s.vm.findClass E = some ce.cls → vx_W p l e R s m args below meth c H1 locs1 (cells + mc) (slots + ms) Q (F0 m pc ls rest) q9)
    (kk : ∀ (r : UInt64) (u : S) (t : State) (H1 : Heap) (locs1 : List Loc), t.heap = H1 → s.vm.Alike t.vm → post r u → B u t → H.size ≤ H1.size → (∀ q : Nat, q < H.size → ¬ A1 q → H1[q]? = H[q]?) → va_S A0 H0 H1 locs1 → W p l e R s m args below meth c H1 locs1 (cells + mc) (slots + ms) Q (F0 m (pc + 5) ls (.double r :: rest))) : W p l e R s m args below meth c H locs cells slots Q (F0 m pc ls st0) := by
  intro T hT X
  rcases hr T hT X with ⟨v, st₀, t, T', L, h0, X', hL, e1, e2, ⟨⟨r, u, hv, hp, hb⟩, hF⟩, st⟩ | ⟨q, st₀, t, T', L, E, ce, h0, X', hL, e1, e2, ⟨u, hp, hb, hF⟩, hce, hcv, hcl, st⟩
  · cases hv
    obtain ⟨k1, k2, k3⟩ := vx_keep h0 e1 hS hA hf hL hF
    obtain ⟨t2, a1, b1⟩ := kk r u t T'.heap (locs ++ L) e1.symm (by rw [← e2]; exact X'.warmed.alike) hp hb k1 k2 k3 T' rfl X'
    exact ⟨t2, st t2 a1, b1⟩
  · obtain ⟨k1, k2, k3⟩ := vx_keep h0 e1 hS hAX hf hL hF
    obtain ⟨t2, a1, b1⟩ := kx E ce q u t T'.heap (locs ++ L) e1.symm (by rw [← e2]; exact X'.warmed.alike) hp hb k1 k2 k3 (by rw [e1]; exact hce) hcv hcl T' rfl X'
    exact ⟨t2, st.trans a1, b1⟩
end
/-! ===== END ===== -/
/-! ===== BEGIN by an interface, a method with a table of its own that may throw (follows va_callIFW, va_runFW) ===== -/
section
variable {p : Program} {l : Launch} {e : Env} {R : Room} {s : State} {m : MethodId} {args : Array Value} {below : List Frame} {meth : Method} {c : Code} {H : Heap} {locs : List Loc} {cells slots : Nat}
theorem vx_callIFW {T : State} (X : Stand p l e R s m args below meth c T locs cells slots) (hexec : p.tables.exec = Jvm.exec) {own C : String} {index count : Nat} {x y : MethodName} {bytes : ByteArray} {maxL : Nat} {ret : Option FieldType} {hh : List (Nat × Nat × Nat × Nat)}
    (hown : s.vm.findClass own = some m.cls) (hlink : (Cond.methodLink own index x).before args s = true) (hdecl : (Cond.declares x).before args s = true) (hface : (Cond.interfaceMethod x.cls x.cls x.name x.desc).before args s = true)
    (hsel : (Cond.selects C x y).before args s = true) (hinst : (Cond.instanceMethod y).before args s = true) (hpub : (Cond.publicMethod y).before args s = true) (hunh : (Cond.unhidden C x.name x.desc).before args s = true)
    (hcast : (Cond.castable C x.cls).before args s = true) (hcode : (Cond.codeWith y bytes maxL ret hh).before args s = true) (hx : x.cls ≠ "java/lang/invoke/MethodHandle" ∧ x.cls ≠ "java/lang/invoke/VarHandle")
    {W : Nat} {Pre : Pt → Array Value → Prop} {Post : Pt → Array Value → Option Value → Pt → Prop} {PostX : Pt → Array Value → Addr → Pt → Prop} (hK : vx_Back l R p e below s args y 5 W Pre Post PostX)
    {b : Addr} {cellB : Cell} {kB : Class} (hcell : T.heap[b]? = some cellB) (hobj : cellB.vm.isStatics = false) (hcls : s.vm.findClass C = some cellB.cls) (hkB : s.vm.classes[cellB.cls]? = some kB)
    {g : JFrame} (hg : g.method = m) (hsize : g.locals.size = c.maxLocals) {argsL rest : List Value} (hlen : ∀ sig, parseMethodDescriptor x.desc = some sig → argsL.length = sig.parameters.length)
    (hstack : g.stack = argsL.reverse ++ .ref b :: rest) (hW : 2 * g.monitorRoom + (rest.map fun v => v.category).sum ≤ W) (hdg : decode c.code g.pc = .ok (.invokeinterface index count, 5))
    (hpre : ∀ vm₁, s.WarmedH vm₁ → Pre ⟨T.setVm vm₁, locs, cells, slots⟩ (Value.ref b :: argsL).toArray) :
    (∃ (v : Option Value) (vm₁ : Vm) (B : Pt), s.WarmedH vm₁ ∧ Stand p l e R s m args below meth c B.U B.locs B.cells B.slots ∧ Post ⟨T.setVm vm₁, locs, cells, slots⟩ (Value.ref b :: argsL).toArray v B ∧
      ∀ target, Steps p.tables e below (B.U.setTop { g with pc := g.pc + 5, stack := v.toList ++ rest }) target → Steps p.tables e below (T.setTop g) target) ∨
    (∃ (q : Addr) (vm₁ : Vm) (B : Pt), s.WarmedH vm₁ ∧ Stand p l e R s m args below meth c B.U B.locs B.cells B.slots ∧ PostX ⟨T.setVm vm₁, locs, cells, slots⟩ (Value.ref b :: argsL).toArray q B ∧
      Steps p.tables e below (T.setTop g) ((B.U.setTop { g with stack := rest }).pushFrame (.throwing q))) := by
  obtain ⟨r0, r, hn, hrm, hstR, hsigR⟩ := Cond.declares_spec hdecl
  obtain ⟨cL, kL, r1, hcL, hkL, hiL, hfoundL, hn1⟩ := Cond.interfaceMethod_spec hface
  cases hn.symm.trans hn1
  have hr0cls : r0.cls = cL := Option.some.inj ((findClass_of_methodNamed hn).symm.trans hcL)
  obtain ⟨hnameR, hdescR⟩ := name_of_methodNamed hn hrm
  obtain ⟨mk, methM, hnamed, hmethM, -, habM⟩ := Cond.instanceMethod_spec hinst
  obtain ⟨c2, r2, m2, q1, q2, q3, q4, -⟩ := Cond.selects_spec hsel
  cases hcls.symm.trans q1
  cases hfoundL.symm.trans q2
  cases hnamed.symm.trans q3
  have hselP : selectMethod e.platform s.vm cellB.cls r0 = .method mk := by rw [Launch.admits_selectMethod X.admits]; exact q4
  have hpubM : hasFlag methM.accessFlags Acc.public_ = true := Cond.publicMethod_spec hnamed hmethM hpub
  have hway : ((cellB.cls :: s.vm.superclasses cellB.cls).any fun k => (declaredIn s.vm r.name r.desc k).any fun (_, z) => z.isPrivate || z.isStatic) = false := by
    rw [hnameR, hdescR]; exact Cond.unhidden_spec hcls hunh
  obtain ⟨c3, t3, w1, w2, w3⟩ := Cond.castable_spec hcast
  cases hcls.symm.trans w1
  cases hcL.symm.trans w2
  obtain ⟨vm₁, X₁, hstep₁⟩ := X.invokeinterface hexec hown hlink hn hrm hstR (by rw [hr0cls]; exact hkL) hiL hx (a := b) (cell := cellB) (kcell := kB) hcell
    (fun z h => by rw [h] at hobj; cases hobj) hkB (by rw [hr0cls]; exact w3) hselP hmethM hway hpubM habM (g := g) hg (argsL := argsL) (rest := rest) (hlen _ hsigR) hstack hdg
  rcases hK m meth c ⟨T.setVm vm₁, locs, cells, slots⟩ { g with stack := rest } (.invokeinterface index count) mk (Value.ref b :: argsL).toArray X₁ hg hsize hdg hW (X₁.named hnamed) (hpre vm₁ X₁.warmed) with ⟨v, B, X', hpost, hsteps⟩ | ⟨q, B, X', hpost, hsteps⟩
  · exact Or.inl ⟨v, vm₁, B, X₁.warmed, X', hpost, fun target h => hstep₁ _ fun acts => by rw [doInvoke_state]; exact hsteps.trans h⟩
  · exact Or.inr ⟨q, vm₁, B, X₁.warmed, X', hpost, hstep₁ _ fun acts => by rw [doInvoke_state]; exact hsteps⟩
theorem vx_runFW {x y : MethodName} {bytes cc : ByteArray} {maxL nL mc ms n index count : Nat} {ret : Option FieldType} {hh : List (Nat × Nat × Nat × Nat)} {ws : List Cond} {rm : Room} {Pc : Array Value → State → Prop} {Qc : Array Value → State → Outcome → State → Prop} {XC : String → State → State → Prop} {free : Addr → Prop} {Ts : List Cond} {own C : String} {cC : ClassId} {b : Addr} {As rest : List Value} {g : JFrame}
    (hat : ClassAt s C cC) (S : CallFix p m c cc nL s args Ts own) (hM : vx_Met l y ws rm Pc Qc XC mc ms free) (cw : va_CIW R s args own C index x y bytes maxL ret hh ws rm mc ms n) (hp : PreV s H C b Pc As)
    (hg : g.method = m) (hn : As.length = n) (hsize : g.locals.size = nL) (hstack : g.stack = As.reverse ++ .ref b :: rest) (hW : 2 * g.monitorRoom + (rest.map fun v => v.category).sum ≤ 8) (hdg : decode cc g.pc = .ok (.invokeinterface index count, 5)) (hf : cells + mc ≤ R.cells ∧ slots + ms ≤ R.slots) :
    vx_Run5 p l e R s m args below meth c H locs cells slots mc ms g rest (Qc (Value.ref b :: As).toArray) XC free := by
  obtain ⟨hrc, hrs, hfr, hlo, hws, hcw⟩ := cw.back
  have hini := cw.init
  have hK : vx_Back l R p e below s args y 5 8 (PreOf R mc ms Pc) (PostOf Qc mc ms free) (vx_Post XC mc ms free) := vx_backW (hh := hh) (bytes := bytes) (maxL := maxL) (ret := ret) hM hp.1 hrc hrs hfr hlo hws hcw (fun a' U hW => word_at hW (Or.inl (by first | rfl | simp [Cond.onTables, Cond.keeps, Cond.steady])) hini)
  obtain ⟨hx, hb, hml, ho, -⟩ := S
  obtain ⟨-, ⟨cellB, hcB, hoB, hclB⟩, hPc⟩ := hp
  obtain ⟨hfc, kB, hkB, -⟩ := hat
  cases hfc.symm.trans hclB
  intro T hT X
  rcases vx_callIFW X hx (C := C) (hh := hh) (bytes := bytes) (maxL := maxL) (ret := ret) ho cw.link cw.decl cw.face cw.sel cw.inst cw.pub cw.unh cw.cast cw.code cw.notMH hK (by rw [hT]; exact hcB) hoB hclB hkB hg (hsize.trans hml.symm) (argsL := As) (rest := rest) (fun sig h => hn.trans (cw.len sig h)) hstack hW (by rw [hb]; exact hdg)
    (fun vm₁ hW₁ => ⟨hf.1, hf.2, hPc (T.setVm vm₁) hT hW₁⟩) with ⟨v, vm₁, ⟨U', l2, c2, s2⟩, hW₁, X', ⟨g', mk, t, L, e1, e2, hq, h1, hL, h2, h3⟩, st⟩ | ⟨q, vm₁, ⟨U', l2, c2, s2⟩, hW₁, X', ⟨g', mk, t, L, E, ce, e1, e2, hq, hce, hcv, hcl, h1, hL, h2, h3⟩, st⟩
  · dsimp only [Pt.U, Pt.locs, Pt.cells, Pt.slots] at X' e1 e2 h1 h2 h3 st
    subst h1; subst h2; subst h3
    exact Or.inl ⟨v, (T.setVm vm₁).calling g' mk (Value.ref b :: As).toArray, t, U', L, hT, X', hL, e1, e2, hq, st⟩
  · dsimp only [Pt.U, Pt.locs, Pt.cells, Pt.slots] at X' e1 e2 h1 h2 h3 st hcl
    subst h1; subst h2; subst h3
    exact Or.inr ⟨q, (T.setVm vm₁).calling g' mk (Value.ref b :: As).toArray, t, U', L, E, ce, hT, X', hL, e1, e2, hq, hce, hcv, vx_cls hW₁ hcl, st⟩
end
/-! ===== END ===== -/
/-! ===== BEGIN .. of methods that hand back an object of the pool ===== -/
section
variable {p : Program} {l : Launch} {e : Env} {R : Room} {s : State} {m : MethodId} {args : Array Value} {below : List Frame} {meth : Method} {c : Code} {H : Heap} {locs : List Loc} {cells slots : Nat} {Q : State → Prop}
variable {mc ms : Nat} {free : Addr → Prop} {A0 A1 : Nat → Prop} {H0 : Heap} {a : Array Value} {pc : Nat} {ls : Array Slot} {st0 rest : List Value}
theorem vx_callq {S SX : Type} {post : Option Nat → S → Prop} {px : SX → Prop} {B : S → State → Prop} {BX : String → SX → State → Prop} {AX : Nat → Prop} (hr : vx_Run p l e R s m args below meth c H locs cells slots mc ms (F0 m pc ls st0) rest (va_Qq post B A1 a) (vx_X px BX AX) free) (hS : va_S A0 H0 H locs) (hA : ∀ q, q < H.size → A1 q → A0 q) (hf : ∀ q, free q → A0 q) (hAX : ∀ q, q < H.size → AX q → A0 q)
    (kx : ∀ (E : String) (ce : Cell) (q9 : Addr) (u : SX) (t : State) (H1 : Heap) (locs1 : List Loc), t.heap = H1 → s.vm.Alike t.vm → px u → BX E u t → H.size ≤ H1.size → (∀ q : Nat, q < H.size → ¬ AX q → H1[q]? = H[q]?) → va_S A0 H0 H1 locs1 → H1[q9]? = some ce → ce.vm = .none → s.vm.findClass E = some ce.cls → vx_W p l e R s m args below meth c H1 locs1 (cells + mc) (slots + ms) Q (F0 m pc ls rest) q9)
    (kk : ∀ (r : Option Nat) (u : S) (t : State) (H1 : Heap) (locs1 : List Loc), t.heap = H1 → s.vm.Alike t.vm → post r u → B u t → H.size ≤ H1.size → (∀ q : Nat, q < H.size → ¬ A1 q → H1[q]? = H[q]?) → va_S A0 H0 H1 locs1 → W p l e R s m args below meth c H1 locs1 (cells + mc) (slots + ms) Q (F0 m (pc + 3) ls (va_rf r :: rest))) : W p l e R s m args below meth c H locs cells slots Q (F0 m pc ls st0) := by
  intro T hT X
  rcases hr T hT X with ⟨v, st₀, t, T', L, h0, X', hL, e1, e2, ⟨⟨r, u, hv, hp, hb⟩, hF⟩, st⟩ | ⟨q, st₀, t, T', L, E, ce, h0, X', hL, e1, e2, ⟨u, hp, hb, hF⟩, hce, hcv, hcl, st⟩
  · cases hv
    obtain ⟨k1, k2, k3⟩ := vx_keep h0 e1 hS hA hf hL hF
    obtain ⟨t2, a1, b1⟩ := kk r u t T'.heap (locs ++ L) e1.symm (by rw [← e2]; exact X'.warmed.alike) hp hb k1 k2 k3 T' rfl X'
    exact ⟨t2, st t2 a1, b1⟩
  · obtain ⟨k1, k2, k3⟩ := vx_keep h0 e1 hS hAX hf hL hF
    obtain ⟨t2, a1, b1⟩ := kx E ce q u t T'.heap (locs ++ L) e1.symm (by rw [← e2]; exact X'.warmed.alike) hp hb k1 k2 k3 (by rw [e1]; exact hce) hcv hcl T' rfl X'
    exact ⟨t2, st.trans a1, b1⟩
end
/-! ===== END ===== -/
/-! ===== BEGIN .. a constant ===== -/
section
variable {p : Program} {l : Launch} {e : Env} {R : Room} {s : State} {m : MethodId} {args : Array Value} {below : List Frame} {meth : Method} {c : Code} {H : Heap} {locs : List Loc} {cells slots : Nat} {Q : State → Prop}
variable {mc ms : Nat} {free : Addr → Prop} {A0 A1 : Nat → Prop} {H0 : Heap} {a : Array Value} {pc : Nat} {ls : Array Slot} {st0 rest : List Value}
theorem vx_calle {ad : Nat → Nat} {S SX : Type} {post : Option Nat → S → Prop} {px : SX → Prop} {B : S → State → Prop} {BX : String → SX → State → Prop} {AX : Nat → Prop} (hr : vx_Run p l e R s m args below meth c H locs cells slots mc ms (F0 m pc ls st0) rest (va_Qe ad post B A1 a) (vx_X px BX AX) free) (hS : va_S A0 H0 H locs) (hA : ∀ q, q < H.size → A1 q → A0 q) (hf : ∀ q, free q → A0 q) (hAX : ∀ q, q < H.size → AX q → A0 q)
    (kx : ∀ (E : String) (ce : Cell) (q9 : Addr) (u : SX) (t : State) (H1 : Heap) (locs1 : List Loc), t.heap = H1 → s.vm.Alike t.vm → px u → BX E u t → H.size ≤ H1.size → (∀ q : Nat, q < H.size → ¬ AX q → H1[q]? = H[q]?) → va_S A0 H0 H1 locs1 → H1[q9]? = some ce → ce.vm = .none → s.vm.findClass E = some ce.cls → vx_W p l e R s m args below meth c H1 locs1 (cells + mc) (slots + ms) Q (F0 m pc ls rest) q9)
    (kk : ∀ (r : Option Nat) (u : S) (t : State) (H1 : Heap) (locs1 : List Loc), t.heap = H1 → s.vm.Alike t.vm → post r u → B u t → H.size ≤ H1.size → (∀ q : Nat, q < H.size → ¬ A1 q → H1[q]? = H[q]?) → va_S A0 H0 H1 locs1 → W p l e R s m args below meth c H1 locs1 (cells + mc) (slots + ms) Q (F0 m (pc + 3) ls (va_re ad r :: rest))) : W p l e R s m args below meth c H locs cells slots Q (F0 m pc ls st0) := by
  intro T hT X
  rcases hr T hT X with ⟨v, st₀, t, T', L, h0, X', hL, e1, e2, ⟨⟨r, u, hv, hp, hb⟩, hF⟩, st⟩ | ⟨q, st₀, t, T', L, E, ce, h0, X', hL, e1, e2, ⟨u, hp, hb, hF⟩, hce, hcv, hcl, st⟩
  · cases hv
    obtain ⟨k1, k2, k3⟩ := vx_keep h0 e1 hS hA hf hL hF
    obtain ⟨t2, a1, b1⟩ := kk r u t T'.heap (locs ++ L) e1.symm (by rw [← e2]; exact X'.warmed.alike) hp hb k1 k2 k3 T' rfl X'
    exact ⟨t2, st t2 a1, b1⟩
  · obtain ⟨k1, k2, k3⟩ := vx_keep h0 e1 hS hAX hf hL hF
    obtain ⟨t2, a1, b1⟩ := kx E ce q u t T'.heap (locs ++ L) e1.symm (by rw [← e2]; exact X'.warmed.alike) hp hb k1 k2 k3 (by rw [e1]; exact hce) hcv hcl T' rfl X'
    exact ⟨t2, st.trans a1, b1⟩
end
/-! ===== END ===== -/
/-! ===== BEGIN .. by an interface, an object ===== -/
section
variable {p : Program} {l : Launch} {e : Env} {R : Room} {s : State} {m : MethodId} {args : Array Value} {below : List Frame} {meth : Method} {c : Code} {H : Heap} {locs : List Loc} {cells slots : Nat} {Q : State → Prop}
variable {mc ms : Nat} {free : Addr → Prop} {A0 A1 : Nat → Prop} {H0 : Heap} {a : Array Value} {pc : Nat} {ls : Array Slot} {st0 rest : List Value}
theorem vx_callFq {S SX : Type} {post : Option Nat → S → Prop} {px : SX → Prop} {B : S → State → Prop} {BX : String → SX → State → Prop} {AX : Nat → Prop} (hr : vx_Run5 p l e R s m args below meth c H locs cells slots mc ms (F0 m pc ls st0) rest (va_Qq post B A1 a) (vx_X px BX AX) free) (hS : va_S A0 H0 H locs) (hA : ∀ q, q < H.size → A1 q → A0 q) (hf : ∀ q, free q → A0 q) (hAX : ∀ q, q < H.size → AX q → A0 q)
    (kx : ∀ (E : String) (ce : Cell) (q9 : Addr) (u : SX) (t : State) (H1 : Heap) (locs1 : List Loc), t.heap = H1 → s.vm.Alike t.vm → px u → BX E u t → H.size ≤ H1.size → (∀ q : Nat, q < H.size → ¬ AX q → H1[q]? = H[q]?) → va_S A0 H0 H1 locs1 → H1[q9]? = some ce → ce.vm = .none → s.vm.findClass E = some ce.cls → vx_W p l e R s m args below meth c H1 locs1 (cells + mc) (slots + ms) Q (F0 m pc ls rest) q9)
    (kk : ∀ (r : Option Nat) (u : S) (t : State) (H1 : Heap) (locs1 : List Loc), t.heap = H1 → s.vm.Alike t.vm → post r u → B u t → H.size ≤ H1.size → (∀ q : Nat, q < H.size → ¬ A1 q → H1[q]? = H[q]?) → va_S A0 H0 H1 locs1 → W p l e R s m args below meth c H1 locs1 (cells + mc) (slots + ms) Q (F0 m (pc + 5) ls (va_rf r :: rest))) : W p l e R s m args below meth c H locs cells slots Q (F0 m pc ls st0) := by
  intro T hT X
  rcases hr T hT X with ⟨v, st₀, t, T', L, h0, X', hL, e1, e2, ⟨⟨r, u, hv, hp, hb⟩, hF⟩, st⟩ | ⟨q, st₀, t, T', L, E, ce, h0, X', hL, e1, e2, ⟨u, hp, hb, hF⟩, hce, hcv, hcl, st⟩
  · cases hv
    obtain ⟨k1, k2, k3⟩ := vx_keep h0 e1 hS hA hf hL hF
    obtain ⟨t2, a1, b1⟩ := kk r u t T'.heap (locs ++ L) e1.symm (by rw [← e2]; exact X'.warmed.alike) hp hb k1 k2 k3 T' rfl X'
    exact ⟨t2, st t2 a1, b1⟩
  · obtain ⟨k1, k2, k3⟩ := vx_keep h0 e1 hS hAX hf hL hF
    obtain ⟨t2, a1, b1⟩ := kx E ce q u t T'.heap (locs ++ L) e1.symm (by rw [← e2]; exact X'.warmed.alike) hp hb k1 k2 k3 (by rw [e1]; exact hce) hcv hcl T' rfl X'
    exact ⟨t2, st.trans a1, b1⟩
end
/-! ===== END ===== -/
/-! ===== BEGIN .. by an interface, a constant ===== -/
section
variable {p : Program} {l : Launch} {e : Env} {R : Room} {s : State} {m : MethodId} {args : Array Value} {below : List Frame} {meth : Method} {c : Code} {H : Heap} {locs : List Loc} {cells slots : Nat} {Q : State → Prop}
variable {mc ms : Nat} {free : Addr → Prop} {A0 A1 : Nat → Prop} {H0 : Heap} {a : Array Value} {pc : Nat} {ls : Array Slot} {st0 rest : List Value}
theorem vx_callFe {ad : Nat → Nat} {S SX : Type} {post : Option Nat → S → Prop} {px : SX → Prop} {B : S → State → Prop} {BX : String → SX → State → Prop} {AX : Nat → Prop} (hr : vx_Run5 p l e R s m args below meth c H locs cells slots mc ms (F0 m pc ls st0) rest (va_Qe ad post B A1 a) (vx_X px BX AX) free) (hS : va_S A0 H0 H locs) (hA : ∀ q, q < H.size → A1 q → A0 q) (hf : ∀ q, free q → A0 q) (hAX : ∀ q, q < H.size → AX q → A0 q)
    (kx : ∀ (E : String) (ce : Cell) (q9 : Addr) (u : SX) (t : State) (H1 : Heap) (locs1 : List Loc), t.heap = H1 → s.vm.Alike t.vm → px u → BX E u t → H.size ≤ H1.size → (∀ q : Nat, q < H.size → ¬ AX q → H1[q]? = H[q]?) → va_S A0 H0 H1 locs1 → H1[q9]? = some ce → ce.vm = .none → s.vm.findClass E = some ce.cls → vx_W p l e R s m args below meth c H1 locs1 (cells + mc) (slots + ms) Q (F0 m pc ls rest) q9)
    (kk : ∀ (r : Option Nat) (u : S) (t : State) (H1 : Heap) (locs1 : List Loc), t.heap = H1 → s.vm.Alike t.vm → post r u → B u t → H.size ≤ H1.size → (∀ q : Nat, q < H.size → ¬ A1 q → H1[q]? = H[q]?) → va_S A0 H0 H1 locs1 → W p l e R s m args below meth c H1 locs1 (cells + mc) (slots + ms) Q (F0 m (pc + 5) ls (va_re ad r :: rest))) : W p l e R s m args below meth c H locs cells slots Q (F0 m pc ls st0) := by
  intro T hT X
  rcases hr T hT X with ⟨v, st₀, t, T', L, h0, X', hL, e1, e2, ⟨⟨r, u, hv, hp, hb⟩, hF⟩, st⟩ | ⟨q, st₀, t, T', L, E, ce, h0, X', hL, e1, e2, ⟨u, hp, hb, hF⟩, hce, hcv, hcl, st⟩
  · cases hv
    obtain ⟨k1, k2, k3⟩ := vx_keep h0 e1 hS hA hf hL hF
    obtain ⟨t2, a1, b1⟩ := kk r u t T'.heap (locs ++ L) e1.symm (by rw [← e2]; exact X'.warmed.alike) hp hb k1 k2 k3 T' rfl X'
    exact ⟨t2, st t2 a1, b1⟩
  · obtain ⟨k1, k2, k3⟩ := vx_keep h0 e1 hS hAX hf hL hF
    obtain ⟨t2, a1, b1⟩ := kx E ce q u t T'.heap (locs ++ L) e1.symm (by rw [← e2]; exact X'.warmed.alike) hp hb k1 k2 k3 (by rw [e1]; exact hce) hcv hcl T' rfl X'
    exact ⟨t2, st.trans a1, b1⟩
end
/-! ===== END ===== -/
/-! ===== BEGIN what the machine throws by itself: null at a field, at athrow ===== -/
section VXM2
variable {p : Program} {l : Launch} {e : Env} {R : Room} {s : State} {m : MethodId} {args : Array Value} {below : List Frame} {meth : Method} {c : Code} {H : Heap} {locs : List Loc} {cells slots : Nat}
variable {Q : State → Prop} {cc : ByteArray} {pc : Nat} {ls : Array Slot} {rest : List Value}
theorem vx_getfN {D cl tys} {own ref C : String} {T : u_T} {N ci index : Nat} {Ts : List Cond} (hexec : p.tables.exec = Jvm.exec) (hb : c.code = cc) (hts : ∀ w ∈ Ts, w.before args s = true) (hin : ∀ w ∈ u_ws C T N, w ∈ Ts) (hown : s.vm.findClass own = some m.cls) (hK : va_K D cl tys s) (hc : cl[ci]? = some (C, T, N)) (k : Nat) (hk : k < N) (hlink : (Cond.fieldLink own index ref (T k).2.1 (T k).2.2.1).before args s = true) (hsame : ∀ x, s.fieldFound? (T k).1 (T k).2.1 (T k).2.2.1 = some x → s.fieldFound? ref (T k).2.1 (T k).2.2.1 = some x) (hdg : decode cc pc = .ok (.getfield index, 3)) (kk : vx_NoteN p l e R s m args below meth c H locs cells slots Q (F0 m pc ls rest)) : W p l e R s m args below meth c H locs cells slots Q (F0 m pc ls (.null :: rest)) := by
  obtain ⟨hS, hfc, kC, hkC, -⟩ := hK.1 ci _ hc
  obtain ⟨cf, kf, fi, f, hi, -⟩ := hS k hk
  intro U hU X
  obtain ⟨vm', X1, st1⟩ := X.getfieldNull hexec hown hlink (hsame _ hi) (u_facts hfc hkC (u_lays hts hin hk) hi).1 (g := F0 m pc ls (.null :: rest)) rfl (rest := rest) rfl (by rw [hb]; exact hdg)
  obtain ⟨t, st, q⟩ := kk (U.setVm vm') hU X1
  exact ⟨t, st1 t st, q⟩
theorem vx_getfNN {D cl tys} {own ref C host : String} {T : u_T} {N ci index : Nat} {Ts : List Cond} (hexec : p.tables.exec = Jvm.exec) (hb : c.code = cc) (hts : ∀ w ∈ Ts, w.before args s = true) (hin : ∀ w ∈ u_ws C T N, w ∈ Ts) (hown : s.vm.findClass own = some m.cls) (hK : va_K D cl tys s) (hc : cl[ci]? = some (C, T, N)) (k : Nat) (hk : k < N) (hlink : (Cond.fieldLinkNest own index ref (T k).2.1 (T k).2.2.1 host).before args s = true) (hsame : ∀ x, s.fieldFound? (T k).1 (T k).2.1 (T k).2.2.1 = some x → s.fieldFound? ref (T k).2.1 (T k).2.2.1 = some x) (hdg : decode cc pc = .ok (.getfield index, 3)) (kk : vx_NoteN p l e R s m args below meth c H locs cells slots Q (F0 m pc ls rest)) : W p l e R s m args below meth c H locs cells slots Q (F0 m pc ls (.null :: rest)) := by
  obtain ⟨hS, hfc, kC, hkC, -⟩ := hK.1 ci _ hc
  obtain ⟨cf, kf, fi, f, hi, -⟩ := hS k hk
  intro U hU X
  obtain ⟨vm', X1, st1⟩ := X.getfieldNullNest hexec hown hlink (hsame _ hi) (u_facts hfc hkC (u_lays hts hin hk) hi).1 (g := F0 m pc ls (.null :: rest)) rfl (rest := rest) rfl (by rw [hb]; exact hdg)
  obtain ⟨t, st, q⟩ := kk (U.setVm vm') hU X1
  exact ⟨t, st1 t st, q⟩
theorem vx_putfN {D cl tys} {own ref C : String} {T : u_T} {N ci index : Nat} {Ts : List Cond} (hexec : p.tables.exec = Jvm.exec) (hb : c.code = cc) (hts : ∀ w ∈ Ts, w.before args s = true) (hin : ∀ w ∈ u_ws C T N, w ∈ Ts) (hown : s.vm.findClass own = some m.cls) (hK : va_K D cl tys s) (hc : cl[ci]? = some (C, T, N)) (k : Nat) (hk : k < N) (hlink : (Cond.fieldLink own index ref (T k).2.1 (T k).2.2.1).before args s = true) (hsame : ∀ x, s.fieldFound? (T k).1 (T k).2.1 (T k).2.2.1 = some x → s.fieldFound? ref (T k).2.1 (T k).2.2.1 = some x) (hfin : (T k).2.2.2 = false) {v : Value} (hdg : decode cc pc = .ok (.putfield index, 3)) (kk : vx_NoteN p l e R s m args below meth c H locs cells slots Q (F0 m pc ls rest)) : W p l e R s m args below meth c H locs cells slots Q (F0 m pc ls (v :: .null :: rest)) := by
  obtain ⟨hS, hfc, kC, hkC, -⟩ := hK.1 ci _ hc
  obtain ⟨cf, kf, fi, f, hi, -⟩ := hS k hk
  have hlay := hts _ (hin _ (u_in_lay hk))
  unfold u_lay at hlay
  rw [if_neg (by rw [hfin]; decide)] at hlay
  obtain ⟨c9, k9, cf9, kf9, fi9, f9, -, -, hi9, hst9, hnf9, -⟩ := Cond.lays_spec hlay
  cases hi.symm.trans hi9
  intro U hU X
  obtain ⟨vm', X1, st1⟩ := X.putfieldNull hexec hown hlink (hsame _ hi) hst9 hnf9 (g := F0 m pc ls (v :: .null :: rest)) rfl (v := v) (rest := rest) rfl (by rw [hb]; exact hdg)
  obtain ⟨t, st, q⟩ := kk (U.setVm vm') hU X1
  exact ⟨t, st1 t st, q⟩
theorem vx_putfNN {D cl tys} {own ref C host : String} {T : u_T} {N ci index : Nat} {Ts : List Cond} (hexec : p.tables.exec = Jvm.exec) (hb : c.code = cc) (hts : ∀ w ∈ Ts, w.before args s = true) (hin : ∀ w ∈ u_ws C T N, w ∈ Ts) (hown : s.vm.findClass own = some m.cls) (hK : va_K D cl tys s) (hc : cl[ci]? = some (C, T, N)) (k : Nat) (hk : k < N) (hlink : (Cond.fieldLinkNest own index ref (T k).2.1 (T k).2.2.1 host).before args s = true) (hsame : ∀ x, s.fieldFound? (T k).1 (T k).2.1 (T k).2.2.1 = some x → s.fieldFound? ref (T k).2.1 (T k).2.2.1 = some x) (hfin : (T k).2.2.2 = false) {v : Value} (hdg : decode cc pc = .ok (.putfield index, 3)) (kk : vx_NoteN p l e R s m args below meth c H locs cells slots Q (F0 m pc ls rest)) : W p l e R s m args below meth c H locs cells slots Q (F0 m pc ls (v :: .null :: rest)) := by
  obtain ⟨hS, hfc, kC, hkC, -⟩ := hK.1 ci _ hc
  obtain ⟨cf, kf, fi, f, hi, -⟩ := hS k hk
  have hlay := hts _ (hin _ (u_in_lay hk))
  unfold u_lay at hlay
  rw [if_neg (by rw [hfin]; decide)] at hlay
  obtain ⟨c9, k9, cf9, kf9, fi9, f9, -, -, hi9, hst9, hnf9, -⟩ := Cond.lays_spec hlay
  cases hi.symm.trans hi9
  intro U hU X
  obtain ⟨vm', X1, st1⟩ := X.putfieldNullNest hexec hown hlink (hsame _ hi) hst9 hnf9 (g := F0 m pc ls (v :: .null :: rest)) rfl (v := v) (rest := rest) rfl (by rw [hb]; exact hdg)
  obtain ⟨t, st, q⟩ := kk (U.setVm vm') hU X1
  exact ⟨t, st1 t st, q⟩
theorem vx_athrowN (hexec : p.tables.exec = Jvm.exec) (hb : c.code = cc) (hdg : decode cc pc = .ok (.athrow, 1)) (k : vx_NoteN p l e R s m args below meth c H locs cells slots Q (F0 m pc ls rest)) : W p l e R s m args below meth c H locs cells slots Q (F0 m pc ls (.null :: rest)) := by
  intro T hT X
  obtain ⟨t, st, q⟩ := k T hT X
  exact ⟨t, X.athrowNull hexec (g := F0 m pc ls (.null :: rest)) rfl (rest := rest) rfl (by rw [hb]; exact hdg) t st, q⟩
end VXM2
/-! ===== END ===== -/
end
section
-- ===== PART A: goes FIRST, ahead of the names: the tables' words, and 'selects' of the private methods out of them =====
/-- a private method of a class that the tables say can be made, by its rows of tables_1 -/
def lw_okq (q : MethodName × Nat) : Prop := (q.1.cls ≠ "java/lang/invoke/MethodHandle" ∧ q.1.cls ≠ "java/lang/invoke/VarHandle") ∧ Cond.instantiable q.1.cls q.2 ∈ tables_1 ∧ Cond.privateMethod q.1 ∈ tables_1 ∧ Cond.instanceMethod q.1 ∈ tables_1
theorem lw_p0 : lw_okq (⟨"Secretshares$Field", "choose", "(I)V"⟩, 5) := ⟨⟨by decide +kernel, by decide +kernel⟩, List.mem_of_getElem? (i := 32) (by decide +kernel), List.mem_of_getElem? (i := 38) (by decide +kernel), List.mem_of_getElem? (i := 39) (by decide +kernel)⟩
theorem lw_p1 : lw_okq (⟨"Secretshares$Deal", "clear", "()V"⟩, 5) := ⟨⟨by decide +kernel, by decide +kernel⟩, List.mem_of_getElem? (i := 88) (by decide +kernel), List.mem_of_getElem? (i := 94) (by decide +kernel), List.mem_of_getElem? (i := 95) (by decide +kernel)⟩
theorem lw_p2 : lw_okq (⟨"Secretshares$Field", "modPrime", "(J)I"⟩, 5) := ⟨⟨by decide +kernel, by decide +kernel⟩, List.mem_of_getElem? (i := 32) (by decide +kernel), List.mem_of_getElem? (i := 136) (by decide +kernel), List.mem_of_getElem? (i := 137) (by decide +kernel)⟩
theorem lw_p3 : lw_okq (⟨"Secretshares", "quotient", "(II)I"⟩, 5) := ⟨⟨by decide +kernel, by decide +kernel⟩, List.mem_of_getElem? (i := 24) (by decide +kernel), List.mem_of_getElem? (i := 144) (by decide +kernel), List.mem_of_getElem? (i := 145) (by decide +kernel)⟩
theorem lw_p4 : lw_okq (⟨"Secretshares$Field", "inverse", "(I)I"⟩, 5) := ⟨⟨by decide +kernel, by decide +kernel⟩, List.mem_of_getElem? (i := 32) (by decide +kernel), List.mem_of_getElem? (i := 148) (by decide +kernel), List.mem_of_getElem? (i := 149) (by decide +kernel)⟩
theorem lw_p5 : lw_okq (⟨"Secretshares$Field", "sealFor", "(I)I"⟩, 5) := ⟨⟨by decide +kernel, by decide +kernel⟩, List.mem_of_getElem? (i := 32) (by decide +kernel), List.mem_of_getElem? (i := 164) (by decide +kernel), List.mem_of_getElem? (i := 165) (by decide +kernel)⟩
theorem lw_p6 : lw_okq (⟨"Secretshares", "areSharesSound", "(LSecretshares$Deal;)Z"⟩, 5) := ⟨⟨by decide +kernel, by decide +kernel⟩, List.mem_of_getElem? (i := 24) (by decide +kernel), List.mem_of_getElem? (i := 177) (by decide +kernel), List.mem_of_getElem? (i := 178) (by decide +kernel)⟩
theorem lw_p7 : lw_okq (⟨"Secretshares$Deal", "shareAt", "(I)I"⟩, 5) := ⟨⟨by decide +kernel, by decide +kernel⟩, List.mem_of_getElem? (i := 88) (by decide +kernel), List.mem_of_getElem? (i := 181) (by decide +kernel), List.mem_of_getElem? (i := 182) (by decide +kernel)⟩
theorem lw_p8 : lw_okq (⟨"Secretshares", "areSealsSound", "(LSecretshares$Deal;)Z"⟩, 5) := ⟨⟨by decide +kernel, by decide +kernel⟩, List.mem_of_getElem? (i := 24) (by decide +kernel), List.mem_of_getElem? (i := 185) (by decide +kernel), List.mem_of_getElem? (i := 186) (by decide +kernel)⟩
theorem lw_p9 : lw_okq (⟨"Secretshares$Deal", "sealAt", "(I)I"⟩, 5) := ⟨⟨by decide +kernel, by decide +kernel⟩, List.mem_of_getElem? (i := 88) (by decide +kernel), List.mem_of_getElem? (i := 189) (by decide +kernel), List.mem_of_getElem? (i := 190) (by decide +kernel)⟩
theorem lw_p10 : lw_okq (⟨"Secretshares$Deal", "hasSeals", "()Z"⟩, 5) := ⟨⟨by decide +kernel, by decide +kernel⟩, List.mem_of_getElem? (i := 88) (by decide +kernel), List.mem_of_getElem? (i := 193) (by decide +kernel), List.mem_of_getElem? (i := 194) (by decide +kernel)⟩
theorem lw_p11 : lw_okq (⟨"Secretshares", "allHolders", "()I"⟩, 5) := ⟨⟨by decide +kernel, by decide +kernel⟩, List.mem_of_getElem? (i := 24) (by decide +kernel), List.mem_of_getElem? (i := 197) (by decide +kernel), List.mem_of_getElem? (i := 198) (by decide +kernel)⟩
theorem lw_p12 : lw_okq (⟨"Secretshares", "weightSum", "(II)I"⟩, 5) := ⟨⟨by decide +kernel, by decide +kernel⟩, List.mem_of_getElem? (i := 24) (by decide +kernel), List.mem_of_getElem? (i := 201) (by decide +kernel), List.mem_of_getElem? (i := 202) (by decide +kernel)⟩
theorem lw_p13 : lw_okq (⟨"Secretshares$Field", "weightAt", "(III)I"⟩, 5) := ⟨⟨by decide +kernel, by decide +kernel⟩, List.mem_of_getElem? (i := 32) (by decide +kernel), List.mem_of_getElem? (i := 208) (by decide +kernel), List.mem_of_getElem? (i := 209) (by decide +kernel)⟩
theorem lw_p14 : lw_okq (⟨"Secretshares", "isFirstSealSound", "()Z"⟩, 5) := ⟨⟨by decide +kernel, by decide +kernel⟩, List.mem_of_getElem? (i := 24) (by decide +kernel), List.mem_of_getElem? (i := 214) (by decide +kernel), List.mem_of_getElem? (i := 215) (by decide +kernel)⟩
theorem lw_p15 : lw_okq (⟨"Secretshares$Deal", "firstSet", "()I"⟩, 5) := ⟨⟨by decide +kernel, by decide +kernel⟩, List.mem_of_getElem? (i := 88) (by decide +kernel), List.mem_of_getElem? (i := 218) (by decide +kernel), List.mem_of_getElem? (i := 219) (by decide +kernel)⟩
def lw_privs_1 : List (MethodName × Nat) := [(⟨"Secretshares$Field", "choose", "(I)V"⟩, 5), (⟨"Secretshares$Deal", "clear", "()V"⟩, 5), (⟨"Secretshares$Field", "modPrime", "(J)I"⟩, 5), (⟨"Secretshares", "quotient", "(II)I"⟩, 5), (⟨"Secretshares$Field", "inverse", "(I)I"⟩, 5), (⟨"Secretshares$Field", "sealFor", "(I)I"⟩, 5), (⟨"Secretshares", "areSharesSound", "(LSecretshares$Deal;)Z"⟩, 5), (⟨"Secretshares$Deal", "shareAt", "(I)I"⟩, 5), (⟨"Secretshares", "areSealsSound", "(LSecretshares$Deal;)Z"⟩, 5), (⟨"Secretshares$Deal", "sealAt", "(I)I"⟩, 5), (⟨"Secretshares$Deal", "hasSeals", "()Z"⟩, 5), (⟨"Secretshares", "allHolders", "()I"⟩, 5), (⟨"Secretshares", "weightSum", "(II)I"⟩, 5), (⟨"Secretshares$Field", "weightAt", "(III)I"⟩, 5), (⟨"Secretshares", "isFirstSealSound", "()Z"⟩, 5), (⟨"Secretshares$Deal", "firstSet", "()I"⟩, 5)]
theorem lw_r1 : ∀ q ∈ lw_privs_1, lw_okq q := List.forall_mem_cons.mpr ⟨lw_p0, List.forall_mem_cons.mpr ⟨lw_p1, List.forall_mem_cons.mpr ⟨lw_p2, List.forall_mem_cons.mpr ⟨lw_p3, List.forall_mem_cons.mpr ⟨lw_p4, List.forall_mem_cons.mpr ⟨lw_p5, List.forall_mem_cons.mpr ⟨lw_p6, List.forall_mem_cons.mpr ⟨lw_p7, List.forall_mem_cons.mpr ⟨lw_p8, List.forall_mem_cons.mpr ⟨lw_p9, List.forall_mem_cons.mpr ⟨lw_p10, List.forall_mem_cons.mpr ⟨lw_p11, List.forall_mem_cons.mpr ⟨lw_p12, List.forall_mem_cons.mpr ⟨lw_p13, List.forall_mem_cons.mpr ⟨lw_p14, List.forall_mem_cons.mpr ⟨lw_p15, fun _ h => absurd h List.not_mem_nil⟩⟩⟩⟩⟩⟩⟩⟩⟩⟩⟩⟩⟩⟩⟩⟩
theorem lw_p16 : lw_okq (⟨"Secretshares", "doAllFit", "(LSecretshares$Deal;I)Z"⟩, 5) := ⟨⟨by decide +kernel, by decide +kernel⟩, List.mem_of_getElem? (i := 24) (by decide +kernel), List.mem_of_getElem? (i := 225) (by decide +kernel), List.mem_of_getElem? (i := 226) (by decide +kernel)⟩
theorem lw_p17 : lw_okq (⟨"Secretshares", "doesFit", "(LSecretshares$Deal;I)Z"⟩, 5) := ⟨⟨by decide +kernel, by decide +kernel⟩, List.mem_of_getElem? (i := 24) (by decide +kernel), List.mem_of_getElem? (i := 229) (by decide +kernel), List.mem_of_getElem? (i := 230) (by decide +kernel)⟩
theorem lw_p18 : lw_okq (⟨"Secretshares$Field", "sealProduct", "(II)I"⟩, 5) := ⟨⟨by decide +kernel, by decide +kernel⟩, List.mem_of_getElem? (i := 32) (by decide +kernel), List.mem_of_getElem? (i := 233) (by decide +kernel), List.mem_of_getElem? (i := 234) (by decide +kernel)⟩
theorem lw_p19 : lw_okq (⟨"Secretshares", "tell", "(LSecretshares$Deal;II)I"⟩, 5) := ⟨⟨by decide +kernel, by decide +kernel⟩, List.mem_of_getElem? (i := 24) (by decide +kernel), List.mem_of_getElem? (i := 237) (by decide +kernel), List.mem_of_getElem? (i := 238) (by decide +kernel)⟩
theorem lw_p20 : lw_okq (⟨"Secretshares", "filledDeals", "()I"⟩, 5) := ⟨⟨by decide +kernel, by decide +kernel⟩, List.mem_of_getElem? (i := 24) (by decide +kernel), List.mem_of_getElem? (i := 251) (by decide +kernel), List.mem_of_getElem? (i := 252) (by decide +kernel)⟩
theorem lw_p21 : lw_okq (⟨"Secretshares$Deal", "isEmpty", "()Z"⟩, 5) := ⟨⟨by decide +kernel, by decide +kernel⟩, List.mem_of_getElem? (i := 88) (by decide +kernel), List.mem_of_getElem? (i := 255) (by decide +kernel), List.mem_of_getElem? (i := 256) (by decide +kernel)⟩
theorem lw_p22 : lw_okq (⟨"java/lang/Throwable", "fillInStackTrace", "(I)Ljava/lang/Throwable;"⟩, 6) := ⟨⟨by decide +kernel, by decide +kernel⟩, List.mem_of_getElem? (i := 296) (by decide +kernel), List.mem_of_getElem? (i := 294) (by decide +kernel), List.mem_of_getElem? (i := 295) (by decide +kernel)⟩
theorem lw_p23 : lw_okq (⟨"Secretshares", "dealAt", "(I)LSecretshares$Deal;"⟩, 5) := ⟨⟨by decide +kernel, by decide +kernel⟩, List.mem_of_getElem? (i := 24) (by decide +kernel), List.mem_of_getElem? (i := 330) (by decide +kernel), List.mem_of_getElem? (i := 331) (by decide +kernel)⟩
theorem lw_p24 : lw_okq (⟨"Secretshares$Deal", "shareCount", "()I"⟩, 5) := ⟨⟨by decide +kernel, by decide +kernel⟩, List.mem_of_getElem? (i := 88) (by decide +kernel), List.mem_of_getElem? (i := 350) (by decide +kernel), List.mem_of_getElem? (i := 351) (by decide +kernel)⟩
theorem lw_p25 : lw_okq (⟨"Secretshares$Deal", "holderSet", "()I"⟩, 5) := ⟨⟨by decide +kernel, by decide +kernel⟩, List.mem_of_getElem? (i := 88) (by decide +kernel), List.mem_of_getElem? (i := 354) (by decide +kernel), List.mem_of_getElem? (i := 355) (by decide +kernel)⟩
theorem lw_p26 : lw_okq (⟨"Secretshares", "isInLine", "(LSecretshares$Deal;I)Z"⟩, 5) := ⟨⟨by decide +kernel, by decide +kernel⟩, List.mem_of_getElem? (i := 24) (by decide +kernel), List.mem_of_getElem? (i := 365) (by decide +kernel), List.mem_of_getElem? (i := 366) (by decide +kernel)⟩
theorem lw_p27 : lw_okq (⟨"Secretshares$Poly", "goThrough", "(LSecretshares$Field;LSecretshares$Deal;I)V"⟩, 2) := ⟨⟨by decide +kernel, by decide +kernel⟩, List.mem_of_getElem? (i := 73) (by decide +kernel), List.mem_of_getElem? (i := 369) (by decide +kernel), List.mem_of_getElem? (i := 370) (by decide +kernel)⟩
theorem lw_p28 : lw_okq (⟨"Secretshares$Poly", "clear", "()V"⟩, 2) := ⟨⟨by decide +kernel, by decide +kernel⟩, List.mem_of_getElem? (i := 73) (by decide +kernel), List.mem_of_getElem? (i := 373) (by decide +kernel), List.mem_of_getElem? (i := 374) (by decide +kernel)⟩
theorem lw_p29 : lw_okq (⟨"Secretshares$Poly", "makeTerm", "(LSecretshares$Field;II)I"⟩, 2) := ⟨⟨by decide +kernel, by decide +kernel⟩, List.mem_of_getElem? (i := 73) (by decide +kernel), List.mem_of_getElem? (i := 378) (by decide +kernel), List.mem_of_getElem? (i := 379) (by decide +kernel)⟩
theorem lw_p30 : lw_okq (⟨"Secretshares$Poly", "addTerm", "(LSecretshares$Field;I)V"⟩, 2) := ⟨⟨by decide +kernel, by decide +kernel⟩, List.mem_of_getElem? (i := 73) (by decide +kernel), List.mem_of_getElem? (i := 385) (by decide +kernel), List.mem_of_getElem? (i := 386) (by decide +kernel)⟩
theorem lw_p31 : lw_okq (⟨"Secretshares$Poly", "highest", "()I"⟩, 2) := ⟨⟨by decide +kernel, by decide +kernel⟩, List.mem_of_getElem? (i := 73) (by decide +kernel), List.mem_of_getElem? (i := 389) (by decide +kernel), List.mem_of_getElem? (i := 390) (by decide +kernel)⟩
def lw_privs_2 : List (MethodName × Nat) := [(⟨"Secretshares", "doAllFit", "(LSecretshares$Deal;I)Z"⟩, 5), (⟨"Secretshares", "doesFit", "(LSecretshares$Deal;I)Z"⟩, 5), (⟨"Secretshares$Field", "sealProduct", "(II)I"⟩, 5), (⟨"Secretshares", "tell", "(LSecretshares$Deal;II)I"⟩, 5), (⟨"Secretshares", "filledDeals", "()I"⟩, 5), (⟨"Secretshares$Deal", "isEmpty", "()Z"⟩, 5), (⟨"java/lang/Throwable", "fillInStackTrace", "(I)Ljava/lang/Throwable;"⟩, 6), (⟨"Secretshares", "dealAt", "(I)LSecretshares$Deal;"⟩, 5), (⟨"Secretshares$Deal", "shareCount", "()I"⟩, 5), (⟨"Secretshares$Deal", "holderSet", "()I"⟩, 5), (⟨"Secretshares", "isInLine", "(LSecretshares$Deal;I)Z"⟩, 5), (⟨"Secretshares$Poly", "goThrough", "(LSecretshares$Field;LSecretshares$Deal;I)V"⟩, 2), (⟨"Secretshares$Poly", "clear", "()V"⟩, 2), (⟨"Secretshares$Poly", "makeTerm", "(LSecretshares$Field;II)I"⟩, 2), (⟨"Secretshares$Poly", "addTerm", "(LSecretshares$Field;I)V"⟩, 2), (⟨"Secretshares$Poly", "highest", "()I"⟩, 2)]
theorem lw_r2 : ∀ q ∈ lw_privs_2, lw_okq q := List.forall_mem_cons.mpr ⟨lw_p16, List.forall_mem_cons.mpr ⟨lw_p17, List.forall_mem_cons.mpr ⟨lw_p18, List.forall_mem_cons.mpr ⟨lw_p19, List.forall_mem_cons.mpr ⟨lw_p20, List.forall_mem_cons.mpr ⟨lw_p21, List.forall_mem_cons.mpr ⟨lw_p22, List.forall_mem_cons.mpr ⟨lw_p23, List.forall_mem_cons.mpr ⟨lw_p24, List.forall_mem_cons.mpr ⟨lw_p25, List.forall_mem_cons.mpr ⟨lw_p26, List.forall_mem_cons.mpr ⟨lw_p27, List.forall_mem_cons.mpr ⟨lw_p28, List.forall_mem_cons.mpr ⟨lw_p29, List.forall_mem_cons.mpr ⟨lw_p30, List.forall_mem_cons.mpr ⟨lw_p31, fun _ h => absurd h List.not_mem_nil⟩⟩⟩⟩⟩⟩⟩⟩⟩⟩⟩⟩⟩⟩⟩⟩
theorem lw_p32 : lw_okq (⟨"Secretshares", "requireHolder", "(I)V"⟩, 5) := ⟨⟨by decide +kernel, by decide +kernel⟩, List.mem_of_getElem? (i := 24) (by decide +kernel), List.mem_of_getElem? (i := 398) (by decide +kernel), List.mem_of_getElem? (i := 399) (by decide +kernel)⟩
theorem lw_p33 : lw_okq (⟨"Secretshares", "requireSet", "(I)V"⟩, 5) := ⟨⟨by decide +kernel, by decide +kernel⟩, List.mem_of_getElem? (i := 24) (by decide +kernel), List.mem_of_getElem? (i := 453) (by decide +kernel), List.mem_of_getElem? (i := 454) (by decide +kernel)⟩
theorem lw_p34 : lw_okq (⟨"Secretshares$Poly", "become", "(LSecretshares$Field;IIIII)V"⟩, 2) := ⟨⟨by decide +kernel, by decide +kernel⟩, List.mem_of_getElem? (i := 73) (by decide +kernel), List.mem_of_getElem? (i := 476) (by decide +kernel), List.mem_of_getElem? (i := 477) (by decide +kernel)⟩
theorem lw_p35 : lw_okq (⟨"Secretshares$Poly", "addTo", "(LSecretshares$Field;III)V"⟩, 2) := ⟨⟨by decide +kernel, by decide +kernel⟩, List.mem_of_getElem? (i := 73) (by decide +kernel), List.mem_of_getElem? (i := 480) (by decide +kernel), List.mem_of_getElem? (i := 481) (by decide +kernel)⟩
theorem lw_p36 : lw_okq (⟨"Secretshares", "layPoly", "(LSecretshares$Deal;I)I"⟩, 5) := ⟨⟨by decide +kernel, by decide +kernel⟩, List.mem_of_getElem? (i := 24) (by decide +kernel), List.mem_of_getElem? (i := 484) (by decide +kernel), List.mem_of_getElem? (i := 485) (by decide +kernel)⟩
theorem lw_p37 : lw_okq (⟨"Secretshares$Deal", "start", "(I)V"⟩, 5) := ⟨⟨by decide +kernel, by decide +kernel⟩, List.mem_of_getElem? (i := 88) (by decide +kernel), List.mem_of_getElem? (i := 488) (by decide +kernel), List.mem_of_getElem? (i := 489) (by decide +kernel)⟩
theorem lw_p38 : lw_okq (⟨"Secretshares$Poly", "valueAt", "(LSecretshares$Field;I)I"⟩, 2) := ⟨⟨by decide +kernel, by decide +kernel⟩, List.mem_of_getElem? (i := 73) (by decide +kernel), List.mem_of_getElem? (i := 492) (by decide +kernel), List.mem_of_getElem? (i := 493) (by decide +kernel)⟩
theorem lw_p39 : lw_okq (⟨"Secretshares$Deal", "setShare", "(II)V"⟩, 5) := ⟨⟨by decide +kernel, by decide +kernel⟩, List.mem_of_getElem? (i := 88) (by decide +kernel), List.mem_of_getElem? (i := 496) (by decide +kernel), List.mem_of_getElem? (i := 497) (by decide +kernel)⟩
theorem lw_p40 : lw_okq (⟨"Secretshares$Poly", "at", "(I)I"⟩, 2) := ⟨⟨by decide +kernel, by decide +kernel⟩, List.mem_of_getElem? (i := 73) (by decide +kernel), List.mem_of_getElem? (i := 500) (by decide +kernel), List.mem_of_getElem? (i := 501) (by decide +kernel)⟩
theorem lw_p41 : lw_okq (⟨"Secretshares$Deal", "addSeal", "(I)V"⟩, 5) := ⟨⟨by decide +kernel, by decide +kernel⟩, List.mem_of_getElem? (i := 88) (by decide +kernel), List.mem_of_getElem? (i := 504) (by decide +kernel), List.mem_of_getElem? (i := 505) (by decide +kernel)⟩
theorem lw_p42 : lw_okq (⟨"Secretshares$Deal", "hasShare", "(I)Z"⟩, 5) := ⟨⟨by decide +kernel, by decide +kernel⟩, List.mem_of_getElem? (i := 88) (by decide +kernel), List.mem_of_getElem? (i := 515) (by decide +kernel), List.mem_of_getElem? (i := 516) (by decide +kernel)⟩
theorem lw_p43 : lw_okq (⟨"Secretshares$Deal", "setSeal", "(II)V"⟩, 5) := ⟨⟨by decide +kernel, by decide +kernel⟩, List.mem_of_getElem? (i := 88) (by decide +kernel), List.mem_of_getElem? (i := 520) (by decide +kernel), List.mem_of_getElem? (i := 521) (by decide +kernel)⟩
theorem lw_p44 : lw_okq (⟨"Secretshares", "addUp", "(LSecretshares$Deal;LSecretshares$Deal;LSecretshares$Deal;Z)I"⟩, 5) := ⟨⟨by decide +kernel, by decide +kernel⟩, List.mem_of_getElem? (i := 24) (by decide +kernel), List.mem_of_getElem? (i := 531) (by decide +kernel), List.mem_of_getElem? (i := 532) (by decide +kernel)⟩
theorem lw_p45 : lw_okq (⟨"Secretshares", "addUpSeals", "(LSecretshares$Deal;LSecretshares$Deal;Z)V"⟩, 5) := ⟨⟨by decide +kernel, by decide +kernel⟩, List.mem_of_getElem? (i := 24) (by decide +kernel), List.mem_of_getElem? (i := 538) (by decide +kernel), List.mem_of_getElem? (i := 539) (by decide +kernel)⟩
theorem lw_p46 : lw_okq (⟨"Secretshares$Field", "inverseSeal", "(I)I"⟩, 5) := ⟨⟨by decide +kernel, by decide +kernel⟩, List.mem_of_getElem? (i := 32) (by decide +kernel), List.mem_of_getElem? (i := 542) (by decide +kernel), List.mem_of_getElem? (i := 543) (by decide +kernel)⟩
theorem lw_p47 : lw_okq (⟨"Secretshares", "laySpare", "(LSecretshares$Deal;)I"⟩, 5) := ⟨⟨by decide +kernel, by decide +kernel⟩, List.mem_of_getElem? (i := 24) (by decide +kernel), List.mem_of_getElem? (i := 546) (by decide +kernel), List.mem_of_getElem? (i := 547) (by decide +kernel)⟩
def lw_privs_3 : List (MethodName × Nat) := [(⟨"Secretshares", "requireHolder", "(I)V"⟩, 5), (⟨"Secretshares", "requireSet", "(I)V"⟩, 5), (⟨"Secretshares$Poly", "become", "(LSecretshares$Field;IIIII)V"⟩, 2), (⟨"Secretshares$Poly", "addTo", "(LSecretshares$Field;III)V"⟩, 2), (⟨"Secretshares", "layPoly", "(LSecretshares$Deal;I)I"⟩, 5), (⟨"Secretshares$Deal", "start", "(I)V"⟩, 5), (⟨"Secretshares$Poly", "valueAt", "(LSecretshares$Field;I)I"⟩, 2), (⟨"Secretshares$Deal", "setShare", "(II)V"⟩, 5), (⟨"Secretshares$Poly", "at", "(I)I"⟩, 2), (⟨"Secretshares$Deal", "addSeal", "(I)V"⟩, 5), (⟨"Secretshares$Deal", "hasShare", "(I)Z"⟩, 5), (⟨"Secretshares$Deal", "setSeal", "(II)V"⟩, 5), (⟨"Secretshares", "addUp", "(LSecretshares$Deal;LSecretshares$Deal;LSecretshares$Deal;Z)I"⟩, 5), (⟨"Secretshares", "addUpSeals", "(LSecretshares$Deal;LSecretshares$Deal;Z)V"⟩, 5), (⟨"Secretshares$Field", "inverseSeal", "(I)I"⟩, 5), (⟨"Secretshares", "laySpare", "(LSecretshares$Deal;)I"⟩, 5)]
theorem lw_r3 : ∀ q ∈ lw_privs_3, lw_okq q := List.forall_mem_cons.mpr ⟨lw_p32, List.forall_mem_cons.mpr ⟨lw_p33, List.forall_mem_cons.mpr ⟨lw_p34, List.forall_mem_cons.mpr ⟨lw_p35, List.forall_mem_cons.mpr ⟨lw_p36, List.forall_mem_cons.mpr ⟨lw_p37, List.forall_mem_cons.mpr ⟨lw_p38, List.forall_mem_cons.mpr ⟨lw_p39, List.forall_mem_cons.mpr ⟨lw_p40, List.forall_mem_cons.mpr ⟨lw_p41, List.forall_mem_cons.mpr ⟨lw_p42, List.forall_mem_cons.mpr ⟨lw_p43, List.forall_mem_cons.mpr ⟨lw_p44, List.forall_mem_cons.mpr ⟨lw_p45, List.forall_mem_cons.mpr ⟨lw_p46, List.forall_mem_cons.mpr ⟨lw_p47, fun _ h => absurd h List.not_mem_nil⟩⟩⟩⟩⟩⟩⟩⟩⟩⟩⟩⟩⟩⟩⟩⟩
theorem lw_p48 : lw_okq (⟨"Secretshares$Deal", "take", "(LSecretshares$Deal;)V"⟩, 5) := ⟨⟨by decide +kernel, by decide +kernel⟩, List.mem_of_getElem? (i := 88) (by decide +kernel), List.mem_of_getElem? (i := 550) (by decide +kernel), List.mem_of_getElem? (i := 551) (by decide +kernel)⟩
theorem lw_p49 : lw_okq (⟨"Secretshares$Deal", "isEnough", "(I)Z"⟩, 5) := ⟨⟨by decide +kernel, by decide +kernel⟩, List.mem_of_getElem? (i := 88) (by decide +kernel), List.mem_of_getElem? (i := 583) (by decide +kernel), List.mem_of_getElem? (i := 584) (by decide +kernel)⟩
theorem lw_p50 : lw_okq (⟨"Secretshares$Deal", "isThere", "(I)Z"⟩, 5) := ⟨⟨by decide +kernel, by decide +kernel⟩, List.mem_of_getElem? (i := 88) (by decide +kernel), List.mem_of_getElem? (i := 587) (by decide +kernel), List.mem_of_getElem? (i := 588) (by decide +kernel)⟩
theorem lw_p51 : lw_okq (⟨"Secretshares", "wrongHolder", "(LSecretshares$Deal;)I"⟩, 5) := ⟨⟨by decide +kernel, by decide +kernel⟩, List.mem_of_getElem? (i := 24) (by decide +kernel), List.mem_of_getElem? (i := 621) (by decide +kernel), List.mem_of_getElem? (i := 622) (by decide +kernel)⟩
theorem lw_p52 : lw_okq (⟨"Secretshares", "suspectSet", "(LSecretshares$Deal;)I"⟩, 5) := ⟨⟨by decide +kernel, by decide +kernel⟩, List.mem_of_getElem? (i := 24) (by decide +kernel), List.mem_of_getElem? (i := 625) (by decide +kernel), List.mem_of_getElem? (i := 626) (by decide +kernel)⟩
theorem lw_p53 : lw_okq (⟨"Secretshares", "polysBeyond", "(I)I"⟩, 5) := ⟨⟨by decide +kernel, by decide +kernel⟩, List.mem_of_getElem? (i := 24) (by decide +kernel), List.mem_of_getElem? (i := 709) (by decide +kernel), List.mem_of_getElem? (i := 710) (by decide +kernel)⟩
theorem lw_p54 : lw_okq (⟨"SecretsharesModel", "start", "(ZI)Z"⟩, 6) := ⟨⟨by decide +kernel, by decide +kernel⟩, List.mem_of_getElem? (i := 1032) (by decide +kernel), List.mem_of_getElem? (i := 1070) (by decide +kernel), List.mem_of_getElem? (i := 1071) (by decide +kernel)⟩
theorem lw_p55 : lw_okq (⟨"SecretsharesModel", "refuse", "(ZI)Z"⟩, 6) := ⟨⟨by decide +kernel, by decide +kernel⟩, List.mem_of_getElem? (i := 1032) (by decide +kernel), List.mem_of_getElem? (i := 1074) (by decide +kernel), List.mem_of_getElem? (i := 1075) (by decide +kernel)⟩
theorem lw_p56 : lw_okq (⟨"SecretsharesModel", "p", "()I"⟩, 6) := ⟨⟨by decide +kernel, by decide +kernel⟩, List.mem_of_getElem? (i := 1032) (by decide +kernel), List.mem_of_getElem? (i := 1078) (by decide +kernel), List.mem_of_getElem? (i := 1079) (by decide +kernel)⟩
theorem lw_p57 : lw_okq (⟨"SecretsharesModel", "empty", "(I)V"⟩, 6) := ⟨⟨by decide +kernel, by decide +kernel⟩, List.mem_of_getElem? (i := 1032) (by decide +kernel), List.mem_of_getElem? (i := 1084) (by decide +kernel), List.mem_of_getElem? (i := 1085) (by decide +kernel)⟩
theorem lw_p58 : lw_okq (⟨"SecretsharesModel", "mod", "(J)I"⟩, 6) := ⟨⟨by decide +kernel, by decide +kernel⟩, List.mem_of_getElem? (i := 1032) (by decide +kernel), List.mem_of_getElem? (i := 1092) (by decide +kernel), List.mem_of_getElem? (i := 1093) (by decide +kernel)⟩
theorem lw_p59 : lw_okq (⟨"SecretsharesModel", "inverse", "(I)I"⟩, 6) := ⟨⟨by decide +kernel, by decide +kernel⟩, List.mem_of_getElem? (i := 1032) (by decide +kernel), List.mem_of_getElem? (i := 1100) (by decide +kernel), List.mem_of_getElem? (i := 1101) (by decide +kernel)⟩
theorem lw_p60 : lw_okq (⟨"SecretsharesModel", "sealBy", "(I)I"⟩, 6) := ⟨⟨by decide +kernel, by decide +kernel⟩, List.mem_of_getElem? (i := 1032) (by decide +kernel), List.mem_of_getElem? (i := 1122) (by decide +kernel), List.mem_of_getElem? (i := 1123) (by decide +kernel)⟩
theorem lw_p61 : lw_okq (⟨"SecretsharesModel", "q", "()I"⟩, 6) := ⟨⟨by decide +kernel, by decide +kernel⟩, List.mem_of_getElem? (i := 1032) (by decide +kernel), List.mem_of_getElem? (i := 1128) (by decide +kernel), List.mem_of_getElem? (i := 1129) (by decide +kernel)⟩
theorem lw_p62 : lw_okq (⟨"SecretsharesModel", "isNoHolder", "(I)Z"⟩, 6) := ⟨⟨by decide +kernel, by decide +kernel⟩, List.mem_of_getElem? (i := 1032) (by decide +kernel), List.mem_of_getElem? (i := 1138) (by decide +kernel), List.mem_of_getElem? (i := 1139) (by decide +kernel)⟩
theorem lw_p63 : lw_okq (⟨"SecretsharesModel", "holders", "()I"⟩, 6) := ⟨⟨by decide +kernel, by decide +kernel⟩, List.mem_of_getElem? (i := 1032) (by decide +kernel), List.mem_of_getElem? (i := 1142) (by decide +kernel), List.mem_of_getElem? (i := 1143) (by decide +kernel)⟩
def lw_privs_4 : List (MethodName × Nat) := [(⟨"Secretshares$Deal", "take", "(LSecretshares$Deal;)V"⟩, 5), (⟨"Secretshares$Deal", "isEnough", "(I)Z"⟩, 5), (⟨"Secretshares$Deal", "isThere", "(I)Z"⟩, 5), (⟨"Secretshares", "wrongHolder", "(LSecretshares$Deal;)I"⟩, 5), (⟨"Secretshares", "suspectSet", "(LSecretshares$Deal;)I"⟩, 5), (⟨"Secretshares", "polysBeyond", "(I)I"⟩, 5), (⟨"SecretsharesModel", "start", "(ZI)Z"⟩, 6), (⟨"SecretsharesModel", "refuse", "(ZI)Z"⟩, 6), (⟨"SecretsharesModel", "p", "()I"⟩, 6), (⟨"SecretsharesModel", "empty", "(I)V"⟩, 6), (⟨"SecretsharesModel", "mod", "(J)I"⟩, 6), (⟨"SecretsharesModel", "inverse", "(I)I"⟩, 6), (⟨"SecretsharesModel", "sealBy", "(I)I"⟩, 6), (⟨"SecretsharesModel", "q", "()I"⟩, 6), (⟨"SecretsharesModel", "isNoHolder", "(I)Z"⟩, 6), (⟨"SecretsharesModel", "holders", "()I"⟩, 6)]
theorem lw_r4 : ∀ q ∈ lw_privs_4, lw_okq q := List.forall_mem_cons.mpr ⟨lw_p48, List.forall_mem_cons.mpr ⟨lw_p49, List.forall_mem_cons.mpr ⟨lw_p50, List.forall_mem_cons.mpr ⟨lw_p51, List.forall_mem_cons.mpr ⟨lw_p52, List.forall_mem_cons.mpr ⟨lw_p53, List.forall_mem_cons.mpr ⟨lw_p54, List.forall_mem_cons.mpr ⟨lw_p55, List.forall_mem_cons.mpr ⟨lw_p56, List.forall_mem_cons.mpr ⟨lw_p57, List.forall_mem_cons.mpr ⟨lw_p58, List.forall_mem_cons.mpr ⟨lw_p59, List.forall_mem_cons.mpr ⟨lw_p60, List.forall_mem_cons.mpr ⟨lw_p61, List.forall_mem_cons.mpr ⟨lw_p62, List.forall_mem_cons.mpr ⟨lw_p63, fun _ h => absurd h List.not_mem_nil⟩⟩⟩⟩⟩⟩⟩⟩⟩⟩⟩⟩⟩⟩⟩⟩
theorem lw_p64 : lw_okq (⟨"SecretsharesModel", "isNoSet", "(I)Z"⟩, 6) := ⟨⟨by decide +kernel, by decide +kernel⟩, List.mem_of_getElem? (i := 1032) (by decide +kernel), List.mem_of_getElem? (i := 1147) (by decide +kernel), List.mem_of_getElem? (i := 1148) (by decide +kernel)⟩
theorem lw_p65 : lw_okq (⟨"SecretsharesModel", "at", "([III)I"⟩, 6) := ⟨⟨by decide +kernel, by decide +kernel⟩, List.mem_of_getElem? (i := 1032) (by decide +kernel), List.mem_of_getElem? (i := 1154) (by decide +kernel), List.mem_of_getElem? (i := 1155) (by decide +kernel)⟩
theorem lw_p66 : lw_okq (⟨"SecretsharesModel", "through", "([II)[I"⟩, 6) := ⟨⟨by decide +kernel, by decide +kernel⟩, List.mem_of_getElem? (i := 1032) (by decide +kernel), List.mem_of_getElem? (i := 1158) (by decide +kernel), List.mem_of_getElem? (i := 1159) (by decide +kernel)⟩
theorem lw_p67 : lw_okq (⟨"SecretsharesModel", "value", "([II)I"⟩, 6) := ⟨⟨by decide +kernel, by decide +kernel⟩, List.mem_of_getElem? (i := 1032) (by decide +kernel), List.mem_of_getElem? (i := 1162) (by decide +kernel), List.mem_of_getElem? (i := 1163) (by decide +kernel)⟩
theorem lw_p68 : lw_okq (⟨"SecretsharesModel", "weightsAt", "(II)I"⟩, 6) := ⟨⟨by decide +kernel, by decide +kernel⟩, List.mem_of_getElem? (i := 1032) (by decide +kernel), List.mem_of_getElem? (i := 1170) (by decide +kernel), List.mem_of_getElem? (i := 1171) (by decide +kernel)⟩
theorem lw_p69 : lw_okq (⟨"SecretsharesModel", "poly", "(IIIII)[I"⟩, 6) := ⟨⟨by decide +kernel, by decide +kernel⟩, List.mem_of_getElem? (i := 1032) (by decide +kernel), List.mem_of_getElem? (i := 1181) (by decide +kernel), List.mem_of_getElem? (i := 1182) (by decide +kernel)⟩
theorem lw_p70 : lw_okq (⟨"SecretsharesModel", "values", "([I)[I"⟩, 6) := ⟨⟨by decide +kernel, by decide +kernel⟩, List.mem_of_getElem? (i := 1032) (by decide +kernel), List.mem_of_getElem? (i := 1185) (by decide +kernel), List.mem_of_getElem? (i := 1186) (by decide +kernel)⟩
theorem lw_p71 : lw_okq (⟨"SecretsharesModel", "lay", "(II[I[I)I"⟩, 6) := ⟨⟨by decide +kernel, by decide +kernel⟩, List.mem_of_getElem? (i := 1032) (by decide +kernel), List.mem_of_getElem? (i := 1189) (by decide +kernel), List.mem_of_getElem? (i := 1190) (by decide +kernel)⟩
theorem lw_p72 : lw_okq (⟨"SecretsharesModel", "setOf", "(I)I"⟩, 6) := ⟨⟨by decide +kernel, by decide +kernel⟩, List.mem_of_getElem? (i := 1032) (by decide +kernel), List.mem_of_getElem? (i := 1193) (by decide +kernel), List.mem_of_getElem? (i := 1194) (by decide +kernel)⟩
theorem lw_p73 : lw_okq (⟨"SecretsharesModel", "isEmpty", "(I)Z"⟩, 6) := ⟨⟨by decide +kernel, by decide +kernel⟩, List.mem_of_getElem? (i := 1032) (by decide +kernel), List.mem_of_getElem? (i := 1197) (by decide +kernel), List.mem_of_getElem? (i := 1198) (by decide +kernel)⟩
theorem lw_p74 : lw_okq (⟨"SecretsharesModel", "areNoDeals", "(III)Z"⟩, 6) := ⟨⟨by decide +kernel, by decide +kernel⟩, List.mem_of_getElem? (i := 1032) (by decide +kernel), List.mem_of_getElem? (i := 1216) (by decide +kernel), List.mem_of_getElem? (i := 1217) (by decide +kernel)⟩
theorem lw_p75 : lw_okq (⟨"SecretsharesModel", "joined", "(IIII)I"⟩, 6) := ⟨⟨by decide +kernel, by decide +kernel⟩, List.mem_of_getElem? (i := 1032) (by decide +kernel), List.mem_of_getElem? (i := 1220) (by decide +kernel), List.mem_of_getElem? (i := 1221) (by decide +kernel)⟩
theorem lw_p76 : lw_okq (⟨"SecretsharesModel", "isEnough", "(II)Z"⟩, 6) := ⟨⟨by decide +kernel, by decide +kernel⟩, List.mem_of_getElem? (i := 1032) (by decide +kernel), List.mem_of_getElem? (i := 1244) (by decide +kernel), List.mem_of_getElem? (i := 1245) (by decide +kernel)⟩
theorem lw_p77 : lw_okq (⟨"SecretsharesModel", "isThere", "(II)Z"⟩, 6) := ⟨⟨by decide +kernel, by decide +kernel⟩, List.mem_of_getElem? (i := 1032) (by decide +kernel), List.mem_of_getElem? (i := 1248) (by decide +kernel), List.mem_of_getElem? (i := 1249) (by decide +kernel)⟩
theorem lw_p78 : lw_okq (⟨"SecretsharesModel", "put", "(III)V"⟩, 6) := ⟨⟨by decide +kernel, by decide +kernel⟩, List.mem_of_getElem? (i := 1032) (by decide +kernel), List.mem_of_getElem? (i := 1256) (by decide +kernel), List.mem_of_getElem? (i := 1257) (by decide +kernel)⟩
theorem lw_p79 : lw_okq (⟨"SecretsharesModel", "wrongOf", "(I)I"⟩, 6) := ⟨⟨by decide +kernel, by decide +kernel⟩, List.mem_of_getElem? (i := 1032) (by decide +kernel), List.mem_of_getElem? (i := 1272) (by decide +kernel), List.mem_of_getElem? (i := 1273) (by decide +kernel)⟩
def lw_privs_5 : List (MethodName × Nat) := [(⟨"SecretsharesModel", "isNoSet", "(I)Z"⟩, 6), (⟨"SecretsharesModel", "at", "([III)I"⟩, 6), (⟨"SecretsharesModel", "through", "([II)[I"⟩, 6), (⟨"SecretsharesModel", "value", "([II)I"⟩, 6), (⟨"SecretsharesModel", "weightsAt", "(II)I"⟩, 6), (⟨"SecretsharesModel", "poly", "(IIIII)[I"⟩, 6), (⟨"SecretsharesModel", "values", "([I)[I"⟩, 6), (⟨"SecretsharesModel", "lay", "(II[I[I)I"⟩, 6), (⟨"SecretsharesModel", "setOf", "(I)I"⟩, 6), (⟨"SecretsharesModel", "isEmpty", "(I)Z"⟩, 6), (⟨"SecretsharesModel", "areNoDeals", "(III)Z"⟩, 6), (⟨"SecretsharesModel", "joined", "(IIII)I"⟩, 6), (⟨"SecretsharesModel", "isEnough", "(II)Z"⟩, 6), (⟨"SecretsharesModel", "isThere", "(II)Z"⟩, 6), (⟨"SecretsharesModel", "put", "(III)V"⟩, 6), (⟨"SecretsharesModel", "wrongOf", "(I)I"⟩, 6)]
theorem lw_r5 : ∀ q ∈ lw_privs_5, lw_okq q := List.forall_mem_cons.mpr ⟨lw_p64, List.forall_mem_cons.mpr ⟨lw_p65, List.forall_mem_cons.mpr ⟨lw_p66, List.forall_mem_cons.mpr ⟨lw_p67, List.forall_mem_cons.mpr ⟨lw_p68, List.forall_mem_cons.mpr ⟨lw_p69, List.forall_mem_cons.mpr ⟨lw_p70, List.forall_mem_cons.mpr ⟨lw_p71, List.forall_mem_cons.mpr ⟨lw_p72, List.forall_mem_cons.mpr ⟨lw_p73, List.forall_mem_cons.mpr ⟨lw_p74, List.forall_mem_cons.mpr ⟨lw_p75, List.forall_mem_cons.mpr ⟨lw_p76, List.forall_mem_cons.mpr ⟨lw_p77, List.forall_mem_cons.mpr ⟨lw_p78, List.forall_mem_cons.mpr ⟨lw_p79, fun _ h => absurd h List.not_mem_nil⟩⟩⟩⟩⟩⟩⟩⟩⟩⟩⟩⟩⟩⟩⟩⟩
theorem lw_p80 : lw_okq (⟨"SecretsharesModel", "isAgreed", "(II)Z"⟩, 6) := ⟨⟨by decide +kernel, by decide +kernel⟩, List.mem_of_getElem? (i := 1032) (by decide +kernel), List.mem_of_getElem? (i := 1276) (by decide +kernel), List.mem_of_getElem? (i := 1277) (by decide +kernel)⟩
theorem lw_p81 : lw_okq (⟨"SecretsharesModel", "suspectsOf", "(I)I"⟩, 6) := ⟨⟨by decide +kernel, by decide +kernel⟩, List.mem_of_getElem? (i := 1032) (by decide +kernel), List.mem_of_getElem? (i := 1283) (by decide +kernel), List.mem_of_getElem? (i := 1284) (by decide +kernel)⟩
theorem lw_p82 : lw_okq (⟨"SecretsharesModel", "shareOf", "(II)I"⟩, 6) := ⟨⟨by decide +kernel, by decide +kernel⟩, List.mem_of_getElem? (i := 1032) (by decide +kernel), List.mem_of_getElem? (i := 1303) (by decide +kernel), List.mem_of_getElem? (i := 1304) (by decide +kernel)⟩
theorem lw_p83 : lw_okq (⟨"SecretsharesModel", "dealTold", "(II)I"⟩, 6) := ⟨⟨by decide +kernel, by decide +kernel⟩, List.mem_of_getElem? (i := 1032) (by decide +kernel), List.mem_of_getElem? (i := 1311) (by decide +kernel), List.mem_of_getElem? (i := 1312) (by decide +kernel)⟩
theorem lw_p84 : lw_okq (⟨"SecretsharesModel", "firstOf", "(I)I"⟩, 6) := ⟨⟨by decide +kernel, by decide +kernel⟩, List.mem_of_getElem? (i := 1032) (by decide +kernel), List.mem_of_getElem? (i := 1315) (by decide +kernel), List.mem_of_getElem? (i := 1316) (by decide +kernel)⟩
theorem lw_p85 : lw_okq (⟨"SecretsharesModel", "isNo", "(II)Z"⟩, 6) := ⟨⟨by decide +kernel, by decide +kernel⟩, List.mem_of_getElem? (i := 1032) (by decide +kernel), List.mem_of_getElem? (i := 1323) (by decide +kernel), List.mem_of_getElem? (i := 1324) (by decide +kernel)⟩
theorem lw_p86 : lw_okq (⟨"SecretsharesModel", "sealTold", "(II)I"⟩, 6) := ⟨⟨by decide +kernel, by decide +kernel⟩, List.mem_of_getElem? (i := 1032) (by decide +kernel), List.mem_of_getElem? (i := 1364) (by decide +kernel), List.mem_of_getElem? (i := 1365) (by decide +kernel)⟩
theorem lw_p87 : lw_okq (⟨"SecretsharesModel", "isFit", "(II)Z"⟩, 6) := ⟨⟨by decide +kernel, by decide +kernel⟩, List.mem_of_getElem? (i := 1032) (by decide +kernel), List.mem_of_getElem? (i := 1372) (by decide +kernel), List.mem_of_getElem? (i := 1373) (by decide +kernel)⟩
theorem lw_p88 : lw_okq (⟨"SecretsharesModel", "houseTold", "(I)I"⟩, 6) := ⟨⟨by decide +kernel, by decide +kernel⟩, List.mem_of_getElem? (i := 1032) (by decide +kernel), List.mem_of_getElem? (i := 1406) (by decide +kernel), List.mem_of_getElem? (i := 1407) (by decide +kernel)⟩
theorem lw_p89 : lw_okq (⟨"SecretsharesModel", "isWhole", "()Z"⟩, 6) := ⟨⟨by decide +kernel, by decide +kernel⟩, List.mem_of_getElem? (i := 1032) (by decide +kernel), List.mem_of_getElem? (i := 1414) (by decide +kernel), List.mem_of_getElem? (i := 1415) (by decide +kernel)⟩
theorem lw_p90 : lw_okq (⟨"SecretsharesModel", "isFirstSealed", "(I)Z"⟩, 6) := ⟨⟨by decide +kernel, by decide +kernel⟩, List.mem_of_getElem? (i := 1032) (by decide +kernel), List.mem_of_getElem? (i := 1418) (by decide +kernel), List.mem_of_getElem? (i := 1419) (by decide +kernel)⟩
def lw_privs_6 : List (MethodName × Nat) := [(⟨"SecretsharesModel", "isAgreed", "(II)Z"⟩, 6), (⟨"SecretsharesModel", "suspectsOf", "(I)I"⟩, 6), (⟨"SecretsharesModel", "shareOf", "(II)I"⟩, 6), (⟨"SecretsharesModel", "dealTold", "(II)I"⟩, 6), (⟨"SecretsharesModel", "firstOf", "(I)I"⟩, 6), (⟨"SecretsharesModel", "isNo", "(II)Z"⟩, 6), (⟨"SecretsharesModel", "sealTold", "(II)I"⟩, 6), (⟨"SecretsharesModel", "isFit", "(II)Z"⟩, 6), (⟨"SecretsharesModel", "houseTold", "(I)I"⟩, 6), (⟨"SecretsharesModel", "isWhole", "()Z"⟩, 6), (⟨"SecretsharesModel", "isFirstSealed", "(I)Z"⟩, 6)]
theorem lw_r6 : ∀ q ∈ lw_privs_6, lw_okq q := List.forall_mem_cons.mpr ⟨lw_p80, List.forall_mem_cons.mpr ⟨lw_p81, List.forall_mem_cons.mpr ⟨lw_p82, List.forall_mem_cons.mpr ⟨lw_p83, List.forall_mem_cons.mpr ⟨lw_p84, List.forall_mem_cons.mpr ⟨lw_p85, List.forall_mem_cons.mpr ⟨lw_p86, List.forall_mem_cons.mpr ⟨lw_p87, List.forall_mem_cons.mpr ⟨lw_p88, List.forall_mem_cons.mpr ⟨lw_p89, List.forall_mem_cons.mpr ⟨lw_p90, fun _ h => absurd h List.not_mem_nil⟩⟩⟩⟩⟩⟩⟩⟩⟩⟩⟩
def lw_privs : List (MethodName × Nat) := lw_privs_1 ++ (lw_privs_2 ++ (lw_privs_3 ++ (lw_privs_4 ++ (lw_privs_5 ++ (lw_privs_6)))))
def lw_tbl : List Cond := k2_sels lw_privs ++ tables_1
theorem lw_privs_ok : ∀ q ∈ lw_privs, lw_okq q := by
  show ∀ q ∈ lw_privs_1 ++ (lw_privs_2 ++ (lw_privs_3 ++ (lw_privs_4 ++ (lw_privs_5 ++ (lw_privs_6))))), lw_okq q
  exact List.forall_mem_append.mpr ⟨lw_r1, List.forall_mem_append.mpr ⟨lw_r2, List.forall_mem_append.mpr ⟨lw_r3, List.forall_mem_append.mpr ⟨lw_r4, List.forall_mem_append.mpr ⟨lw_r5, lw_r6⟩⟩⟩⟩⟩
-- ===== end of PART A; then your names; then what follows =====
def RX0 : String := "Secretshares$Deal"
def TX0 : u_T := fun k => match k with
  | 0 => ("Secretshares$Deal", "isFilled", "Z", false)
  | 1 => ("Secretshares$Deal", "degree", "I", false)
  | 2 => ("Secretshares$Deal", "sealCount", "I", false)
  | 3 => ("Secretshares$Deal", "shareRow", "[I", true)
  | _ => ("Secretshares$Deal", "sealRow", "[I", true)
def tyX0 : Nat → FieldType := fun k => match k with
  | 0 => .boolean
  | 1 => .int
  | 2 => .int
  | 3 => .array .int
  | _ => .array .int
abbrev wsX00 : List Cond := u_ws RX0 TX0 5
theorem nmX0 : ∀ a, a < 5 → ∀ b, b < 5 → a ≠ b → (TX0 a).2.1 ≠ (TX0 b).2.1 := by decide +kernel
theorem tyX0_ok : ∀ k, k < 5 → parseFieldDescriptor (TX0 k).2.2.1 = some (tyX0 k) := by decide +kernel
abbrev cX0_init : ByteArray := prog_2_method_1_code
def yX0_init : MethodName := ⟨RX0, "<init>", "()V"⟩
abbrev cX0_clear : ByteArray := prog_2_method_2_code
def yX0_clear : MethodName := ⟨RX0, "clear", "()V"⟩
abbrev cX0_start : ByteArray := prog_2_method_3_code
def yX0_start : MethodName := ⟨RX0, "start", "(I)V"⟩
abbrev cX0_take : ByteArray := prog_2_method_4_code
def yX0_take : MethodName := ⟨RX0, "take", "(LSecretshares$Deal;)V"⟩
abbrev cX0_isEmpty : ByteArray := prog_2_method_5_code
def yX0_isEmpty : MethodName := ⟨RX0, "isEmpty", "()Z"⟩
abbrev cX0_shareAt : ByteArray := prog_2_method_6_code
def yX0_shareAt : MethodName := ⟨RX0, "shareAt", "(I)I"⟩
abbrev cX0_hasShare : ByteArray := prog_2_method_7_code
def yX0_hasShare : MethodName := ⟨RX0, "hasShare", "(I)Z"⟩
abbrev cX0_setShare : ByteArray := prog_2_method_8_code
def yX0_setShare : MethodName := ⟨RX0, "setShare", "(II)V"⟩
abbrev cX0_holderSet : ByteArray := prog_2_method_9_code
def yX0_holderSet : MethodName := ⟨RX0, "holderSet", "()I"⟩
abbrev cX0_shareCount : ByteArray := prog_2_method_10_code
def yX0_shareCount : MethodName := ⟨RX0, "shareCount", "()I"⟩
abbrev cX0_firstSet : ByteArray := prog_2_method_11_code
def yX0_firstSet : MethodName := ⟨RX0, "firstSet", "()I"⟩
abbrev cX0_isThere : ByteArray := prog_2_method_12_code
def yX0_isThere : MethodName := ⟨RX0, "isThere", "(I)Z"⟩
abbrev cX0_isEnough : ByteArray := prog_2_method_13_code
def yX0_isEnough : MethodName := ⟨RX0, "isEnough", "(I)Z"⟩
abbrev cX0_hasSeals : ByteArray := prog_2_method_14_code
def yX0_hasSeals : MethodName := ⟨RX0, "hasSeals", "()Z"⟩
abbrev cX0_sealAt : ByteArray := prog_2_method_15_code
def yX0_sealAt : MethodName := ⟨RX0, "sealAt", "(I)I"⟩
abbrev cX0_setSeal : ByteArray := prog_2_method_16_code
def yX0_setSeal : MethodName := ⟨RX0, "setSeal", "(II)V"⟩
abbrev cX0_addSeal : ByteArray := prog_2_method_17_code
def yX0_addSeal : MethodName := ⟨RX0, "addSeal", "(I)V"⟩
def RX1 : String := "Secretshares$Field"
def TX1 : u_T := fun k => match k with
  | 0 => ("Secretshares$Field", "which", "I", false)
  | 1 => ("Secretshares$Field", "prime", "I", false)
  | 2 => ("Secretshares$Field", "great", "I", false)
  | 3 => ("Secretshares$Field", "base", "I", false)
  | _ => ("Secretshares$Field", "holders", "I", false)
def tyX1 : Nat → FieldType := fun k => match k with
  | 0 => .int
  | 1 => .int
  | 2 => .int
  | 3 => .int
  | _ => .int
abbrev wsX10 : List Cond := u_ws RX1 TX1 5
theorem nmX1 : ∀ a, a < 5 → ∀ b, b < 5 → a ≠ b → (TX1 a).2.1 ≠ (TX1 b).2.1 := by decide +kernel
theorem tyX1_ok : ∀ k, k < 5 → parseFieldDescriptor (TX1 k).2.2.1 = some (tyX1 k) := by decide +kernel
abbrev cX1_init : ByteArray := prog_3_method_1_code
def yX1_init : MethodName := ⟨RX1, "<init>", "()V"⟩
abbrev cX1_choose : ByteArray := prog_3_method_2_code
def yX1_choose : MethodName := ⟨RX1, "choose", "(I)V"⟩
abbrev cX1_raise : ByteArray := prog_3_method_3_code
def yX1_raise : MethodName := ⟨RX1, "raise", "(IJI)I"⟩
abbrev cX1_modPrime : ByteArray := prog_3_method_4_code
def yX1_modPrime : MethodName := ⟨RX1, "modPrime", "(J)I"⟩
abbrev cX1_inverse : ByteArray := prog_3_method_5_code
def yX1_inverse : MethodName := ⟨RX1, "inverse", "(I)I"⟩
abbrev cX1_inverseSeal : ByteArray := prog_3_method_6_code
def yX1_inverseSeal : MethodName := ⟨RX1, "inverseSeal", "(I)I"⟩
abbrev cX1_sealProduct : ByteArray := prog_3_method_7_code
def yX1_sealProduct : MethodName := ⟨RX1, "sealProduct", "(II)I"⟩
abbrev cX1_sealFor : ByteArray := prog_3_method_8_code
def yX1_sealFor : MethodName := ⟨RX1, "sealFor", "(I)I"⟩
abbrev cX1_weightAt : ByteArray := prog_3_method_9_code
def yX1_weightAt : MethodName := ⟨RX1, "weightAt", "(III)I"⟩
def RX2 : String := "Secretshares$Poly"
def TX2 : u_T := fun k => match k with
  | 0 => ("Secretshares$Poly", "row", "[I", true)
  | _ => ("Secretshares$Poly", "term", "[I", true)
def tyX2 : Nat → FieldType := fun k => match k with
  | 0 => .array .int
  | _ => .array .int
abbrev wsX20 : List Cond := u_ws RX2 TX2 2
theorem nmX2 : ∀ a, a < 2 → ∀ b, b < 2 → a ≠ b → (TX2 a).2.1 ≠ (TX2 b).2.1 := by decide +kernel
theorem tyX2_ok : ∀ k, k < 2 → parseFieldDescriptor (TX2 k).2.2.1 = some (tyX2 k) := by decide +kernel
abbrev cX2_init : ByteArray := prog_4_method_1_code
def yX2_init : MethodName := ⟨RX2, "<init>", "()V"⟩
abbrev cX2_clear : ByteArray := prog_4_method_2_code
def yX2_clear : MethodName := ⟨RX2, "clear", "()V"⟩
abbrev cX2_at : ByteArray := prog_4_method_3_code
def yX2_at : MethodName := ⟨RX2, "at", "(I)I"⟩
abbrev cX2_addTo : ByteArray := prog_4_method_4_code
def yX2_addTo : MethodName := ⟨RX2, "addTo", "(LSecretshares$Field;III)V"⟩
abbrev cX2_become : ByteArray := prog_4_method_5_code
def yX2_become : MethodName := ⟨RX2, "become", "(LSecretshares$Field;IIIII)V"⟩
abbrev cX2_valueAt : ByteArray := prog_4_method_6_code
def yX2_valueAt : MethodName := ⟨RX2, "valueAt", "(LSecretshares$Field;I)I"⟩
abbrev cX2_highest : ByteArray := prog_4_method_7_code
def yX2_highest : MethodName := ⟨RX2, "highest", "()I"⟩
abbrev cX2_goThrough : ByteArray := prog_4_method_8_code
def yX2_goThrough : MethodName := ⟨RX2, "goThrough", "(LSecretshares$Field;LSecretshares$Deal;I)V"⟩
abbrev cX2_makeTerm : ByteArray := prog_4_method_9_code
def yX2_makeTerm : MethodName := ⟨RX2, "makeTerm", "(LSecretshares$Field;II)I"⟩
abbrev cX2_addTerm : ByteArray := prog_4_method_10_code
def yX2_addTerm : MethodName := ⟨RX2, "addTerm", "(LSecretshares$Field;I)V"⟩
def RX3 : String := "Secretshares"
def TX3 : u_T := fun k => match k with
  | 0 => ("Secretshares", "field", "LSecretshares$Field;", true)
  | 1 => ("Secretshares", "poly", "LSecretshares$Poly;", true)
  | 2 => ("Secretshares", "deals", "[LSecretshares$Deal;", true)
  | 3 => ("Secretshares", "spare", "LSecretshares$Deal;", true)
  | _ => ("Secretshares", "knocks", "I", false)
def tyX3 : Nat → FieldType := fun k => match k with
  | 0 => .object "Secretshares$Field"
  | 1 => .object "Secretshares$Poly"
  | 2 => .array (.object "Secretshares$Deal")
  | 3 => .object "Secretshares$Deal"
  | _ => .int
abbrev wsX30 : List Cond := u_ws RX3 TX3 5
theorem nmX3 : ∀ a, a < 5 → ∀ b, b < 5 → a ≠ b → (TX3 a).2.1 ≠ (TX3 b).2.1 := by decide +kernel
theorem tyX3_ok : ∀ k, k < 5 → parseFieldDescriptor (TX3 k).2.2.1 = some (tyX3 k) := by decide +kernel
abbrev cX3_init : ByteArray := prog_1_method_1_code
def yX3_init : MethodName := ⟨RX3, "<init>", "()V"⟩
abbrev cX3_prime : ByteArray := prog_1_method_2_code
def yX3_prime : MethodName := ⟨RX3, "prime", "(I)I"⟩
abbrev cX3_rest : ByteArray := prog_1_method_3_code
def yX3_rest : MethodName := ⟨RX3, "rest", "(I)I"⟩
abbrev cX3_reckon : ByteArray := prog_1_method_4_code
def yX3_reckon : MethodName := ⟨RX3, "reckon", "(III)I"⟩
abbrev cX3_reciprocal : ByteArray := prog_1_method_5_code
def yX3_reciprocal : MethodName := ⟨RX3, "reciprocal", "(I)I"⟩
abbrev cX3_power : ByteArray := prog_1_method_6_code
def yX3_power : MethodName := ⟨RX3, "power", "(II)I"⟩
abbrev cX3_sealOf : ByteArray := prog_1_method_7_code
def yX3_sealOf : MethodName := ⟨RX3, "sealOf", "(I)I"⟩
abbrev cX3_weight : ByteArray := prog_1_method_8_code
def yX3_weight : MethodName := ⟨RX3, "weight", "(III)I"⟩
abbrev cX3_weights : ByteArray := prog_1_method_9_code
def yX3_weights : MethodName := ⟨RX3, "weights", "(II)I"⟩
abbrev cX3_hide : ByteArray := prog_1_method_10_code
def yX3_hide : MethodName := ⟨RX3, "hide", "(IIIIII)I"⟩
abbrev cX3_pour : ByteArray := prog_1_method_11_code
def yX3_pour : MethodName := ⟨RX3, "pour", "(IIIII)I"⟩
abbrev cX3_plus : ByteArray := prog_1_method_12_code
def yX3_plus : MethodName := ⟨RX3, "plus", "(III)I"⟩
abbrev cX3_less : ByteArray := prog_1_method_13_code
def yX3_less : MethodName := ⟨RX3, "less", "(III)I"⟩
abbrev cX3_times : ByteArray := prog_1_method_14_code
def yX3_times : MethodName := ⟨RX3, "times", "(III)I"⟩
abbrev cX3_scale : ByteArray := prog_1_method_15_code
def yX3_scale : MethodName := ⟨RX3, "scale", "(III)I"⟩
abbrev cX3_handOn : ByteArray := prog_1_method_16_code
def yX3_handOn : MethodName := ⟨RX3, "handOn", "(IIIIII)I"⟩
abbrev cX3_lose : ByteArray := prog_1_method_17_code
def yX3_lose : MethodName := ⟨RX3, "lose", "(II)I"⟩
abbrev cX3_give : ByteArray := prog_1_method_18_code
def yX3_give : MethodName := ⟨RX3, "give", "(III)I"⟩
abbrev cX3_regain : ByteArray := prog_1_method_19_code
def yX3_regain : MethodName := ⟨RX3, "regain", "(III)I"⟩
abbrev cX3_mend : ByteArray := prog_1_method_20_code
def yX3_mend : MethodName := ⟨RX3, "mend", "(I)I"⟩
abbrev cX3_copy : ByteArray := prog_1_method_21_code
def yX3_copy : MethodName := ⟨RX3, "copy", "(II)I"⟩
abbrev cX3_drop : ByteArray := prog_1_method_22_code
def yX3_drop : MethodName := ⟨RX3, "drop", "(I)I"⟩
abbrev cX3_knock : ByteArray := prog_1_method_23_code
def yX3_knock : MethodName := ⟨RX3, "knock", "()I"⟩
abbrev cX3_share : ByteArray := prog_1_method_24_code
def yX3_share : MethodName := ⟨RX3, "share", "(II)I"⟩
abbrev cX3_ofDeal : ByteArray := prog_1_method_25_code
def yX3_ofDeal : MethodName := ⟨RX3, "ofDeal", "(II)I"⟩
abbrev cX3_told : ByteArray := prog_1_method_26_code
def yX3_told : MethodName := ⟨RX3, "told", "(III)I"⟩
abbrev cX3_open : ByteArray := prog_1_method_27_code
def yX3_open : MethodName := ⟨RX3, "open", "(II)I"⟩
abbrev cX3_coefficient : ByteArray := prog_1_method_28_code
def yX3_coefficient : MethodName := ⟨RX3, "coefficient", "(III)I"⟩
abbrev cX3_degreeBy : ByteArray := prog_1_method_29_code
def yX3_degreeBy : MethodName := ⟨RX3, "degreeBy", "(II)I"⟩
abbrev cX3_agrees : ByteArray := prog_1_method_30_code
def yX3_agrees : MethodName := ⟨RX3, "agrees", "(II)I"⟩
abbrev cX3_suspects : ByteArray := prog_1_method_31_code
def yX3_suspects : MethodName := ⟨RX3, "suspects", "(I)I"⟩
abbrev cX3_wrong : ByteArray := prog_1_method_32_code
def yX3_wrong : MethodName := ⟨RX3, "wrong", "(I)I"⟩
abbrev cX3_ways : ByteArray := prog_1_method_33_code
def yX3_ways : MethodName := ⟨RX3, "ways", "(III)I"⟩
abbrev cX3_total : ByteArray := prog_1_method_34_code
def yX3_total : MethodName := ⟨RX3, "total", "(II)I"⟩
abbrev cX3_seal : ByteArray := prog_1_method_35_code
def yX3_seal : MethodName := ⟨RX3, "seal", "(II)I"⟩
abbrev cX3_fits : ByteArray := prog_1_method_36_code
def yX3_fits : MethodName := ⟨RX3, "fits", "(II)I"⟩
abbrev cX3_order : ByteArray := prog_1_method_37_code
def yX3_order : MethodName := ⟨RX3, "order", "(III)I"⟩
abbrev cX3_most : ByteArray := prog_1_method_38_code
def yX3_most : MethodName := ⟨RX3, "most", "(IZ)I"⟩
abbrev cX3_text : ByteArray := prog_1_method_39_code
def yX3_text : MethodName := ⟨RX3, "text", "(I)Ljava/lang/String;"⟩
abbrev cX3_seals : ByteArray := prog_1_method_40_code
def yX3_seals : MethodName := ⟨RX3, "seals", "(I)Ljava/lang/String;"⟩
abbrev cX3_isSame : ByteArray := prog_1_method_41_code
def yX3_isSame : MethodName := ⟨RX3, "isSame", "(II)Z"⟩
abbrev cX3_house : ByteArray := prog_1_method_42_code
def yX3_house : MethodName := ⟨RX3, "house", "(I)I"⟩
abbrev cX3_isSound : ByteArray := prog_1_method_43_code
def yX3_isSound : MethodName := ⟨RX3, "isSound", "()Z"⟩
abbrev cX3_digest : ByteArray := prog_1_method_44_code
def yX3_digest : MethodName := ⟨RX3, "digest", "()J"⟩
abbrev cX3_dealAt : ByteArray := prog_1_method_45_code
def yX3_dealAt : MethodName := ⟨RX3, "dealAt", "(I)LSecretshares$Deal;"⟩
abbrev cX3_requireHolder : ByteArray := prog_1_method_46_code
def yX3_requireHolder : MethodName := ⟨RX3, "requireHolder", "(I)V"⟩
abbrev cX3_requireSet : ByteArray := prog_1_method_47_code
def yX3_requireSet : MethodName := ⟨RX3, "requireSet", "(I)V"⟩
abbrev cX3_requireToldDegree : ByteArray := prog_1_method_48_code
def yX3_requireToldDegree : MethodName := ⟨RX3, "requireToldDegree", "(I)V"⟩
abbrev cX3_requireCoefficient : ByteArray := prog_1_method_49_code
def yX3_requireCoefficient : MethodName := ⟨RX3, "requireCoefficient", "(I)V"⟩
abbrev cX3_bitOf : ByteArray := prog_1_method_50_code
def yX3_bitOf : MethodName := ⟨RX3, "bitOf", "(I)I"⟩
abbrev cX3_isIn : ByteArray := prog_1_method_51_code
def yX3_isIn : MethodName := ⟨RX3, "isIn", "(II)Z"⟩
abbrev cX3_allHolders : ByteArray := prog_1_method_52_code
def yX3_allHolders : MethodName := ⟨RX3, "allHolders", "()I"⟩
abbrev cX3_quotient : ByteArray := prog_1_method_53_code
def yX3_quotient : MethodName := ⟨RX3, "quotient", "(II)I"⟩
abbrev cX3_weightSum : ByteArray := prog_1_method_54_code
def yX3_weightSum : MethodName := ⟨RX3, "weightSum", "(II)I"⟩
abbrev cX3_tell : ByteArray := prog_1_method_55_code
def yX3_tell : MethodName := ⟨RX3, "tell", "(LSecretshares$Deal;II)I"⟩
abbrev cX3_layPoly : ByteArray := prog_1_method_56_code
def yX3_layPoly : MethodName := ⟨RX3, "layPoly", "(LSecretshares$Deal;I)I"⟩
abbrev cX3_laySpare : ByteArray := prog_1_method_57_code
def yX3_laySpare : MethodName := ⟨RX3, "laySpare", "(LSecretshares$Deal;)I"⟩
abbrev cX3_addUp : ByteArray := prog_1_method_58_code
def yX3_addUp : MethodName := ⟨RX3, "addUp", "(LSecretshares$Deal;LSecretshares$Deal;LSecretshares$Deal;Z)I"⟩
abbrev cX3_addUpSeals : ByteArray := prog_1_method_59_code
def yX3_addUpSeals : MethodName := ⟨RX3, "addUpSeals", "(LSecretshares$Deal;LSecretshares$Deal;Z)V"⟩
abbrev cX3_isInLine : ByteArray := prog_1_method_60_code
def yX3_isInLine : MethodName := ⟨RX3, "isInLine", "(LSecretshares$Deal;I)Z"⟩
abbrev cX3_suspectSet : ByteArray := prog_1_method_61_code
def yX3_suspectSet : MethodName := ⟨RX3, "suspectSet", "(LSecretshares$Deal;)I"⟩
abbrev cX3_wrongHolder : ByteArray := prog_1_method_62_code
def yX3_wrongHolder : MethodName := ⟨RX3, "wrongHolder", "(LSecretshares$Deal;)I"⟩
abbrev cX3_polysBeyond : ByteArray := prog_1_method_63_code
def yX3_polysBeyond : MethodName := ⟨RX3, "polysBeyond", "(I)I"⟩
abbrev cX3_doesFit : ByteArray := prog_1_method_64_code
def yX3_doesFit : MethodName := ⟨RX3, "doesFit", "(LSecretshares$Deal;I)Z"⟩
abbrev cX3_filledDeals : ByteArray := prog_1_method_65_code
def yX3_filledDeals : MethodName := ⟨RX3, "filledDeals", "()I"⟩
abbrev cX3_areSharesSound : ByteArray := prog_1_method_66_code
def yX3_areSharesSound : MethodName := ⟨RX3, "areSharesSound", "(LSecretshares$Deal;)Z"⟩
abbrev cX3_areSealsSound : ByteArray := prog_1_method_67_code
def yX3_areSealsSound : MethodName := ⟨RX3, "areSealsSound", "(LSecretshares$Deal;)Z"⟩
abbrev cX3_isFirstSealSound : ByteArray := prog_1_method_68_code
def yX3_isFirstSealSound : MethodName := ⟨RX3, "isFirstSealSound", "()Z"⟩
abbrev cX3_doAllFit : ByteArray := prog_1_method_69_code
def yX3_doAllFit : MethodName := ⟨RX3, "doAllFit", "(LSecretshares$Deal;I)Z"⟩
def RX4 : String := "SecretsharesLaw$Out"
def TX4 : u_T := fun k => match k with
  | 0 => ("SecretsharesLaw$Out", "n", "J", false)
  | _ => ("SecretsharesLaw$Out", "s", "Ljava/lang/String;", false)
def tyX4 : Nat → FieldType := fun k => match k with
  | 0 => .long
  | _ => .object "java/lang/String"
abbrev wsX40 : List Cond := u_ws RX4 TX4 2
theorem nmX4 : ∀ a, a < 2 → ∀ b, b < 2 → a ≠ b → (TX4 a).2.1 ≠ (TX4 b).2.1 := by decide +kernel
theorem tyX4_ok : ∀ k, k < 2 → parseFieldDescriptor (TX4 k).2.2.1 = some (tyX4 k) := by decide +kernel
abbrev cX4_init : ByteArray := prog_6_method_1_code
def yX4_init : MethodName := ⟨RX4, "<init>", "()V"⟩
def RX5 : String := "SecretsharesModel"
def TX5 : u_T := fun k => match k with
  | 0 => ("SecretsharesModel", "thrown", "I", false)
  | 1 => ("SecretsharesModel", "which", "I", false)
  | 2 => ("SecretsharesModel", "knocks", "I", false)
  | 3 => ("SecretsharesModel", "degrees", "[I", true)
  | 4 => ("SecretsharesModel", "shares", "[[I", true)
  | _ => ("SecretsharesModel", "powers", "[[I", true)
def tyX5 : Nat → FieldType := fun k => match k with
  | 0 => .int
  | 1 => .int
  | 2 => .int
  | 3 => .array .int
  | 4 => .array (.array .int)
  | _ => .array (.array .int)
abbrev wsX50 : List Cond := u_ws RX5 TX5 6
theorem nmX5 : ∀ a, a < 6 → ∀ b, b < 6 → a ≠ b → (TX5 a).2.1 ≠ (TX5 b).2.1 := by decide +kernel
theorem tyX5_ok : ∀ k, k < 6 → parseFieldDescriptor (TX5 k).2.2.1 = some (tyX5 k) := by decide +kernel
abbrev cX5_init : ByteArray := prog_7_method_1_code
def yX5_init : MethodName := ⟨RX5, "<init>", "()V"⟩
abbrev cX5_thrown : ByteArray := prog_7_method_2_code
def yX5_thrown : MethodName := ⟨RX5, "thrown", "()I"⟩
abbrev cX5_isIn : ByteArray := prog_7_method_3_code
def yX5_isIn : MethodName := ⟨RX5, "isIn", "(III)Z"⟩
abbrev cX5_one : ByteArray := prog_7_method_4_code
def yX5_one : MethodName := ⟨RX5, "one", "(Z)I"⟩
abbrev cX5_refuse : ByteArray := prog_7_method_5_code
def yX5_refuse : MethodName := ⟨RX5, "refuse", "(ZI)Z"⟩
abbrev cX5_start : ByteArray := prog_7_method_6_code
def yX5_start : MethodName := ⟨RX5, "start", "(ZI)Z"⟩
abbrev cX5_p : ByteArray := prog_7_method_7_code
def yX5_p : MethodName := ⟨RX5, "p", "()I"⟩
abbrev cX5_q : ByteArray := prog_7_method_8_code
def yX5_q : MethodName := ⟨RX5, "q", "()I"⟩
abbrev cX5_holders : ByteArray := prog_7_method_9_code
def yX5_holders : MethodName := ⟨RX5, "holders", "()I"⟩
abbrev cX5_isNoDeal : ByteArray := prog_7_method_10_code
def yX5_isNoDeal : MethodName := ⟨RX5, "isNoDeal", "(I)Z"⟩
abbrev cX5_isNoHolder : ByteArray := prog_7_method_11_code
def yX5_isNoHolder : MethodName := ⟨RX5, "isNoHolder", "(I)Z"⟩
abbrev cX5_isNoSet : ByteArray := prog_7_method_12_code
def yX5_isNoSet : MethodName := ⟨RX5, "isNoSet", "(I)Z"⟩
abbrev cX5_has : ByteArray := prog_7_method_13_code
def yX5_has : MethodName := ⟨RX5, "has", "(II)Z"⟩
abbrev cX5_many : ByteArray := prog_7_method_14_code
def yX5_many : MethodName := ⟨RX5, "many", "(I)I"⟩
abbrev cX5_mod : ByteArray := prog_7_method_15_code
def yX5_mod : MethodName := ⟨RX5, "mod", "(J)I"⟩
abbrev cX5_inverse : ByteArray := prog_7_method_16_code
def yX5_inverse : MethodName := ⟨RX5, "inverse", "(I)I"⟩
abbrev cX5_raised : ByteArray := prog_7_method_17_code
def yX5_raised : MethodName := ⟨RX5, "raised", "(III)I"⟩
abbrev cX5_sealBy : ByteArray := prog_7_method_18_code
def yX5_sealBy : MethodName := ⟨RX5, "sealBy", "(I)I"⟩
abbrev cX5_prime : ByteArray := prog_7_method_19_code
def yX5_prime : MethodName := ⟨RX5, "prime", "(I)I"⟩
abbrev cX5_rest : ByteArray := prog_7_method_20_code
def yX5_rest : MethodName := ⟨RX5, "rest", "(I)I"⟩
abbrev cX5_reckon : ByteArray := prog_7_method_21_code
def yX5_reckon : MethodName := ⟨RX5, "reckon", "(III)I"⟩
abbrev cX5_reciprocal : ByteArray := prog_7_method_22_code
def yX5_reciprocal : MethodName := ⟨RX5, "reciprocal", "(I)I"⟩
abbrev cX5_power : ByteArray := prog_7_method_23_code
def yX5_power : MethodName := ⟨RX5, "power", "(II)I"⟩
abbrev cX5_sealOf : ByteArray := prog_7_method_24_code
def yX5_sealOf : MethodName := ⟨RX5, "sealOf", "(I)I"⟩
abbrev cX5_value : ByteArray := prog_7_method_25_code
def yX5_value : MethodName := ⟨RX5, "value", "([II)I"⟩
abbrev cX5_through : ByteArray := prog_7_method_26_code
def yX5_through : MethodName := ⟨RX5, "through", "([II)[I"⟩
abbrev cX5_at : ByteArray := prog_7_method_27_code
def yX5_at : MethodName := ⟨RX5, "at", "([III)I"⟩
abbrev cX5_degreeOf : ByteArray := prog_7_method_28_code
def yX5_degreeOf : MethodName := ⟨RX5, "degreeOf", "([I)I"⟩
abbrev cX5_poly : ByteArray := prog_7_method_29_code
def yX5_poly : MethodName := ⟨RX5, "poly", "(IIIII)[I"⟩
abbrev cX5_values : ByteArray := prog_7_method_30_code
def yX5_values : MethodName := ⟨RX5, "values", "([I)[I"⟩
abbrev cX5_weight : ByteArray := prog_7_method_31_code
def yX5_weight : MethodName := ⟨RX5, "weight", "(III)I"⟩
abbrev cX5_weightsAt : ByteArray := prog_7_method_32_code
def yX5_weightsAt : MethodName := ⟨RX5, "weightsAt", "(II)I"⟩
abbrev cX5_weights : ByteArray := prog_7_method_33_code
def yX5_weights : MethodName := ⟨RX5, "weights", "(II)I"⟩
abbrev cX5_isEmpty : ByteArray := prog_7_method_34_code
def yX5_isEmpty : MethodName := ⟨RX5, "isEmpty", "(I)Z"⟩
abbrev cX5_empty : ByteArray := prog_7_method_35_code
def yX5_empty : MethodName := ⟨RX5, "empty", "(I)V"⟩
abbrev cX5_setOf : ByteArray := prog_7_method_36_code
def yX5_setOf : MethodName := ⟨RX5, "setOf", "(I)I"⟩
abbrev cX5_lay : ByteArray := prog_7_method_37_code
def yX5_lay : MethodName := ⟨RX5, "lay", "(II[I[I)I"⟩
abbrev cX5_isThere : ByteArray := prog_7_method_38_code
def yX5_isThere : MethodName := ⟨RX5, "isThere", "(II)Z"⟩
abbrev cX5_isEnough : ByteArray := prog_7_method_39_code
def yX5_isEnough : MethodName := ⟨RX5, "isEnough", "(II)Z"⟩
abbrev cX5_isAgreed : ByteArray := prog_7_method_40_code
def yX5_isAgreed : MethodName := ⟨RX5, "isAgreed", "(II)Z"⟩
abbrev cX5_hide : ByteArray := prog_7_method_41_code
def yX5_hide : MethodName := ⟨RX5, "hide", "(IIIIII)I"⟩
abbrev cX5_pour : ByteArray := prog_7_method_42_code
def yX5_pour : MethodName := ⟨RX5, "pour", "(IIIII)I"⟩
abbrev cX5_areNoDeals : ByteArray := prog_7_method_43_code
def yX5_areNoDeals : MethodName := ⟨RX5, "areNoDeals", "(III)Z"⟩
abbrev cX5_of : ByteArray := prog_7_method_44_code
def yX5_of : MethodName := ⟨RX5, "of", "([II)I"⟩
abbrev cX5_joined : ByteArray := prog_7_method_45_code
def yX5_joined : MethodName := ⟨RX5, "joined", "(IIII)I"⟩
abbrev cX5_plus : ByteArray := prog_7_method_46_code
def yX5_plus : MethodName := ⟨RX5, "plus", "(III)I"⟩
abbrev cX5_less : ByteArray := prog_7_method_47_code
def yX5_less : MethodName := ⟨RX5, "less", "(III)I"⟩
abbrev cX5_times : ByteArray := prog_7_method_48_code
def yX5_times : MethodName := ⟨RX5, "times", "(III)I"⟩
abbrev cX5_scale : ByteArray := prog_7_method_49_code
def yX5_scale : MethodName := ⟨RX5, "scale", "(III)I"⟩
abbrev cX5_handOn : ByteArray := prog_7_method_50_code
def yX5_handOn : MethodName := ⟨RX5, "handOn", "(IIIIII)I"⟩
abbrev cX5_put : ByteArray := prog_7_method_51_code
def yX5_put : MethodName := ⟨RX5, "put", "(III)V"⟩
abbrev cX5_lose : ByteArray := prog_7_method_52_code
def yX5_lose : MethodName := ⟨RX5, "lose", "(II)I"⟩
abbrev cX5_give : ByteArray := prog_7_method_53_code
def yX5_give : MethodName := ⟨RX5, "give", "(III)I"⟩
abbrev cX5_regain : ByteArray := prog_7_method_54_code
def yX5_regain : MethodName := ⟨RX5, "regain", "(III)I"⟩
abbrev cX5_suspectsOf : ByteArray := prog_7_method_55_code
def yX5_suspectsOf : MethodName := ⟨RX5, "suspectsOf", "(I)I"⟩
abbrev cX5_wrongOf : ByteArray := prog_7_method_56_code
def yX5_wrongOf : MethodName := ⟨RX5, "wrongOf", "(I)I"⟩
abbrev cX5_mend : ByteArray := prog_7_method_57_code
def yX5_mend : MethodName := ⟨RX5, "mend", "(I)I"⟩
abbrev cX5_copy : ByteArray := prog_7_method_58_code
def yX5_copy : MethodName := ⟨RX5, "copy", "(II)I"⟩
abbrev cX5_drop : ByteArray := prog_7_method_59_code
def yX5_drop : MethodName := ⟨RX5, "drop", "(I)I"⟩
abbrev cX5_knock : ByteArray := prog_7_method_60_code
def yX5_knock : MethodName := ⟨RX5, "knock", "()I"⟩
abbrev cX5_shareOf : ByteArray := prog_7_method_61_code
def yX5_shareOf : MethodName := ⟨RX5, "shareOf", "(II)I"⟩
abbrev cX5_share : ByteArray := prog_7_method_62_code
def yX5_share : MethodName := ⟨RX5, "share", "(II)I"⟩
abbrev cX5_firstOf : ByteArray := prog_7_method_63_code
def yX5_firstOf : MethodName := ⟨RX5, "firstOf", "(I)I"⟩
abbrev cX5_dealTold : ByteArray := prog_7_method_64_code
def yX5_dealTold : MethodName := ⟨RX5, "dealTold", "(II)I"⟩
abbrev cX5_ofDeal : ByteArray := prog_7_method_65_code
def yX5_ofDeal : MethodName := ⟨RX5, "ofDeal", "(II)I"⟩
abbrev cX5_isNo : ByteArray := prog_7_method_66_code
def yX5_isNo : MethodName := ⟨RX5, "isNo", "(II)Z"⟩
abbrev cX5_told : ByteArray := prog_7_method_67_code
def yX5_told : MethodName := ⟨RX5, "told", "(III)I"⟩
abbrev cX5_open : ByteArray := prog_7_method_68_code
def yX5_open : MethodName := ⟨RX5, "open", "(II)I"⟩
abbrev cX5_coefficient : ByteArray := prog_7_method_69_code
def yX5_coefficient : MethodName := ⟨RX5, "coefficient", "(III)I"⟩
abbrev cX5_degreeBy : ByteArray := prog_7_method_70_code
def yX5_degreeBy : MethodName := ⟨RX5, "degreeBy", "(II)I"⟩
abbrev cX5_agrees : ByteArray := prog_7_method_71_code
def yX5_agrees : MethodName := ⟨RX5, "agrees", "(II)I"⟩
abbrev cX5_suspects : ByteArray := prog_7_method_72_code
def yX5_suspects : MethodName := ⟨RX5, "suspects", "(I)I"⟩
abbrev cX5_wrong : ByteArray := prog_7_method_73_code
def yX5_wrong : MethodName := ⟨RX5, "wrong", "(I)I"⟩
abbrev cX5_ways : ByteArray := prog_7_method_74_code
def yX5_ways : MethodName := ⟨RX5, "ways", "(III)I"⟩
abbrev cX5_total : ByteArray := prog_7_method_75_code
def yX5_total : MethodName := ⟨RX5, "total", "(II)I"⟩
abbrev cX5_sealTold : ByteArray := prog_7_method_76_code
def yX5_sealTold : MethodName := ⟨RX5, "sealTold", "(II)I"⟩
abbrev cX5_seal : ByteArray := prog_7_method_77_code
def yX5_seal : MethodName := ⟨RX5, "seal", "(II)I"⟩
abbrev cX5_isFit : ByteArray := prog_7_method_78_code
def yX5_isFit : MethodName := ⟨RX5, "isFit", "(II)Z"⟩
abbrev cX5_fits : ByteArray := prog_7_method_79_code
def yX5_fits : MethodName := ⟨RX5, "fits", "(II)I"⟩
abbrev cX5_order : ByteArray := prog_7_method_80_code
def yX5_order : MethodName := ⟨RX5, "order", "(III)I"⟩
abbrev cX5_most : ByteArray := prog_7_method_81_code
def yX5_most : MethodName := ⟨RX5, "most", "(IZ)I"⟩
abbrev cX5_text : ByteArray := prog_7_method_82_code
def yX5_text : MethodName := ⟨RX5, "text", "(I)Ljava/lang/String;"⟩
abbrev cX5_seals : ByteArray := prog_7_method_83_code
def yX5_seals : MethodName := ⟨RX5, "seals", "(I)Ljava/lang/String;"⟩
abbrev cX5_isSame : ByteArray := prog_7_method_84_code
def yX5_isSame : MethodName := ⟨RX5, "isSame", "(II)Z"⟩
abbrev cX5_houseTold : ByteArray := prog_7_method_85_code
def yX5_houseTold : MethodName := ⟨RX5, "houseTold", "(I)I"⟩
abbrev cX5_house : ByteArray := prog_7_method_86_code
def yX5_house : MethodName := ⟨RX5, "house", "(I)I"⟩
abbrev cX5_isFirstSealed : ByteArray := prog_7_method_87_code
def yX5_isFirstSealed : MethodName := ⟨RX5, "isFirstSealed", "(I)Z"⟩
abbrev cX5_isWhole : ByteArray := prog_7_method_88_code
def yX5_isWhole : MethodName := ⟨RX5, "isWhole", "()Z"⟩
abbrev cX5_isSound : ByteArray := prog_7_method_89_code
def yX5_isSound : MethodName := ⟨RX5, "isSound", "()Z"⟩
abbrev cX5_add : ByteArray := prog_7_method_90_code
def yX5_add : MethodName := ⟨RX5, "add", "(JJ)J"⟩
abbrev cX5_digest : ByteArray := prog_7_method_91_code
def yX5_digest : MethodName := ⟨RX5, "digest", "()J"⟩
def RJ5 : String := "java/lang/AbstractStringBuilder"
abbrev cJ5_init_d00df : ByteArray := prog_8_method_2_code
def yJ5_init_d00df : MethodName := ⟨RJ5, "<init>", "(I)V"⟩
abbrev cJ5_length_8abf5 : ByteArray := prog_8_method_6_code
def yJ5_length_8abf5 : MethodName := ⟨RJ5, "length", "()I"⟩
abbrev cJ5_ensureCapacityInternal_d00df : ByteArray := prog_8_method_9_code
def yJ5_ensureCapacityInternal_d00df : MethodName := ⟨RJ5, "ensureCapacityInternal", "(I)V"⟩
abbrev cJ5_newCapacity_0f7a4 : ByteArray := prog_8_method_10_code
def yJ5_newCapacity_0f7a4 : MethodName := ⟨RJ5, "newCapacity", "(I)I"⟩
abbrev cJ5_inflate_da8c8 : ByteArray := prog_8_method_11_code
def yJ5_inflate_da8c8 : MethodName := ⟨RJ5, "inflate", "()V"⟩
abbrev cJ5_append_cf1ce : ByteArray := prog_8_method_22_code
def yJ5_append_cf1ce : MethodName := ⟨RJ5, "append", "(Ljava/lang/String;)Ljava/lang/AbstractStringBuilder;"⟩
abbrev cJ5_appendNull_278bc : ByteArray := prog_8_method_26_code
def yJ5_appendNull_278bc : MethodName := ⟨RJ5, "appendNull", "()Ljava/lang/AbstractStringBuilder;"⟩
abbrev cJ5_append_3fe6f : ByteArray := prog_8_method_31_code
def yJ5_append_3fe6f : MethodName := ⟨RJ5, "append", "(C)Ljava/lang/AbstractStringBuilder;"⟩
abbrev cJ5_append_c97b9 : ByteArray := prog_8_method_32_code
def yJ5_append_c97b9 : MethodName := ⟨RJ5, "append", "(I)Ljava/lang/AbstractStringBuilder;"⟩
abbrev cJ5_getValue_6d5f1 : ByteArray := prog_8_method_64_code
def yJ5_getValue_6d5f1 : MethodName := ⟨RJ5, "getValue", "()[B"⟩
abbrev cJ5_isLatin1_aae02 : ByteArray := prog_8_method_68_code
def yJ5_isLatin1_aae02 : MethodName := ⟨RJ5, "isLatin1", "()Z"⟩
abbrev cJ5_inflateIfNeededFor_a7421 : ByteArray := prog_8_method_71_code
def yJ5_inflateIfNeededFor_a7421 : MethodName := ⟨RJ5, "inflateIfNeededFor", "(Ljava/lang/String;)V"⟩
abbrev cJ5_putStringAt_47b60 : ByteArray := prog_8_method_73_code
def yJ5_putStringAt_47b60 : MethodName := ⟨RJ5, "putStringAt", "(ILjava/lang/String;)V"⟩
def RJx8e188 : String := "java/lang/Cloneable"
def RJ6 : String := "java/lang/Integer"
abbrev cJ6_getChars_ba4f3 : ByteArray := prog_13_method_12_code
def yJ6_getChars_ba4f3 : MethodName := ⟨RJ6, "getChars", "(II[B)I"⟩
abbrev cJ6_stringSize_0f7a4 : ByteArray := prog_13_method_13_code
def yJ6_stringSize_0f7a4 : MethodName := ⟨RJ6, "stringSize", "(I)I"⟩
abbrev cJ6_bitCount_0f7a4 : ByteArray := prog_13_method_49_code
def yJ6_bitCount_0f7a4 : MethodName := ⟨RJ6, "bitCount", "(I)I"⟩
def RJ9 : String := "java/lang/Math"
abbrev cJ9_max_7cf53 : ByteArray := prog_14_method_65_code
def yJ9_max_7cf53 : MethodName := ⟨RJ9, "max", "(II)I"⟩
abbrev cJ9_min_7cf53 : ByteArray := prog_14_method_69_code
def yJ9_min_7cf53 : MethodName := ⟨RJ9, "min", "(II)I"⟩
def RJ0 : String := "java/lang/String"
abbrev cJ0_init_81219 : ByteArray := prog_16_method_53_code
def yJ0_init_81219 : MethodName := ⟨RJ0, "<init>", "(Ljava/lang/StringBuilder;)V"⟩
abbrev cJ0_length_8abf5 : ByteArray := prog_16_method_54_code
def yJ0_length_8abf5 : MethodName := ⟨RJ0, "length", "()I"⟩
abbrev cJ0_getBytes_840e7 : ByteArray := prog_16_method_147_code
def yJ0_getBytes_840e7 : MethodName := ⟨RJ0, "getBytes", "([BIB)V"⟩
abbrev cJ0_init_db425 : ByteArray := prog_16_method_150_code
def yJ0_init_db425 : MethodName := ⟨RJ0, "<init>", "(Ljava/lang/AbstractStringBuilder;Ljava/lang/Void;)V"⟩
abbrev cJ0_coder_7d493 : ByteArray := prog_16_method_152_code
def yJ0_coder_7d493 : MethodName := ⟨RJ0, "coder", "()B"⟩
abbrev cJ0_checkIndex_df160 : ByteArray := prog_16_method_155_code
def yJ0_checkIndex_df160 : MethodName := ⟨RJ0, "checkIndex", "(II)V"⟩
abbrev cJ0_checkBoundsOffCount_cabcc : ByteArray := prog_16_method_157_code
def yJ0_checkBoundsOffCount_cabcc : MethodName := ⟨RJ0, "checkBoundsOffCount", "(III)I"⟩
abbrev cJ0_checkBoundsBeginEnd_23922 : ByteArray := prog_16_method_158_code
def yJ0_checkBoundsBeginEnd_23922 : MethodName := ⟨RJ0, "checkBoundsBeginEnd", "(III)V"⟩
def RJ4 : String := "java/lang/StringBuilder"
abbrev cJ4_init_da8c8 : ByteArray := prog_17_method_1_code
def yJ4_init_da8c8 : MethodName := ⟨RJ4, "<init>", "()V"⟩
abbrev cJ4_append_15ec4 : ByteArray := prog_17_method_7_code
def yJ4_append_15ec4 : MethodName := ⟨RJ4, "append", "(Ljava/lang/String;)Ljava/lang/StringBuilder;"⟩
abbrev cJ4_append_cf468 : ByteArray := prog_17_method_14_code
def yJ4_append_cf468 : MethodName := ⟨RJ4, "append", "(C)Ljava/lang/StringBuilder;"⟩
abbrev cJ4_append_bf812 : ByteArray := prog_17_method_15_code
def yJ4_append_bf812 : MethodName := ⟨RJ4, "append", "(I)Ljava/lang/StringBuilder;"⟩
abbrev cJ4_toString_0e30d : ByteArray := prog_17_method_42_code
def yJ4_toString_0e30d : MethodName := ⟨RJ4, "toString", "()Ljava/lang/String;"⟩
abbrev cJ4_length_8abf5 : ByteArray := prog_17_method_93_code
def yJ4_length_8abf5 : MethodName := ⟨RJ4, "length", "()I"⟩
def RJ1 : String := "java/lang/StringLatin1"
abbrev cJ1_canEncode_fc78d : ByteArray := prog_18_method_3_code
def yJ1_canEncode_fc78d : MethodName := ⟨RJ1, "canEncode", "(C)Z"⟩
abbrev cJ1_inflate_0e8fd : ByteArray := prog_18_method_50_code
def yJ1_inflate_0e8fd : MethodName := ⟨RJ1, "inflate", "([BI[BII)V"⟩
def RJ2 : String := "java/lang/StringUTF16"
abbrev cJ2_newBytesFor_77867 : ByteArray := prog_19_method_2_code
def yJ2_newBytesFor_77867 : MethodName := ⟨RJ2, "newBytesFor", "(I)[B"⟩
abbrev cJ2_newBytesLength_0f7a4 : ByteArray := prog_19_method_3_code
def yJ2_newBytesLength_0f7a4 : MethodName := ⟨RJ2, "newBytesLength", "(I)I"⟩
abbrev cJ2_putChar_b72d1 : ByteArray := prog_19_method_4_code
def yJ2_putChar_b72d1 : MethodName := ⟨RJ2, "putChar", "([BII)V"⟩
abbrev cJ2_getChar_3b067 : ByteArray := prog_19_method_5_code
def yJ2_getChar_3b067 : MethodName := ⟨RJ2, "getChar", "([BI)C"⟩
abbrev cJ2_length_9d52b : ByteArray := prog_19_method_6_code
def yJ2_length_9d52b : MethodName := ⟨RJ2, "length", "([B)I"⟩
abbrev cJ2_coderFromArrayLen_85cad : ByteArray := prog_19_method_15_code
def yJ2_coderFromArrayLen_85cad : MethodName := ⟨RJ2, "coderFromArrayLen", "([BI)B"⟩
abbrev cJ2_compress_39247 : ByteArray := prog_19_method_17_code
def yJ2_compress_39247 : MethodName := ⟨RJ2, "compress", "([BII)[B"⟩
abbrev cJ2_compress_5af95 : ByteArray := prog_19_method_22_code
def yJ2_compress_5af95 : MethodName := ⟨RJ2, "compress", "([BI[BII)I"⟩
abbrev cJ2_putCharSB_b72d1 : ByteArray := prog_19_method_71_code
def yJ2_putCharSB_b72d1 : MethodName := ⟨RJ2, "putCharSB", "([BII)V"⟩
abbrev cJ2_getChars_46870 : ByteArray := prog_19_method_77_code
def yJ2_getChars_46870 : MethodName := ⟨RJ2, "getChars", "(III[B)I"⟩
abbrev cJ2_putCharsAt_cd4e5 : ByteArray := prog_19_method_81_code
def yJ2_putCharsAt_cd4e5 : MethodName := ⟨RJ2, "putCharsAt", "([BICCCC)I"⟩
abbrev cJ2_inflate_0e8fd : ByteArray := prog_19_method_86_code
def yJ2_inflate_0e8fd : MethodName := ⟨RJ2, "inflate", "([BI[BII)V"⟩
abbrev cJ2_getChars_ba4f3 : ByteArray := prog_19_method_89_code
def yJ2_getChars_ba4f3 : MethodName := ⟨RJ2, "getChars", "(II[B)I"⟩
abbrev cJ2_checkIndex_2214a : ByteArray := prog_19_method_91_code
def yJ2_checkIndex_2214a : MethodName := ⟨RJ2, "checkIndex", "(I[B)V"⟩
abbrev cJ2_checkBoundsBeginEnd_d044e : ByteArray := prog_19_method_93_code
def yJ2_checkBoundsBeginEnd_d044e : MethodName := ⟨RJ2, "checkBoundsBeginEnd", "(II[B)V"⟩
abbrev cJ2_checkBoundsOffCount_d044e : ByteArray := prog_19_method_94_code
def yJ2_checkBoundsOffCount_d044e : MethodName := ⟨RJ2, "checkBoundsOffCount", "(II[B)V"⟩
def RJ10 : String := "java/lang/System"
def RJ7 : String := "java/util/Arrays"
abbrev cJ7_copyOf_9075b : ByteArray := prog_22_method_121_code
def yJ7_copyOf_9075b : MethodName := ⟨RJ7, "copyOf", "([BI)[B"⟩
abbrev cJ7_checkLength_df160 : ByteArray := prog_22_method_131_code
def yJ7_checkLength_df160 : MethodName := ⟨RJ7, "checkLength", "(II)V"⟩
abbrev cJ7_copyOfRange_39247 : ByteArray := prog_22_method_132_code
def yJ7_copyOfRange_39247 : MethodName := ⟨RJ7, "copyOfRange", "([BII)[B"⟩
abbrev cJ7_copyOfRangeByte_39247 : ByteArray := prog_22_method_133_code
def yJ7_copyOfRangeByte_39247 : MethodName := ⟨RJ7, "copyOfRangeByte", "([BII)[B"⟩
def RJ8 : String := "jdk/internal/util/ArraysSupport"
abbrev cJ8_newLength_cabcc : ByteArray := prog_23_method_27_code
def yJ8_newLength_cabcc : MethodName := ⟨RJ8, "newLength", "(III)I"⟩
abbrev cJ8_hugeLength_7cf53 : ByteArray := prog_23_method_28_code
def yJ8_hugeLength_7cf53 : MethodName := ⟨RJ8, "hugeLength", "(II)I"⟩
def RJ3 : String := "jdk/internal/util/Preconditions"
abbrev cJ3_checkIndex_8e157 : ByteArray := prog_24_method_11_code
def yJ3_checkIndex_8e157 : MethodName := ⟨RJ3, "checkIndex", "(IILjava/util/function/BiFunction;)I"⟩
abbrev cJ3_checkFromToIndex_8c36e : ByteArray := prog_24_method_12_code
def yJ3_checkFromToIndex_8c36e : MethodName := ⟨RJ3, "checkFromToIndex", "(IIILjava/util/function/BiFunction;)I"⟩
abbrev cJ3_checkFromIndexSize_8c36e : ByteArray := prog_24_method_13_code
def yJ3_checkFromIndexSize_8c36e : MethodName := ⟨RJ3, "checkFromIndexSize", "(IIILjava/util/function/BiFunction;)I"⟩
def RL : String := "SecretsharesLaw"
abbrev cL_prime : ByteArray := method_2_code
def yL_prime : MethodName := ⟨RL, "prime", "(LSecretshares;ILSecretsharesLaw$Out;)I"⟩
abbrev cL_reckon : ByteArray := method_3_code
def yL_reckon : MethodName := ⟨RL, "reckon", "(LSecretshares;IIILSecretsharesLaw$Out;)I"⟩
abbrev cL_weight : ByteArray := method_4_code
def yL_weight : MethodName := ⟨RL, "weight", "(LSecretshares;IIILSecretsharesLaw$Out;)I"⟩
abbrev cL_weights : ByteArray := method_5_code
def yL_weights : MethodName := ⟨RL, "weights", "(LSecretshares;IILSecretsharesLaw$Out;)I"⟩
abbrev cL_hide : ByteArray := method_6_code
def yL_hide : MethodName := ⟨RL, "hide", "(LSecretshares;IIIIIILSecretsharesLaw$Out;)I"⟩
abbrev cL_pour : ByteArray := method_7_code
def yL_pour : MethodName := ⟨RL, "pour", "(LSecretshares;IIIIILSecretsharesLaw$Out;)I"⟩
abbrev cL_plus : ByteArray := method_8_code
def yL_plus : MethodName := ⟨RL, "plus", "(LSecretshares;IIILSecretsharesLaw$Out;)I"⟩
abbrev cL_less : ByteArray := method_9_code
def yL_less : MethodName := ⟨RL, "less", "(LSecretshares;IIILSecretsharesLaw$Out;)I"⟩
abbrev cL_times : ByteArray := method_10_code
def yL_times : MethodName := ⟨RL, "times", "(LSecretshares;IIILSecretsharesLaw$Out;)I"⟩
abbrev cL_scale : ByteArray := method_11_code
def yL_scale : MethodName := ⟨RL, "scale", "(LSecretshares;IIILSecretsharesLaw$Out;)I"⟩
abbrev cL_handOn : ByteArray := method_12_code
def yL_handOn : MethodName := ⟨RL, "handOn", "(LSecretshares;IIIIIILSecretsharesLaw$Out;)I"⟩
abbrev cL_lose : ByteArray := method_13_code
def yL_lose : MethodName := ⟨RL, "lose", "(LSecretshares;IILSecretsharesLaw$Out;)I"⟩
abbrev cL_give : ByteArray := method_14_code
def yL_give : MethodName := ⟨RL, "give", "(LSecretshares;IIILSecretsharesLaw$Out;)I"⟩
abbrev cL_regain : ByteArray := method_15_code
def yL_regain : MethodName := ⟨RL, "regain", "(LSecretshares;IIILSecretsharesLaw$Out;)I"⟩
abbrev cL_mend : ByteArray := method_16_code
def yL_mend : MethodName := ⟨RL, "mend", "(LSecretshares;ILSecretsharesLaw$Out;)I"⟩
abbrev cL_copy : ByteArray := method_17_code
def yL_copy : MethodName := ⟨RL, "copy", "(LSecretshares;IILSecretsharesLaw$Out;)I"⟩
abbrev cL_drop : ByteArray := method_18_code
def yL_drop : MethodName := ⟨RL, "drop", "(LSecretshares;ILSecretsharesLaw$Out;)I"⟩
abbrev cL_share : ByteArray := method_19_code
def yL_share : MethodName := ⟨RL, "share", "(LSecretshares;IILSecretsharesLaw$Out;)I"⟩
abbrev cL_ofDeal : ByteArray := method_20_code
def yL_ofDeal : MethodName := ⟨RL, "ofDeal", "(LSecretshares;IILSecretsharesLaw$Out;)I"⟩
abbrev cL_told : ByteArray := method_21_code
def yL_told : MethodName := ⟨RL, "told", "(LSecretshares;IIILSecretsharesLaw$Out;)I"⟩
abbrev cL_open : ByteArray := method_22_code
def yL_open : MethodName := ⟨RL, "open", "(LSecretshares;IILSecretsharesLaw$Out;)I"⟩
abbrev cL_coefficient : ByteArray := method_23_code
def yL_coefficient : MethodName := ⟨RL, "coefficient", "(LSecretshares;IIILSecretsharesLaw$Out;)I"⟩
abbrev cL_degreeBy : ByteArray := method_24_code
def yL_degreeBy : MethodName := ⟨RL, "degreeBy", "(LSecretshares;IILSecretsharesLaw$Out;)I"⟩
abbrev cL_agrees : ByteArray := method_25_code
def yL_agrees : MethodName := ⟨RL, "agrees", "(LSecretshares;IILSecretsharesLaw$Out;)I"⟩
abbrev cL_suspects : ByteArray := method_26_code
def yL_suspects : MethodName := ⟨RL, "suspects", "(LSecretshares;ILSecretsharesLaw$Out;)I"⟩
abbrev cL_wrong : ByteArray := method_27_code
def yL_wrong : MethodName := ⟨RL, "wrong", "(LSecretshares;ILSecretsharesLaw$Out;)I"⟩
abbrev cL_ways : ByteArray := method_28_code
def yL_ways : MethodName := ⟨RL, "ways", "(LSecretshares;IIILSecretsharesLaw$Out;)I"⟩
abbrev cL_total : ByteArray := method_29_code
def yL_total : MethodName := ⟨RL, "total", "(LSecretshares;IILSecretsharesLaw$Out;)I"⟩
abbrev cL_seal : ByteArray := method_30_code
def yL_seal : MethodName := ⟨RL, "seal", "(LSecretshares;IILSecretsharesLaw$Out;)I"⟩
abbrev cL_fits : ByteArray := method_31_code
def yL_fits : MethodName := ⟨RL, "fits", "(LSecretshares;IILSecretsharesLaw$Out;)I"⟩
abbrev cL_order : ByteArray := method_32_code
def yL_order : MethodName := ⟨RL, "order", "(LSecretshares;IIILSecretsharesLaw$Out;)I"⟩
abbrev cL_most : ByteArray := method_33_code
def yL_most : MethodName := ⟨RL, "most", "(LSecretshares;IZLSecretsharesLaw$Out;)I"⟩
abbrev cL_text : ByteArray := method_34_code
def yL_text : MethodName := ⟨RL, "text", "(LSecretshares;ILSecretsharesLaw$Out;)I"⟩
abbrev cL_seals : ByteArray := method_35_code
def yL_seals : MethodName := ⟨RL, "seals", "(LSecretshares;ILSecretsharesLaw$Out;)I"⟩
abbrev cL_isSame : ByteArray := method_36_code
def yL_isSame : MethodName := ⟨RL, "isSame", "(LSecretshares;IILSecretsharesLaw$Out;)I"⟩
abbrev cL_house : ByteArray := method_37_code
def yL_house : MethodName := ⟨RL, "house", "(LSecretshares;ILSecretsharesLaw$Out;)I"⟩
abbrev cL_law : ByteArray := code
def yL_law : MethodName := ⟨RL, "law", "([I)Z"⟩
end
section
abbrev eI (z : Int) : Int32 := Int32.ofInt z
abbrev eJ (z : Int) : Int64 := Int64.ofInt z
abbrev e_C : Type := (Nat × List Value) ⊕ (Nat × Nat × (Nat → Value))
abbrev e_W : Type := Nat → Option e_C
/-- the first cell of ours; the classes' numbers and slots; the addresses of the static rows -/
abbrev e_K : Type := Nat × va_G × (Nat → Nat)
def e_fr (K : e_K) : Addr → Prop := fun q => K.1 ≤ q
abbrev e_cl : List vw_C := [(RX0, TX0, 5), (RX1, TX1, 5), (RX2, TX2, 2), (RX3, TX3, 5), (RX4, TX4, 2), (RX5, TX5, 6)]
def e_isN : Cond → Bool
  | .fieldLinkNest _ _ _ _ _ _ => true
  | .methodLinkNest _ _ _ _ => true
  | .castable _ _ => true
  | .arrayOver _ => true
  | _ => false
def e_TB : List Cond := lw_tbl.filter goodWord
def e_NW : List Cond := lw_tbl.filter e_isN
theorem e_tb (i : Nat) {w : Cond} (h : tables_1[i]? = some w) (g : goodWord w = true) : w ∈ e_TB := List.mem_filter.mpr ⟨List.mem_append_right _ (List.mem_of_getElem? h), g⟩
theorem e_tp (i : Nat) {w : Cond} (h : (k2_sels lw_privs)[i]? = some w) (g : goodWord w = true) : w ∈ e_TB := List.mem_filter.mpr ⟨List.mem_append_left _ (List.mem_of_getElem? h), g⟩
theorem e_tn (i : Nat) {w : Cond} (h : tables_1[i]? = some w) (g : e_isN w = true) : w ∈ e_NW := List.mem_filter.mpr ⟨List.mem_append_right _ (List.mem_of_getElem? h), g⟩
end
section
/-! the words of the tables, by name -/
theorem w_in_RL : Cond.initialized RL ∈ e_TB := e_tb 0 (by decide +kernel) (by decide +kernel)
theorem w_in_RX3 : Cond.initialized RX3 ∈ e_TB := e_tb 1 (by decide +kernel) (by decide +kernel)
theorem w_in_RX1 : Cond.initialized RX1 ∈ e_TB := e_tb 2 (by decide +kernel) (by decide +kernel)
theorem w_in_RJ9 : Cond.initialized RJ9 ∈ e_TB := e_tb 3 (by decide +kernel) (by decide +kernel)
theorem w_in_RX2 : Cond.initialized RX2 ∈ e_TB := e_tb 4 (by decide +kernel) (by decide +kernel)
theorem w_in_RX0 : Cond.initialized RX0 ∈ e_TB := e_tb 5 (by decide +kernel) (by decide +kernel)
theorem w_in_RX5 : Cond.initialized RX5 ∈ e_TB := e_tb 6 (by decide +kernel) (by decide +kernel)
theorem w_in_RX4 : Cond.initialized RX4 ∈ e_TB := e_tb 7 (by decide +kernel) (by decide +kernel)
theorem w_in_java_lang_Throwable : Cond.initialized "java/lang/Throwable" ∈ e_TB := e_tb 8 (by decide +kernel) (by decide +kernel)
theorem w_in_java_lang_Exception : Cond.initialized "java/lang/Exception" ∈ e_TB := e_tb 9 (by decide +kernel) (by decide +kernel)
theorem w_in_java_lang_RuntimeException : Cond.initialized "java/lang/RuntimeException" ∈ e_TB := e_tb 10 (by decide +kernel) (by decide +kernel)
theorem w_in_java_lang_IllegalArgumentException : Cond.initialized "java/lang/IllegalArgumentException" ∈ e_TB := e_tb 11 (by decide +kernel) (by decide +kernel)
theorem w_in_java_lang_IndexOutOfBoundsException : Cond.initialized "java/lang/IndexOutOfBoundsException" ∈ e_TB := e_tb 12 (by decide +kernel) (by decide +kernel)
theorem w_in_RJ6 : Cond.initialized RJ6 ∈ e_TB := e_tb 13 (by decide +kernel) (by decide +kernel)
theorem w_in_RJ5 : Cond.initialized RJ5 ∈ e_TB := e_tb 14 (by decide +kernel) (by decide +kernel)
theorem w_in_RJ4 : Cond.initialized RJ4 ∈ e_TB := e_tb 15 (by decide +kernel) (by decide +kernel)
theorem w_in_RJ0 : Cond.initialized RJ0 ∈ e_TB := e_tb 16 (by decide +kernel) (by decide +kernel)
theorem w_in_RJ2 : Cond.initialized RJ2 ∈ e_TB := e_tb 17 (by decide +kernel) (by decide +kernel)
theorem w_in_RJ7 : Cond.initialized RJ7 ∈ e_TB := e_tb 18 (by decide +kernel) (by decide +kernel)
theorem w_in_RJ8 : Cond.initialized RJ8 ∈ e_TB := e_tb 19 (by decide +kernel) (by decide +kernel)
theorem w_in_RJ10 : Cond.initialized RJ10 ∈ e_TB := e_tb 20 (by decide +kernel) (by decide +kernel)
theorem w_in_RJ3 : Cond.initialized RJ3 ∈ e_TB := e_tb 21 (by decide +kernel) (by decide +kernel)
theorem w_in_RJ1 : Cond.initialized RJ1 ∈ e_TB := e_tb 22 (by decide +kernel) (by decide +kernel)
theorem w_cl_RL_8 : Cond.classLink RL 8 RX3 ∈ e_TB := e_tb 23 (by decide +kernel) (by decide +kernel)
theorem w_is_RX3 : Cond.instantiable RX3 5 ∈ e_TB := e_tb 24 (by decide +kernel) (by decide +kernel)
theorem w_ml_RL_139 : Cond.methodLink RL 139 yX3_init ∈ e_TB := e_tb 25 (by decide +kernel) (by decide +kernel)
theorem w_im_X3_init : Cond.instanceMethod yX3_init ∈ e_TB := e_tb 26 (by decide +kernel) (by decide +kernel)
theorem w_co_X3_init : Cond.code yX3_init cX3_init 2 none ∈ e_TB := e_tb 27 (by decide +kernel) (by decide +kernel)
theorem w_ml_RX3_1 : Cond.methodLink RX3 1 ⟨"java/lang/Object", "<init>", "()V"⟩ ∈ e_TB := e_tb 28 (by decide +kernel) (by decide +kernel)
theorem w_im_java_lang_Object__init____V : Cond.instanceMethod ⟨"java/lang/Object", "<init>", "()V"⟩ ∈ e_TB := e_tb 29 (by decide +kernel) (by decide +kernel)
theorem w_co_oinit : Cond.code Lib.objectInit ⟨#[0xb1]⟩ 1 none ∈ e_TB := e_tb 30 (by decide +kernel) (by decide +kernel)
theorem w_cl_RX3_7 : Cond.classLink RX3 7 RX1 ∈ e_TB := e_tb 31 (by decide +kernel) (by decide +kernel)
theorem w_is_RX1 : Cond.instantiable RX1 5 ∈ e_TB := e_tb 32 (by decide +kernel) (by decide +kernel)
theorem w_mn_RX3_9 : Cond.methodLinkNest RX3 9 yX1_init "Secretshares" ∈ e_NW := e_tn 33 (by decide +kernel) (by decide +kernel)
theorem w_im_X1_init : Cond.instanceMethod yX1_init ∈ e_TB := e_tb 34 (by decide +kernel) (by decide +kernel)
theorem w_co_X1_init : Cond.code yX1_init cX1_init 1 none ∈ e_TB := e_tb 35 (by decide +kernel) (by decide +kernel)
theorem w_ml_RX1_3 : Cond.methodLink RX1 3 ⟨"java/lang/Object", "<init>", "()V"⟩ ∈ e_TB := e_tb 36 (by decide +kernel) (by decide +kernel)
theorem w_ml_RX1_9 : Cond.methodLink RX1 9 yX1_choose ∈ e_TB := e_tb 37 (by decide +kernel) (by decide +kernel)
theorem w_im_X1_choose : Cond.instanceMethod yX1_choose ∈ e_TB := e_tb 39 (by decide +kernel) (by decide +kernel)
theorem w_co_X1_choose : Cond.code yX1_choose cX1_choose 2 none ∈ e_TB := e_tb 40 (by decide +kernel) (by decide +kernel)
theorem w_fn_RX1_15 : Cond.fieldLinkNest RX1 15 "Secretshares" "PRIMES" "[I" "Secretshares" ∈ e_NW := e_tn 41 (by decide +kernel) (by decide +kernel)
theorem w_fn_RX1_19 : Cond.fieldLinkNest RX1 19 "Secretshares" "GREAT_PRIMES" "[I" "Secretshares" ∈ e_NW := e_tn 43 (by decide +kernel) (by decide +kernel)
theorem w_fn_RX1_22 : Cond.fieldLinkNest RX1 22 "Secretshares" "BASES" "[I" "Secretshares" ∈ e_NW := e_tn 45 (by decide +kernel) (by decide +kernel)
theorem w_ml_RX1_38 : Cond.methodLink RX1 38 yJ9_min_7cf53 ∈ e_TB := e_tb 47 (by decide +kernel) (by decide +kernel)
theorem w_sm_J9_min_7cf53 : Cond.static yJ9_min_7cf53 ∈ e_TB := e_tb 48 (by decide +kernel) (by decide +kernel)
theorem w_co_J9_min_7cf53 : Cond.code yJ9_min_7cf53 cJ9_min_7cf53 2 (Option.some .int) ∈ e_TB := e_tb 49 (by decide +kernel) (by decide +kernel)
theorem w_fl_RX1_25 : Cond.fieldLink RX1 25 "Secretshares$Field" "which" "I" ∈ e_TB := e_tb 50 (by decide +kernel) (by decide +kernel)
theorem w_fn_RX3_248 : Cond.fieldLinkNest RX3 248 "Secretshares$Field" "which" "I" "Secretshares" ∈ e_NW := e_tn 51 (by decide +kernel) (by decide +kernel)
theorem w_fn_RX3_49 : Cond.fieldLinkNest RX3 49 "Secretshares$Field" "prime" "I" "Secretshares" ∈ e_NW := e_tn 52 (by decide +kernel) (by decide +kernel)
theorem w_fl_RX1_29 : Cond.fieldLink RX1 29 "Secretshares$Field" "prime" "I" ∈ e_TB := e_tb 53 (by decide +kernel) (by decide +kernel)
theorem w_fl_RX1_32 : Cond.fieldLink RX1 32 "Secretshares$Field" "great" "I" ∈ e_TB := e_tb 54 (by decide +kernel) (by decide +kernel)
theorem w_fn_RX3_164 : Cond.fieldLinkNest RX3 164 "Secretshares$Field" "great" "I" "Secretshares" ∈ e_NW := e_tn 55 (by decide +kernel) (by decide +kernel)
theorem w_fl_RX1_35 : Cond.fieldLink RX1 35 "Secretshares$Field" "base" "I" ∈ e_TB := e_tb 56 (by decide +kernel) (by decide +kernel)
theorem w_fn_RX3_251 : Cond.fieldLinkNest RX3 251 "Secretshares$Field" "base" "I" "Secretshares" ∈ e_NW := e_tn 57 (by decide +kernel) (by decide +kernel)
theorem w_fl_RX1_44 : Cond.fieldLink RX1 44 "Secretshares$Field" "holders" "I" ∈ e_TB := e_tb 58 (by decide +kernel) (by decide +kernel)
theorem w_fn_RX2_31 : Cond.fieldLinkNest RX2 31 "Secretshares$Field" "holders" "I" "Secretshares" ∈ e_NW := e_tn 59 (by decide +kernel) (by decide +kernel)
theorem w_fn_RX3_116 : Cond.fieldLinkNest RX3 116 "Secretshares$Field" "holders" "I" "Secretshares" ∈ e_NW := e_tn 60 (by decide +kernel) (by decide +kernel)
theorem w_cl_RX3_16 : Cond.classLink RX3 16 RX2 ∈ e_TB := e_tb 72 (by decide +kernel) (by decide +kernel)
theorem w_is_RX2 : Cond.instantiable RX2 2 ∈ e_TB := e_tb 73 (by decide +kernel) (by decide +kernel)
theorem w_mn_RX3_18 : Cond.methodLinkNest RX3 18 yX2_init "Secretshares" ∈ e_NW := e_tn 74 (by decide +kernel) (by decide +kernel)
theorem w_im_X2_init : Cond.instanceMethod yX2_init ∈ e_TB := e_tb 75 (by decide +kernel) (by decide +kernel)
theorem w_co_X2_init : Cond.code yX2_init cX2_init 1 none ∈ e_TB := e_tb 76 (by decide +kernel) (by decide +kernel)
theorem w_ml_RX2_3 : Cond.methodLink RX2 3 ⟨"java/lang/Object", "<init>", "()V"⟩ ∈ e_TB := e_tb 77 (by decide +kernel) (by decide +kernel)
theorem w_fl_RX2_9 : Cond.fieldLink RX2 9 "Secretshares$Poly" "row" "[I" ∈ e_TB := e_tb 78 (by decide +kernel) (by decide +kernel)
theorem w_fl_RX2_15 : Cond.fieldLink RX2 15 "Secretshares$Poly" "term" "[I" ∈ e_TB := e_tb 79 (by decide +kernel) (by decide +kernel)
theorem w_ac_int : Cond.arrayClass .int ∈ e_TB := e_tb 85 (by decide +kernel) (by decide +kernel)
theorem w_cl_RX3_23 : Cond.classLink RX3 23 RX0 ∈ e_TB := e_tb 86 (by decide +kernel) (by decide +kernel)
theorem w_ao_deal : Cond.arrayOver (.object "Secretshares$Deal") ∈ e_NW := e_tn 87 (by decide +kernel) (by decide +kernel)
theorem w_is_RX0 : Cond.instantiable RX0 5 ∈ e_TB := e_tb 88 (by decide +kernel) (by decide +kernel)
theorem w_mn_RX3_29 : Cond.methodLinkNest RX3 29 yX0_init "Secretshares" ∈ e_NW := e_tn 89 (by decide +kernel) (by decide +kernel)
theorem w_im_X0_init : Cond.instanceMethod yX0_init ∈ e_TB := e_tb 90 (by decide +kernel) (by decide +kernel)
theorem w_co_X0_init : Cond.code yX0_init cX0_init 1 none ∈ e_TB := e_tb 91 (by decide +kernel) (by decide +kernel)
theorem w_ml_RX0_3 : Cond.methodLink RX0 3 ⟨"java/lang/Object", "<init>", "()V"⟩ ∈ e_TB := e_tb 92 (by decide +kernel) (by decide +kernel)
theorem w_ml_RX0_18 : Cond.methodLink RX0 18 yX0_clear ∈ e_TB := e_tb 93 (by decide +kernel) (by decide +kernel)
theorem w_im_X0_clear : Cond.instanceMethod yX0_clear ∈ e_TB := e_tb 95 (by decide +kernel) (by decide +kernel)
theorem w_co_X0_clear : Cond.code yX0_clear cX0_clear 2 none ∈ e_TB := e_tb 96 (by decide +kernel) (by decide +kernel)
theorem w_fl_RX0_21 : Cond.fieldLink RX0 21 "Secretshares$Deal" "isFilled" "Z" ∈ e_TB := e_tb 97 (by decide +kernel) (by decide +kernel)
theorem w_fl_RX0_25 : Cond.fieldLink RX0 25 "Secretshares$Deal" "degree" "I" ∈ e_TB := e_tb 98 (by decide +kernel) (by decide +kernel)
theorem w_fn_RX3_113 : Cond.fieldLinkNest RX3 113 "Secretshares$Deal" "degree" "I" "Secretshares" ∈ e_NW := e_tn 99 (by decide +kernel) (by decide +kernel)
theorem w_fl_RX0_29 : Cond.fieldLink RX0 29 "Secretshares$Deal" "sealCount" "I" ∈ e_TB := e_tb 100 (by decide +kernel) (by decide +kernel)
theorem w_fn_RX3_134 : Cond.fieldLinkNest RX3 134 "Secretshares$Deal" "sealCount" "I" "Secretshares" ∈ e_NW := e_tn 101 (by decide +kernel) (by decide +kernel)
theorem w_fl_RX0_9 : Cond.fieldLink RX0 9 "Secretshares$Deal" "shareRow" "[I" ∈ e_TB := e_tb 102 (by decide +kernel) (by decide +kernel)
theorem w_fl_RX0_15 : Cond.fieldLink RX0 15 "Secretshares$Deal" "sealRow" "[I" ∈ e_TB := e_tb 103 (by decide +kernel) (by decide +kernel)
theorem w_fl_RX3_10 : Cond.fieldLink RX3 10 "Secretshares" "field" "LSecretshares$Field;" ∈ e_TB := e_tb 115 (by decide +kernel) (by decide +kernel)
theorem w_fl_RX3_19 : Cond.fieldLink RX3 19 "Secretshares" "poly" "LSecretshares$Poly;" ∈ e_TB := e_tb 116 (by decide +kernel) (by decide +kernel)
theorem w_fl_RX3_25 : Cond.fieldLink RX3 25 "Secretshares" "deals" "[LSecretshares$Deal;" ∈ e_TB := e_tb 117 (by decide +kernel) (by decide +kernel)
theorem w_fl_RX3_30 : Cond.fieldLink RX3 30 "Secretshares" "spare" "LSecretshares$Deal;" ∈ e_TB := e_tb 118 (by decide +kernel) (by decide +kernel)
theorem w_fl_RX3_34 : Cond.fieldLink RX3 34 "Secretshares" "knocks" "I" ∈ e_TB := e_tb 119 (by decide +kernel) (by decide +kernel)
theorem w_ml_RL_154 : Cond.methodLink RL 154 yX3_rest ∈ e_TB := e_tb 131 (by decide +kernel) (by decide +kernel)
theorem w_im_X3_rest : Cond.instanceMethod yX3_rest ∈ e_TB := e_tb 132 (by decide +kernel) (by decide +kernel)
theorem w_se_X3_rest : Cond.selects RX3 yX3_rest yX3_rest ∈ e_TB := e_tb 133 (by decide +kernel) (by decide +kernel)
theorem w_co_X3_rest : Cond.code yX3_rest cX3_rest 2 (Option.some .int) ∈ e_TB := e_tb 134 (by decide +kernel) (by decide +kernel)
theorem w_mn_RX3_59 : Cond.methodLinkNest RX3 59 yX1_modPrime "Secretshares" ∈ e_NW := e_tn 135 (by decide +kernel) (by decide +kernel)
theorem w_im_X1_modPrime : Cond.instanceMethod yX1_modPrime ∈ e_TB := e_tb 137 (by decide +kernel) (by decide +kernel)
theorem w_co_X1_modPrime : Cond.code yX1_modPrime cX1_modPrime 5 (Option.some .int) ∈ e_TB := e_tb 138 (by decide +kernel) (by decide +kernel)
theorem w_ml_RL_162 : Cond.methodLink RL 162 yX3_reciprocal ∈ e_TB := e_tb 139 (by decide +kernel) (by decide +kernel)
theorem w_im_X3_reciprocal : Cond.instanceMethod yX3_reciprocal ∈ e_TB := e_tb 140 (by decide +kernel) (by decide +kernel)
theorem w_se_X3_reciprocal : Cond.selects RX3 yX3_reciprocal yX3_reciprocal ∈ e_TB := e_tb 141 (by decide +kernel) (by decide +kernel)
theorem w_co_X3_reciprocal : Cond.code yX3_reciprocal cX3_reciprocal 2 (Option.some .int) ∈ e_TB := e_tb 142 (by decide +kernel) (by decide +kernel)
theorem w_ml_RX3_63 : Cond.methodLink RX3 63 yX3_quotient ∈ e_TB := e_tb 143 (by decide +kernel) (by decide +kernel)
theorem w_im_X3_quotient : Cond.instanceMethod yX3_quotient ∈ e_TB := e_tb 145 (by decide +kernel) (by decide +kernel)
theorem w_co_X3_quotient : Cond.code yX3_quotient cX3_quotient 3 (Option.some .int) ∈ e_TB := e_tb 146 (by decide +kernel) (by decide +kernel)
theorem w_mn_RX3_304 : Cond.methodLinkNest RX3 304 yX1_inverse "Secretshares" ∈ e_NW := e_tn 147 (by decide +kernel) (by decide +kernel)
theorem w_im_X1_inverse : Cond.instanceMethod yX1_inverse ∈ e_TB := e_tb 149 (by decide +kernel) (by decide +kernel)
theorem w_co_X1_inverse : Cond.code yX1_inverse cX1_inverse 2 (Option.some .int) ∈ e_TB := e_tb 150 (by decide +kernel) (by decide +kernel)
theorem w_ml_RX1_47 : Cond.methodLink RX1 47 yX1_raise ∈ e_TB := e_tb 151 (by decide +kernel) (by decide +kernel)
theorem w_sm_X1_raise : Cond.static yX1_raise ∈ e_TB := e_tb 152 (by decide +kernel) (by decide +kernel)
theorem w_co_X1_raise : Cond.code yX1_raise cX1_raise 11 (Option.some .int) ∈ e_TB := e_tb 153 (by decide +kernel) (by decide +kernel)
theorem w_ml_RL_166 : Cond.methodLink RL 166 yX3_power ∈ e_TB := e_tb 154 (by decide +kernel) (by decide +kernel)
theorem w_im_X3_power : Cond.instanceMethod yX3_power ∈ e_TB := e_tb 155 (by decide +kernel) (by decide +kernel)
theorem w_se_X3_power : Cond.selects RX3 yX3_power yX3_power ∈ e_TB := e_tb 156 (by decide +kernel) (by decide +kernel)
theorem w_co_X3_power : Cond.code yX3_power cX3_power 5 (Option.some .int) ∈ e_TB := e_tb 157 (by decide +kernel) (by decide +kernel)
theorem w_mn_RX3_69 : Cond.methodLinkNest RX3 69 yX1_raise "Secretshares" ∈ e_NW := e_tn 158 (by decide +kernel) (by decide +kernel)
theorem w_ml_RL_170 : Cond.methodLink RL 170 yX3_sealOf ∈ e_TB := e_tb 159 (by decide +kernel) (by decide +kernel)
theorem w_im_X3_sealOf : Cond.instanceMethod yX3_sealOf ∈ e_TB := e_tb 160 (by decide +kernel) (by decide +kernel)
theorem w_se_X3_sealOf : Cond.selects RX3 yX3_sealOf yX3_sealOf ∈ e_TB := e_tb 161 (by decide +kernel) (by decide +kernel)
theorem w_co_X3_sealOf : Cond.code yX3_sealOf cX3_sealOf 2 (Option.some .int) ∈ e_TB := e_tb 162 (by decide +kernel) (by decide +kernel)
theorem w_mn_RX3_73 : Cond.methodLinkNest RX3 73 yX1_sealFor "Secretshares" ∈ e_NW := e_tn 163 (by decide +kernel) (by decide +kernel)
theorem w_im_X1_sealFor : Cond.instanceMethod yX1_sealFor ∈ e_TB := e_tb 165 (by decide +kernel) (by decide +kernel)
theorem w_co_X1_sealFor : Cond.code yX1_sealFor cX1_sealFor 2 (Option.some .int) ∈ e_TB := e_tb 166 (by decide +kernel) (by decide +kernel)
theorem w_ml_RX1_51 : Cond.methodLink RX1 51 yX1_modPrime ∈ e_TB := e_tb 167 (by decide +kernel) (by decide +kernel)
theorem w_ml_RL_222 : Cond.methodLink RL 222 yX3_knock ∈ e_TB := e_tb 168 (by decide +kernel) (by decide +kernel)
theorem w_im_X3_knock : Cond.instanceMethod yX3_knock ∈ e_TB := e_tb 169 (by decide +kernel) (by decide +kernel)
theorem w_se_X3_knock : Cond.selects RX3 yX3_knock yX3_knock ∈ e_TB := e_tb 170 (by decide +kernel) (by decide +kernel)
theorem w_co_X3_knock : Cond.code yX3_knock cX3_knock 1 (Option.some .int) ∈ e_TB := e_tb 171 (by decide +kernel) (by decide +kernel)
theorem w_ml_RL_284 : Cond.methodLink RL 284 yX3_isSound ∈ e_TB := e_tb 172 (by decide +kernel) (by decide +kernel)
theorem w_im_X3_isSound : Cond.instanceMethod yX3_isSound ∈ e_TB := e_tb 173 (by decide +kernel) (by decide +kernel)
theorem w_se_X3_isSound : Cond.selects RX3 yX3_isSound yX3_isSound ∈ e_TB := e_tb 174 (by decide +kernel) (by decide +kernel)
theorem w_co_X3_isSound : Cond.code yX3_isSound cX3_isSound 2 (Option.some .boolean) ∈ e_TB := e_tb 175 (by decide +kernel) (by decide +kernel)
theorem w_ml_RX3_259 : Cond.methodLink RX3 259 yX3_areSharesSound ∈ e_TB := e_tb 176 (by decide +kernel) (by decide +kernel)
theorem w_im_X3_areSharesSound : Cond.instanceMethod yX3_areSharesSound ∈ e_TB := e_tb 178 (by decide +kernel) (by decide +kernel)
theorem w_co_X3_areSharesSound : Cond.code yX3_areSharesSound cX3_areSharesSound 4 (Option.some .boolean) ∈ e_TB := e_tb 179 (by decide +kernel) (by decide +kernel)
theorem w_mn_RX3_123 : Cond.methodLinkNest RX3 123 yX0_shareAt "Secretshares" ∈ e_NW := e_tn 180 (by decide +kernel) (by decide +kernel)
theorem w_im_X0_shareAt : Cond.instanceMethod yX0_shareAt ∈ e_TB := e_tb 182 (by decide +kernel) (by decide +kernel)
theorem w_co_X0_shareAt : Cond.code yX0_shareAt cX0_shareAt 2 (Option.some .int) ∈ e_TB := e_tb 183 (by decide +kernel) (by decide +kernel)
theorem w_ml_RX3_263 : Cond.methodLink RX3 263 yX3_areSealsSound ∈ e_TB := e_tb 184 (by decide +kernel) (by decide +kernel)
theorem w_im_X3_areSealsSound : Cond.instanceMethod yX3_areSealsSound ∈ e_TB := e_tb 186 (by decide +kernel) (by decide +kernel)
theorem w_co_X3_areSealsSound : Cond.code yX3_areSealsSound cX3_areSealsSound 3 (Option.some .boolean) ∈ e_TB := e_tb 187 (by decide +kernel) (by decide +kernel)
theorem w_mn_RX3_137 : Cond.methodLinkNest RX3 137 yX0_sealAt "Secretshares" ∈ e_NW := e_tn 188 (by decide +kernel) (by decide +kernel)
theorem w_im_X0_sealAt : Cond.instanceMethod yX0_sealAt ∈ e_TB := e_tb 190 (by decide +kernel) (by decide +kernel)
theorem w_co_X0_sealAt : Cond.code yX0_sealAt cX0_sealAt 2 (Option.some .int) ∈ e_TB := e_tb 191 (by decide +kernel) (by decide +kernel)
theorem w_mn_RX3_195 : Cond.methodLinkNest RX3 195 yX0_hasSeals "Secretshares" ∈ e_NW := e_tn 192 (by decide +kernel) (by decide +kernel)
theorem w_im_X0_hasSeals : Cond.instanceMethod yX0_hasSeals ∈ e_TB := e_tb 194 (by decide +kernel) (by decide +kernel)
theorem w_co_X0_hasSeals : Cond.code yX0_hasSeals cX0_hasSeals 1 (Option.some .boolean) ∈ e_TB := e_tb 195 (by decide +kernel) (by decide +kernel)
theorem w_ml_RX3_266 : Cond.methodLink RX3 266 yX3_allHolders ∈ e_TB := e_tb 196 (by decide +kernel) (by decide +kernel)
theorem w_im_X3_allHolders : Cond.instanceMethod yX3_allHolders ∈ e_TB := e_tb 198 (by decide +kernel) (by decide +kernel)
theorem w_co_X3_allHolders : Cond.code yX3_allHolders cX3_allHolders 1 (Option.some .int) ∈ e_TB := e_tb 199 (by decide +kernel) (by decide +kernel)
theorem w_ml_RX3_91 : Cond.methodLink RX3 91 yX3_weightSum ∈ e_TB := e_tb 200 (by decide +kernel) (by decide +kernel)
theorem w_im_X3_weightSum : Cond.instanceMethod yX3_weightSum ∈ e_TB := e_tb 202 (by decide +kernel) (by decide +kernel)
theorem w_co_X3_weightSum : Cond.code yX3_weightSum cX3_weightSum 6 (Option.some .int) ∈ e_TB := e_tb 203 (by decide +kernel) (by decide +kernel)
theorem w_ml_RX3_83 : Cond.methodLink RX3 83 yX3_isIn ∈ e_TB := e_tb 204 (by decide +kernel) (by decide +kernel)
theorem w_sm_X3_isIn : Cond.static yX3_isIn ∈ e_TB := e_tb 205 (by decide +kernel) (by decide +kernel)
theorem w_co_X3_isIn : Cond.code yX3_isIn cX3_isIn 2 (Option.some .boolean) ∈ e_TB := e_tb 206 (by decide +kernel) (by decide +kernel)
theorem w_mn_RX3_87 : Cond.methodLinkNest RX3 87 yX1_weightAt "Secretshares" ∈ e_NW := e_tn 207 (by decide +kernel) (by decide +kernel)
theorem w_im_X1_weightAt : Cond.instanceMethod yX1_weightAt ∈ e_TB := e_tb 209 (by decide +kernel) (by decide +kernel)
theorem w_co_X1_weightAt : Cond.code yX1_weightAt cX1_weightAt 8 (Option.some .int) ∈ e_TB := e_tb 210 (by decide +kernel) (by decide +kernel)
theorem w_mn_RX1_55 : Cond.methodLinkNest RX1 55 yX3_isIn "Secretshares" ∈ e_NW := e_tn 211 (by decide +kernel) (by decide +kernel)
theorem w_ml_RX1_59 : Cond.methodLink RX1 59 yX1_inverse ∈ e_TB := e_tb 212 (by decide +kernel) (by decide +kernel)
theorem w_ml_RX3_269 : Cond.methodLink RX3 269 yX3_isFirstSealSound ∈ e_TB := e_tb 213 (by decide +kernel) (by decide +kernel)
theorem w_im_X3_isFirstSealSound : Cond.instanceMethod yX3_isFirstSealSound ∈ e_TB := e_tb 215 (by decide +kernel) (by decide +kernel)
theorem w_co_X3_isFirstSealSound : Cond.code yX3_isFirstSealSound cX3_isFirstSealSound 3 (Option.some .boolean) ∈ e_TB := e_tb 216 (by decide +kernel) (by decide +kernel)
theorem w_mn_RX3_202 : Cond.methodLinkNest RX3 202 yX0_firstSet "Secretshares" ∈ e_NW := e_tn 217 (by decide +kernel) (by decide +kernel)
theorem w_im_X0_firstSet : Cond.instanceMethod yX0_firstSet ∈ e_TB := e_tb 219 (by decide +kernel) (by decide +kernel)
theorem w_co_X0_firstSet : Cond.code yX0_firstSet cX0_firstSet 4 (Option.some .int) ∈ e_TB := e_tb 220 (by decide +kernel) (by decide +kernel)
theorem w_mn_RX0_39 : Cond.methodLinkNest RX0 39 yX3_bitOf "Secretshares" ∈ e_NW := e_tn 221 (by decide +kernel) (by decide +kernel)
theorem w_sm_X3_bitOf : Cond.static yX3_bitOf ∈ e_TB := e_tb 222 (by decide +kernel) (by decide +kernel)
theorem w_co_X3_bitOf : Cond.code yX3_bitOf cX3_bitOf 1 (Option.some .int) ∈ e_TB := e_tb 223 (by decide +kernel) (by decide +kernel)
theorem w_ml_RX3_319 : Cond.methodLink RX3 319 yX3_doAllFit ∈ e_TB := e_tb 224 (by decide +kernel) (by decide +kernel)
theorem w_im_X3_doAllFit : Cond.instanceMethod yX3_doAllFit ∈ e_TB := e_tb 226 (by decide +kernel) (by decide +kernel)
theorem w_co_X3_doAllFit : Cond.code yX3_doAllFit cX3_doAllFit 4 (Option.some .boolean) ∈ e_TB := e_tb 227 (by decide +kernel) (by decide +kernel)
theorem w_ml_RX3_231 : Cond.methodLink RX3 231 yX3_doesFit ∈ e_TB := e_tb 228 (by decide +kernel) (by decide +kernel)
theorem w_im_X3_doesFit : Cond.instanceMethod yX3_doesFit ∈ e_TB := e_tb 230 (by decide +kernel) (by decide +kernel)
theorem w_co_X3_doesFit : Cond.code yX3_doesFit cX3_doesFit 7 (Option.some .boolean) ∈ e_TB := e_tb 231 (by decide +kernel) (by decide +kernel)
theorem w_mn_RX3_143 : Cond.methodLinkNest RX3 143 yX1_sealProduct "Secretshares" ∈ e_NW := e_tn 232 (by decide +kernel) (by decide +kernel)
theorem w_im_X1_sealProduct : Cond.instanceMethod yX1_sealProduct ∈ e_TB := e_tb 234 (by decide +kernel) (by decide +kernel)
theorem w_co_X1_sealProduct : Cond.code yX1_sealProduct cX1_sealProduct 3 (Option.some .int) ∈ e_TB := e_tb 235 (by decide +kernel) (by decide +kernel)
theorem w_ml_RX3_178 : Cond.methodLink RX3 178 yX3_tell ∈ e_TB := e_tb 236 (by decide +kernel) (by decide +kernel)
theorem w_im_X3_tell : Cond.instanceMethod yX3_tell ∈ e_TB := e_tb 238 (by decide +kernel) (by decide +kernel)
theorem w_co_X3_tell : Cond.code yX3_tell cX3_tell 7 (Option.some .int) ∈ e_TB := e_tb 239 (by decide +kernel) (by decide +kernel)
theorem w_ml_RL_289 : Cond.methodLink RL 289 yX3_digest ∈ e_TB := e_tb 240 (by decide +kernel) (by decide +kernel)
theorem w_im_X3_digest : Cond.instanceMethod yX3_digest ∈ e_TB := e_tb 241 (by decide +kernel) (by decide +kernel)
theorem w_se_X3_digest : Cond.selects RX3 yX3_digest yX3_digest ∈ e_TB := e_tb 242 (by decide +kernel) (by decide +kernel)
theorem w_co_X3_digest : Cond.code yX3_digest cX3_digest 5 (Option.some .long) ∈ e_TB := e_tb 243 (by decide +kernel) (by decide +kernel)
theorem w_kl_RX3_272 : Cond.constantLong RX3 272 (eJ (7977)) ∈ e_TB := e_tb 244 (by decide +kernel) (by decide +kernel)
theorem w_kl_RX3_274 : Cond.constantLong RX3 274 (eJ (31)) ∈ e_TB := e_tb 245 (by decide +kernel) (by decide +kernel)
theorem w_ml_RX3_276 : Cond.methodLink RX3 276 yX3_house ∈ e_TB := e_tb 246 (by decide +kernel) (by decide +kernel)
theorem w_im_X3_house : Cond.instanceMethod yX3_house ∈ e_TB := e_tb 247 (by decide +kernel) (by decide +kernel)
theorem w_se_X3_house : Cond.selects RX3 yX3_house yX3_house ∈ e_TB := e_tb 248 (by decide +kernel) (by decide +kernel)
theorem w_co_X3_house : Cond.code yX3_house cX3_house 2 (Option.some .int) ∈ e_TB := e_tb 249 (by decide +kernel) (by decide +kernel)
theorem w_ml_RX3_254 : Cond.methodLink RX3 254 yX3_filledDeals ∈ e_TB := e_tb 250 (by decide +kernel) (by decide +kernel)
theorem w_im_X3_filledDeals : Cond.instanceMethod yX3_filledDeals ∈ e_TB := e_tb 252 (by decide +kernel) (by decide +kernel)
theorem w_co_X3_filledDeals : Cond.code yX3_filledDeals cX3_filledDeals 3 (Option.some .int) ∈ e_TB := e_tb 253 (by decide +kernel) (by decide +kernel)
theorem w_mn_RX3_109 : Cond.methodLinkNest RX3 109 yX0_isEmpty "Secretshares" ∈ e_NW := e_tn 254 (by decide +kernel) (by decide +kernel)
theorem w_im_X0_isEmpty : Cond.instanceMethod yX0_isEmpty ∈ e_TB := e_tb 256 (by decide +kernel) (by decide +kernel)
theorem w_co_X0_isEmpty : Cond.code yX0_isEmpty cX0_isEmpty 1 (Option.some .boolean) ∈ e_TB := e_tb 257 (by decide +kernel) (by decide +kernel)
theorem w_cl_RX3_42 : Cond.classLink RX3 42 "java/lang/IllegalArgumentException" ∈ e_TB := e_tb 258 (by decide +kernel) (by decide +kernel)
theorem w_is_java_lang_IllegalArgumentException : Cond.instantiable "java/lang/IllegalArgumentException" 6 ∈ e_TB := e_tb 259 (by decide +kernel) (by decide +kernel)
theorem w_ca_java_lang_IllegalArgumentException_java_lang_IllegalArgumentException : Cond.castable "java/lang/IllegalArgumentException" "java/lang/IllegalArgumentException" ∈ e_NW := e_tn 260 (by decide +kernel) (by decide +kernel)
theorem w_fl_java_lang_Throwable_198 : Cond.fieldLink "java/lang/Throwable" 198 "java/lang/Throwable" "backtrace" "Ljava/lang/Object;" ∈ e_TB := e_tb 279 (by decide +kernel) (by decide +kernel)
theorem w_im_java_lang_Throwable__init____V : Cond.instanceMethod ⟨"java/lang/Throwable", "<init>", "()V"⟩ ∈ e_TB := e_tb 281 (by decide +kernel) (by decide +kernel)
theorem w_ml_java_lang_Throwable_1 : Cond.methodLink "java/lang/Throwable" 1 ⟨"java/lang/Object", "<init>", "()V"⟩ ∈ e_TB := e_tb 283 (by decide +kernel) (by decide +kernel)
theorem w_fl_java_lang_Throwable_13 : Cond.fieldLink "java/lang/Throwable" 13 "java/lang/Throwable" "UNASSIGNED_STACK" "[Ljava/lang/StackTraceElement;" ∈ e_TB := e_tb 284 (by decide +kernel) (by decide +kernel)
theorem w_fl_java_lang_Throwable_20 : Cond.fieldLink "java/lang/Throwable" 20 "java/lang/Throwable" "SUPPRESSED_SENTINEL" "Ljava/util/List;" ∈ e_TB := e_tb 286 (by decide +kernel) (by decide +kernel)
theorem w_ml_java_lang_Throwable_27 : Cond.methodLink "java/lang/Throwable" 27 ⟨"java/lang/Throwable", "fillInStackTrace", "()Ljava/lang/Throwable;"⟩ ∈ e_TB := e_tb 288 (by decide +kernel) (by decide +kernel)
theorem w_im_java_lang_Throwable_fillInStackTrace___Ljava_lang_Throwable_ : Cond.instanceMethod ⟨"java/lang/Throwable", "fillInStackTrace", "()Ljava/lang/Throwable;"⟩ ∈ e_TB := e_tb 289 (by decide +kernel) (by decide +kernel)
theorem w_ml_java_lang_Throwable_202 : Cond.methodLink "java/lang/Throwable" 202 ⟨"java/lang/Throwable", "fillInStackTrace", "(I)Ljava/lang/Throwable;"⟩ ∈ e_TB := e_tb 293 (by decide +kernel) (by decide +kernel)
theorem w_im_java_lang_Throwable_fillInStackTrace__I_Ljava_lang_Throwable_ : Cond.instanceMethod ⟨"java/lang/Throwable", "fillInStackTrace", "(I)Ljava/lang/Throwable;"⟩ ∈ e_TB := e_tb 295 (by decide +kernel) (by decide +kernel)
theorem w_is_java_lang_Throwable : Cond.instantiable "java/lang/Throwable" 6 ∈ e_TB := e_tb 296 (by decide +kernel) (by decide +kernel)
theorem w_ml_RX3_46 : Cond.methodLink RX3 46 ⟨"java/lang/IllegalArgumentException", "<init>", "(Ljava/lang/String;)V"⟩ ∈ e_TB := e_tb 299 (by decide +kernel) (by decide +kernel)
theorem w_im_java_lang_IllegalArgumentException__init___Ljava_lang_String__V : Cond.instanceMethod ⟨"java/lang/IllegalArgumentException", "<init>", "(Ljava/lang/String;)V"⟩ ∈ e_TB := e_tb 300 (by decide +kernel) (by decide +kernel)
theorem w_ml_java_lang_IllegalArgumentException_7 : Cond.methodLink "java/lang/IllegalArgumentException" 7 ⟨"java/lang/RuntimeException", "<init>", "(Ljava/lang/String;)V"⟩ ∈ e_TB := e_tb 302 (by decide +kernel) (by decide +kernel)
theorem w_im_java_lang_RuntimeException__init___Ljava_lang_String__V : Cond.instanceMethod ⟨"java/lang/RuntimeException", "<init>", "(Ljava/lang/String;)V"⟩ ∈ e_TB := e_tb 303 (by decide +kernel) (by decide +kernel)
theorem w_ml_java_lang_RuntimeException_7 : Cond.methodLink "java/lang/RuntimeException" 7 ⟨"java/lang/Exception", "<init>", "(Ljava/lang/String;)V"⟩ ∈ e_TB := e_tb 305 (by decide +kernel) (by decide +kernel)
theorem w_im_java_lang_Exception__init___Ljava_lang_String__V : Cond.instanceMethod ⟨"java/lang/Exception", "<init>", "(Ljava/lang/String;)V"⟩ ∈ e_TB := e_tb 306 (by decide +kernel) (by decide +kernel)
theorem w_ml_java_lang_Exception_7 : Cond.methodLink "java/lang/Exception" 7 ⟨"java/lang/Throwable", "<init>", "(Ljava/lang/String;)V"⟩ ∈ e_TB := e_tb 308 (by decide +kernel) (by decide +kernel)
theorem w_im_java_lang_Throwable__init___Ljava_lang_String__V : Cond.instanceMethod ⟨"java/lang/Throwable", "<init>", "(Ljava/lang/String;)V"⟩ ∈ e_TB := e_tb 309 (by decide +kernel) (by decide +kernel)
theorem w_fl_java_lang_Throwable_31 : Cond.fieldLink "java/lang/Throwable" 31 "java/lang/Throwable" "detailMessage" "Ljava/lang/String;" ∈ e_TB := e_tb 312 (by decide +kernel) (by decide +kernel)
theorem w_fl_java_lang_Throwable_7 : Cond.fieldLink "java/lang/Throwable" 7 "java/lang/Throwable" "cause" "Ljava/lang/Throwable;" ∈ e_TB := e_tb 313 (by decide +kernel) (by decide +kernel)
theorem w_fl_java_lang_Throwable_17 : Cond.fieldLink "java/lang/Throwable" 17 "java/lang/Throwable" "stackTrace" "[Ljava/lang/StackTraceElement;" ∈ e_TB := e_tb 314 (by decide +kernel) (by decide +kernel)
theorem w_fl_java_lang_Throwable_24 : Cond.fieldLink "java/lang/Throwable" 24 "java/lang/Throwable" "suppressedExceptions" "Ljava/util/List;" ∈ e_TB := e_tb 315 (by decide +kernel) (by decide +kernel)
theorem w_ac_byte : Cond.arrayClass .byte ∈ e_TB := e_tb 324 (by decide +kernel) (by decide +kernel)
theorem w_ml_RX3_279 : Cond.methodLink RX3 279 yX3_ofDeal ∈ e_TB := e_tb 325 (by decide +kernel) (by decide +kernel)
theorem w_im_X3_ofDeal : Cond.instanceMethod yX3_ofDeal ∈ e_TB := e_tb 326 (by decide +kernel) (by decide +kernel)
theorem w_se_X3_ofDeal : Cond.selects RX3 yX3_ofDeal yX3_ofDeal ∈ e_TB := e_tb 327 (by decide +kernel) (by decide +kernel)
theorem w_co_X3_ofDeal : Cond.code yX3_ofDeal cX3_ofDeal 5 (Option.some .int) ∈ e_TB := e_tb 328 (by decide +kernel) (by decide +kernel)
theorem w_ml_RX3_94 : Cond.methodLink RX3 94 yX3_dealAt ∈ e_TB := e_tb 329 (by decide +kernel) (by decide +kernel)
theorem w_im_X3_dealAt : Cond.instanceMethod yX3_dealAt ∈ e_TB := e_tb 331 (by decide +kernel) (by decide +kernel)
theorem w_co_X3_dealAt : Cond.code yX3_dealAt cX3_dealAt 2 (Option.some (.object "Secretshares$Deal")) ∈ e_TB := e_tb 332 (by decide +kernel) (by decide +kernel)
theorem w_cl_RX3_291 : Cond.classLink RX3 291 "java/lang/IndexOutOfBoundsException" ∈ e_TB := e_tb 333 (by decide +kernel) (by decide +kernel)
theorem w_is_java_lang_IndexOutOfBoundsException : Cond.instantiable "java/lang/IndexOutOfBoundsException" 6 ∈ e_TB := e_tb 334 (by decide +kernel) (by decide +kernel)
theorem w_ca_java_lang_IndexOutOfBoundsException_java_lang_IndexOutOfBoundsException : Cond.castable "java/lang/IndexOutOfBoundsException" "java/lang/IndexOutOfBoundsException" ∈ e_NW := e_tn 335 (by decide +kernel) (by decide +kernel)
theorem w_ml_RX3_295 : Cond.methodLink RX3 295 ⟨"java/lang/IndexOutOfBoundsException", "<init>", "(Ljava/lang/String;)V"⟩ ∈ e_TB := e_tb 343 (by decide +kernel) (by decide +kernel)
theorem w_im_java_lang_IndexOutOfBoundsException__init___Ljava_lang_String__V : Cond.instanceMethod ⟨"java/lang/IndexOutOfBoundsException", "<init>", "(Ljava/lang/String;)V"⟩ ∈ e_TB := e_tb 344 (by decide +kernel) (by decide +kernel)
theorem w_ml_java_lang_IndexOutOfBoundsException_7 : Cond.methodLink "java/lang/IndexOutOfBoundsException" 7 ⟨"java/lang/RuntimeException", "<init>", "(Ljava/lang/String;)V"⟩ ∈ e_TB := e_tb 346 (by decide +kernel) (by decide +kernel)
theorem w_mn_RX3_149 : Cond.methodLinkNest RX3 149 yX0_shareCount "Secretshares" ∈ e_NW := e_tn 349 (by decide +kernel) (by decide +kernel)
theorem w_im_X0_shareCount : Cond.instanceMethod yX0_shareCount ∈ e_TB := e_tb 351 (by decide +kernel) (by decide +kernel)
theorem w_co_X0_shareCount : Cond.code yX0_shareCount cX0_shareCount 1 (Option.some .int) ∈ e_TB := e_tb 352 (by decide +kernel) (by decide +kernel)
theorem w_ml_RX0_42 : Cond.methodLink RX0 42 yX0_holderSet ∈ e_TB := e_tb 353 (by decide +kernel) (by decide +kernel)
theorem w_im_X0_holderSet : Cond.instanceMethod yX0_holderSet ∈ e_TB := e_tb 355 (by decide +kernel) (by decide +kernel)
theorem w_co_X0_holderSet : Cond.code yX0_holderSet cX0_holderSet 3 (Option.some .int) ∈ e_TB := e_tb 356 (by decide +kernel) (by decide +kernel)
theorem w_ml_RX0_46 : Cond.methodLink RX0 46 yJ6_bitCount_0f7a4 ∈ e_TB := e_tb 357 (by decide +kernel) (by decide +kernel)
theorem w_sm_J6_bitCount_0f7a4 : Cond.static yJ6_bitCount_0f7a4 ∈ e_TB := e_tb 358 (by decide +kernel) (by decide +kernel)
theorem w_co_J6_bitCount_0f7a4 : Cond.code yJ6_bitCount_0f7a4 cJ6_bitCount_0f7a4 1 (Option.some .int) ∈ e_TB := e_tb 359 (by decide +kernel) (by decide +kernel)
theorem w_k_RJ6_265 : Cond.constant RJ6 265 (eI (1431655765)) ∈ e_TB := e_tb 360 (by decide +kernel) (by decide +kernel)
theorem w_k_RJ6_266 : Cond.constant RJ6 266 (eI (858993459)) ∈ e_TB := e_tb 361 (by decide +kernel) (by decide +kernel)
theorem w_k_RJ6_267 : Cond.constant RJ6 267 (eI (252645135)) ∈ e_TB := e_tb 362 (by decide +kernel) (by decide +kernel)
theorem w_mn_RX3_185 : Cond.methodLinkNest RX3 185 yX0_holderSet "Secretshares" ∈ e_NW := e_tn 363 (by decide +kernel) (by decide +kernel)
theorem w_ml_RX3_198 : Cond.methodLink RX3 198 yX3_isInLine ∈ e_TB := e_tb 364 (by decide +kernel) (by decide +kernel)
theorem w_im_X3_isInLine : Cond.instanceMethod yX3_isInLine ∈ e_TB := e_tb 366 (by decide +kernel) (by decide +kernel)
theorem w_co_X3_isInLine : Cond.code yX3_isInLine cX3_isInLine 3 (Option.some .boolean) ∈ e_TB := e_tb 367 (by decide +kernel) (by decide +kernel)
theorem w_mn_RX3_213 : Cond.methodLinkNest RX3 213 yX2_goThrough "Secretshares" ∈ e_NW := e_tn 368 (by decide +kernel) (by decide +kernel)
theorem w_im_X2_goThrough : Cond.instanceMethod yX2_goThrough ∈ e_TB := e_tb 370 (by decide +kernel) (by decide +kernel)
theorem w_co_X2_goThrough : Cond.code yX2_goThrough cX2_goThrough 7 none ∈ e_TB := e_tb 371 (by decide +kernel) (by decide +kernel)
theorem w_ml_RX2_24 : Cond.methodLink RX2 24 yX2_clear ∈ e_TB := e_tb 372 (by decide +kernel) (by decide +kernel)
theorem w_im_X2_clear : Cond.instanceMethod yX2_clear ∈ e_TB := e_tb 374 (by decide +kernel) (by decide +kernel)
theorem w_co_X2_clear : Cond.code yX2_clear cX2_clear 2 none ∈ e_TB := e_tb 375 (by decide +kernel) (by decide +kernel)
theorem w_mn_RX2_35 : Cond.methodLinkNest RX2 35 yX3_isIn "Secretshares" ∈ e_NW := e_tn 376 (by decide +kernel) (by decide +kernel)
theorem w_ml_RX2_39 : Cond.methodLink RX2 39 yX2_makeTerm ∈ e_TB := e_tb 377 (by decide +kernel) (by decide +kernel)
theorem w_im_X2_makeTerm : Cond.instanceMethod yX2_makeTerm ∈ e_TB := e_tb 379 (by decide +kernel) (by decide +kernel)
theorem w_co_X2_makeTerm : Cond.code yX2_makeTerm cX2_makeTerm 8 (Option.some .int) ∈ e_TB := e_tb 380 (by decide +kernel) (by decide +kernel)
theorem w_mn_RX2_18 : Cond.methodLinkNest RX2 18 yX1_modPrime "Secretshares" ∈ e_NW := e_tn 381 (by decide +kernel) (by decide +kernel)
theorem w_mn_RX2_43 : Cond.methodLinkNest RX2 43 yX0_shareAt "Secretshares" ∈ e_NW := e_tn 382 (by decide +kernel) (by decide +kernel)
theorem w_mn_RX2_49 : Cond.methodLinkNest RX2 49 yX1_inverse "Secretshares" ∈ e_NW := e_tn 383 (by decide +kernel) (by decide +kernel)
theorem w_ml_RX2_52 : Cond.methodLink RX2 52 yX2_addTerm ∈ e_TB := e_tb 384 (by decide +kernel) (by decide +kernel)
theorem w_im_X2_addTerm : Cond.instanceMethod yX2_addTerm ∈ e_TB := e_tb 386 (by decide +kernel) (by decide +kernel)
theorem w_co_X2_addTerm : Cond.code yX2_addTerm cX2_addTerm 4 none ∈ e_TB := e_tb 387 (by decide +kernel) (by decide +kernel)
theorem w_mn_RX3_217 : Cond.methodLinkNest RX3 217 yX2_highest "Secretshares" ∈ e_NW := e_tn 388 (by decide +kernel) (by decide +kernel)
theorem w_im_X2_highest : Cond.instanceMethod yX2_highest ∈ e_TB := e_tb 390 (by decide +kernel) (by decide +kernel)
theorem w_co_X2_highest : Cond.code yX2_highest cX2_highest 2 (Option.some .int) ∈ e_TB := e_tb 391 (by decide +kernel) (by decide +kernel)
theorem w_ml_RX3_282 : Cond.methodLink RX3 282 yX3_share ∈ e_TB := e_tb 393 (by decide +kernel) (by decide +kernel)
theorem w_im_X3_share : Cond.instanceMethod yX3_share ∈ e_TB := e_tb 394 (by decide +kernel) (by decide +kernel)
theorem w_se_X3_share : Cond.selects RX3 yX3_share yX3_share ∈ e_TB := e_tb 395 (by decide +kernel) (by decide +kernel)
theorem w_co_X3_share : Cond.code yX3_share cX3_share 4 (Option.some .int) ∈ e_TB := e_tb 396 (by decide +kernel) (by decide +kernel)
theorem w_ml_RX3_77 : Cond.methodLink RX3 77 yX3_requireHolder ∈ e_TB := e_tb 397 (by decide +kernel) (by decide +kernel)
theorem w_im_X3_requireHolder : Cond.instanceMethod yX3_requireHolder ∈ e_TB := e_tb 399 (by decide +kernel) (by decide +kernel)
theorem w_co_X3_requireHolder : Cond.code yX3_requireHolder cX3_requireHolder 2 none ∈ e_TB := e_tb 400 (by decide +kernel) (by decide +kernel)
theorem w_ml_RX3_285 : Cond.methodLink RX3 285 yX3_seal ∈ e_TB := e_tb 402 (by decide +kernel) (by decide +kernel)
theorem w_im_X3_seal : Cond.instanceMethod yX3_seal ∈ e_TB := e_tb 403 (by decide +kernel) (by decide +kernel)
theorem w_se_X3_seal : Cond.selects RX3 yX3_seal yX3_seal ∈ e_TB := e_tb 404 (by decide +kernel) (by decide +kernel)
theorem w_co_X3_seal : Cond.code yX3_seal cX3_seal 4 (Option.some .int) ∈ e_TB := e_tb 405 (by decide +kernel) (by decide +kernel)
theorem w_ml_RX3_210 : Cond.methodLink RX3 210 yX3_requireCoefficient ∈ e_TB := e_tb 406 (by decide +kernel) (by decide +kernel)
theorem w_sm_X3_requireCoefficient : Cond.static yX3_requireCoefficient ∈ e_TB := e_tb 407 (by decide +kernel) (by decide +kernel)
theorem w_co_X3_requireCoefficient : Cond.code yX3_requireCoefficient cX3_requireCoefficient 1 none ∈ e_TB := e_tb 408 (by decide +kernel) (by decide +kernel)
theorem w_ml_RX3_288 : Cond.methodLink RX3 288 yX3_isSound ∈ e_TB := e_tb 410 (by decide +kernel) (by decide +kernel)
theorem w_cl_RL_14 : Cond.classLink RL 14 RX4 ∈ e_TB := e_tb 411 (by decide +kernel) (by decide +kernel)
theorem w_is_RX4 : Cond.instantiable RX4 2 ∈ e_TB := e_tb 412 (by decide +kernel) (by decide +kernel)
theorem w_mn_RL_143 : Cond.methodLinkNest RL 143 yX4_init "SecretsharesLaw" ∈ e_NW := e_tn 413 (by decide +kernel) (by decide +kernel)
theorem w_im_X4_init : Cond.instanceMethod yX4_init ∈ e_TB := e_tb 414 (by decide +kernel) (by decide +kernel)
theorem w_co_X4_init : Cond.code yX4_init cX4_init 1 none ∈ e_TB := e_tb 415 (by decide +kernel) (by decide +kernel)
theorem w_ml_RX4_1 : Cond.methodLink RX4 1 ⟨"java/lang/Object", "<init>", "()V"⟩ ∈ e_TB := e_tb 416 (by decide +kernel) (by decide +kernel)
theorem w_fn_RL_13 : Cond.fieldLinkNest RL 13 "SecretsharesLaw$Out" "n" "J" "SecretsharesLaw" ∈ e_NW := e_tn 417 (by decide +kernel) (by decide +kernel)
theorem w_fn_RL_125 : Cond.fieldLinkNest RL 125 "SecretsharesLaw$Out" "s" "Ljava/lang/String;" "SecretsharesLaw" ∈ e_NW := e_tn 418 (by decide +kernel) (by decide +kernel)
theorem w_ml_RL_144 : Cond.methodLink RL 144 yL_prime ∈ e_TB := e_tb 424 (by decide +kernel) (by decide +kernel)
theorem w_sm_L_prime : Cond.static yL_prime ∈ e_TB := e_tb 425 (by decide +kernel) (by decide +kernel)
theorem w_cl_RL_19 : Cond.classLink RL 19 "java/lang/IllegalArgumentException" ∈ e_TB := e_tb 427 (by decide +kernel) (by decide +kernel)
theorem w_ml_RL_7 : Cond.methodLink RL 7 yX3_prime ∈ e_TB := e_tb 428 (by decide +kernel) (by decide +kernel)
theorem w_im_X3_prime : Cond.instanceMethod yX3_prime ∈ e_TB := e_tb 429 (by decide +kernel) (by decide +kernel)
theorem w_se_X3_prime : Cond.selects RX3 yX3_prime yX3_prime ∈ e_TB := e_tb 430 (by decide +kernel) (by decide +kernel)
theorem w_co_X3_prime : Cond.code yX3_prime cX3_prime 4 (Option.some .int) ∈ e_TB := e_tb 431 (by decide +kernel) (by decide +kernel)
theorem w_fl_RX3_38 : Cond.fieldLink RX3 38 "Secretshares" "PRIMES" "[I" ∈ e_TB := e_tb 432 (by decide +kernel) (by decide +kernel)
theorem w_mn_RX3_52 : Cond.methodLinkNest RX3 52 yX1_choose "Secretshares" ∈ e_NW := e_tn 434 (by decide +kernel) (by decide +kernel)
theorem w_mn_RX3_56 : Cond.methodLinkNest RX3 56 yX0_clear "Secretshares" ∈ e_NW := e_tn 435 (by decide +kernel) (by decide +kernel)
theorem w_ml_RL_158 : Cond.methodLink RL 158 yL_reckon ∈ e_TB := e_tb 436 (by decide +kernel) (by decide +kernel)
theorem w_sm_L_reckon : Cond.static yL_reckon ∈ e_TB := e_tb 437 (by decide +kernel) (by decide +kernel)
theorem w_ml_RL_21 : Cond.methodLink RL 21 yX3_reckon ∈ e_TB := e_tb 439 (by decide +kernel) (by decide +kernel)
theorem w_im_X3_reckon : Cond.instanceMethod yX3_reckon ∈ e_TB := e_tb 440 (by decide +kernel) (by decide +kernel)
theorem w_se_X3_reckon : Cond.selects RX3 yX3_reckon yX3_reckon ∈ e_TB := e_tb 441 (by decide +kernel) (by decide +kernel)
theorem w_co_X3_reckon : Cond.code yX3_reckon cX3_reckon 4 (Option.some .int) ∈ e_TB := e_tb 442 (by decide +kernel) (by decide +kernel)
theorem w_ml_RL_174 : Cond.methodLink RL 174 yL_weight ∈ e_TB := e_tb 444 (by decide +kernel) (by decide +kernel)
theorem w_sm_L_weight : Cond.static yL_weight ∈ e_TB := e_tb 445 (by decide +kernel) (by decide +kernel)
theorem w_cl_RL_28 : Cond.classLink RL 28 "java/lang/IndexOutOfBoundsException" ∈ e_TB := e_tb 447 (by decide +kernel) (by decide +kernel)
theorem w_ml_RL_25 : Cond.methodLink RL 25 yX3_weight ∈ e_TB := e_tb 448 (by decide +kernel) (by decide +kernel)
theorem w_im_X3_weight : Cond.instanceMethod yX3_weight ∈ e_TB := e_tb 449 (by decide +kernel) (by decide +kernel)
theorem w_se_X3_weight : Cond.selects RX3 yX3_weight yX3_weight ∈ e_TB := e_tb 450 (by decide +kernel) (by decide +kernel)
theorem w_co_X3_weight : Cond.code yX3_weight cX3_weight 4 (Option.some .int) ∈ e_TB := e_tb 451 (by decide +kernel) (by decide +kernel)
theorem w_ml_RX3_80 : Cond.methodLink RX3 80 yX3_requireSet ∈ e_TB := e_tb 452 (by decide +kernel) (by decide +kernel)
theorem w_im_X3_requireSet : Cond.instanceMethod yX3_requireSet ∈ e_TB := e_tb 454 (by decide +kernel) (by decide +kernel)
theorem w_co_X3_requireSet : Cond.code yX3_requireSet cX3_requireSet 2 none ∈ e_TB := e_tb 455 (by decide +kernel) (by decide +kernel)
theorem w_ml_RL_177 : Cond.methodLink RL 177 yL_weights ∈ e_TB := e_tb 457 (by decide +kernel) (by decide +kernel)
theorem w_sm_L_weights : Cond.static yL_weights ∈ e_TB := e_tb 458 (by decide +kernel) (by decide +kernel)
theorem w_ml_RL_30 : Cond.methodLink RL 30 yX3_weights ∈ e_TB := e_tb 460 (by decide +kernel) (by decide +kernel)
theorem w_im_X3_weights : Cond.instanceMethod yX3_weights ∈ e_TB := e_tb 461 (by decide +kernel) (by decide +kernel)
theorem w_se_X3_weights : Cond.selects RX3 yX3_weights yX3_weights ∈ e_TB := e_tb 462 (by decide +kernel) (by decide +kernel)
theorem w_co_X3_weights : Cond.code yX3_weights cX3_weights 3 (Option.some .int) ∈ e_TB := e_tb 463 (by decide +kernel) (by decide +kernel)
theorem w_ml_RL_181 : Cond.methodLink RL 181 yL_hide ∈ e_TB := e_tb 464 (by decide +kernel) (by decide +kernel)
theorem w_sm_L_hide : Cond.static yL_hide ∈ e_TB := e_tb 465 (by decide +kernel) (by decide +kernel)
theorem w_ml_RL_34 : Cond.methodLink RL 34 yX3_hide ∈ e_TB := e_tb 467 (by decide +kernel) (by decide +kernel)
theorem w_im_X3_hide : Cond.instanceMethod yX3_hide ∈ e_TB := e_tb 468 (by decide +kernel) (by decide +kernel)
theorem w_se_X3_hide : Cond.selects RX3 yX3_hide yX3_hide ∈ e_TB := e_tb 469 (by decide +kernel) (by decide +kernel)
theorem w_co_X3_hide : Cond.code yX3_hide cX3_hide 8 (Option.some .int) ∈ e_TB := e_tb 470 (by decide +kernel) (by decide +kernel)
theorem w_ml_RX3_98 : Cond.methodLink RX3 98 yX3_requireToldDegree ∈ e_TB := e_tb 471 (by decide +kernel) (by decide +kernel)
theorem w_sm_X3_requireToldDegree : Cond.static yX3_requireToldDegree ∈ e_TB := e_tb 472 (by decide +kernel) (by decide +kernel)
theorem w_co_X3_requireToldDegree : Cond.code yX3_requireToldDegree cX3_requireToldDegree 1 none ∈ e_TB := e_tb 473 (by decide +kernel) (by decide +kernel)
theorem w_mn_RX3_101 : Cond.methodLinkNest RX3 101 yX2_become "Secretshares" ∈ e_NW := e_tn 475 (by decide +kernel) (by decide +kernel)
theorem w_im_X2_become : Cond.instanceMethod yX2_become ∈ e_TB := e_tb 477 (by decide +kernel) (by decide +kernel)
theorem w_co_X2_become : Cond.code yX2_become cX2_become 7 none ∈ e_TB := e_tb 478 (by decide +kernel) (by decide +kernel)
theorem w_ml_RX2_27 : Cond.methodLink RX2 27 yX2_addTo ∈ e_TB := e_tb 479 (by decide +kernel) (by decide +kernel)
theorem w_im_X2_addTo : Cond.instanceMethod yX2_addTo ∈ e_TB := e_tb 481 (by decide +kernel) (by decide +kernel)
theorem w_co_X2_addTo : Cond.code yX2_addTo cX2_addTo 5 none ∈ e_TB := e_tb 482 (by decide +kernel) (by decide +kernel)
theorem w_ml_RX3_105 : Cond.methodLink RX3 105 yX3_layPoly ∈ e_TB := e_tb 483 (by decide +kernel) (by decide +kernel)
theorem w_im_X3_layPoly : Cond.instanceMethod yX3_layPoly ∈ e_TB := e_tb 485 (by decide +kernel) (by decide +kernel)
theorem w_co_X3_layPoly : Cond.code yX3_layPoly cX3_layPoly 4 (Option.some .int) ∈ e_TB := e_tb 486 (by decide +kernel) (by decide +kernel)
theorem w_mn_RX3_157 : Cond.methodLinkNest RX3 157 yX0_start "Secretshares" ∈ e_NW := e_tn 487 (by decide +kernel) (by decide +kernel)
theorem w_im_X0_start : Cond.instanceMethod yX0_start ∈ e_TB := e_tb 489 (by decide +kernel) (by decide +kernel)
theorem w_co_X0_start : Cond.code yX0_start cX0_start 2 none ∈ e_TB := e_tb 490 (by decide +kernel) (by decide +kernel)
theorem w_mn_RX3_126 : Cond.methodLinkNest RX3 126 yX2_valueAt "Secretshares" ∈ e_NW := e_tn 491 (by decide +kernel) (by decide +kernel)
theorem w_im_X2_valueAt : Cond.instanceMethod yX2_valueAt ∈ e_TB := e_tb 493 (by decide +kernel) (by decide +kernel)
theorem w_co_X2_valueAt : Cond.code yX2_valueAt cX2_valueAt 5 (Option.some .int) ∈ e_TB := e_tb 494 (by decide +kernel) (by decide +kernel)
theorem w_mn_RX3_130 : Cond.methodLinkNest RX3 130 yX0_setShare "Secretshares" ∈ e_NW := e_tn 495 (by decide +kernel) (by decide +kernel)
theorem w_im_X0_setShare : Cond.instanceMethod yX0_setShare ∈ e_TB := e_tb 497 (by decide +kernel) (by decide +kernel)
theorem w_co_X0_setShare : Cond.code yX0_setShare cX0_setShare 3 none ∈ e_TB := e_tb 498 (by decide +kernel) (by decide +kernel)
theorem w_mn_RX3_140 : Cond.methodLinkNest RX3 140 yX2_at "Secretshares" ∈ e_NW := e_tn 499 (by decide +kernel) (by decide +kernel)
theorem w_im_X2_at : Cond.instanceMethod yX2_at ∈ e_TB := e_tb 501 (by decide +kernel) (by decide +kernel)
theorem w_co_X2_at : Cond.code yX2_at cX2_at 2 (Option.some .int) ∈ e_TB := e_tb 502 (by decide +kernel) (by decide +kernel)
theorem w_mn_RX3_167 : Cond.methodLinkNest RX3 167 yX0_addSeal "Secretshares" ∈ e_NW := e_tn 503 (by decide +kernel) (by decide +kernel)
theorem w_im_X0_addSeal : Cond.instanceMethod yX0_addSeal ∈ e_TB := e_tb 505 (by decide +kernel) (by decide +kernel)
theorem w_co_X0_addSeal : Cond.code yX0_addSeal cX0_addSeal 2 none ∈ e_TB := e_tb 506 (by decide +kernel) (by decide +kernel)
theorem w_ml_RL_185 : Cond.methodLink RL 185 yL_pour ∈ e_TB := e_tb 507 (by decide +kernel) (by decide +kernel)
theorem w_sm_L_pour : Cond.static yL_pour ∈ e_TB := e_tb 508 (by decide +kernel) (by decide +kernel)
theorem w_ml_RL_38 : Cond.methodLink RL 38 yX3_pour ∈ e_TB := e_tb 510 (by decide +kernel) (by decide +kernel)
theorem w_im_X3_pour : Cond.instanceMethod yX3_pour ∈ e_TB := e_tb 511 (by decide +kernel) (by decide +kernel)
theorem w_se_X3_pour : Cond.selects RX3 yX3_pour yX3_pour ∈ e_TB := e_tb 512 (by decide +kernel) (by decide +kernel)
theorem w_co_X3_pour : Cond.code yX3_pour cX3_pour 10 (Option.some .int) ∈ e_TB := e_tb 513 (by decide +kernel) (by decide +kernel)
theorem w_mn_RX3_119 : Cond.methodLinkNest RX3 119 yX0_hasShare "Secretshares" ∈ e_NW := e_tn 514 (by decide +kernel) (by decide +kernel)
theorem w_im_X0_hasShare : Cond.instanceMethod yX0_hasShare ∈ e_TB := e_tb 516 (by decide +kernel) (by decide +kernel)
theorem w_co_X0_hasShare : Cond.code yX0_hasShare cX0_hasShare 2 (Option.some .boolean) ∈ e_TB := e_tb 517 (by decide +kernel) (by decide +kernel)
theorem w_ml_RX0_32 : Cond.methodLink RX0 32 yX0_shareAt ∈ e_TB := e_tb 518 (by decide +kernel) (by decide +kernel)
theorem w_mn_RX3_146 : Cond.methodLinkNest RX3 146 yX0_setSeal "Secretshares" ∈ e_NW := e_tn 519 (by decide +kernel) (by decide +kernel)
theorem w_im_X0_setSeal : Cond.instanceMethod yX0_setSeal ∈ e_TB := e_tb 521 (by decide +kernel) (by decide +kernel)
theorem w_co_X0_setSeal : Cond.code yX0_setSeal cX0_setSeal 3 none ∈ e_TB := e_tb 522 (by decide +kernel) (by decide +kernel)
theorem w_ml_RL_189 : Cond.methodLink RL 189 yL_plus ∈ e_TB := e_tb 523 (by decide +kernel) (by decide +kernel)
theorem w_sm_L_plus : Cond.static yL_plus ∈ e_TB := e_tb 524 (by decide +kernel) (by decide +kernel)
theorem w_ml_RL_42 : Cond.methodLink RL 42 yX3_plus ∈ e_TB := e_tb 526 (by decide +kernel) (by decide +kernel)
theorem w_im_X3_plus : Cond.instanceMethod yX3_plus ∈ e_TB := e_tb 527 (by decide +kernel) (by decide +kernel)
theorem w_se_X3_plus : Cond.selects RX3 yX3_plus yX3_plus ∈ e_TB := e_tb 528 (by decide +kernel) (by decide +kernel)
theorem w_co_X3_plus : Cond.code yX3_plus cX3_plus 4 (Option.some .int) ∈ e_TB := e_tb 529 (by decide +kernel) (by decide +kernel)
theorem w_ml_RX3_153 : Cond.methodLink RX3 153 yX3_addUp ∈ e_TB := e_tb 530 (by decide +kernel) (by decide +kernel)
theorem w_im_X3_addUp : Cond.instanceMethod yX3_addUp ∈ e_TB := e_tb 532 (by decide +kernel) (by decide +kernel)
theorem w_co_X3_addUp : Cond.code yX3_addUp cX3_addUp 8 (Option.some .int) ∈ e_TB := e_tb 533 (by decide +kernel) (by decide +kernel)
theorem w_ml_RX3_307 : Cond.methodLink RX3 307 yJ9_max_7cf53 ∈ e_TB := e_tb 534 (by decide +kernel) (by decide +kernel)
theorem w_sm_J9_max_7cf53 : Cond.static yJ9_max_7cf53 ∈ e_TB := e_tb 535 (by decide +kernel) (by decide +kernel)
theorem w_co_J9_max_7cf53 : Cond.code yJ9_max_7cf53 cJ9_max_7cf53 2 (Option.some .int) ∈ e_TB := e_tb 536 (by decide +kernel) (by decide +kernel)
theorem w_ml_RX3_312 : Cond.methodLink RX3 312 yX3_addUpSeals ∈ e_TB := e_tb 537 (by decide +kernel) (by decide +kernel)
theorem w_im_X3_addUpSeals : Cond.instanceMethod yX3_addUpSeals ∈ e_TB := e_tb 539 (by decide +kernel) (by decide +kernel)
theorem w_co_X3_addUpSeals : Cond.code yX3_addUpSeals cX3_addUpSeals 7 none ∈ e_TB := e_tb 540 (by decide +kernel) (by decide +kernel)
theorem w_mn_RX3_316 : Cond.methodLinkNest RX3 316 yX1_inverseSeal "Secretshares" ∈ e_NW := e_tn 541 (by decide +kernel) (by decide +kernel)
theorem w_im_X1_inverseSeal : Cond.instanceMethod yX1_inverseSeal ∈ e_TB := e_tb 543 (by decide +kernel) (by decide +kernel)
theorem w_co_X1_inverseSeal : Cond.code yX1_inverseSeal cX1_inverseSeal 2 (Option.some .int) ∈ e_TB := e_tb 544 (by decide +kernel) (by decide +kernel)
theorem w_ml_RX3_160 : Cond.methodLink RX3 160 yX3_laySpare ∈ e_TB := e_tb 545 (by decide +kernel) (by decide +kernel)
theorem w_im_X3_laySpare : Cond.instanceMethod yX3_laySpare ∈ e_TB := e_tb 547 (by decide +kernel) (by decide +kernel)
theorem w_co_X3_laySpare : Cond.code yX3_laySpare cX3_laySpare 2 (Option.some .int) ∈ e_TB := e_tb 548 (by decide +kernel) (by decide +kernel)
theorem w_mn_RX3_191 : Cond.methodLinkNest RX3 191 yX0_take "Secretshares" ∈ e_NW := e_tn 549 (by decide +kernel) (by decide +kernel)
theorem w_im_X0_take : Cond.instanceMethod yX0_take ∈ e_TB := e_tb 551 (by decide +kernel) (by decide +kernel)
theorem w_co_X0_take : Cond.code yX0_take cX0_take 3 none ∈ e_TB := e_tb 552 (by decide +kernel) (by decide +kernel)
theorem w_ml_RX0_36 : Cond.methodLink RX0 36 yX0_sealAt ∈ e_TB := e_tb 553 (by decide +kernel) (by decide +kernel)
theorem w_ml_RL_192 : Cond.methodLink RL 192 yL_less ∈ e_TB := e_tb 554 (by decide +kernel) (by decide +kernel)
theorem w_sm_L_less : Cond.static yL_less ∈ e_TB := e_tb 555 (by decide +kernel) (by decide +kernel)
theorem w_ml_RL_45 : Cond.methodLink RL 45 yX3_less ∈ e_TB := e_tb 557 (by decide +kernel) (by decide +kernel)
theorem w_im_X3_less : Cond.instanceMethod yX3_less ∈ e_TB := e_tb 558 (by decide +kernel) (by decide +kernel)
theorem w_se_X3_less : Cond.selects RX3 yX3_less yX3_less ∈ e_TB := e_tb 559 (by decide +kernel) (by decide +kernel)
theorem w_co_X3_less : Cond.code yX3_less cX3_less 4 (Option.some .int) ∈ e_TB := e_tb 560 (by decide +kernel) (by decide +kernel)
theorem w_ml_RL_195 : Cond.methodLink RL 195 yL_times ∈ e_TB := e_tb 561 (by decide +kernel) (by decide +kernel)
theorem w_sm_L_times : Cond.static yL_times ∈ e_TB := e_tb 562 (by decide +kernel) (by decide +kernel)
theorem w_ml_RL_48 : Cond.methodLink RL 48 yX3_times ∈ e_TB := e_tb 564 (by decide +kernel) (by decide +kernel)
theorem w_im_X3_times : Cond.instanceMethod yX3_times ∈ e_TB := e_tb 565 (by decide +kernel) (by decide +kernel)
theorem w_se_X3_times : Cond.selects RX3 yX3_times yX3_times ∈ e_TB := e_tb 566 (by decide +kernel) (by decide +kernel)
theorem w_co_X3_times : Cond.code yX3_times cX3_times 10 (Option.some .int) ∈ e_TB := e_tb 567 (by decide +kernel) (by decide +kernel)
theorem w_ml_RL_198 : Cond.methodLink RL 198 yL_scale ∈ e_TB := e_tb 568 (by decide +kernel) (by decide +kernel)
theorem w_sm_L_scale : Cond.static yL_scale ∈ e_TB := e_tb 569 (by decide +kernel) (by decide +kernel)
theorem w_ml_RL_51 : Cond.methodLink RL 51 yX3_scale ∈ e_TB := e_tb 571 (by decide +kernel) (by decide +kernel)
theorem w_im_X3_scale : Cond.instanceMethod yX3_scale ∈ e_TB := e_tb 572 (by decide +kernel) (by decide +kernel)
theorem w_se_X3_scale : Cond.selects RX3 yX3_scale yX3_scale ∈ e_TB := e_tb 573 (by decide +kernel) (by decide +kernel)
theorem w_co_X3_scale : Cond.code yX3_scale cX3_scale 8 (Option.some .int) ∈ e_TB := e_tb 574 (by decide +kernel) (by decide +kernel)
theorem w_ml_RL_201 : Cond.methodLink RL 201 yL_handOn ∈ e_TB := e_tb 575 (by decide +kernel) (by decide +kernel)
theorem w_sm_L_handOn : Cond.static yL_handOn ∈ e_TB := e_tb 576 (by decide +kernel) (by decide +kernel)
theorem w_ml_RL_54 : Cond.methodLink RL 54 yX3_handOn ∈ e_TB := e_tb 578 (by decide +kernel) (by decide +kernel)
theorem w_im_X3_handOn : Cond.instanceMethod yX3_handOn ∈ e_TB := e_tb 579 (by decide +kernel) (by decide +kernel)
theorem w_se_X3_handOn : Cond.selects RX3 yX3_handOn yX3_handOn ∈ e_TB := e_tb 580 (by decide +kernel) (by decide +kernel)
theorem w_co_X3_handOn : Cond.code yX3_handOn cX3_handOn 12 (Option.some .int) ∈ e_TB := e_tb 581 (by decide +kernel) (by decide +kernel)
theorem w_mn_RX3_170 : Cond.methodLinkNest RX3 170 yX0_isEnough "Secretshares" ∈ e_NW := e_tn 582 (by decide +kernel) (by decide +kernel)
theorem w_im_X0_isEnough : Cond.instanceMethod yX0_isEnough ∈ e_TB := e_tb 584 (by decide +kernel) (by decide +kernel)
theorem w_co_X0_isEnough : Cond.code yX0_isEnough cX0_isEnough 2 (Option.some .boolean) ∈ e_TB := e_tb 585 (by decide +kernel) (by decide +kernel)
theorem w_ml_RX0_51 : Cond.methodLink RX0 51 yX0_isThere ∈ e_TB := e_tb 586 (by decide +kernel) (by decide +kernel)
theorem w_im_X0_isThere : Cond.instanceMethod yX0_isThere ∈ e_TB := e_tb 588 (by decide +kernel) (by decide +kernel)
theorem w_co_X0_isThere : Cond.code yX0_isThere cX0_isThere 2 (Option.some .boolean) ∈ e_TB := e_tb 589 (by decide +kernel) (by decide +kernel)
theorem w_mn_RX3_173 : Cond.methodLinkNest RX3 173 yX2_clear "Secretshares" ∈ e_NW := e_tn 590 (by decide +kernel) (by decide +kernel)
theorem w_mn_RX3_174 : Cond.methodLinkNest RX3 174 yX2_addTo "Secretshares" ∈ e_NW := e_tn 591 (by decide +kernel) (by decide +kernel)
theorem w_ml_RL_204 : Cond.methodLink RL 204 yL_lose ∈ e_TB := e_tb 592 (by decide +kernel) (by decide +kernel)
theorem w_sm_L_lose : Cond.static yL_lose ∈ e_TB := e_tb 593 (by decide +kernel) (by decide +kernel)
theorem w_ml_RL_57 : Cond.methodLink RL 57 yX3_lose ∈ e_TB := e_tb 595 (by decide +kernel) (by decide +kernel)
theorem w_im_X3_lose : Cond.instanceMethod yX3_lose ∈ e_TB := e_tb 596 (by decide +kernel) (by decide +kernel)
theorem w_se_X3_lose : Cond.selects RX3 yX3_lose yX3_lose ∈ e_TB := e_tb 597 (by decide +kernel) (by decide +kernel)
theorem w_co_X3_lose : Cond.code yX3_lose cX3_lose 5 (Option.some .int) ∈ e_TB := e_tb 598 (by decide +kernel) (by decide +kernel)
theorem w_ml_RL_207 : Cond.methodLink RL 207 yL_give ∈ e_TB := e_tb 599 (by decide +kernel) (by decide +kernel)
theorem w_sm_L_give : Cond.static yL_give ∈ e_TB := e_tb 600 (by decide +kernel) (by decide +kernel)
theorem w_ml_RL_60 : Cond.methodLink RL 60 yX3_give ∈ e_TB := e_tb 602 (by decide +kernel) (by decide +kernel)
theorem w_im_X3_give : Cond.instanceMethod yX3_give ∈ e_TB := e_tb 603 (by decide +kernel) (by decide +kernel)
theorem w_se_X3_give : Cond.selects RX3 yX3_give yX3_give ∈ e_TB := e_tb 604 (by decide +kernel) (by decide +kernel)
theorem w_co_X3_give : Cond.code yX3_give cX3_give 6 (Option.some .int) ∈ e_TB := e_tb 605 (by decide +kernel) (by decide +kernel)
theorem w_ml_RL_210 : Cond.methodLink RL 210 yL_regain ∈ e_TB := e_tb 606 (by decide +kernel) (by decide +kernel)
theorem w_sm_L_regain : Cond.static yL_regain ∈ e_TB := e_tb 607 (by decide +kernel) (by decide +kernel)
theorem w_ml_RL_63 : Cond.methodLink RL 63 yX3_regain ∈ e_TB := e_tb 609 (by decide +kernel) (by decide +kernel)
theorem w_im_X3_regain : Cond.instanceMethod yX3_regain ∈ e_TB := e_tb 610 (by decide +kernel) (by decide +kernel)
theorem w_se_X3_regain : Cond.selects RX3 yX3_regain yX3_regain ∈ e_TB := e_tb 611 (by decide +kernel) (by decide +kernel)
theorem w_co_X3_regain : Cond.code yX3_regain cX3_regain 6 (Option.some .int) ∈ e_TB := e_tb 612 (by decide +kernel) (by decide +kernel)
theorem w_ml_RL_213 : Cond.methodLink RL 213 yL_mend ∈ e_TB := e_tb 613 (by decide +kernel) (by decide +kernel)
theorem w_sm_L_mend : Cond.static yL_mend ∈ e_TB := e_tb 614 (by decide +kernel) (by decide +kernel)
theorem w_ml_RL_66 : Cond.methodLink RL 66 yX3_mend ∈ e_TB := e_tb 616 (by decide +kernel) (by decide +kernel)
theorem w_im_X3_mend : Cond.instanceMethod yX3_mend ∈ e_TB := e_tb 617 (by decide +kernel) (by decide +kernel)
theorem w_se_X3_mend : Cond.selects RX3 yX3_mend yX3_mend ∈ e_TB := e_tb 618 (by decide +kernel) (by decide +kernel)
theorem w_co_X3_mend : Cond.code yX3_mend cX3_mend 5 (Option.some .int) ∈ e_TB := e_tb 619 (by decide +kernel) (by decide +kernel)
theorem w_ml_RX3_182 : Cond.methodLink RX3 182 yX3_wrongHolder ∈ e_TB := e_tb 620 (by decide +kernel) (by decide +kernel)
theorem w_im_X3_wrongHolder : Cond.instanceMethod yX3_wrongHolder ∈ e_TB := e_tb 622 (by decide +kernel) (by decide +kernel)
theorem w_co_X3_wrongHolder : Cond.code yX3_wrongHolder cX3_wrongHolder 4 (Option.some .int) ∈ e_TB := e_tb 623 (by decide +kernel) (by decide +kernel)
theorem w_ml_RX3_220 : Cond.methodLink RX3 220 yX3_suspectSet ∈ e_TB := e_tb 624 (by decide +kernel) (by decide +kernel)
theorem w_im_X3_suspectSet : Cond.instanceMethod yX3_suspectSet ∈ e_TB := e_tb 626 (by decide +kernel) (by decide +kernel)
theorem w_co_X3_suspectSet : Cond.code yX3_suspectSet cX3_suspectSet 5 (Option.some .int) ∈ e_TB := e_tb 627 (by decide +kernel) (by decide +kernel)
theorem w_ml_RX3_188 : Cond.methodLink RX3 188 yX3_bitOf ∈ e_TB := e_tb 628 (by decide +kernel) (by decide +kernel)
theorem w_ml_RL_216 : Cond.methodLink RL 216 yL_copy ∈ e_TB := e_tb 629 (by decide +kernel) (by decide +kernel)
theorem w_sm_L_copy : Cond.static yL_copy ∈ e_TB := e_tb 630 (by decide +kernel) (by decide +kernel)
theorem w_ml_RL_69 : Cond.methodLink RL 69 yX3_copy ∈ e_TB := e_tb 632 (by decide +kernel) (by decide +kernel)
theorem w_im_X3_copy : Cond.instanceMethod yX3_copy ∈ e_TB := e_tb 633 (by decide +kernel) (by decide +kernel)
theorem w_se_X3_copy : Cond.selects RX3 yX3_copy yX3_copy ∈ e_TB := e_tb 634 (by decide +kernel) (by decide +kernel)
theorem w_co_X3_copy : Cond.code yX3_copy cX3_copy 5 (Option.some .int) ∈ e_TB := e_tb 635 (by decide +kernel) (by decide +kernel)
theorem w_ml_RL_219 : Cond.methodLink RL 219 yL_drop ∈ e_TB := e_tb 636 (by decide +kernel) (by decide +kernel)
theorem w_sm_L_drop : Cond.static yL_drop ∈ e_TB := e_tb 637 (by decide +kernel) (by decide +kernel)
theorem w_ml_RL_72 : Cond.methodLink RL 72 yX3_drop ∈ e_TB := e_tb 639 (by decide +kernel) (by decide +kernel)
theorem w_im_X3_drop : Cond.instanceMethod yX3_drop ∈ e_TB := e_tb 640 (by decide +kernel) (by decide +kernel)
theorem w_se_X3_drop : Cond.selects RX3 yX3_drop yX3_drop ∈ e_TB := e_tb 641 (by decide +kernel) (by decide +kernel)
theorem w_co_X3_drop : Cond.code yX3_drop cX3_drop 4 (Option.some .int) ∈ e_TB := e_tb 642 (by decide +kernel) (by decide +kernel)
theorem w_ml_RL_226 : Cond.methodLink RL 226 yL_share ∈ e_TB := e_tb 643 (by decide +kernel) (by decide +kernel)
theorem w_sm_L_share : Cond.static yL_share ∈ e_TB := e_tb 644 (by decide +kernel) (by decide +kernel)
theorem w_ml_RL_75 : Cond.methodLink RL 75 yX3_share ∈ e_TB := e_tb 646 (by decide +kernel) (by decide +kernel)
theorem w_ml_RL_229 : Cond.methodLink RL 229 yL_ofDeal ∈ e_TB := e_tb 647 (by decide +kernel) (by decide +kernel)
theorem w_sm_L_ofDeal : Cond.static yL_ofDeal ∈ e_TB := e_tb 648 (by decide +kernel) (by decide +kernel)
theorem w_ml_RL_78 : Cond.methodLink RL 78 yX3_ofDeal ∈ e_TB := e_tb 650 (by decide +kernel) (by decide +kernel)
theorem w_ml_RL_232 : Cond.methodLink RL 232 yL_told ∈ e_TB := e_tb 651 (by decide +kernel) (by decide +kernel)
theorem w_sm_L_told : Cond.static yL_told ∈ e_TB := e_tb 652 (by decide +kernel) (by decide +kernel)
theorem w_ml_RL_81 : Cond.methodLink RL 81 yX3_told ∈ e_TB := e_tb 654 (by decide +kernel) (by decide +kernel)
theorem w_im_X3_told : Cond.instanceMethod yX3_told ∈ e_TB := e_tb 655 (by decide +kernel) (by decide +kernel)
theorem w_se_X3_told : Cond.selects RX3 yX3_told yX3_told ∈ e_TB := e_tb 656 (by decide +kernel) (by decide +kernel)
theorem w_co_X3_told : Cond.code yX3_told cX3_told 5 (Option.some .int) ∈ e_TB := e_tb 657 (by decide +kernel) (by decide +kernel)
theorem w_mn_RX3_207 : Cond.methodLinkNest RX3 207 yX0_isThere "Secretshares" ∈ e_NW := e_tn 658 (by decide +kernel) (by decide +kernel)
theorem w_ml_RL_235 : Cond.methodLink RL 235 yL_open ∈ e_TB := e_tb 659 (by decide +kernel) (by decide +kernel)
theorem w_sm_L_open : Cond.static yL_open ∈ e_TB := e_tb 660 (by decide +kernel) (by decide +kernel)
theorem w_ml_RL_84 : Cond.methodLink RL 84 yX3_open ∈ e_TB := e_tb 662 (by decide +kernel) (by decide +kernel)
theorem w_im_X3_open : Cond.instanceMethod yX3_open ∈ e_TB := e_tb 663 (by decide +kernel) (by decide +kernel)
theorem w_se_X3_open : Cond.selects RX3 yX3_open yX3_open ∈ e_TB := e_tb 664 (by decide +kernel) (by decide +kernel)
theorem w_co_X3_open : Cond.code yX3_open cX3_open 4 (Option.some .int) ∈ e_TB := e_tb 665 (by decide +kernel) (by decide +kernel)
theorem w_ml_RL_238 : Cond.methodLink RL 238 yL_coefficient ∈ e_TB := e_tb 666 (by decide +kernel) (by decide +kernel)
theorem w_sm_L_coefficient : Cond.static yL_coefficient ∈ e_TB := e_tb 667 (by decide +kernel) (by decide +kernel)
theorem w_ml_RL_87 : Cond.methodLink RL 87 yX3_coefficient ∈ e_TB := e_tb 669 (by decide +kernel) (by decide +kernel)
theorem w_im_X3_coefficient : Cond.instanceMethod yX3_coefficient ∈ e_TB := e_tb 670 (by decide +kernel) (by decide +kernel)
theorem w_se_X3_coefficient : Cond.selects RX3 yX3_coefficient yX3_coefficient ∈ e_TB := e_tb 671 (by decide +kernel) (by decide +kernel)
theorem w_co_X3_coefficient : Cond.code yX3_coefficient cX3_coefficient 5 (Option.some .int) ∈ e_TB := e_tb 672 (by decide +kernel) (by decide +kernel)
theorem w_ml_RL_241 : Cond.methodLink RL 241 yL_degreeBy ∈ e_TB := e_tb 673 (by decide +kernel) (by decide +kernel)
theorem w_sm_L_degreeBy : Cond.static yL_degreeBy ∈ e_TB := e_tb 674 (by decide +kernel) (by decide +kernel)
theorem w_ml_RL_90 : Cond.methodLink RL 90 yX3_degreeBy ∈ e_TB := e_tb 676 (by decide +kernel) (by decide +kernel)
theorem w_im_X3_degreeBy : Cond.instanceMethod yX3_degreeBy ∈ e_TB := e_tb 677 (by decide +kernel) (by decide +kernel)
theorem w_se_X3_degreeBy : Cond.selects RX3 yX3_degreeBy yX3_degreeBy ∈ e_TB := e_tb 678 (by decide +kernel) (by decide +kernel)
theorem w_co_X3_degreeBy : Cond.code yX3_degreeBy cX3_degreeBy 4 (Option.some .int) ∈ e_TB := e_tb 679 (by decide +kernel) (by decide +kernel)
theorem w_ml_RL_244 : Cond.methodLink RL 244 yL_agrees ∈ e_TB := e_tb 680 (by decide +kernel) (by decide +kernel)
theorem w_sm_L_agrees : Cond.static yL_agrees ∈ e_TB := e_tb 681 (by decide +kernel) (by decide +kernel)
theorem w_ml_RL_93 : Cond.methodLink RL 93 yX3_agrees ∈ e_TB := e_tb 683 (by decide +kernel) (by decide +kernel)
theorem w_im_X3_agrees : Cond.instanceMethod yX3_agrees ∈ e_TB := e_tb 684 (by decide +kernel) (by decide +kernel)
theorem w_se_X3_agrees : Cond.selects RX3 yX3_agrees yX3_agrees ∈ e_TB := e_tb 685 (by decide +kernel) (by decide +kernel)
theorem w_co_X3_agrees : Cond.code yX3_agrees cX3_agrees 4 (Option.some .int) ∈ e_TB := e_tb 686 (by decide +kernel) (by decide +kernel)
theorem w_ml_RL_247 : Cond.methodLink RL 247 yL_suspects ∈ e_TB := e_tb 687 (by decide +kernel) (by decide +kernel)
theorem w_sm_L_suspects : Cond.static yL_suspects ∈ e_TB := e_tb 688 (by decide +kernel) (by decide +kernel)
theorem w_ml_RL_96 : Cond.methodLink RL 96 yX3_suspects ∈ e_TB := e_tb 690 (by decide +kernel) (by decide +kernel)
theorem w_im_X3_suspects : Cond.instanceMethod yX3_suspects ∈ e_TB := e_tb 691 (by decide +kernel) (by decide +kernel)
theorem w_se_X3_suspects : Cond.selects RX3 yX3_suspects yX3_suspects ∈ e_TB := e_tb 692 (by decide +kernel) (by decide +kernel)
theorem w_co_X3_suspects : Cond.code yX3_suspects cX3_suspects 3 (Option.some .int) ∈ e_TB := e_tb 693 (by decide +kernel) (by decide +kernel)
theorem w_ml_RL_250 : Cond.methodLink RL 250 yL_wrong ∈ e_TB := e_tb 694 (by decide +kernel) (by decide +kernel)
theorem w_sm_L_wrong : Cond.static yL_wrong ∈ e_TB := e_tb 695 (by decide +kernel) (by decide +kernel)
theorem w_ml_RL_99 : Cond.methodLink RL 99 yX3_wrong ∈ e_TB := e_tb 697 (by decide +kernel) (by decide +kernel)
theorem w_im_X3_wrong : Cond.instanceMethod yX3_wrong ∈ e_TB := e_tb 698 (by decide +kernel) (by decide +kernel)
theorem w_se_X3_wrong : Cond.selects RX3 yX3_wrong yX3_wrong ∈ e_TB := e_tb 699 (by decide +kernel) (by decide +kernel)
theorem w_co_X3_wrong : Cond.code yX3_wrong cX3_wrong 2 (Option.some .int) ∈ e_TB := e_tb 700 (by decide +kernel) (by decide +kernel)
theorem w_ml_RL_253 : Cond.methodLink RL 253 yL_ways ∈ e_TB := e_tb 701 (by decide +kernel) (by decide +kernel)
theorem w_sm_L_ways : Cond.static yL_ways ∈ e_TB := e_tb 702 (by decide +kernel) (by decide +kernel)
theorem w_ml_RL_102 : Cond.methodLink RL 102 yX3_ways ∈ e_TB := e_tb 704 (by decide +kernel) (by decide +kernel)
theorem w_im_X3_ways : Cond.instanceMethod yX3_ways ∈ e_TB := e_tb 705 (by decide +kernel) (by decide +kernel)
theorem w_se_X3_ways : Cond.selects RX3 yX3_ways yX3_ways ∈ e_TB := e_tb 706 (by decide +kernel) (by decide +kernel)
theorem w_co_X3_ways : Cond.code yX3_ways cX3_ways 6 (Option.some .int) ∈ e_TB := e_tb 707 (by decide +kernel) (by decide +kernel)
theorem w_ml_RX3_223 : Cond.methodLink RX3 223 yX3_polysBeyond ∈ e_TB := e_tb 708 (by decide +kernel) (by decide +kernel)
theorem w_im_X3_polysBeyond : Cond.instanceMethod yX3_polysBeyond ∈ e_TB := e_tb 710 (by decide +kernel) (by decide +kernel)
theorem w_co_X3_polysBeyond : Cond.code yX3_polysBeyond cX3_polysBeyond 4 (Option.some .int) ∈ e_TB := e_tb 711 (by decide +kernel) (by decide +kernel)
theorem w_ml_RX3_226 : Cond.methodLink RX3 226 yJ6_bitCount_0f7a4 ∈ e_TB := e_tb 712 (by decide +kernel) (by decide +kernel)
theorem w_ml_RL_256 : Cond.methodLink RL 256 yL_total ∈ e_TB := e_tb 713 (by decide +kernel) (by decide +kernel)
theorem w_sm_L_total : Cond.static yL_total ∈ e_TB := e_tb 714 (by decide +kernel) (by decide +kernel)
theorem w_ml_RL_105 : Cond.methodLink RL 105 yX3_total ∈ e_TB := e_tb 716 (by decide +kernel) (by decide +kernel)
theorem w_im_X3_total : Cond.instanceMethod yX3_total ∈ e_TB := e_tb 717 (by decide +kernel) (by decide +kernel)
theorem w_se_X3_total : Cond.selects RX3 yX3_total yX3_total ∈ e_TB := e_tb 718 (by decide +kernel) (by decide +kernel)
theorem w_co_X3_total : Cond.code yX3_total cX3_total 6 (Option.some .int) ∈ e_TB := e_tb 719 (by decide +kernel) (by decide +kernel)
theorem w_ml_RL_259 : Cond.methodLink RL 259 yL_seal ∈ e_TB := e_tb 720 (by decide +kernel) (by decide +kernel)
theorem w_sm_L_seal : Cond.static yL_seal ∈ e_TB := e_tb 721 (by decide +kernel) (by decide +kernel)
theorem w_ml_RL_108 : Cond.methodLink RL 108 yX3_seal ∈ e_TB := e_tb 723 (by decide +kernel) (by decide +kernel)
theorem w_ml_RL_262 : Cond.methodLink RL 262 yL_fits ∈ e_TB := e_tb 724 (by decide +kernel) (by decide +kernel)
theorem w_sm_L_fits : Cond.static yL_fits ∈ e_TB := e_tb 725 (by decide +kernel) (by decide +kernel)
theorem w_ml_RL_111 : Cond.methodLink RL 111 yX3_fits ∈ e_TB := e_tb 727 (by decide +kernel) (by decide +kernel)
theorem w_im_X3_fits : Cond.instanceMethod yX3_fits ∈ e_TB := e_tb 728 (by decide +kernel) (by decide +kernel)
theorem w_se_X3_fits : Cond.selects RX3 yX3_fits yX3_fits ∈ e_TB := e_tb 729 (by decide +kernel) (by decide +kernel)
theorem w_co_X3_fits : Cond.code yX3_fits cX3_fits 4 (Option.some .int) ∈ e_TB := e_tb 730 (by decide +kernel) (by decide +kernel)
theorem w_ml_RL_265 : Cond.methodLink RL 265 yL_order ∈ e_TB := e_tb 731 (by decide +kernel) (by decide +kernel)
theorem w_sm_L_order : Cond.static yL_order ∈ e_TB := e_tb 732 (by decide +kernel) (by decide +kernel)
theorem w_ml_RL_114 : Cond.methodLink RL 114 yX3_order ∈ e_TB := e_tb 734 (by decide +kernel) (by decide +kernel)
theorem w_im_X3_order : Cond.instanceMethod yX3_order ∈ e_TB := e_tb 735 (by decide +kernel) (by decide +kernel)
theorem w_se_X3_order : Cond.selects RX3 yX3_order yX3_order ∈ e_TB := e_tb 736 (by decide +kernel) (by decide +kernel)
theorem w_co_X3_order : Cond.code yX3_order cX3_order 8 (Option.some .int) ∈ e_TB := e_tb 737 (by decide +kernel) (by decide +kernel)
theorem w_ml_RL_268 : Cond.methodLink RL 268 yL_most ∈ e_TB := e_tb 738 (by decide +kernel) (by decide +kernel)
theorem w_sm_L_most : Cond.static yL_most ∈ e_TB := e_tb 739 (by decide +kernel) (by decide +kernel)
theorem w_ml_RL_117 : Cond.methodLink RL 117 yX3_most ∈ e_TB := e_tb 741 (by decide +kernel) (by decide +kernel)
theorem w_im_X3_most : Cond.instanceMethod yX3_most ∈ e_TB := e_tb 742 (by decide +kernel) (by decide +kernel)
theorem w_se_X3_most : Cond.selects RX3 yX3_most yX3_most ∈ e_TB := e_tb 743 (by decide +kernel) (by decide +kernel)
theorem w_co_X3_most : Cond.code yX3_most cX3_most 9 (Option.some .int) ∈ e_TB := e_tb 744 (by decide +kernel) (by decide +kernel)
theorem w_ml_RL_272 : Cond.methodLink RL 272 yL_text ∈ e_TB := e_tb 745 (by decide +kernel) (by decide +kernel)
theorem w_sm_L_text : Cond.static yL_text ∈ e_TB := e_tb 746 (by decide +kernel) (by decide +kernel)
theorem w_ml_RL_121 : Cond.methodLink RL 121 yX3_text ∈ e_TB := e_tb 748 (by decide +kernel) (by decide +kernel)
theorem w_im_X3_text : Cond.instanceMethod yX3_text ∈ e_TB := e_tb 749 (by decide +kernel) (by decide +kernel)
theorem w_se_X3_text : Cond.selects RX3 yX3_text yX3_text ∈ e_TB := e_tb 750 (by decide +kernel) (by decide +kernel)
theorem w_co_X3_text : Cond.code yX3_text cX3_text 5 (Option.some (.object "java/lang/String")) ∈ e_TB := e_tb 751 (by decide +kernel) (by decide +kernel)
theorem w_cl_RX3_234 : Cond.classLink RX3 234 RJ4 ∈ e_TB := e_tb 752 (by decide +kernel) (by decide +kernel)
theorem w_is_RJ4 : Cond.instantiable RJ4 4 ∈ e_TB := e_tb 753 (by decide +kernel) (by decide +kernel)
theorem w_ml_RX3_236 : Cond.methodLink RX3 236 yJ4_init_da8c8 ∈ e_TB := e_tb 754 (by decide +kernel) (by decide +kernel)
theorem w_im_J4_init_da8c8 : Cond.instanceMethod yJ4_init_da8c8 ∈ e_TB := e_tb 755 (by decide +kernel) (by decide +kernel)
theorem w_co_J4_init_da8c8 : Cond.code yJ4_init_da8c8 cJ4_init_da8c8 1 none ∈ e_TB := e_tb 756 (by decide +kernel) (by decide +kernel)
theorem w_ml_RJ4_1 : Cond.methodLink RJ4 1 yJ5_init_d00df ∈ e_TB := e_tb 757 (by decide +kernel) (by decide +kernel)
theorem w_im_J5_init_d00df : Cond.instanceMethod yJ5_init_d00df ∈ e_TB := e_tb 758 (by decide +kernel) (by decide +kernel)
theorem w_co_J5_init_d00df : Cond.code yJ5_init_d00df cJ5_init_d00df 2 none ∈ e_TB := e_tb 759 (by decide +kernel) (by decide +kernel)
theorem w_ml_RJ5_3 : Cond.methodLink RJ5 3 ⟨"java/lang/Object", "<init>", "()V"⟩ ∈ e_TB := e_tb 760 (by decide +kernel) (by decide +kernel)
theorem w_fl_RJ5_18 : Cond.fieldLink RJ5 18 "java/lang/String" "COMPACT_STRINGS" "Z" ∈ e_TB := e_tb 761 (by decide +kernel) (by decide +kernel)
theorem w_ml_RJ5_26 : Cond.methodLink RJ5 26 yJ2_newBytesFor_77867 ∈ e_TB := e_tb 763 (by decide +kernel) (by decide +kernel)
theorem w_sm_J2_newBytesFor_77867 : Cond.static yJ2_newBytesFor_77867 ∈ e_TB := e_tb 764 (by decide +kernel) (by decide +kernel)
theorem w_co_J2_newBytesFor_77867 : Cond.code yJ2_newBytesFor_77867 cJ2_newBytesFor_77867 1 (Option.some (.array .byte)) ∈ e_TB := e_tb 765 (by decide +kernel) (by decide +kernel)
theorem w_ml_RJ2_11 : Cond.methodLink RJ2 11 yJ2_newBytesLength_0f7a4 ∈ e_TB := e_tb 766 (by decide +kernel) (by decide +kernel)
theorem w_sm_J2_newBytesLength_0f7a4 : Cond.static yJ2_newBytesLength_0f7a4 ∈ e_TB := e_tb 767 (by decide +kernel) (by decide +kernel)
theorem w_co_J2_newBytesLength_0f7a4 : Cond.code yJ2_newBytesLength_0f7a4 cJ2_newBytesLength_0f7a4 1 (Option.some .int) ∈ e_TB := e_tb 768 (by decide +kernel) (by decide +kernel)
theorem w_k_RJ2_20 : Cond.constant RJ2 20 (eI (1073741823)) ∈ e_TB := e_tb 769 (by decide +kernel) (by decide +kernel)
theorem w_fl_RJ5_15 : Cond.fieldLink RJ5 15 "java/lang/AbstractStringBuilder" "value" "[B" ∈ e_TB := e_tb 770 (by decide +kernel) (by decide +kernel)
theorem w_fl_RJ5_22 : Cond.fieldLink RJ5 22 "java/lang/AbstractStringBuilder" "coder" "B" ∈ e_TB := e_tb 771 (by decide +kernel) (by decide +kernel)
theorem w_fl_RJ0_1048 : Cond.fieldLink RJ0 1048 "java/lang/AbstractStringBuilder" "maybeLatin1" "Z" ∈ e_TB := e_tb 772 (by decide +kernel) (by decide +kernel)
theorem w_fl_RJ5_79 : Cond.fieldLink RJ5 79 "java/lang/AbstractStringBuilder" "count" "I" ∈ e_TB := e_tb 773 (by decide +kernel) (by decide +kernel)
theorem w_ml_RX3_237 : Cond.methodLink RX3 237 yJ4_toString_0e30d ∈ e_TB := e_tb 783 (by decide +kernel) (by decide +kernel)
theorem w_im_J4_toString_0e30d : Cond.instanceMethod yJ4_toString_0e30d ∈ e_TB := e_tb 784 (by decide +kernel) (by decide +kernel)
theorem w_se_J4_toString_0e30d : Cond.selects RJ4 yJ4_toString_0e30d yJ4_toString_0e30d ∈ e_TB := e_tb 785 (by decide +kernel) (by decide +kernel)
theorem w_co_J4_toString_0e30d : Cond.code yJ4_toString_0e30d cJ4_toString_0e30d 1 (Option.some (.object "java/lang/String")) ∈ e_TB := e_tb 786 (by decide +kernel) (by decide +kernel)
theorem w_cl_RJ4_18 : Cond.classLink RJ4 18 RJ0 ∈ e_TB := e_tb 787 (by decide +kernel) (by decide +kernel)
theorem w_is_RJ0 : Cond.instantiable RJ0 4 ∈ e_TB := e_tb 788 (by decide +kernel) (by decide +kernel)
theorem w_ml_RJ4_137 : Cond.methodLink RJ4 137 yJ0_init_81219 ∈ e_TB := e_tb 789 (by decide +kernel) (by decide +kernel)
theorem w_im_J0_init_81219 : Cond.instanceMethod yJ0_init_81219 ∈ e_TB := e_tb 790 (by decide +kernel) (by decide +kernel)
theorem w_co_J0_init_81219 : Cond.code yJ0_init_81219 cJ0_init_81219 2 none ∈ e_TB := e_tb 791 (by decide +kernel) (by decide +kernel)
theorem w_ml_RJ0_489 : Cond.methodLink RJ0 489 yJ0_init_db425 ∈ e_TB := e_tb 792 (by decide +kernel) (by decide +kernel)
theorem w_im_J0_init_db425 : Cond.instanceMethod yJ0_init_db425 ∈ e_TB := e_tb 793 (by decide +kernel) (by decide +kernel)
theorem w_co_J0_init_db425 : Cond.code yJ0_init_db425 cJ0_init_db425 5 none ∈ e_TB := e_tb 794 (by decide +kernel) (by decide +kernel)
theorem w_ml_RJ0_1 : Cond.methodLink RJ0 1 ⟨"java/lang/Object", "<init>", "()V"⟩ ∈ e_TB := e_tb 795 (by decide +kernel) (by decide +kernel)
theorem w_ml_RJ0_552 : Cond.methodLink RJ0 552 yJ5_getValue_6d5f1 ∈ e_TB := e_tb 796 (by decide +kernel) (by decide +kernel)
theorem w_im_J5_getValue_6d5f1 : Cond.instanceMethod yJ5_getValue_6d5f1 ∈ e_TB := e_tb 797 (by decide +kernel) (by decide +kernel)
theorem w_co_J5_getValue_6d5f1 : Cond.code yJ5_getValue_6d5f1 cJ5_getValue_6d5f1 1 (Option.some (.array .byte)) ∈ e_TB := e_tb 800 (by decide +kernel) (by decide +kernel)
theorem w_ml_RJ0_549 : Cond.methodLink RJ0 549 yJ5_length_8abf5 ∈ e_TB := e_tb 801 (by decide +kernel) (by decide +kernel)
theorem w_im_J5_length_8abf5 : Cond.instanceMethod yJ5_length_8abf5 ∈ e_TB := e_tb 802 (by decide +kernel) (by decide +kernel)
theorem w_im_J4_length_8abf5 : Cond.instanceMethod yJ4_length_8abf5 ∈ e_TB := e_tb 805 (by decide +kernel) (by decide +kernel)
theorem w_co_J4_length_8abf5 : Cond.code yJ4_length_8abf5 cJ4_length_8abf5 1 (Option.some .int) ∈ e_TB := e_tb 806 (by decide +kernel) (by decide +kernel)
theorem w_ml_RJ4_343 : Cond.methodLink RJ4 343 yJ5_length_8abf5 ∈ e_TB := e_tb 807 (by decide +kernel) (by decide +kernel)
theorem w_co_J5_length_8abf5 : Cond.code yJ5_length_8abf5 cJ5_length_8abf5 1 (Option.some .int) ∈ e_TB := e_tb 808 (by decide +kernel) (by decide +kernel)
theorem w_ml_RJ0_1047 : Cond.methodLink RJ0 1047 yJ5_isLatin1_aae02 ∈ e_TB := e_tb 809 (by decide +kernel) (by decide +kernel)
theorem w_im_J5_isLatin1_aae02 : Cond.instanceMethod yJ5_isLatin1_aae02 ∈ e_TB := e_tb 810 (by decide +kernel) (by decide +kernel)
theorem w_co_J5_isLatin1_aae02 : Cond.code yJ5_isLatin1_aae02 cJ5_isLatin1_aae02 1 (Option.some .boolean) ∈ e_TB := e_tb 813 (by decide +kernel) (by decide +kernel)
theorem w_ml_RJ0_54 : Cond.methodLink RJ0 54 yJ7_copyOfRange_39247 ∈ e_TB := e_tb 814 (by decide +kernel) (by decide +kernel)
theorem w_sm_J7_copyOfRange_39247 : Cond.static yJ7_copyOfRange_39247 ∈ e_TB := e_tb 815 (by decide +kernel) (by decide +kernel)
theorem w_co_J7_copyOfRange_39247 : Cond.code yJ7_copyOfRange_39247 cJ7_copyOfRange_39247 3 (Option.some (.array .byte)) ∈ e_TB := e_tb 816 (by decide +kernel) (by decide +kernel)
theorem w_ml_RJ7_339 : Cond.methodLink RJ7 339 yJ7_copyOfRangeByte_39247 ∈ e_TB := e_tb 817 (by decide +kernel) (by decide +kernel)
theorem w_sm_J7_copyOfRangeByte_39247 : Cond.static yJ7_copyOfRangeByte_39247 ∈ e_TB := e_tb 818 (by decide +kernel) (by decide +kernel)
theorem w_co_J7_copyOfRangeByte_39247 : Cond.code yJ7_copyOfRangeByte_39247 cJ7_copyOfRangeByte_39247 5 (Option.some (.array .byte)) ∈ e_TB := e_tb 819 (by decide +kernel) (by decide +kernel)
theorem w_ml_RJ7_343 : Cond.methodLink RJ7 343 yJ7_checkLength_df160 ∈ e_TB := e_tb 820 (by decide +kernel) (by decide +kernel)
theorem w_sm_J7_checkLength_df160 : Cond.static yJ7_checkLength_df160 ∈ e_TB := e_tb 821 (by decide +kernel) (by decide +kernel)
theorem w_co_J7_checkLength_df160 : Cond.code yJ7_checkLength_df160 cJ7_checkLength_df160 2 none ∈ e_TB := e_tb 822 (by decide +kernel) (by decide +kernel)
theorem w_cl_RJ7_43 : Cond.classLink RJ7 43 "java/lang/IllegalArgumentException" ∈ e_TB := e_tb 823 (by decide +kernel) (by decide +kernel)
theorem w_cl_RJ7_45 : Cond.classLink RJ7 45 RJ4 ∈ e_TB := e_tb 824 (by decide +kernel) (by decide +kernel)
theorem w_ml_RJ7_47 : Cond.methodLink RJ7 47 yJ4_init_da8c8 ∈ e_TB := e_tb 825 (by decide +kernel) (by decide +kernel)
theorem w_ml_RJ7_54 : Cond.methodLink RJ7 54 yJ4_append_bf812 ∈ e_TB := e_tb 826 (by decide +kernel) (by decide +kernel)
theorem w_im_J4_append_bf812 : Cond.instanceMethod yJ4_append_bf812 ∈ e_TB := e_tb 827 (by decide +kernel) (by decide +kernel)
theorem w_se_J4_append_bf812 : Cond.selects RJ4 yJ4_append_bf812 yJ4_append_bf812 ∈ e_TB := e_tb 828 (by decide +kernel) (by decide +kernel)
theorem w_co_J4_append_bf812 : Cond.code yJ4_append_bf812 cJ4_append_bf812 2 (Option.some (.object "java/lang/StringBuilder")) ∈ e_TB := e_tb 829 (by decide +kernel) (by decide +kernel)
theorem w_ml_RJ4_53 : Cond.methodLink RJ4 53 yJ5_append_c97b9 ∈ e_TB := e_tb 830 (by decide +kernel) (by decide +kernel)
theorem w_im_J5_append_c97b9 : Cond.instanceMethod yJ5_append_c97b9 ∈ e_TB := e_tb 831 (by decide +kernel) (by decide +kernel)
theorem w_co_J5_append_c97b9 : Cond.code yJ5_append_c97b9 cJ5_append_c97b9 4 (Option.some (.object "java/lang/AbstractStringBuilder")) ∈ e_TB := e_tb 832 (by decide +kernel) (by decide +kernel)
theorem w_ml_RJ5_245 : Cond.methodLink RJ5 245 yJ6_stringSize_0f7a4 ∈ e_TB := e_tb 833 (by decide +kernel) (by decide +kernel)
theorem w_sm_J6_stringSize_0f7a4 : Cond.static yJ6_stringSize_0f7a4 ∈ e_TB := e_tb 834 (by decide +kernel) (by decide +kernel)
theorem w_co_J6_stringSize_0f7a4 : Cond.code yJ6_stringSize_0f7a4 cJ6_stringSize_0f7a4 4 (Option.some .int) ∈ e_TB := e_tb 835 (by decide +kernel) (by decide +kernel)
theorem w_ml_RJ5_100 : Cond.methodLink RJ5 100 yJ5_ensureCapacityInternal_d00df ∈ e_TB := e_tb 836 (by decide +kernel) (by decide +kernel)
theorem w_im_J5_ensureCapacityInternal_d00df : Cond.instanceMethod yJ5_ensureCapacityInternal_d00df ∈ e_TB := e_tb 838 (by decide +kernel) (by decide +kernel)
theorem w_co_J5_ensureCapacityInternal_d00df : Cond.code yJ5_ensureCapacityInternal_d00df cJ5_ensureCapacityInternal_d00df 3 none ∈ e_TB := e_tb 839 (by decide +kernel) (by decide +kernel)
theorem w_ml_RJ5_104 : Cond.methodLink RJ5 104 yJ5_newCapacity_0f7a4 ∈ e_TB := e_tb 840 (by decide +kernel) (by decide +kernel)
theorem w_im_J5_newCapacity_0f7a4 : Cond.instanceMethod yJ5_newCapacity_0f7a4 ∈ e_TB := e_tb 842 (by decide +kernel) (by decide +kernel)
theorem w_co_J5_newCapacity_0f7a4 : Cond.code yJ5_newCapacity_0f7a4 cJ5_newCapacity_0f7a4 6 (Option.some .int) ∈ e_TB := e_tb 843 (by decide +kernel) (by decide +kernel)
theorem w_ml_RJ5_114 : Cond.methodLink RJ5 114 yJ8_newLength_cabcc ∈ e_TB := e_tb 844 (by decide +kernel) (by decide +kernel)
theorem w_sm_J8_newLength_cabcc : Cond.static yJ8_newLength_cabcc ∈ e_TB := e_tb 845 (by decide +kernel) (by decide +kernel)
theorem w_co_J8_newLength_cabcc : Cond.code yJ8_newLength_cabcc cJ8_newLength_cabcc 4 (Option.some .int) ∈ e_TB := e_tb 846 (by decide +kernel) (by decide +kernel)
theorem w_ml_RJ8_194 : Cond.methodLink RJ8 194 yJ9_max_7cf53 ∈ e_TB := e_tb 847 (by decide +kernel) (by decide +kernel)
theorem w_k_RJ8_200 : Cond.constant RJ8 200 (eI (2147483639)) ∈ e_TB := e_tb 848 (by decide +kernel) (by decide +kernel)
theorem w_ml_RJ8_201 : Cond.methodLink RJ8 201 yJ8_hugeLength_7cf53 ∈ e_TB := e_tb 849 (by decide +kernel) (by decide +kernel)
theorem w_sm_J8_hugeLength_7cf53 : Cond.static yJ8_hugeLength_7cf53 ∈ e_TB := e_tb 850 (by decide +kernel) (by decide +kernel)
theorem w_co_J8_hugeLength_7cf53 : Cond.code yJ8_hugeLength_7cf53 cJ8_hugeLength_7cf53 3 (Option.some .int) ∈ e_TB := e_tb 851 (by decide +kernel) (by decide +kernel)
theorem w_k_RJ5_39 : Cond.constant RJ5 39 (eI (2147483647)) ∈ e_TB := e_tb 852 (by decide +kernel) (by decide +kernel)
theorem w_ml_RJ5_108 : Cond.methodLink RJ5 108 yJ7_copyOf_9075b ∈ e_TB := e_tb 853 (by decide +kernel) (by decide +kernel)
theorem w_sm_J7_copyOf_9075b : Cond.static yJ7_copyOf_9075b ∈ e_TB := e_tb 854 (by decide +kernel) (by decide +kernel)
theorem w_co_J7_copyOf_9075b : Cond.code yJ7_copyOf_9075b cJ7_copyOf_9075b 3 (Option.some (.array .byte)) ∈ e_TB := e_tb 855 (by decide +kernel) (by decide +kernel)
theorem w_ml_RJ7_310 : Cond.methodLink RJ7 310 ⟨"[B", "clone", "()Ljava/lang/Object;"⟩ ∈ e_TB := e_tb 856 (by decide +kernel) (by decide +kernel)
theorem w_im_java_lang_Object_clone___Ljava_lang_Object_ : Cond.instanceMethod ⟨"java/lang/Object", "clone", "()Ljava/lang/Object;"⟩ ∈ e_TB := e_tb 859 (by decide +kernel) (by decide +kernel)
theorem w_ca__B_RJx8e188 : Cond.castable "[B" RJx8e188 ∈ e_NW := e_tn 861 (by decide +kernel) (by decide +kernel)
theorem w_cl_RJ7_311 : Cond.classLink RJ7 311 "[B" ∈ e_TB := e_tb 862 (by decide +kernel) (by decide +kernel)
theorem w_ml_RJ7_304 : Cond.methodLink RJ7 304 yJ9_min_7cf53 ∈ e_TB := e_tb 863 (by decide +kernel) (by decide +kernel)
theorem w_ml_RJ7_150 : Cond.methodLink RJ7 150 ⟨"java/lang/System", "arraycopy", "(Ljava/lang/Object;ILjava/lang/Object;II)V"⟩ ∈ e_TB := e_tb 864 (by decide +kernel) (by decide +kernel)
theorem w_sm_java_lang_System_arraycopy__Ljava_lang_Object_ILjava_lang_Object_II_V : Cond.static ⟨"java/lang/System", "arraycopy", "(Ljava/lang/Object;ILjava/lang/Object;II)V"⟩ ∈ e_TB := e_tb 865 (by decide +kernel) (by decide +kernel)
theorem w_ml_RJ5_83 : Cond.methodLink RJ5 83 yJ5_isLatin1_aae02 ∈ e_TB := e_tb 867 (by decide +kernel) (by decide +kernel)
theorem w_ml_RJ5_248 : Cond.methodLink RJ5 248 yJ6_getChars_ba4f3 ∈ e_TB := e_tb 868 (by decide +kernel) (by decide +kernel)
theorem w_sm_J6_getChars_ba4f3 : Cond.static yJ6_getChars_ba4f3 ∈ e_TB := e_tb 869 (by decide +kernel) (by decide +kernel)
theorem w_co_J6_getChars_ba4f3 : Cond.code yJ6_getChars_ba4f3 cJ6_getChars_ba4f3 7 (Option.some .int) ∈ e_TB := e_tb 870 (by decide +kernel) (by decide +kernel)
theorem w_fl_RJ6_83 : Cond.fieldLink RJ6 83 "java/lang/Integer" "DigitOnes" "[B" ∈ e_TB := e_tb 871 (by decide +kernel) (by decide +kernel)
theorem w_fl_RJ6_87 : Cond.fieldLink RJ6 87 "java/lang/Integer" "DigitTens" "[B" ∈ e_TB := e_tb 873 (by decide +kernel) (by decide +kernel)
theorem w_ml_RJ5_251 : Cond.methodLink RJ5 251 yJ2_getChars_46870 ∈ e_TB := e_tb 875 (by decide +kernel) (by decide +kernel)
theorem w_sm_J2_getChars_46870 : Cond.static yJ2_getChars_46870 ∈ e_TB := e_tb 876 (by decide +kernel) (by decide +kernel)
theorem w_co_J2_getChars_46870 : Cond.code yJ2_getChars_46870 cJ2_getChars_46870 5 (Option.some .int) ∈ e_TB := e_tb 877 (by decide +kernel) (by decide +kernel)
theorem w_ml_RJ2_96 : Cond.methodLink RJ2 96 yJ2_checkBoundsBeginEnd_d044e ∈ e_TB := e_tb 878 (by decide +kernel) (by decide +kernel)
theorem w_sm_J2_checkBoundsBeginEnd_d044e : Cond.static yJ2_checkBoundsBeginEnd_d044e ∈ e_TB := e_tb 879 (by decide +kernel) (by decide +kernel)
theorem w_co_J2_checkBoundsBeginEnd_d044e : Cond.code yJ2_checkBoundsBeginEnd_d044e cJ2_checkBoundsBeginEnd_d044e 3 none ∈ e_TB := e_tb 880 (by decide +kernel) (by decide +kernel)
theorem w_ml_RJ2_48 : Cond.methodLink RJ2 48 yJ2_length_9d52b ∈ e_TB := e_tb 881 (by decide +kernel) (by decide +kernel)
theorem w_sm_J2_length_9d52b : Cond.static yJ2_length_9d52b ∈ e_TB := e_tb 882 (by decide +kernel) (by decide +kernel)
theorem w_co_J2_length_9d52b : Cond.code yJ2_length_9d52b cJ2_length_9d52b 1 (Option.some .int) ∈ e_TB := e_tb 883 (by decide +kernel) (by decide +kernel)
theorem w_ml_RJ2_241 : Cond.methodLink RJ2 241 yJ0_checkBoundsBeginEnd_23922 ∈ e_TB := e_tb 884 (by decide +kernel) (by decide +kernel)
theorem w_sm_J0_checkBoundsBeginEnd_23922 : Cond.static yJ0_checkBoundsBeginEnd_23922 ∈ e_TB := e_tb 885 (by decide +kernel) (by decide +kernel)
theorem w_co_J0_checkBoundsBeginEnd_23922 : Cond.code yJ0_checkBoundsBeginEnd_23922 cJ0_checkBoundsBeginEnd_23922 3 none ∈ e_TB := e_tb 886 (by decide +kernel) (by decide +kernel)
theorem w_fl_RJ0_1053 : Cond.fieldLink RJ0 1053 "jdk/internal/util/Preconditions" "SIOOBE_FORMATTER" "Ljava/util/function/BiFunction;" ∈ e_TB := e_tb 887 (by decide +kernel) (by decide +kernel)
theorem w_ml_RJ0_1062 : Cond.methodLink RJ0 1062 yJ3_checkFromToIndex_8c36e ∈ e_TB := e_tb 889 (by decide +kernel) (by decide +kernel)
theorem w_sm_J3_checkFromToIndex_8c36e : Cond.static yJ3_checkFromToIndex_8c36e ∈ e_TB := e_tb 890 (by decide +kernel) (by decide +kernel)
theorem w_co_J3_checkFromToIndex_8c36e : Cond.code yJ3_checkFromToIndex_8c36e cJ3_checkFromToIndex_8c36e 4 (Option.some .int) ∈ e_TB := e_tb 891 (by decide +kernel) (by decide +kernel)
theorem w_ml_RJ2_393 : Cond.methodLink RJ2 393 yJ2_getChars_ba4f3 ∈ e_TB := e_tb 892 (by decide +kernel) (by decide +kernel)
theorem w_sm_J2_getChars_ba4f3 : Cond.static yJ2_getChars_ba4f3 ∈ e_TB := e_tb 893 (by decide +kernel) (by decide +kernel)
theorem w_co_J2_getChars_ba4f3 : Cond.code yJ2_getChars_ba4f3 cJ2_getChars_ba4f3 7 (Option.some .int) ∈ e_TB := e_tb 894 (by decide +kernel) (by decide +kernel)
theorem w_fl_RJ2_403 : Cond.fieldLink RJ2 403 "java/lang/Integer" "DigitOnes" "[B" ∈ e_TB := e_tb 895 (by decide +kernel) (by decide +kernel)
theorem w_ml_RJ2_111 : Cond.methodLink RJ2 111 yJ2_putChar_b72d1 ∈ e_TB := e_tb 896 (by decide +kernel) (by decide +kernel)
theorem w_sm_J2_putChar_b72d1 : Cond.static yJ2_putChar_b72d1 ∈ e_TB := e_tb 897 (by decide +kernel) (by decide +kernel)
theorem w_co_J2_putChar_b72d1 : Cond.code yJ2_putChar_b72d1 cJ2_putChar_b72d1 3 none ∈ e_TB := e_tb 898 (by decide +kernel) (by decide +kernel)
theorem w_fl_RJ2_44 : Cond.fieldLink RJ2 44 "java/lang/StringUTF16" "$assertionsDisabled" "Z" ∈ e_TB := e_tb 899 (by decide +kernel) (by decide +kernel)
theorem w_fl_RJ2_59 : Cond.fieldLink RJ2 59 "java/lang/StringUTF16" "HI_BYTE_SHIFT" "I" ∈ e_TB := e_tb 901 (by decide +kernel) (by decide +kernel)
theorem w_fl_RJ2_63 : Cond.fieldLink RJ2 63 "java/lang/StringUTF16" "LO_BYTE_SHIFT" "I" ∈ e_TB := e_tb 903 (by decide +kernel) (by decide +kernel)
theorem w_fl_RJ2_407 : Cond.fieldLink RJ2 407 "java/lang/Integer" "DigitTens" "[B" ∈ e_TB := e_tb 905 (by decide +kernel) (by decide +kernel)
theorem w_ml_RJ7_50 : Cond.methodLink RJ7 50 yJ4_append_15ec4 ∈ e_TB := e_tb 907 (by decide +kernel) (by decide +kernel)
theorem w_im_J4_append_15ec4 : Cond.instanceMethod yJ4_append_15ec4 ∈ e_TB := e_tb 908 (by decide +kernel) (by decide +kernel)
theorem w_se_J4_append_15ec4 : Cond.selects RJ4 yJ4_append_15ec4 yJ4_append_15ec4 ∈ e_TB := e_tb 909 (by decide +kernel) (by decide +kernel)
theorem w_co_J4_append_15ec4 : Cond.code yJ4_append_15ec4 cJ4_append_15ec4 2 (Option.some (.object "java/lang/StringBuilder")) ∈ e_TB := e_tb 910 (by decide +kernel) (by decide +kernel)
theorem w_ml_RJ4_29 : Cond.methodLink RJ4 29 yJ5_append_cf1ce ∈ e_TB := e_tb 911 (by decide +kernel) (by decide +kernel)
theorem w_im_J5_append_cf1ce : Cond.instanceMethod yJ5_append_cf1ce ∈ e_TB := e_tb 912 (by decide +kernel) (by decide +kernel)
theorem w_co_J5_append_cf1ce : Cond.code yJ5_append_cf1ce cJ5_append_cf1ce 3 (Option.some (.object "java/lang/AbstractStringBuilder")) ∈ e_TB := e_tb 913 (by decide +kernel) (by decide +kernel)
theorem w_ml_RJ5_204 : Cond.methodLink RJ5 204 yJ5_appendNull_278bc ∈ e_TB := e_tb 914 (by decide +kernel) (by decide +kernel)
theorem w_im_J5_appendNull_278bc : Cond.instanceMethod yJ5_appendNull_278bc ∈ e_TB := e_tb 916 (by decide +kernel) (by decide +kernel)
theorem w_co_J5_appendNull_278bc : Cond.code yJ5_appendNull_278bc cJ5_appendNull_278bc 3 (Option.some (.object "java/lang/AbstractStringBuilder")) ∈ e_TB := e_tb 917 (by decide +kernel) (by decide +kernel)
theorem w_ml_RJ5_226 : Cond.methodLink RJ5 226 yJ2_putCharsAt_cd4e5 ∈ e_TB := e_tb 918 (by decide +kernel) (by decide +kernel)
theorem w_sm_J2_putCharsAt_cd4e5 : Cond.static yJ2_putCharsAt_cd4e5 ∈ e_TB := e_tb 919 (by decide +kernel) (by decide +kernel)
theorem w_co_J2_putCharsAt_cd4e5 : Cond.code yJ2_putCharsAt_cd4e5 cJ2_putCharsAt_cd4e5 7 (Option.some .int) ∈ e_TB := e_tb 920 (by decide +kernel) (by decide +kernel)
theorem w_ml_RJ5_32 : Cond.methodLink RJ5 32 yJ0_length_8abf5 ∈ e_TB := e_tb 921 (by decide +kernel) (by decide +kernel)
theorem w_im_J0_length_8abf5 : Cond.instanceMethod yJ0_length_8abf5 ∈ e_TB := e_tb 922 (by decide +kernel) (by decide +kernel)
theorem w_se_J0_length_8abf5 : Cond.selects RJ0 yJ0_length_8abf5 yJ0_length_8abf5 ∈ e_TB := e_tb 923 (by decide +kernel) (by decide +kernel)
theorem w_co_J0_length_8abf5 : Cond.code yJ0_length_8abf5 cJ0_length_8abf5 1 (Option.some .int) ∈ e_TB := e_tb 924 (by decide +kernel) (by decide +kernel)
theorem w_ml_RJ0_335 : Cond.methodLink RJ0 335 yJ0_coder_7d493 ∈ e_TB := e_tb 925 (by decide +kernel) (by decide +kernel)
theorem w_im_J0_coder_7d493 : Cond.instanceMethod yJ0_coder_7d493 ∈ e_TB := e_tb 926 (by decide +kernel) (by decide +kernel)
theorem w_se_J0_coder_7d493 : Cond.selects RJ0 yJ0_coder_7d493 yJ0_coder_7d493 ∈ e_TB := e_tb 927 (by decide +kernel) (by decide +kernel)
theorem w_co_J0_coder_7d493 : Cond.code yJ0_coder_7d493 cJ0_coder_7d493 1 (Option.some .byte) ∈ e_TB := e_tb 928 (by decide +kernel) (by decide +kernel)
theorem w_fl_RJ0_38 : Cond.fieldLink RJ0 38 "java/lang/String" "COMPACT_STRINGS" "Z" ∈ e_TB := e_tb 929 (by decide +kernel) (by decide +kernel)
theorem w_ml_RJ5_208 : Cond.methodLink RJ5 208 yJ5_putStringAt_47b60 ∈ e_TB := e_tb 930 (by decide +kernel) (by decide +kernel)
theorem w_im_J5_putStringAt_47b60 : Cond.instanceMethod yJ5_putStringAt_47b60 ∈ e_TB := e_tb 932 (by decide +kernel) (by decide +kernel)
theorem w_co_J5_putStringAt_47b60 : Cond.code yJ5_putStringAt_47b60 cJ5_putStringAt_47b60 3 none ∈ e_TB := e_tb 933 (by decide +kernel) (by decide +kernel)
theorem w_ml_RJ5_397 : Cond.methodLink RJ5 397 yJ5_inflateIfNeededFor_a7421 ∈ e_TB := e_tb 934 (by decide +kernel) (by decide +kernel)
theorem w_im_J5_inflateIfNeededFor_a7421 : Cond.instanceMethod yJ5_inflateIfNeededFor_a7421 ∈ e_TB := e_tb 936 (by decide +kernel) (by decide +kernel)
theorem w_co_J5_inflateIfNeededFor_a7421 : Cond.code yJ5_inflateIfNeededFor_a7421 cJ5_inflateIfNeededFor_a7421 2 none ∈ e_TB := e_tb 937 (by decide +kernel) (by decide +kernel)
theorem w_ml_RJ5_40 : Cond.methodLink RJ5 40 yJ0_coder_7d493 ∈ e_TB := e_tb 938 (by decide +kernel) (by decide +kernel)
theorem w_ml_RJ5_195 : Cond.methodLink RJ5 195 yJ5_inflate_da8c8 ∈ e_TB := e_tb 939 (by decide +kernel) (by decide +kernel)
theorem w_im_J5_inflate_da8c8 : Cond.instanceMethod yJ5_inflate_da8c8 ∈ e_TB := e_tb 941 (by decide +kernel) (by decide +kernel)
theorem w_co_J5_inflate_da8c8 : Cond.code yJ5_inflate_da8c8 cJ5_inflate_da8c8 2 none ∈ e_TB := e_tb 942 (by decide +kernel) (by decide +kernel)
theorem w_ml_RJ5_125 : Cond.methodLink RJ5 125 yJ1_inflate_0e8fd ∈ e_TB := e_tb 943 (by decide +kernel) (by decide +kernel)
theorem w_sm_J1_inflate_0e8fd : Cond.static yJ1_inflate_0e8fd ∈ e_TB := e_tb 944 (by decide +kernel) (by decide +kernel)
theorem w_co_J1_inflate_0e8fd : Cond.code yJ1_inflate_0e8fd cJ1_inflate_0e8fd 5 none ∈ e_TB := e_tb 945 (by decide +kernel) (by decide +kernel)
theorem w_ml_RJ1_240 : Cond.methodLink RJ1 240 yJ2_inflate_0e8fd ∈ e_TB := e_tb 946 (by decide +kernel) (by decide +kernel)
theorem w_sm_J2_inflate_0e8fd : Cond.static yJ2_inflate_0e8fd ∈ e_TB := e_tb 947 (by decide +kernel) (by decide +kernel)
theorem w_co_J2_inflate_0e8fd : Cond.code yJ2_inflate_0e8fd cJ2_inflate_0e8fd 6 none ∈ e_TB := e_tb 948 (by decide +kernel) (by decide +kernel)
theorem w_ml_RJ2_173 : Cond.methodLink RJ2 173 yJ2_checkBoundsOffCount_d044e ∈ e_TB := e_tb 949 (by decide +kernel) (by decide +kernel)
theorem w_sm_J2_checkBoundsOffCount_d044e : Cond.static yJ2_checkBoundsOffCount_d044e ∈ e_TB := e_tb 950 (by decide +kernel) (by decide +kernel)
theorem w_co_J2_checkBoundsOffCount_d044e : Cond.code yJ2_checkBoundsOffCount_d044e cJ2_checkBoundsOffCount_d044e 3 none ∈ e_TB := e_tb 951 (by decide +kernel) (by decide +kernel)
theorem w_ml_RJ2_419 : Cond.methodLink RJ2 419 yJ0_checkBoundsOffCount_cabcc ∈ e_TB := e_tb 952 (by decide +kernel) (by decide +kernel)
theorem w_sm_J0_checkBoundsOffCount_cabcc : Cond.static yJ0_checkBoundsOffCount_cabcc ∈ e_TB := e_tb 953 (by decide +kernel) (by decide +kernel)
theorem w_co_J0_checkBoundsOffCount_cabcc : Cond.code yJ0_checkBoundsOffCount_cabcc cJ0_checkBoundsOffCount_cabcc 3 (Option.some .int) ∈ e_TB := e_tb 954 (by decide +kernel) (by decide +kernel)
theorem w_ml_RJ0_1065 : Cond.methodLink RJ0 1065 yJ3_checkFromIndexSize_8c36e ∈ e_TB := e_tb 955 (by decide +kernel) (by decide +kernel)
theorem w_sm_J3_checkFromIndexSize_8c36e : Cond.static yJ3_checkFromIndexSize_8c36e ∈ e_TB := e_tb 956 (by decide +kernel) (by decide +kernel)
theorem w_co_J3_checkFromIndexSize_8c36e : Cond.code yJ3_checkFromIndexSize_8c36e cJ3_checkFromIndexSize_8c36e 4 (Option.some .int) ∈ e_TB := e_tb 957 (by decide +kernel) (by decide +kernel)
theorem w_ml_RJ5_399 : Cond.methodLink RJ5 399 yJ0_getBytes_840e7 ∈ e_TB := e_tb 958 (by decide +kernel) (by decide +kernel)
theorem w_im_J0_getBytes_840e7 : Cond.instanceMethod yJ0_getBytes_840e7 ∈ e_TB := e_tb 959 (by decide +kernel) (by decide +kernel)
theorem w_se_J0_getBytes_840e7 : Cond.selects RJ0 yJ0_getBytes_840e7 yJ0_getBytes_840e7 ∈ e_TB := e_tb 960 (by decide +kernel) (by decide +kernel)
theorem w_co_J0_getBytes_840e7 : Cond.code yJ0_getBytes_840e7 cJ0_getBytes_840e7 4 none ∈ e_TB := e_tb 961 (by decide +kernel) (by decide +kernel)
theorem w_ml_RJ0_212 : Cond.methodLink RJ0 212 ⟨"java/lang/System", "arraycopy", "(Ljava/lang/Object;ILjava/lang/Object;II)V"⟩ ∈ e_TB := e_tb 962 (by decide +kernel) (by decide +kernel)
theorem w_ml_RJ0_106 : Cond.methodLink RJ0 106 yJ1_inflate_0e8fd ∈ e_TB := e_tb 963 (by decide +kernel) (by decide +kernel)
theorem w_ml_RJ7_61 : Cond.methodLink RJ7 61 yJ4_toString_0e30d ∈ e_TB := e_tb 964 (by decide +kernel) (by decide +kernel)
theorem w_ml_RJ7_65 : Cond.methodLink RJ7 65 ⟨"java/lang/IllegalArgumentException", "<init>", "(Ljava/lang/String;)V"⟩ ∈ e_TB := e_tb 965 (by decide +kernel) (by decide +kernel)
theorem w_ml_RJ0_1051 : Cond.methodLink RJ0 1051 yJ2_compress_39247 ∈ e_TB := e_tb 966 (by decide +kernel) (by decide +kernel)
theorem w_sm_J2_compress_39247 : Cond.static yJ2_compress_39247 ∈ e_TB := e_tb 967 (by decide +kernel) (by decide +kernel)
theorem w_co_J2_compress_39247 : Cond.code yJ2_compress_39247 cJ2_compress_39247 6 (Option.some (.array .byte)) ∈ e_TB := e_tb 968 (by decide +kernel) (by decide +kernel)
theorem w_ml_RJ2_123 : Cond.methodLink RJ2 123 yJ2_compress_5af95 ∈ e_TB := e_tb 969 (by decide +kernel) (by decide +kernel)
theorem w_sm_J2_compress_5af95 : Cond.static yJ2_compress_5af95 ∈ e_TB := e_tb 970 (by decide +kernel) (by decide +kernel)
theorem w_co_J2_compress_5af95 : Cond.code yJ2_compress_5af95 cJ2_compress_5af95 7 (Option.some .int) ∈ e_TB := e_tb 971 (by decide +kernel) (by decide +kernel)
theorem w_ml_RJ2_71 : Cond.methodLink RJ2 71 yJ2_getChar_3b067 ∈ e_TB := e_tb 972 (by decide +kernel) (by decide +kernel)
theorem w_sm_J2_getChar_3b067 : Cond.static yJ2_getChar_3b067 ∈ e_TB := e_tb 973 (by decide +kernel) (by decide +kernel)
theorem w_co_J2_getChar_3b067 : Cond.code yJ2_getChar_3b067 cJ2_getChar_3b067 2 (Option.some .char) ∈ e_TB := e_tb 974 (by decide +kernel) (by decide +kernel)
theorem w_ml_RJ2_126 : Cond.methodLink RJ2 126 yJ7_copyOfRange_39247 ∈ e_TB := e_tb 975 (by decide +kernel) (by decide +kernel)
theorem w_ml_RJ0_47 : Cond.methodLink RJ0 47 yJ2_coderFromArrayLen_85cad ∈ e_TB := e_tb 976 (by decide +kernel) (by decide +kernel)
theorem w_sm_J2_coderFromArrayLen_85cad : Cond.static yJ2_coderFromArrayLen_85cad ∈ e_TB := e_tb 977 (by decide +kernel) (by decide +kernel)
theorem w_co_J2_coderFromArrayLen_85cad : Cond.code yJ2_coderFromArrayLen_85cad cJ2_coderFromArrayLen_85cad 2 (Option.some .byte) ∈ e_TB := e_tb 978 (by decide +kernel) (by decide +kernel)
theorem w_fl_RJ0_9 : Cond.fieldLink RJ0 9 "java/lang/String" "value" "[B" ∈ e_TB := e_tb 979 (by decide +kernel) (by decide +kernel)
theorem w_fl_RJ0_15 : Cond.fieldLink RJ0 15 "java/lang/String" "coder" "B" ∈ e_TB := e_tb 980 (by decide +kernel) (by decide +kernel)
theorem w_ml_RX3_241 : Cond.methodLink RX3 241 yJ4_append_cf468 ∈ e_TB := e_tb 990 (by decide +kernel) (by decide +kernel)
theorem w_im_J4_append_cf468 : Cond.instanceMethod yJ4_append_cf468 ∈ e_TB := e_tb 991 (by decide +kernel) (by decide +kernel)
theorem w_se_J4_append_cf468 : Cond.selects RJ4 yJ4_append_cf468 yJ4_append_cf468 ∈ e_TB := e_tb 992 (by decide +kernel) (by decide +kernel)
theorem w_co_J4_append_cf468 : Cond.code yJ4_append_cf468 cJ4_append_cf468 2 (Option.some (.object "java/lang/StringBuilder")) ∈ e_TB := e_tb 993 (by decide +kernel) (by decide +kernel)
theorem w_ml_RJ4_50 : Cond.methodLink RJ4 50 yJ5_append_3fe6f ∈ e_TB := e_tb 994 (by decide +kernel) (by decide +kernel)
theorem w_im_J5_append_3fe6f : Cond.instanceMethod yJ5_append_3fe6f ∈ e_TB := e_tb 995 (by decide +kernel) (by decide +kernel)
theorem w_co_J5_append_3fe6f : Cond.code yJ5_append_3fe6f cJ5_append_3fe6f 2 (Option.some (.object "java/lang/AbstractStringBuilder")) ∈ e_TB := e_tb 996 (by decide +kernel) (by decide +kernel)
theorem w_ml_RJ5_191 : Cond.methodLink RJ5 191 yJ1_canEncode_fc78d ∈ e_TB := e_tb 997 (by decide +kernel) (by decide +kernel)
theorem w_sm_J1_canEncode_fc78d : Cond.static yJ1_canEncode_fc78d ∈ e_TB := e_tb 998 (by decide +kernel) (by decide +kernel)
theorem w_co_J1_canEncode_fc78d : Cond.code yJ1_canEncode_fc78d cJ1_canEncode_fc78d 1 (Option.some .boolean) ∈ e_TB := e_tb 999 (by decide +kernel) (by decide +kernel)
theorem w_ml_RJ5_197 : Cond.methodLink RJ5 197 yJ2_putCharSB_b72d1 ∈ e_TB := e_tb 1000 (by decide +kernel) (by decide +kernel)
theorem w_sm_J2_putCharSB_b72d1 : Cond.static yJ2_putCharSB_b72d1 ∈ e_TB := e_tb 1001 (by decide +kernel) (by decide +kernel)
theorem w_co_J2_putCharSB_b72d1 : Cond.code yJ2_putCharSB_b72d1 cJ2_putCharSB_b72d1 3 none ∈ e_TB := e_tb 1002 (by decide +kernel) (by decide +kernel)
theorem w_ml_RJ2_67 : Cond.methodLink RJ2 67 yJ2_checkIndex_2214a ∈ e_TB := e_tb 1003 (by decide +kernel) (by decide +kernel)
theorem w_sm_J2_checkIndex_2214a : Cond.static yJ2_checkIndex_2214a ∈ e_TB := e_tb 1004 (by decide +kernel) (by decide +kernel)
theorem w_co_J2_checkIndex_2214a : Cond.code yJ2_checkIndex_2214a cJ2_checkIndex_2214a 2 none ∈ e_TB := e_tb 1005 (by decide +kernel) (by decide +kernel)
theorem w_ml_RJ2_414 : Cond.methodLink RJ2 414 yJ0_checkIndex_df160 ∈ e_TB := e_tb 1006 (by decide +kernel) (by decide +kernel)
theorem w_sm_J0_checkIndex_df160 : Cond.static yJ0_checkIndex_df160 ∈ e_TB := e_tb 1007 (by decide +kernel) (by decide +kernel)
theorem w_co_J0_checkIndex_df160 : Cond.code yJ0_checkIndex_df160 cJ0_checkIndex_df160 2 none ∈ e_TB := e_tb 1008 (by decide +kernel) (by decide +kernel)
theorem w_ml_RJ0_1059 : Cond.methodLink RJ0 1059 yJ3_checkIndex_8e157 ∈ e_TB := e_tb 1009 (by decide +kernel) (by decide +kernel)
theorem w_sm_J3_checkIndex_8e157 : Cond.static yJ3_checkIndex_8e157 ∈ e_TB := e_tb 1010 (by decide +kernel) (by decide +kernel)
theorem w_co_J3_checkIndex_8e157 : Cond.code yJ3_checkIndex_8e157 cJ3_checkIndex_8e157 3 (Option.some .int) ∈ e_TB := e_tb 1011 (by decide +kernel) (by decide +kernel)
theorem w_ml_RX3_245 : Cond.methodLink RX3 245 yJ4_append_bf812 ∈ e_TB := e_tb 1012 (by decide +kernel) (by decide +kernel)
theorem w_ml_RL_275 : Cond.methodLink RL 275 yL_seals ∈ e_TB := e_tb 1013 (by decide +kernel) (by decide +kernel)
theorem w_sm_L_seals : Cond.static yL_seals ∈ e_TB := e_tb 1014 (by decide +kernel) (by decide +kernel)
theorem w_ml_RL_129 : Cond.methodLink RL 129 yX3_seals ∈ e_TB := e_tb 1016 (by decide +kernel) (by decide +kernel)
theorem w_im_X3_seals : Cond.instanceMethod yX3_seals ∈ e_TB := e_tb 1017 (by decide +kernel) (by decide +kernel)
theorem w_se_X3_seals : Cond.selects RX3 yX3_seals yX3_seals ∈ e_TB := e_tb 1018 (by decide +kernel) (by decide +kernel)
theorem w_co_X3_seals : Cond.code yX3_seals cX3_seals 5 (Option.some (.object "java/lang/String")) ∈ e_TB := e_tb 1019 (by decide +kernel) (by decide +kernel)
theorem w_ml_RL_278 : Cond.methodLink RL 278 yL_isSame ∈ e_TB := e_tb 1020 (by decide +kernel) (by decide +kernel)
theorem w_sm_L_isSame : Cond.static yL_isSame ∈ e_TB := e_tb 1021 (by decide +kernel) (by decide +kernel)
theorem w_ml_RL_132 : Cond.methodLink RL 132 yX3_isSame ∈ e_TB := e_tb 1023 (by decide +kernel) (by decide +kernel)
theorem w_im_X3_isSame : Cond.instanceMethod yX3_isSame ∈ e_TB := e_tb 1024 (by decide +kernel) (by decide +kernel)
theorem w_se_X3_isSame : Cond.selects RX3 yX3_isSame yX3_isSame ∈ e_TB := e_tb 1025 (by decide +kernel) (by decide +kernel)
theorem w_co_X3_isSame : Cond.code yX3_isSame cX3_isSame 7 (Option.some .boolean) ∈ e_TB := e_tb 1026 (by decide +kernel) (by decide +kernel)
theorem w_ml_RL_281 : Cond.methodLink RL 281 yL_house ∈ e_TB := e_tb 1027 (by decide +kernel) (by decide +kernel)
theorem w_sm_L_house : Cond.static yL_house ∈ e_TB := e_tb 1028 (by decide +kernel) (by decide +kernel)
theorem w_ml_RL_136 : Cond.methodLink RL 136 yX3_house ∈ e_TB := e_tb 1030 (by decide +kernel) (by decide +kernel)
theorem w_cl_RL_140 : Cond.classLink RL 140 RX5 ∈ e_TB := e_tb 1031 (by decide +kernel) (by decide +kernel)
theorem w_is_RX5 : Cond.instantiable RX5 6 ∈ e_TB := e_tb 1032 (by decide +kernel) (by decide +kernel)
theorem w_ml_RL_142 : Cond.methodLink RL 142 yX5_init ∈ e_TB := e_tb 1033 (by decide +kernel) (by decide +kernel)
theorem w_im_X5_init : Cond.instanceMethod yX5_init ∈ e_TB := e_tb 1034 (by decide +kernel) (by decide +kernel)
theorem w_co_X5_init : Cond.code yX5_init cX5_init 1 none ∈ e_TB := e_tb 1035 (by decide +kernel) (by decide +kernel)
theorem w_ml_RX5_1 : Cond.methodLink RX5 1 ⟨"java/lang/Object", "<init>", "()V"⟩ ∈ e_TB := e_tb 1036 (by decide +kernel) (by decide +kernel)
theorem w_cl_RX5_17 : Cond.classLink RX5 17 "[I" ∈ e_TB := e_tb 1037 (by decide +kernel) (by decide +kernel)
theorem w_ao_int : Cond.arrayOver (.array .int) ∈ e_NW := e_tn 1038 (by decide +kernel) (by decide +kernel)
theorem w_fl_RX5_25 : Cond.fieldLink RX5 25 "SecretsharesModel" "thrown" "I" ∈ e_TB := e_tb 1039 (by decide +kernel) (by decide +kernel)
theorem w_fl_RX5_7 : Cond.fieldLink RX5 7 "SecretsharesModel" "which" "I" ∈ e_TB := e_tb 1040 (by decide +kernel) (by decide +kernel)
theorem w_fl_RX5_177 : Cond.fieldLink RX5 177 "SecretsharesModel" "knocks" "I" ∈ e_TB := e_tb 1041 (by decide +kernel) (by decide +kernel)
theorem w_fl_RX5_13 : Cond.fieldLink RX5 13 "SecretsharesModel" "degrees" "[I" ∈ e_TB := e_tb 1042 (by decide +kernel) (by decide +kernel)
theorem w_fl_RX5_18 : Cond.fieldLink RX5 18 "SecretsharesModel" "shares" "[[I" ∈ e_TB := e_tb 1043 (by decide +kernel) (by decide +kernel)
theorem w_fl_RX5_22 : Cond.fieldLink RX5 22 "SecretsharesModel" "powers" "[[I" ∈ e_TB := e_tb 1044 (by decide +kernel) (by decide +kernel)
theorem w_ml_RL_150 : Cond.methodLink RL 150 yX5_thrown ∈ e_TB := e_tb 1058 (by decide +kernel) (by decide +kernel)
theorem w_im_X5_thrown : Cond.instanceMethod yX5_thrown ∈ e_TB := e_tb 1059 (by decide +kernel) (by decide +kernel)
theorem w_se_X5_thrown : Cond.selects RX5 yX5_thrown yX5_thrown ∈ e_TB := e_tb 1060 (by decide +kernel) (by decide +kernel)
theorem w_co_X5_thrown : Cond.code yX5_thrown cX5_thrown 1 (Option.some .int) ∈ e_TB := e_tb 1061 (by decide +kernel) (by decide +kernel)
theorem w_ml_RL_149 : Cond.methodLink RL 149 yX5_prime ∈ e_TB := e_tb 1062 (by decide +kernel) (by decide +kernel)
theorem w_im_X5_prime : Cond.instanceMethod yX5_prime ∈ e_TB := e_tb 1063 (by decide +kernel) (by decide +kernel)
theorem w_se_X5_prime : Cond.selects RX5 yX5_prime yX5_prime ∈ e_TB := e_tb 1064 (by decide +kernel) (by decide +kernel)
theorem w_co_X5_prime : Cond.code yX5_prime cX5_prime 4 (Option.some .int) ∈ e_TB := e_tb 1065 (by decide +kernel) (by decide +kernel)
theorem w_ml_RX5_48 : Cond.methodLink RX5 48 yX5_isIn ∈ e_TB := e_tb 1066 (by decide +kernel) (by decide +kernel)
theorem w_sm_X5_isIn : Cond.static yX5_isIn ∈ e_TB := e_tb 1067 (by decide +kernel) (by decide +kernel)
theorem w_co_X5_isIn : Cond.code yX5_isIn cX5_isIn 3 (Option.some .boolean) ∈ e_TB := e_tb 1068 (by decide +kernel) (by decide +kernel)
theorem w_ml_RX5_69 : Cond.methodLink RX5 69 yX5_start ∈ e_TB := e_tb 1069 (by decide +kernel) (by decide +kernel)
theorem w_im_X5_start : Cond.instanceMethod yX5_start ∈ e_TB := e_tb 1071 (by decide +kernel) (by decide +kernel)
theorem w_co_X5_start : Cond.code yX5_start cX5_start 3 (Option.some .boolean) ∈ e_TB := e_tb 1072 (by decide +kernel) (by decide +kernel)
theorem w_ml_RX5_28 : Cond.methodLink RX5 28 yX5_refuse ∈ e_TB := e_tb 1073 (by decide +kernel) (by decide +kernel)
theorem w_im_X5_refuse : Cond.instanceMethod yX5_refuse ∈ e_TB := e_tb 1075 (by decide +kernel) (by decide +kernel)
theorem w_co_X5_refuse : Cond.code yX5_refuse cX5_refuse 3 (Option.some .boolean) ∈ e_TB := e_tb 1076 (by decide +kernel) (by decide +kernel)
theorem w_ml_RX5_38 : Cond.methodLink RX5 38 yX5_p ∈ e_TB := e_tb 1077 (by decide +kernel) (by decide +kernel)
theorem w_im_X5_p : Cond.instanceMethod yX5_p ∈ e_TB := e_tb 1079 (by decide +kernel) (by decide +kernel)
theorem w_co_X5_p : Cond.code yX5_p cX5_p 1 (Option.some .int) ∈ e_TB := e_tb 1080 (by decide +kernel) (by decide +kernel)
theorem w_fl_RX5_32 : Cond.fieldLink RX5 32 "SecretsharesModel" "PRIMES" "[I" ∈ e_TB := e_tb 1081 (by decide +kernel) (by decide +kernel)
theorem w_ml_RX5_72 : Cond.methodLink RX5 72 yX5_empty ∈ e_TB := e_tb 1083 (by decide +kernel) (by decide +kernel)
theorem w_im_X5_empty : Cond.instanceMethod yX5_empty ∈ e_TB := e_tb 1085 (by decide +kernel) (by decide +kernel)
theorem w_co_X5_empty : Cond.code yX5_empty cX5_empty 2 none ∈ e_TB := e_tb 1086 (by decide +kernel) (by decide +kernel)
theorem w_ml_RL_157 : Cond.methodLink RL 157 yX5_rest ∈ e_TB := e_tb 1087 (by decide +kernel) (by decide +kernel)
theorem w_im_X5_rest : Cond.instanceMethod yX5_rest ∈ e_TB := e_tb 1088 (by decide +kernel) (by decide +kernel)
theorem w_se_X5_rest : Cond.selects RX5 yX5_rest yX5_rest ∈ e_TB := e_tb 1089 (by decide +kernel) (by decide +kernel)
theorem w_co_X5_rest : Cond.code yX5_rest cX5_rest 2 (Option.some .int) ∈ e_TB := e_tb 1090 (by decide +kernel) (by decide +kernel)
theorem w_ml_RX5_55 : Cond.methodLink RX5 55 yX5_mod ∈ e_TB := e_tb 1091 (by decide +kernel) (by decide +kernel)
theorem w_im_X5_mod : Cond.instanceMethod yX5_mod ∈ e_TB := e_tb 1093 (by decide +kernel) (by decide +kernel)
theorem w_co_X5_mod : Cond.code yX5_mod cX5_mod 5 (Option.some .int) ∈ e_TB := e_tb 1094 (by decide +kernel) (by decide +kernel)
theorem w_ml_RL_161 : Cond.methodLink RL 161 yX5_reckon ∈ e_TB := e_tb 1095 (by decide +kernel) (by decide +kernel)
theorem w_im_X5_reckon : Cond.instanceMethod yX5_reckon ∈ e_TB := e_tb 1096 (by decide +kernel) (by decide +kernel)
theorem w_se_X5_reckon : Cond.selects RX5 yX5_reckon yX5_reckon ∈ e_TB := e_tb 1097 (by decide +kernel) (by decide +kernel)
theorem w_co_X5_reckon : Cond.code yX5_reckon cX5_reckon 4 (Option.some .int) ∈ e_TB := e_tb 1098 (by decide +kernel) (by decide +kernel)
theorem w_ml_RX5_76 : Cond.methodLink RX5 76 yX5_inverse ∈ e_TB := e_tb 1099 (by decide +kernel) (by decide +kernel)
theorem w_im_X5_inverse : Cond.instanceMethod yX5_inverse ∈ e_TB := e_tb 1101 (by decide +kernel) (by decide +kernel)
theorem w_co_X5_inverse : Cond.code yX5_inverse cX5_inverse 12 (Option.some .int) ∈ e_TB := e_tb 1102 (by decide +kernel) (by decide +kernel)
theorem w_ml_RL_165 : Cond.methodLink RL 165 yX5_reciprocal ∈ e_TB := e_tb 1103 (by decide +kernel) (by decide +kernel)
theorem w_im_X5_reciprocal : Cond.instanceMethod yX5_reciprocal ∈ e_TB := e_tb 1104 (by decide +kernel) (by decide +kernel)
theorem w_se_X5_reciprocal : Cond.selects RX5 yX5_reciprocal yX5_reciprocal ∈ e_TB := e_tb 1105 (by decide +kernel) (by decide +kernel)
theorem w_co_X5_reciprocal : Cond.code yX5_reciprocal cX5_reciprocal 2 (Option.some .int) ∈ e_TB := e_tb 1106 (by decide +kernel) (by decide +kernel)
theorem w_ml_RL_169 : Cond.methodLink RL 169 yX5_power ∈ e_TB := e_tb 1107 (by decide +kernel) (by decide +kernel)
theorem w_im_X5_power : Cond.instanceMethod yX5_power ∈ e_TB := e_tb 1108 (by decide +kernel) (by decide +kernel)
theorem w_se_X5_power : Cond.selects RX5 yX5_power yX5_power ∈ e_TB := e_tb 1109 (by decide +kernel) (by decide +kernel)
theorem w_co_X5_power : Cond.code yX5_power cX5_power 5 (Option.some .int) ∈ e_TB := e_tb 1110 (by decide +kernel) (by decide +kernel)
theorem w_ml_RX5_80 : Cond.methodLink RX5 80 yX5_one ∈ e_TB := e_tb 1111 (by decide +kernel) (by decide +kernel)
theorem w_sm_X5_one : Cond.static yX5_one ∈ e_TB := e_tb 1112 (by decide +kernel) (by decide +kernel)
theorem w_co_X5_one : Cond.code yX5_one cX5_one 1 (Option.some .int) ∈ e_TB := e_tb 1113 (by decide +kernel) (by decide +kernel)
theorem w_ml_RX5_65 : Cond.methodLink RX5 65 yX5_raised ∈ e_TB := e_tb 1114 (by decide +kernel) (by decide +kernel)
theorem w_sm_X5_raised : Cond.static yX5_raised ∈ e_TB := e_tb 1115 (by decide +kernel) (by decide +kernel)
theorem w_co_X5_raised : Cond.code yX5_raised cX5_raised 8 (Option.some .int) ∈ e_TB := e_tb 1116 (by decide +kernel) (by decide +kernel)
theorem w_ml_RL_173 : Cond.methodLink RL 173 yX5_sealOf ∈ e_TB := e_tb 1117 (by decide +kernel) (by decide +kernel)
theorem w_im_X5_sealOf : Cond.instanceMethod yX5_sealOf ∈ e_TB := e_tb 1118 (by decide +kernel) (by decide +kernel)
theorem w_se_X5_sealOf : Cond.selects RX5 yX5_sealOf yX5_sealOf ∈ e_TB := e_tb 1119 (by decide +kernel) (by decide +kernel)
theorem w_co_X5_sealOf : Cond.code yX5_sealOf cX5_sealOf 2 (Option.some .int) ∈ e_TB := e_tb 1120 (by decide +kernel) (by decide +kernel)
theorem w_ml_RX5_84 : Cond.methodLink RX5 84 yX5_sealBy ∈ e_TB := e_tb 1121 (by decide +kernel) (by decide +kernel)
theorem w_im_X5_sealBy : Cond.instanceMethod yX5_sealBy ∈ e_TB := e_tb 1123 (by decide +kernel) (by decide +kernel)
theorem w_co_X5_sealBy : Cond.code yX5_sealBy cX5_sealBy 2 (Option.some .int) ∈ e_TB := e_tb 1124 (by decide +kernel) (by decide +kernel)
theorem w_fl_RX5_59 : Cond.fieldLink RX5 59 "SecretsharesModel" "BASES" "[I" ∈ e_TB := e_tb 1125 (by decide +kernel) (by decide +kernel)
theorem w_ml_RX5_62 : Cond.methodLink RX5 62 yX5_q ∈ e_TB := e_tb 1127 (by decide +kernel) (by decide +kernel)
theorem w_im_X5_q : Cond.instanceMethod yX5_q ∈ e_TB := e_tb 1129 (by decide +kernel) (by decide +kernel)
theorem w_co_X5_q : Cond.code yX5_q cX5_q 1 (Option.some .int) ∈ e_TB := e_tb 1130 (by decide +kernel) (by decide +kernel)
theorem w_fl_RX5_35 : Cond.fieldLink RX5 35 "SecretsharesModel" "GREATS" "[I" ∈ e_TB := e_tb 1131 (by decide +kernel) (by decide +kernel)
theorem w_ml_RL_176 : Cond.methodLink RL 176 yX5_weight ∈ e_TB := e_tb 1133 (by decide +kernel) (by decide +kernel)
theorem w_im_X5_weight : Cond.instanceMethod yX5_weight ∈ e_TB := e_tb 1134 (by decide +kernel) (by decide +kernel)
theorem w_se_X5_weight : Cond.selects RX5 yX5_weight yX5_weight ∈ e_TB := e_tb 1135 (by decide +kernel) (by decide +kernel)
theorem w_co_X5_weight : Cond.code yX5_weight cX5_weight 5 (Option.some .int) ∈ e_TB := e_tb 1136 (by decide +kernel) (by decide +kernel)
theorem w_ml_RX5_99 : Cond.methodLink RX5 99 yX5_isNoHolder ∈ e_TB := e_tb 1137 (by decide +kernel) (by decide +kernel)
theorem w_im_X5_isNoHolder : Cond.instanceMethod yX5_isNoHolder ∈ e_TB := e_tb 1139 (by decide +kernel) (by decide +kernel)
theorem w_co_X5_isNoHolder : Cond.code yX5_isNoHolder cX5_isNoHolder 2 (Option.some .boolean) ∈ e_TB := e_tb 1140 (by decide +kernel) (by decide +kernel)
theorem w_ml_RX5_52 : Cond.methodLink RX5 52 yX5_holders ∈ e_TB := e_tb 1141 (by decide +kernel) (by decide +kernel)
theorem w_im_X5_holders : Cond.instanceMethod yX5_holders ∈ e_TB := e_tb 1143 (by decide +kernel) (by decide +kernel)
theorem w_co_X5_holders : Cond.code yX5_holders cX5_holders 1 (Option.some .int) ∈ e_TB := e_tb 1144 (by decide +kernel) (by decide +kernel)
theorem w_ml_RX5_42 : Cond.methodLink RX5 42 yJ9_min_7cf53 ∈ e_TB := e_tb 1145 (by decide +kernel) (by decide +kernel)
theorem w_ml_RX5_103 : Cond.methodLink RX5 103 yX5_isNoSet ∈ e_TB := e_tb 1146 (by decide +kernel) (by decide +kernel)
theorem w_im_X5_isNoSet : Cond.instanceMethod yX5_isNoSet ∈ e_TB := e_tb 1148 (by decide +kernel) (by decide +kernel)
theorem w_co_X5_isNoSet : Cond.code yX5_isNoSet cX5_isNoSet 2 (Option.some .boolean) ∈ e_TB := e_tb 1149 (by decide +kernel) (by decide +kernel)
theorem w_ml_RX5_87 : Cond.methodLink RX5 87 yX5_has ∈ e_TB := e_tb 1150 (by decide +kernel) (by decide +kernel)
theorem w_sm_X5_has : Cond.static yX5_has ∈ e_TB := e_tb 1151 (by decide +kernel) (by decide +kernel)
theorem w_co_X5_has : Cond.code yX5_has cX5_has 2 (Option.some .boolean) ∈ e_TB := e_tb 1152 (by decide +kernel) (by decide +kernel)
theorem w_ml_RX5_106 : Cond.methodLink RX5 106 yX5_at ∈ e_TB := e_tb 1153 (by decide +kernel) (by decide +kernel)
theorem w_im_X5_at : Cond.instanceMethod yX5_at ∈ e_TB := e_tb 1155 (by decide +kernel) (by decide +kernel)
theorem w_co_X5_at : Cond.code yX5_at cX5_at 4 (Option.some .int) ∈ e_TB := e_tb 1156 (by decide +kernel) (by decide +kernel)
theorem w_ml_RX5_95 : Cond.methodLink RX5 95 yX5_through ∈ e_TB := e_tb 1157 (by decide +kernel) (by decide +kernel)
theorem w_im_X5_through : Cond.instanceMethod yX5_through ∈ e_TB := e_tb 1159 (by decide +kernel) (by decide +kernel)
theorem w_co_X5_through : Cond.code yX5_through cX5_through 8 (Option.some (.array .int)) ∈ e_TB := e_tb 1160 (by decide +kernel) (by decide +kernel)
theorem w_ml_RX5_91 : Cond.methodLink RX5 91 yX5_value ∈ e_TB := e_tb 1161 (by decide +kernel) (by decide +kernel)
theorem w_im_X5_value : Cond.instanceMethod yX5_value ∈ e_TB := e_tb 1163 (by decide +kernel) (by decide +kernel)
theorem w_co_X5_value : Cond.code yX5_value cX5_value 6 (Option.some .int) ∈ e_TB := e_tb 1164 (by decide +kernel) (by decide +kernel)
theorem w_ml_RL_180 : Cond.methodLink RL 180 yX5_weights ∈ e_TB := e_tb 1165 (by decide +kernel) (by decide +kernel)
theorem w_im_X5_weights : Cond.instanceMethod yX5_weights ∈ e_TB := e_tb 1166 (by decide +kernel) (by decide +kernel)
theorem w_se_X5_weights : Cond.selects RX5 yX5_weights yX5_weights ∈ e_TB := e_tb 1167 (by decide +kernel) (by decide +kernel)
theorem w_co_X5_weights : Cond.code yX5_weights cX5_weights 3 (Option.some .int) ∈ e_TB := e_tb 1168 (by decide +kernel) (by decide +kernel)
theorem w_ml_RX5_110 : Cond.methodLink RX5 110 yX5_weightsAt ∈ e_TB := e_tb 1169 (by decide +kernel) (by decide +kernel)
theorem w_im_X5_weightsAt : Cond.instanceMethod yX5_weightsAt ∈ e_TB := e_tb 1171 (by decide +kernel) (by decide +kernel)
theorem w_co_X5_weightsAt : Cond.code yX5_weightsAt cX5_weightsAt 5 (Option.some .int) ∈ e_TB := e_tb 1172 (by decide +kernel) (by decide +kernel)
theorem w_ml_RL_184 : Cond.methodLink RL 184 yX5_hide ∈ e_TB := e_tb 1173 (by decide +kernel) (by decide +kernel)
theorem w_im_X5_hide : Cond.instanceMethod yX5_hide ∈ e_TB := e_tb 1174 (by decide +kernel) (by decide +kernel)
theorem w_se_X5_hide : Cond.selects RX5 yX5_hide yX5_hide ∈ e_TB := e_tb 1175 (by decide +kernel) (by decide +kernel)
theorem w_co_X5_hide : Cond.code yX5_hide cX5_hide 8 (Option.some .int) ∈ e_TB := e_tb 1176 (by decide +kernel) (by decide +kernel)
theorem w_ml_RX5_129 : Cond.methodLink RX5 129 yX5_isNoDeal ∈ e_TB := e_tb 1177 (by decide +kernel) (by decide +kernel)
theorem w_sm_X5_isNoDeal : Cond.static yX5_isNoDeal ∈ e_TB := e_tb 1178 (by decide +kernel) (by decide +kernel)
theorem w_co_X5_isNoDeal : Cond.code yX5_isNoDeal cX5_isNoDeal 1 (Option.some .boolean) ∈ e_TB := e_tb 1179 (by decide +kernel) (by decide +kernel)
theorem w_ml_RX5_132 : Cond.methodLink RX5 132 yX5_poly ∈ e_TB := e_tb 1180 (by decide +kernel) (by decide +kernel)
theorem w_im_X5_poly : Cond.instanceMethod yX5_poly ∈ e_TB := e_tb 1182 (by decide +kernel) (by decide +kernel)
theorem w_co_X5_poly : Cond.code yX5_poly cX5_poly 9 (Option.some (.array .int)) ∈ e_TB := e_tb 1183 (by decide +kernel) (by decide +kernel)
theorem w_ml_RX5_136 : Cond.methodLink RX5 136 yX5_values ∈ e_TB := e_tb 1184 (by decide +kernel) (by decide +kernel)
theorem w_im_X5_values : Cond.instanceMethod yX5_values ∈ e_TB := e_tb 1186 (by decide +kernel) (by decide +kernel)
theorem w_co_X5_values : Cond.code yX5_values cX5_values 4 (Option.some (.array .int)) ∈ e_TB := e_tb 1187 (by decide +kernel) (by decide +kernel)
theorem w_ml_RX5_140 : Cond.methodLink RX5 140 yX5_lay ∈ e_TB := e_tb 1188 (by decide +kernel) (by decide +kernel)
theorem w_im_X5_lay : Cond.instanceMethod yX5_lay ∈ e_TB := e_tb 1190 (by decide +kernel) (by decide +kernel)
theorem w_co_X5_lay : Cond.code yX5_lay cX5_lay 5 (Option.some .int) ∈ e_TB := e_tb 1191 (by decide +kernel) (by decide +kernel)
theorem w_ml_RX5_116 : Cond.methodLink RX5 116 yX5_setOf ∈ e_TB := e_tb 1192 (by decide +kernel) (by decide +kernel)
theorem w_im_X5_setOf : Cond.instanceMethod yX5_setOf ∈ e_TB := e_tb 1194 (by decide +kernel) (by decide +kernel)
theorem w_co_X5_setOf : Cond.code yX5_setOf cX5_setOf 4 (Option.some .int) ∈ e_TB := e_tb 1195 (by decide +kernel) (by decide +kernel)
theorem w_ml_RX5_113 : Cond.methodLink RX5 113 yX5_isEmpty ∈ e_TB := e_tb 1196 (by decide +kernel) (by decide +kernel)
theorem w_im_X5_isEmpty : Cond.instanceMethod yX5_isEmpty ∈ e_TB := e_tb 1198 (by decide +kernel) (by decide +kernel)
theorem w_co_X5_isEmpty : Cond.code yX5_isEmpty cX5_isEmpty 2 (Option.some .boolean) ∈ e_TB := e_tb 1199 (by decide +kernel) (by decide +kernel)
theorem w_ml_RX5_119 : Cond.methodLink RX5 119 yX5_many ∈ e_TB := e_tb 1200 (by decide +kernel) (by decide +kernel)
theorem w_sm_X5_many : Cond.static yX5_many ∈ e_TB := e_tb 1201 (by decide +kernel) (by decide +kernel)
theorem w_co_X5_many : Cond.code yX5_many cX5_many 3 (Option.some .int) ∈ e_TB := e_tb 1202 (by decide +kernel) (by decide +kernel)
theorem w_ml_RL_188 : Cond.methodLink RL 188 yX5_pour ∈ e_TB := e_tb 1203 (by decide +kernel) (by decide +kernel)
theorem w_im_X5_pour : Cond.instanceMethod yX5_pour ∈ e_TB := e_tb 1204 (by decide +kernel) (by decide +kernel)
theorem w_se_X5_pour : Cond.selects RX5 yX5_pour yX5_pour ∈ e_TB := e_tb 1205 (by decide +kernel) (by decide +kernel)
theorem w_co_X5_pour : Cond.code yX5_pour cX5_pour 10 (Option.some .int) ∈ e_TB := e_tb 1206 (by decide +kernel) (by decide +kernel)
theorem w_ml_RX5_144 : Cond.methodLink RX5 144 ⟨"[I", "clone", "()Ljava/lang/Object;"⟩ ∈ e_TB := e_tb 1207 (by decide +kernel) (by decide +kernel)
theorem w_ca__I_RJx8e188 : Cond.castable "[I" RJx8e188 ∈ e_NW := e_tn 1210 (by decide +kernel) (by decide +kernel)
theorem w_ml_RL_191 : Cond.methodLink RL 191 yX5_plus ∈ e_TB := e_tb 1211 (by decide +kernel) (by decide +kernel)
theorem w_im_X5_plus : Cond.instanceMethod yX5_plus ∈ e_TB := e_tb 1212 (by decide +kernel) (by decide +kernel)
theorem w_se_X5_plus : Cond.selects RX5 yX5_plus yX5_plus ∈ e_TB := e_tb 1213 (by decide +kernel) (by decide +kernel)
theorem w_co_X5_plus : Cond.code yX5_plus cX5_plus 4 (Option.some .int) ∈ e_TB := e_tb 1214 (by decide +kernel) (by decide +kernel)
theorem w_ml_RX5_154 : Cond.methodLink RX5 154 yX5_areNoDeals ∈ e_TB := e_tb 1215 (by decide +kernel) (by decide +kernel)
theorem w_im_X5_areNoDeals : Cond.instanceMethod yX5_areNoDeals ∈ e_TB := e_tb 1217 (by decide +kernel) (by decide +kernel)
theorem w_co_X5_areNoDeals : Cond.code yX5_areNoDeals cX5_areNoDeals 4 (Option.some .boolean) ∈ e_TB := e_tb 1218 (by decide +kernel) (by decide +kernel)
theorem w_ml_RX5_157 : Cond.methodLink RX5 157 yX5_joined ∈ e_TB := e_tb 1219 (by decide +kernel) (by decide +kernel)
theorem w_im_X5_joined : Cond.instanceMethod yX5_joined ∈ e_TB := e_tb 1221 (by decide +kernel) (by decide +kernel)
theorem w_co_X5_joined : Cond.code yX5_joined cX5_joined 9 (Option.some .int) ∈ e_TB := e_tb 1222 (by decide +kernel) (by decide +kernel)
theorem w_ml_RX5_148 : Cond.methodLink RX5 148 yJ9_max_7cf53 ∈ e_TB := e_tb 1223 (by decide +kernel) (by decide +kernel)
theorem w_ml_RX5_151 : Cond.methodLink RX5 151 yX5_of ∈ e_TB := e_tb 1224 (by decide +kernel) (by decide +kernel)
theorem w_sm_X5_of : Cond.static yX5_of ∈ e_TB := e_tb 1225 (by decide +kernel) (by decide +kernel)
theorem w_co_X5_of : Cond.code yX5_of cX5_of 2 (Option.some .int) ∈ e_TB := e_tb 1226 (by decide +kernel) (by decide +kernel)
theorem w_ml_RL_194 : Cond.methodLink RL 194 yX5_less ∈ e_TB := e_tb 1227 (by decide +kernel) (by decide +kernel)
theorem w_im_X5_less : Cond.instanceMethod yX5_less ∈ e_TB := e_tb 1228 (by decide +kernel) (by decide +kernel)
theorem w_se_X5_less : Cond.selects RX5 yX5_less yX5_less ∈ e_TB := e_tb 1229 (by decide +kernel) (by decide +kernel)
theorem w_co_X5_less : Cond.code yX5_less cX5_less 4 (Option.some .int) ∈ e_TB := e_tb 1230 (by decide +kernel) (by decide +kernel)
theorem w_ml_RL_197 : Cond.methodLink RL 197 yX5_times ∈ e_TB := e_tb 1231 (by decide +kernel) (by decide +kernel)
theorem w_im_X5_times : Cond.instanceMethod yX5_times ∈ e_TB := e_tb 1232 (by decide +kernel) (by decide +kernel)
theorem w_se_X5_times : Cond.selects RX5 yX5_times yX5_times ∈ e_TB := e_tb 1233 (by decide +kernel) (by decide +kernel)
theorem w_co_X5_times : Cond.code yX5_times cX5_times 6 (Option.some .int) ∈ e_TB := e_tb 1234 (by decide +kernel) (by decide +kernel)
theorem w_ml_RL_200 : Cond.methodLink RL 200 yX5_scale ∈ e_TB := e_tb 1235 (by decide +kernel) (by decide +kernel)
theorem w_im_X5_scale : Cond.instanceMethod yX5_scale ∈ e_TB := e_tb 1236 (by decide +kernel) (by decide +kernel)
theorem w_se_X5_scale : Cond.selects RX5 yX5_scale yX5_scale ∈ e_TB := e_tb 1237 (by decide +kernel) (by decide +kernel)
theorem w_co_X5_scale : Cond.code yX5_scale cX5_scale 7 (Option.some .int) ∈ e_TB := e_tb 1238 (by decide +kernel) (by decide +kernel)
theorem w_ml_RL_203 : Cond.methodLink RL 203 yX5_handOn ∈ e_TB := e_tb 1239 (by decide +kernel) (by decide +kernel)
theorem w_im_X5_handOn : Cond.instanceMethod yX5_handOn ∈ e_TB := e_tb 1240 (by decide +kernel) (by decide +kernel)
theorem w_se_X5_handOn : Cond.selects RX5 yX5_handOn yX5_handOn ∈ e_TB := e_tb 1241 (by decide +kernel) (by decide +kernel)
theorem w_co_X5_handOn : Cond.code yX5_handOn cX5_handOn 11 (Option.some .int) ∈ e_TB := e_tb 1242 (by decide +kernel) (by decide +kernel)
theorem w_ml_RX5_161 : Cond.methodLink RX5 161 yX5_isEnough ∈ e_TB := e_tb 1243 (by decide +kernel) (by decide +kernel)
theorem w_im_X5_isEnough : Cond.instanceMethod yX5_isEnough ∈ e_TB := e_tb 1245 (by decide +kernel) (by decide +kernel)
theorem w_co_X5_isEnough : Cond.code yX5_isEnough cX5_isEnough 3 (Option.some .boolean) ∈ e_TB := e_tb 1246 (by decide +kernel) (by decide +kernel)
theorem w_ml_RX5_122 : Cond.methodLink RX5 122 yX5_isThere ∈ e_TB := e_tb 1247 (by decide +kernel) (by decide +kernel)
theorem w_im_X5_isThere : Cond.instanceMethod yX5_isThere ∈ e_TB := e_tb 1249 (by decide +kernel) (by decide +kernel)
theorem w_co_X5_isThere : Cond.code yX5_isThere cX5_isThere 4 (Option.some .boolean) ∈ e_TB := e_tb 1250 (by decide +kernel) (by decide +kernel)
theorem w_ml_RL_206 : Cond.methodLink RL 206 yX5_lose ∈ e_TB := e_tb 1251 (by decide +kernel) (by decide +kernel)
theorem w_im_X5_lose : Cond.instanceMethod yX5_lose ∈ e_TB := e_tb 1252 (by decide +kernel) (by decide +kernel)
theorem w_se_X5_lose : Cond.selects RX5 yX5_lose yX5_lose ∈ e_TB := e_tb 1253 (by decide +kernel) (by decide +kernel)
theorem w_co_X5_lose : Cond.code yX5_lose cX5_lose 4 (Option.some .int) ∈ e_TB := e_tb 1254 (by decide +kernel) (by decide +kernel)
theorem w_ml_RX5_164 : Cond.methodLink RX5 164 yX5_put ∈ e_TB := e_tb 1255 (by decide +kernel) (by decide +kernel)
theorem w_im_X5_put : Cond.instanceMethod yX5_put ∈ e_TB := e_tb 1257 (by decide +kernel) (by decide +kernel)
theorem w_co_X5_put : Cond.code yX5_put cX5_put 5 none ∈ e_TB := e_tb 1258 (by decide +kernel) (by decide +kernel)
theorem w_ml_RL_209 : Cond.methodLink RL 209 yX5_give ∈ e_TB := e_tb 1259 (by decide +kernel) (by decide +kernel)
theorem w_im_X5_give : Cond.instanceMethod yX5_give ∈ e_TB := e_tb 1260 (by decide +kernel) (by decide +kernel)
theorem w_se_X5_give : Cond.selects RX5 yX5_give yX5_give ∈ e_TB := e_tb 1261 (by decide +kernel) (by decide +kernel)
theorem w_co_X5_give : Cond.code yX5_give cX5_give 5 (Option.some .int) ∈ e_TB := e_tb 1262 (by decide +kernel) (by decide +kernel)
theorem w_ml_RL_212 : Cond.methodLink RL 212 yX5_regain ∈ e_TB := e_tb 1263 (by decide +kernel) (by decide +kernel)
theorem w_im_X5_regain : Cond.instanceMethod yX5_regain ∈ e_TB := e_tb 1264 (by decide +kernel) (by decide +kernel)
theorem w_se_X5_regain : Cond.selects RX5 yX5_regain yX5_regain ∈ e_TB := e_tb 1265 (by decide +kernel) (by decide +kernel)
theorem w_co_X5_regain : Cond.code yX5_regain cX5_regain 4 (Option.some .int) ∈ e_TB := e_tb 1266 (by decide +kernel) (by decide +kernel)
theorem w_ml_RL_215 : Cond.methodLink RL 215 yX5_mend ∈ e_TB := e_tb 1267 (by decide +kernel) (by decide +kernel)
theorem w_im_X5_mend : Cond.instanceMethod yX5_mend ∈ e_TB := e_tb 1268 (by decide +kernel) (by decide +kernel)
theorem w_se_X5_mend : Cond.selects RX5 yX5_mend yX5_mend ∈ e_TB := e_tb 1269 (by decide +kernel) (by decide +kernel)
theorem w_co_X5_mend : Cond.code yX5_mend cX5_mend 3 (Option.some .int) ∈ e_TB := e_tb 1270 (by decide +kernel) (by decide +kernel)
theorem w_ml_RX5_174 : Cond.methodLink RX5 174 yX5_wrongOf ∈ e_TB := e_tb 1271 (by decide +kernel) (by decide +kernel)
theorem w_im_X5_wrongOf : Cond.instanceMethod yX5_wrongOf ∈ e_TB := e_tb 1273 (by decide +kernel) (by decide +kernel)
theorem w_co_X5_wrongOf : Cond.code yX5_wrongOf cX5_wrongOf 4 (Option.some .int) ∈ e_TB := e_tb 1274 (by decide +kernel) (by decide +kernel)
theorem w_ml_RX5_168 : Cond.methodLink RX5 168 yX5_isAgreed ∈ e_TB := e_tb 1275 (by decide +kernel) (by decide +kernel)
theorem w_im_X5_isAgreed : Cond.instanceMethod yX5_isAgreed ∈ e_TB := e_tb 1277 (by decide +kernel) (by decide +kernel)
theorem w_co_X5_isAgreed : Cond.code yX5_isAgreed cX5_isAgreed 3 (Option.some .boolean) ∈ e_TB := e_tb 1278 (by decide +kernel) (by decide +kernel)
theorem w_ml_RX5_125 : Cond.methodLink RX5 125 yX5_degreeOf ∈ e_TB := e_tb 1279 (by decide +kernel) (by decide +kernel)
theorem w_sm_X5_degreeOf : Cond.static yX5_degreeOf ∈ e_TB := e_tb 1280 (by decide +kernel) (by decide +kernel)
theorem w_co_X5_degreeOf : Cond.code yX5_degreeOf cX5_degreeOf 2 (Option.some .int) ∈ e_TB := e_tb 1281 (by decide +kernel) (by decide +kernel)
theorem w_ml_RX5_171 : Cond.methodLink RX5 171 yX5_suspectsOf ∈ e_TB := e_tb 1282 (by decide +kernel) (by decide +kernel)
theorem w_im_X5_suspectsOf : Cond.instanceMethod yX5_suspectsOf ∈ e_TB := e_tb 1284 (by decide +kernel) (by decide +kernel)
theorem w_co_X5_suspectsOf : Cond.code yX5_suspectsOf cX5_suspectsOf 5 (Option.some .int) ∈ e_TB := e_tb 1285 (by decide +kernel) (by decide +kernel)
theorem w_ml_RL_218 : Cond.methodLink RL 218 yX5_copy ∈ e_TB := e_tb 1286 (by decide +kernel) (by decide +kernel)
theorem w_im_X5_copy : Cond.instanceMethod yX5_copy ∈ e_TB := e_tb 1287 (by decide +kernel) (by decide +kernel)
theorem w_se_X5_copy : Cond.selects RX5 yX5_copy yX5_copy ∈ e_TB := e_tb 1288 (by decide +kernel) (by decide +kernel)
theorem w_co_X5_copy : Cond.code yX5_copy cX5_copy 3 (Option.some .int) ∈ e_TB := e_tb 1289 (by decide +kernel) (by decide +kernel)
theorem w_ml_RL_221 : Cond.methodLink RL 221 yX5_drop ∈ e_TB := e_tb 1290 (by decide +kernel) (by decide +kernel)
theorem w_im_X5_drop : Cond.instanceMethod yX5_drop ∈ e_TB := e_tb 1291 (by decide +kernel) (by decide +kernel)
theorem w_se_X5_drop : Cond.selects RX5 yX5_drop yX5_drop ∈ e_TB := e_tb 1292 (by decide +kernel) (by decide +kernel)
theorem w_co_X5_drop : Cond.code yX5_drop cX5_drop 3 (Option.some .int) ∈ e_TB := e_tb 1293 (by decide +kernel) (by decide +kernel)
theorem w_ml_RL_225 : Cond.methodLink RL 225 yX5_knock ∈ e_TB := e_tb 1294 (by decide +kernel) (by decide +kernel)
theorem w_im_X5_knock : Cond.instanceMethod yX5_knock ∈ e_TB := e_tb 1295 (by decide +kernel) (by decide +kernel)
theorem w_se_X5_knock : Cond.selects RX5 yX5_knock yX5_knock ∈ e_TB := e_tb 1296 (by decide +kernel) (by decide +kernel)
theorem w_co_X5_knock : Cond.code yX5_knock cX5_knock 1 (Option.some .int) ∈ e_TB := e_tb 1297 (by decide +kernel) (by decide +kernel)
theorem w_ml_RL_228 : Cond.methodLink RL 228 yX5_share ∈ e_TB := e_tb 1298 (by decide +kernel) (by decide +kernel)
theorem w_im_X5_share : Cond.instanceMethod yX5_share ∈ e_TB := e_tb 1299 (by decide +kernel) (by decide +kernel)
theorem w_se_X5_share : Cond.selects RX5 yX5_share yX5_share ∈ e_TB := e_tb 1300 (by decide +kernel) (by decide +kernel)
theorem w_co_X5_share : Cond.code yX5_share cX5_share 3 (Option.some .int) ∈ e_TB := e_tb 1301 (by decide +kernel) (by decide +kernel)
theorem w_ml_RX5_180 : Cond.methodLink RX5 180 yX5_shareOf ∈ e_TB := e_tb 1302 (by decide +kernel) (by decide +kernel)
theorem w_im_X5_shareOf : Cond.instanceMethod yX5_shareOf ∈ e_TB := e_tb 1304 (by decide +kernel) (by decide +kernel)
theorem w_co_X5_shareOf : Cond.code yX5_shareOf cX5_shareOf 3 (Option.some .int) ∈ e_TB := e_tb 1305 (by decide +kernel) (by decide +kernel)
theorem w_ml_RL_231 : Cond.methodLink RL 231 yX5_ofDeal ∈ e_TB := e_tb 1306 (by decide +kernel) (by decide +kernel)
theorem w_im_X5_ofDeal : Cond.instanceMethod yX5_ofDeal ∈ e_TB := e_tb 1307 (by decide +kernel) (by decide +kernel)
theorem w_se_X5_ofDeal : Cond.selects RX5 yX5_ofDeal yX5_ofDeal ∈ e_TB := e_tb 1308 (by decide +kernel) (by decide +kernel)
theorem w_co_X5_ofDeal : Cond.code yX5_ofDeal cX5_ofDeal 3 (Option.some .int) ∈ e_TB := e_tb 1309 (by decide +kernel) (by decide +kernel)
theorem w_ml_RX5_186 : Cond.methodLink RX5 186 yX5_dealTold ∈ e_TB := e_tb 1310 (by decide +kernel) (by decide +kernel)
theorem w_im_X5_dealTold : Cond.instanceMethod yX5_dealTold ∈ e_TB := e_tb 1312 (by decide +kernel) (by decide +kernel)
theorem w_co_X5_dealTold : Cond.code yX5_dealTold cX5_dealTold 3 (Option.some .int) ∈ e_TB := e_tb 1313 (by decide +kernel) (by decide +kernel)
theorem w_ml_RX5_183 : Cond.methodLink RX5 183 yX5_firstOf ∈ e_TB := e_tb 1314 (by decide +kernel) (by decide +kernel)
theorem w_im_X5_firstOf : Cond.instanceMethod yX5_firstOf ∈ e_TB := e_tb 1316 (by decide +kernel) (by decide +kernel)
theorem w_co_X5_firstOf : Cond.code yX5_firstOf cX5_firstOf 4 (Option.some .int) ∈ e_TB := e_tb 1317 (by decide +kernel) (by decide +kernel)
theorem w_ml_RL_234 : Cond.methodLink RL 234 yX5_told ∈ e_TB := e_tb 1318 (by decide +kernel) (by decide +kernel)
theorem w_im_X5_told : Cond.instanceMethod yX5_told ∈ e_TB := e_tb 1319 (by decide +kernel) (by decide +kernel)
theorem w_se_X5_told : Cond.selects RX5 yX5_told yX5_told ∈ e_TB := e_tb 1320 (by decide +kernel) (by decide +kernel)
theorem w_co_X5_told : Cond.code yX5_told cX5_told 4 (Option.some .int) ∈ e_TB := e_tb 1321 (by decide +kernel) (by decide +kernel)
theorem w_ml_RX5_189 : Cond.methodLink RX5 189 yX5_isNo ∈ e_TB := e_tb 1322 (by decide +kernel) (by decide +kernel)
theorem w_im_X5_isNo : Cond.instanceMethod yX5_isNo ∈ e_TB := e_tb 1324 (by decide +kernel) (by decide +kernel)
theorem w_co_X5_isNo : Cond.code yX5_isNo cX5_isNo 3 (Option.some .boolean) ∈ e_TB := e_tb 1325 (by decide +kernel) (by decide +kernel)
theorem w_ml_RL_237 : Cond.methodLink RL 237 yX5_open ∈ e_TB := e_tb 1326 (by decide +kernel) (by decide +kernel)
theorem w_im_X5_open : Cond.instanceMethod yX5_open ∈ e_TB := e_tb 1327 (by decide +kernel) (by decide +kernel)
theorem w_se_X5_open : Cond.selects RX5 yX5_open yX5_open ∈ e_TB := e_tb 1328 (by decide +kernel) (by decide +kernel)
theorem w_co_X5_open : Cond.code yX5_open cX5_open 3 (Option.some .int) ∈ e_TB := e_tb 1329 (by decide +kernel) (by decide +kernel)
theorem w_ml_RL_240 : Cond.methodLink RL 240 yX5_coefficient ∈ e_TB := e_tb 1330 (by decide +kernel) (by decide +kernel)
theorem w_im_X5_coefficient : Cond.instanceMethod yX5_coefficient ∈ e_TB := e_tb 1331 (by decide +kernel) (by decide +kernel)
theorem w_se_X5_coefficient : Cond.selects RX5 yX5_coefficient yX5_coefficient ∈ e_TB := e_tb 1332 (by decide +kernel) (by decide +kernel)
theorem w_co_X5_coefficient : Cond.code yX5_coefficient cX5_coefficient 4 (Option.some .int) ∈ e_TB := e_tb 1333 (by decide +kernel) (by decide +kernel)
theorem w_ml_RL_243 : Cond.methodLink RL 243 yX5_degreeBy ∈ e_TB := e_tb 1334 (by decide +kernel) (by decide +kernel)
theorem w_im_X5_degreeBy : Cond.instanceMethod yX5_degreeBy ∈ e_TB := e_tb 1335 (by decide +kernel) (by decide +kernel)
theorem w_se_X5_degreeBy : Cond.selects RX5 yX5_degreeBy yX5_degreeBy ∈ e_TB := e_tb 1336 (by decide +kernel) (by decide +kernel)
theorem w_co_X5_degreeBy : Cond.code yX5_degreeBy cX5_degreeBy 3 (Option.some .int) ∈ e_TB := e_tb 1337 (by decide +kernel) (by decide +kernel)
theorem w_ml_RL_246 : Cond.methodLink RL 246 yX5_agrees ∈ e_TB := e_tb 1338 (by decide +kernel) (by decide +kernel)
theorem w_im_X5_agrees : Cond.instanceMethod yX5_agrees ∈ e_TB := e_tb 1339 (by decide +kernel) (by decide +kernel)
theorem w_se_X5_agrees : Cond.selects RX5 yX5_agrees yX5_agrees ∈ e_TB := e_tb 1340 (by decide +kernel) (by decide +kernel)
theorem w_co_X5_agrees : Cond.code yX5_agrees cX5_agrees 3 (Option.some .int) ∈ e_TB := e_tb 1341 (by decide +kernel) (by decide +kernel)
theorem w_ml_RL_249 : Cond.methodLink RL 249 yX5_suspects ∈ e_TB := e_tb 1342 (by decide +kernel) (by decide +kernel)
theorem w_im_X5_suspects : Cond.instanceMethod yX5_suspects ∈ e_TB := e_tb 1343 (by decide +kernel) (by decide +kernel)
theorem w_se_X5_suspects : Cond.selects RX5 yX5_suspects yX5_suspects ∈ e_TB := e_tb 1344 (by decide +kernel) (by decide +kernel)
theorem w_co_X5_suspects : Cond.code yX5_suspects cX5_suspects 2 (Option.some .int) ∈ e_TB := e_tb 1345 (by decide +kernel) (by decide +kernel)
theorem w_ml_RL_252 : Cond.methodLink RL 252 yX5_wrong ∈ e_TB := e_tb 1346 (by decide +kernel) (by decide +kernel)
theorem w_im_X5_wrong : Cond.instanceMethod yX5_wrong ∈ e_TB := e_tb 1347 (by decide +kernel) (by decide +kernel)
theorem w_se_X5_wrong : Cond.selects RX5 yX5_wrong yX5_wrong ∈ e_TB := e_tb 1348 (by decide +kernel) (by decide +kernel)
theorem w_co_X5_wrong : Cond.code yX5_wrong cX5_wrong 2 (Option.some .int) ∈ e_TB := e_tb 1349 (by decide +kernel) (by decide +kernel)
theorem w_ml_RL_255 : Cond.methodLink RL 255 yX5_ways ∈ e_TB := e_tb 1350 (by decide +kernel) (by decide +kernel)
theorem w_im_X5_ways : Cond.instanceMethod yX5_ways ∈ e_TB := e_tb 1351 (by decide +kernel) (by decide +kernel)
theorem w_se_X5_ways : Cond.selects RX5 yX5_ways yX5_ways ∈ e_TB := e_tb 1352 (by decide +kernel) (by decide +kernel)
theorem w_co_X5_ways : Cond.code yX5_ways cX5_ways 12 (Option.some .int) ∈ e_TB := e_tb 1353 (by decide +kernel) (by decide +kernel)
theorem w_kl_RX5_192 : Cond.constantLong RX5 192 (eJ (125)) ∈ e_TB := e_tb 1354 (by decide +kernel) (by decide +kernel)
theorem w_ml_RL_258 : Cond.methodLink RL 258 yX5_total ∈ e_TB := e_tb 1355 (by decide +kernel) (by decide +kernel)
theorem w_im_X5_total : Cond.instanceMethod yX5_total ∈ e_TB := e_tb 1356 (by decide +kernel) (by decide +kernel)
theorem w_se_X5_total : Cond.selects RX5 yX5_total yX5_total ∈ e_TB := e_tb 1357 (by decide +kernel) (by decide +kernel)
theorem w_co_X5_total : Cond.code yX5_total cX5_total 5 (Option.some .int) ∈ e_TB := e_tb 1358 (by decide +kernel) (by decide +kernel)
theorem w_ml_RL_261 : Cond.methodLink RL 261 yX5_seal ∈ e_TB := e_tb 1359 (by decide +kernel) (by decide +kernel)
theorem w_im_X5_seal : Cond.instanceMethod yX5_seal ∈ e_TB := e_tb 1360 (by decide +kernel) (by decide +kernel)
theorem w_se_X5_seal : Cond.selects RX5 yX5_seal yX5_seal ∈ e_TB := e_tb 1361 (by decide +kernel) (by decide +kernel)
theorem w_co_X5_seal : Cond.code yX5_seal cX5_seal 3 (Option.some .int) ∈ e_TB := e_tb 1362 (by decide +kernel) (by decide +kernel)
theorem w_ml_RX5_194 : Cond.methodLink RX5 194 yX5_sealTold ∈ e_TB := e_tb 1363 (by decide +kernel) (by decide +kernel)
theorem w_im_X5_sealTold : Cond.instanceMethod yX5_sealTold ∈ e_TB := e_tb 1365 (by decide +kernel) (by decide +kernel)
theorem w_co_X5_sealTold : Cond.code yX5_sealTold cX5_sealTold 3 (Option.some .int) ∈ e_TB := e_tb 1366 (by decide +kernel) (by decide +kernel)
theorem w_ml_RL_264 : Cond.methodLink RL 264 yX5_fits ∈ e_TB := e_tb 1367 (by decide +kernel) (by decide +kernel)
theorem w_im_X5_fits : Cond.instanceMethod yX5_fits ∈ e_TB := e_tb 1368 (by decide +kernel) (by decide +kernel)
theorem w_se_X5_fits : Cond.selects RX5 yX5_fits yX5_fits ∈ e_TB := e_tb 1369 (by decide +kernel) (by decide +kernel)
theorem w_co_X5_fits : Cond.code yX5_fits cX5_fits 3 (Option.some .int) ∈ e_TB := e_tb 1370 (by decide +kernel) (by decide +kernel)
theorem w_ml_RX5_197 : Cond.methodLink RX5 197 yX5_isFit ∈ e_TB := e_tb 1371 (by decide +kernel) (by decide +kernel)
theorem w_im_X5_isFit : Cond.instanceMethod yX5_isFit ∈ e_TB := e_tb 1373 (by decide +kernel) (by decide +kernel)
theorem w_co_X5_isFit : Cond.code yX5_isFit cX5_isFit 3 (Option.some .boolean) ∈ e_TB := e_tb 1374 (by decide +kernel) (by decide +kernel)
theorem w_ml_RL_267 : Cond.methodLink RL 267 yX5_order ∈ e_TB := e_tb 1375 (by decide +kernel) (by decide +kernel)
theorem w_im_X5_order : Cond.instanceMethod yX5_order ∈ e_TB := e_tb 1376 (by decide +kernel) (by decide +kernel)
theorem w_se_X5_order : Cond.selects RX5 yX5_order yX5_order ∈ e_TB := e_tb 1377 (by decide +kernel) (by decide +kernel)
theorem w_co_X5_order : Cond.code yX5_order cX5_order 6 (Option.some .int) ∈ e_TB := e_tb 1378 (by decide +kernel) (by decide +kernel)
theorem w_ml_RL_271 : Cond.methodLink RL 271 yX5_most ∈ e_TB := e_tb 1379 (by decide +kernel) (by decide +kernel)
theorem w_im_X5_most : Cond.instanceMethod yX5_most ∈ e_TB := e_tb 1380 (by decide +kernel) (by decide +kernel)
theorem w_se_X5_most : Cond.selects RX5 yX5_most yX5_most ∈ e_TB := e_tb 1381 (by decide +kernel) (by decide +kernel)
theorem w_co_X5_most : Cond.code yX5_most cX5_most 6 (Option.some .int) ∈ e_TB := e_tb 1382 (by decide +kernel) (by decide +kernel)
theorem w_ml_RL_274 : Cond.methodLink RL 274 yX5_text ∈ e_TB := e_tb 1383 (by decide +kernel) (by decide +kernel)
theorem w_im_X5_text : Cond.instanceMethod yX5_text ∈ e_TB := e_tb 1384 (by decide +kernel) (by decide +kernel)
theorem w_se_X5_text : Cond.selects RX5 yX5_text yX5_text ∈ e_TB := e_tb 1385 (by decide +kernel) (by decide +kernel)
theorem w_co_X5_text : Cond.code yX5_text cX5_text 4 (Option.some (.object "java/lang/String")) ∈ e_TB := e_tb 1386 (by decide +kernel) (by decide +kernel)
theorem w_cl_RX5_202 : Cond.classLink RX5 202 RJ4 ∈ e_TB := e_tb 1388 (by decide +kernel) (by decide +kernel)
theorem w_ml_RX5_204 : Cond.methodLink RX5 204 yJ4_init_da8c8 ∈ e_TB := e_tb 1389 (by decide +kernel) (by decide +kernel)
theorem w_ml_RX5_205 : Cond.methodLink RX5 205 yJ4_append_cf468 ∈ e_TB := e_tb 1390 (by decide +kernel) (by decide +kernel)
theorem w_ml_RX5_209 : Cond.methodLink RX5 209 yJ4_append_bf812 ∈ e_TB := e_tb 1391 (by decide +kernel) (by decide +kernel)
theorem w_ml_RX5_212 : Cond.methodLink RX5 212 yJ4_toString_0e30d ∈ e_TB := e_tb 1392 (by decide +kernel) (by decide +kernel)
theorem w_ml_RL_277 : Cond.methodLink RL 277 yX5_seals ∈ e_TB := e_tb 1393 (by decide +kernel) (by decide +kernel)
theorem w_im_X5_seals : Cond.instanceMethod yX5_seals ∈ e_TB := e_tb 1394 (by decide +kernel) (by decide +kernel)
theorem w_se_X5_seals : Cond.selects RX5 yX5_seals yX5_seals ∈ e_TB := e_tb 1395 (by decide +kernel) (by decide +kernel)
theorem w_co_X5_seals : Cond.code yX5_seals cX5_seals 4 (Option.some (.object "java/lang/String")) ∈ e_TB := e_tb 1396 (by decide +kernel) (by decide +kernel)
theorem w_ml_RL_280 : Cond.methodLink RL 280 yX5_isSame ∈ e_TB := e_tb 1397 (by decide +kernel) (by decide +kernel)
theorem w_im_X5_isSame : Cond.instanceMethod yX5_isSame ∈ e_TB := e_tb 1398 (by decide +kernel) (by decide +kernel)
theorem w_se_X5_isSame : Cond.selects RX5 yX5_isSame yX5_isSame ∈ e_TB := e_tb 1399 (by decide +kernel) (by decide +kernel)
theorem w_co_X5_isSame : Cond.code yX5_isSame cX5_isSame 5 (Option.some .boolean) ∈ e_TB := e_tb 1400 (by decide +kernel) (by decide +kernel)
theorem w_ml_RL_283 : Cond.methodLink RL 283 yX5_house ∈ e_TB := e_tb 1401 (by decide +kernel) (by decide +kernel)
theorem w_im_X5_house : Cond.instanceMethod yX5_house ∈ e_TB := e_tb 1402 (by decide +kernel) (by decide +kernel)
theorem w_se_X5_house : Cond.selects RX5 yX5_house yX5_house ∈ e_TB := e_tb 1403 (by decide +kernel) (by decide +kernel)
theorem w_co_X5_house : Cond.code yX5_house cX5_house 2 (Option.some .int) ∈ e_TB := e_tb 1404 (by decide +kernel) (by decide +kernel)
theorem w_ml_RX5_216 : Cond.methodLink RX5 216 yX5_houseTold ∈ e_TB := e_tb 1405 (by decide +kernel) (by decide +kernel)
theorem w_im_X5_houseTold : Cond.instanceMethod yX5_houseTold ∈ e_TB := e_tb 1407 (by decide +kernel) (by decide +kernel)
theorem w_co_X5_houseTold : Cond.code yX5_houseTold cX5_houseTold 4 (Option.some .int) ∈ e_TB := e_tb 1408 (by decide +kernel) (by decide +kernel)
theorem w_ml_RL_288 : Cond.methodLink RL 288 yX5_isSound ∈ e_TB := e_tb 1409 (by decide +kernel) (by decide +kernel)
theorem w_im_X5_isSound : Cond.instanceMethod yX5_isSound ∈ e_TB := e_tb 1410 (by decide +kernel) (by decide +kernel)
theorem w_se_X5_isSound : Cond.selects RX5 yX5_isSound yX5_isSound ∈ e_TB := e_tb 1411 (by decide +kernel) (by decide +kernel)
theorem w_co_X5_isSound : Cond.code yX5_isSound cX5_isSound 1 (Option.some .boolean) ∈ e_TB := e_tb 1412 (by decide +kernel) (by decide +kernel)
theorem w_ml_RX5_222 : Cond.methodLink RX5 222 yX5_isWhole ∈ e_TB := e_tb 1413 (by decide +kernel) (by decide +kernel)
theorem w_im_X5_isWhole : Cond.instanceMethod yX5_isWhole ∈ e_TB := e_tb 1415 (by decide +kernel) (by decide +kernel)
theorem w_co_X5_isWhole : Cond.code yX5_isWhole cX5_isWhole 4 (Option.some .boolean) ∈ e_TB := e_tb 1416 (by decide +kernel) (by decide +kernel)
theorem w_ml_RX5_219 : Cond.methodLink RX5 219 yX5_isFirstSealed ∈ e_TB := e_tb 1417 (by decide +kernel) (by decide +kernel)
theorem w_im_X5_isFirstSealed : Cond.instanceMethod yX5_isFirstSealed ∈ e_TB := e_tb 1419 (by decide +kernel) (by decide +kernel)
theorem w_co_X5_isFirstSealed : Cond.code yX5_isFirstSealed cX5_isFirstSealed 4 (Option.some .boolean) ∈ e_TB := e_tb 1420 (by decide +kernel) (by decide +kernel)
theorem w_ml_RL_293 : Cond.methodLink RL 293 yX5_digest ∈ e_TB := e_tb 1421 (by decide +kernel) (by decide +kernel)
theorem w_im_X5_digest : Cond.instanceMethod yX5_digest ∈ e_TB := e_tb 1422 (by decide +kernel) (by decide +kernel)
theorem w_se_X5_digest : Cond.selects RX5 yX5_digest yX5_digest ∈ e_TB := e_tb 1423 (by decide +kernel) (by decide +kernel)
theorem w_co_X5_digest : Cond.code yX5_digest cX5_digest 5 (Option.some .long) ∈ e_TB := e_tb 1424 (by decide +kernel) (by decide +kernel)
theorem w_kl_RX5_228 : Cond.constantLong RX5 228 (eJ (7977)) ∈ e_TB := e_tb 1425 (by decide +kernel) (by decide +kernel)
theorem w_ml_RX5_230 : Cond.methodLink RX5 230 yX5_add ∈ e_TB := e_tb 1426 (by decide +kernel) (by decide +kernel)
theorem w_sm_X5_add : Cond.static yX5_add ∈ e_TB := e_tb 1427 (by decide +kernel) (by decide +kernel)
theorem w_co_X5_add : Cond.code yX5_add cX5_add 4 (Option.some .long) ∈ e_TB := e_tb 1428 (by decide +kernel) (by decide +kernel)
theorem w_kl_RX5_226 : Cond.constantLong RX5 226 (eJ (31)) ∈ e_TB := e_tb 1429 (by decide +kernel) (by decide +kernel)
theorem w_se_X1_choose : Cond.selects RX1 yX1_choose yX1_choose ∈ e_TB := e_tp 0 (by decide +kernel) (by decide +kernel)
theorem w_se_X0_clear : Cond.selects RX0 yX0_clear yX0_clear ∈ e_TB := e_tp 1 (by decide +kernel) (by decide +kernel)
theorem w_se_X1_modPrime : Cond.selects RX1 yX1_modPrime yX1_modPrime ∈ e_TB := e_tp 2 (by decide +kernel) (by decide +kernel)
theorem w_se_X3_quotient : Cond.selects RX3 yX3_quotient yX3_quotient ∈ e_TB := e_tp 3 (by decide +kernel) (by decide +kernel)
theorem w_se_X1_inverse : Cond.selects RX1 yX1_inverse yX1_inverse ∈ e_TB := e_tp 4 (by decide +kernel) (by decide +kernel)
theorem w_se_X1_sealFor : Cond.selects RX1 yX1_sealFor yX1_sealFor ∈ e_TB := e_tp 5 (by decide +kernel) (by decide +kernel)
theorem w_se_X3_areSharesSound : Cond.selects RX3 yX3_areSharesSound yX3_areSharesSound ∈ e_TB := e_tp 6 (by decide +kernel) (by decide +kernel)
theorem w_se_X0_shareAt : Cond.selects RX0 yX0_shareAt yX0_shareAt ∈ e_TB := e_tp 7 (by decide +kernel) (by decide +kernel)
theorem w_se_X3_areSealsSound : Cond.selects RX3 yX3_areSealsSound yX3_areSealsSound ∈ e_TB := e_tp 8 (by decide +kernel) (by decide +kernel)
theorem w_se_X0_sealAt : Cond.selects RX0 yX0_sealAt yX0_sealAt ∈ e_TB := e_tp 9 (by decide +kernel) (by decide +kernel)
theorem w_se_X0_hasSeals : Cond.selects RX0 yX0_hasSeals yX0_hasSeals ∈ e_TB := e_tp 10 (by decide +kernel) (by decide +kernel)
theorem w_se_X3_allHolders : Cond.selects RX3 yX3_allHolders yX3_allHolders ∈ e_TB := e_tp 11 (by decide +kernel) (by decide +kernel)
theorem w_se_X3_weightSum : Cond.selects RX3 yX3_weightSum yX3_weightSum ∈ e_TB := e_tp 12 (by decide +kernel) (by decide +kernel)
theorem w_se_X1_weightAt : Cond.selects RX1 yX1_weightAt yX1_weightAt ∈ e_TB := e_tp 13 (by decide +kernel) (by decide +kernel)
theorem w_se_X3_isFirstSealSound : Cond.selects RX3 yX3_isFirstSealSound yX3_isFirstSealSound ∈ e_TB := e_tp 14 (by decide +kernel) (by decide +kernel)
theorem w_se_X0_firstSet : Cond.selects RX0 yX0_firstSet yX0_firstSet ∈ e_TB := e_tp 15 (by decide +kernel) (by decide +kernel)
theorem w_se_X3_doAllFit : Cond.selects RX3 yX3_doAllFit yX3_doAllFit ∈ e_TB := e_tp 16 (by decide +kernel) (by decide +kernel)
theorem w_se_X3_doesFit : Cond.selects RX3 yX3_doesFit yX3_doesFit ∈ e_TB := e_tp 17 (by decide +kernel) (by decide +kernel)
theorem w_se_X1_sealProduct : Cond.selects RX1 yX1_sealProduct yX1_sealProduct ∈ e_TB := e_tp 18 (by decide +kernel) (by decide +kernel)
theorem w_se_X3_tell : Cond.selects RX3 yX3_tell yX3_tell ∈ e_TB := e_tp 19 (by decide +kernel) (by decide +kernel)
theorem w_se_X3_filledDeals : Cond.selects RX3 yX3_filledDeals yX3_filledDeals ∈ e_TB := e_tp 20 (by decide +kernel) (by decide +kernel)
theorem w_se_X0_isEmpty : Cond.selects RX0 yX0_isEmpty yX0_isEmpty ∈ e_TB := e_tp 21 (by decide +kernel) (by decide +kernel)
theorem w_se_X3_dealAt : Cond.selects RX3 yX3_dealAt yX3_dealAt ∈ e_TB := e_tp 23 (by decide +kernel) (by decide +kernel)
theorem w_se_X0_shareCount : Cond.selects RX0 yX0_shareCount yX0_shareCount ∈ e_TB := e_tp 24 (by decide +kernel) (by decide +kernel)
theorem w_se_X0_holderSet : Cond.selects RX0 yX0_holderSet yX0_holderSet ∈ e_TB := e_tp 25 (by decide +kernel) (by decide +kernel)
theorem w_se_X3_isInLine : Cond.selects RX3 yX3_isInLine yX3_isInLine ∈ e_TB := e_tp 26 (by decide +kernel) (by decide +kernel)
theorem w_se_X2_goThrough : Cond.selects RX2 yX2_goThrough yX2_goThrough ∈ e_TB := e_tp 27 (by decide +kernel) (by decide +kernel)
theorem w_se_X2_clear : Cond.selects RX2 yX2_clear yX2_clear ∈ e_TB := e_tp 28 (by decide +kernel) (by decide +kernel)
theorem w_se_X2_makeTerm : Cond.selects RX2 yX2_makeTerm yX2_makeTerm ∈ e_TB := e_tp 29 (by decide +kernel) (by decide +kernel)
theorem w_se_X2_addTerm : Cond.selects RX2 yX2_addTerm yX2_addTerm ∈ e_TB := e_tp 30 (by decide +kernel) (by decide +kernel)
theorem w_se_X2_highest : Cond.selects RX2 yX2_highest yX2_highest ∈ e_TB := e_tp 31 (by decide +kernel) (by decide +kernel)
theorem w_se_X3_requireHolder : Cond.selects RX3 yX3_requireHolder yX3_requireHolder ∈ e_TB := e_tp 32 (by decide +kernel) (by decide +kernel)
theorem w_se_X3_requireSet : Cond.selects RX3 yX3_requireSet yX3_requireSet ∈ e_TB := e_tp 33 (by decide +kernel) (by decide +kernel)
theorem w_se_X2_become : Cond.selects RX2 yX2_become yX2_become ∈ e_TB := e_tp 34 (by decide +kernel) (by decide +kernel)
theorem w_se_X2_addTo : Cond.selects RX2 yX2_addTo yX2_addTo ∈ e_TB := e_tp 35 (by decide +kernel) (by decide +kernel)
theorem w_se_X3_layPoly : Cond.selects RX3 yX3_layPoly yX3_layPoly ∈ e_TB := e_tp 36 (by decide +kernel) (by decide +kernel)
theorem w_se_X0_start : Cond.selects RX0 yX0_start yX0_start ∈ e_TB := e_tp 37 (by decide +kernel) (by decide +kernel)
theorem w_se_X2_valueAt : Cond.selects RX2 yX2_valueAt yX2_valueAt ∈ e_TB := e_tp 38 (by decide +kernel) (by decide +kernel)
theorem w_se_X0_setShare : Cond.selects RX0 yX0_setShare yX0_setShare ∈ e_TB := e_tp 39 (by decide +kernel) (by decide +kernel)
theorem w_se_X2_at : Cond.selects RX2 yX2_at yX2_at ∈ e_TB := e_tp 40 (by decide +kernel) (by decide +kernel)
theorem w_se_X0_addSeal : Cond.selects RX0 yX0_addSeal yX0_addSeal ∈ e_TB := e_tp 41 (by decide +kernel) (by decide +kernel)
theorem w_se_X0_hasShare : Cond.selects RX0 yX0_hasShare yX0_hasShare ∈ e_TB := e_tp 42 (by decide +kernel) (by decide +kernel)
theorem w_se_X0_setSeal : Cond.selects RX0 yX0_setSeal yX0_setSeal ∈ e_TB := e_tp 43 (by decide +kernel) (by decide +kernel)
theorem w_se_X3_addUp : Cond.selects RX3 yX3_addUp yX3_addUp ∈ e_TB := e_tp 44 (by decide +kernel) (by decide +kernel)
theorem w_se_X3_addUpSeals : Cond.selects RX3 yX3_addUpSeals yX3_addUpSeals ∈ e_TB := e_tp 45 (by decide +kernel) (by decide +kernel)
theorem w_se_X1_inverseSeal : Cond.selects RX1 yX1_inverseSeal yX1_inverseSeal ∈ e_TB := e_tp 46 (by decide +kernel) (by decide +kernel)
theorem w_se_X3_laySpare : Cond.selects RX3 yX3_laySpare yX3_laySpare ∈ e_TB := e_tp 47 (by decide +kernel) (by decide +kernel)
theorem w_se_X0_take : Cond.selects RX0 yX0_take yX0_take ∈ e_TB := e_tp 48 (by decide +kernel) (by decide +kernel)
theorem w_se_X0_isEnough : Cond.selects RX0 yX0_isEnough yX0_isEnough ∈ e_TB := e_tp 49 (by decide +kernel) (by decide +kernel)
theorem w_se_X0_isThere : Cond.selects RX0 yX0_isThere yX0_isThere ∈ e_TB := e_tp 50 (by decide +kernel) (by decide +kernel)
theorem w_se_X3_wrongHolder : Cond.selects RX3 yX3_wrongHolder yX3_wrongHolder ∈ e_TB := e_tp 51 (by decide +kernel) (by decide +kernel)
theorem w_se_X3_suspectSet : Cond.selects RX3 yX3_suspectSet yX3_suspectSet ∈ e_TB := e_tp 52 (by decide +kernel) (by decide +kernel)
theorem w_se_X3_polysBeyond : Cond.selects RX3 yX3_polysBeyond yX3_polysBeyond ∈ e_TB := e_tp 53 (by decide +kernel) (by decide +kernel)
theorem w_se_X5_start : Cond.selects RX5 yX5_start yX5_start ∈ e_TB := e_tp 54 (by decide +kernel) (by decide +kernel)
theorem w_se_X5_refuse : Cond.selects RX5 yX5_refuse yX5_refuse ∈ e_TB := e_tp 55 (by decide +kernel) (by decide +kernel)
theorem w_se_X5_p : Cond.selects RX5 yX5_p yX5_p ∈ e_TB := e_tp 56 (by decide +kernel) (by decide +kernel)
theorem w_se_X5_empty : Cond.selects RX5 yX5_empty yX5_empty ∈ e_TB := e_tp 57 (by decide +kernel) (by decide +kernel)
theorem w_se_X5_mod : Cond.selects RX5 yX5_mod yX5_mod ∈ e_TB := e_tp 58 (by decide +kernel) (by decide +kernel)
theorem w_se_X5_inverse : Cond.selects RX5 yX5_inverse yX5_inverse ∈ e_TB := e_tp 59 (by decide +kernel) (by decide +kernel)
theorem w_se_X5_sealBy : Cond.selects RX5 yX5_sealBy yX5_sealBy ∈ e_TB := e_tp 60 (by decide +kernel) (by decide +kernel)
theorem w_se_X5_q : Cond.selects RX5 yX5_q yX5_q ∈ e_TB := e_tp 61 (by decide +kernel) (by decide +kernel)
theorem w_se_X5_isNoHolder : Cond.selects RX5 yX5_isNoHolder yX5_isNoHolder ∈ e_TB := e_tp 62 (by decide +kernel) (by decide +kernel)
theorem w_se_X5_holders : Cond.selects RX5 yX5_holders yX5_holders ∈ e_TB := e_tp 63 (by decide +kernel) (by decide +kernel)
theorem w_se_X5_isNoSet : Cond.selects RX5 yX5_isNoSet yX5_isNoSet ∈ e_TB := e_tp 64 (by decide +kernel) (by decide +kernel)
theorem w_se_X5_at : Cond.selects RX5 yX5_at yX5_at ∈ e_TB := e_tp 65 (by decide +kernel) (by decide +kernel)
theorem w_se_X5_through : Cond.selects RX5 yX5_through yX5_through ∈ e_TB := e_tp 66 (by decide +kernel) (by decide +kernel)
theorem w_se_X5_value : Cond.selects RX5 yX5_value yX5_value ∈ e_TB := e_tp 67 (by decide +kernel) (by decide +kernel)
theorem w_se_X5_weightsAt : Cond.selects RX5 yX5_weightsAt yX5_weightsAt ∈ e_TB := e_tp 68 (by decide +kernel) (by decide +kernel)
theorem w_se_X5_poly : Cond.selects RX5 yX5_poly yX5_poly ∈ e_TB := e_tp 69 (by decide +kernel) (by decide +kernel)
theorem w_se_X5_values : Cond.selects RX5 yX5_values yX5_values ∈ e_TB := e_tp 70 (by decide +kernel) (by decide +kernel)
theorem w_se_X5_lay : Cond.selects RX5 yX5_lay yX5_lay ∈ e_TB := e_tp 71 (by decide +kernel) (by decide +kernel)
theorem w_se_X5_setOf : Cond.selects RX5 yX5_setOf yX5_setOf ∈ e_TB := e_tp 72 (by decide +kernel) (by decide +kernel)
theorem w_se_X5_isEmpty : Cond.selects RX5 yX5_isEmpty yX5_isEmpty ∈ e_TB := e_tp 73 (by decide +kernel) (by decide +kernel)
theorem w_se_X5_areNoDeals : Cond.selects RX5 yX5_areNoDeals yX5_areNoDeals ∈ e_TB := e_tp 74 (by decide +kernel) (by decide +kernel)
theorem w_se_X5_joined : Cond.selects RX5 yX5_joined yX5_joined ∈ e_TB := e_tp 75 (by decide +kernel) (by decide +kernel)
theorem w_se_X5_isEnough : Cond.selects RX5 yX5_isEnough yX5_isEnough ∈ e_TB := e_tp 76 (by decide +kernel) (by decide +kernel)
theorem w_se_X5_isThere : Cond.selects RX5 yX5_isThere yX5_isThere ∈ e_TB := e_tp 77 (by decide +kernel) (by decide +kernel)
theorem w_se_X5_put : Cond.selects RX5 yX5_put yX5_put ∈ e_TB := e_tp 78 (by decide +kernel) (by decide +kernel)
theorem w_se_X5_wrongOf : Cond.selects RX5 yX5_wrongOf yX5_wrongOf ∈ e_TB := e_tp 79 (by decide +kernel) (by decide +kernel)
theorem w_se_X5_isAgreed : Cond.selects RX5 yX5_isAgreed yX5_isAgreed ∈ e_TB := e_tp 80 (by decide +kernel) (by decide +kernel)
theorem w_se_X5_suspectsOf : Cond.selects RX5 yX5_suspectsOf yX5_suspectsOf ∈ e_TB := e_tp 81 (by decide +kernel) (by decide +kernel)
theorem w_se_X5_shareOf : Cond.selects RX5 yX5_shareOf yX5_shareOf ∈ e_TB := e_tp 82 (by decide +kernel) (by decide +kernel)
theorem w_se_X5_dealTold : Cond.selects RX5 yX5_dealTold yX5_dealTold ∈ e_TB := e_tp 83 (by decide +kernel) (by decide +kernel)
theorem w_se_X5_firstOf : Cond.selects RX5 yX5_firstOf yX5_firstOf ∈ e_TB := e_tp 84 (by decide +kernel) (by decide +kernel)
theorem w_se_X5_isNo : Cond.selects RX5 yX5_isNo yX5_isNo ∈ e_TB := e_tp 85 (by decide +kernel) (by decide +kernel)
theorem w_se_X5_sealTold : Cond.selects RX5 yX5_sealTold yX5_sealTold ∈ e_TB := e_tp 86 (by decide +kernel) (by decide +kernel)
theorem w_se_X5_isFit : Cond.selects RX5 yX5_isFit yX5_isFit ∈ e_TB := e_tp 87 (by decide +kernel) (by decide +kernel)
theorem w_se_X5_houseTold : Cond.selects RX5 yX5_houseTold yX5_houseTold ∈ e_TB := e_tp 88 (by decide +kernel) (by decide +kernel)
theorem w_se_X5_isWhole : Cond.selects RX5 yX5_isWhole yX5_isWhole ∈ e_TB := e_tp 89 (by decide +kernel) (by decide +kernel)
theorem w_se_X5_isFirstSealed : Cond.selects RX5 yX5_isFirstSealed yX5_isFirstSealed ∈ e_TB := e_tp 90 (by decide +kernel) (by decide +kernel)
end
section
/-! what stands at each place of the code -/
theorem dX0_init_0 : decode cX0_init 0 = .ok (.aload_n 0, 1) := by decide +kernel
theorem dX0_init_1 : decode cX0_init 1 = .ok (.invokespecial 3, 3) := by decide +kernel
theorem dX0_init_4 : decode cX0_init 4 = .ok (.aload_n 0, 1) := by decide +kernel
theorem dX0_init_5 : decode cX0_init 5 = .ok (.bipush 8, 2) := by decide +kernel
theorem dX0_init_7 : decode cX0_init 7 = .ok (.newarray .int, 2) := by decide +kernel
theorem dX0_init_9 : decode cX0_init 9 = .ok (.putfield 9, 3) := by decide +kernel
theorem dX0_init_12 : decode cX0_init 12 = .ok (.aload_n 0, 1) := by decide +kernel
theorem dX0_init_13 : decode cX0_init 13 = .ok (.bipush 7, 2) := by decide +kernel
theorem dX0_init_15 : decode cX0_init 15 = .ok (.newarray .int, 2) := by decide +kernel
theorem dX0_init_17 : decode cX0_init 17 = .ok (.putfield 15, 3) := by decide +kernel
theorem dX0_init_20 : decode cX0_init 20 = .ok (.aload_n 0, 1) := by decide +kernel
theorem dX0_init_21 : decode cX0_init 21 = .ok (.invokevirtual 18, 3) := by decide +kernel
theorem dX0_init_24 : decode cX0_init 24 = .ok (.return_, 1) := by decide +kernel
theorem dX0_clear_0 : decode cX0_clear 0 = .ok (.aload_n 0, 1) := by decide +kernel
theorem dX0_clear_1 : decode cX0_clear 1 = .ok (.iconst 0, 1) := by decide +kernel
theorem dX0_clear_2 : decode cX0_clear 2 = .ok (.putfield 21, 3) := by decide +kernel
theorem dX0_clear_5 : decode cX0_clear 5 = .ok (.aload_n 0, 1) := by decide +kernel
theorem dX0_clear_6 : decode cX0_clear 6 = .ok (.iconst 0, 1) := by decide +kernel
theorem dX0_clear_7 : decode cX0_clear 7 = .ok (.putfield 25, 3) := by decide +kernel
theorem dX0_clear_10 : decode cX0_clear 10 = .ok (.aload_n 0, 1) := by decide +kernel
theorem dX0_clear_11 : decode cX0_clear 11 = .ok (.iconst 0, 1) := by decide +kernel
theorem dX0_clear_12 : decode cX0_clear 12 = .ok (.putfield 29, 3) := by decide +kernel
theorem dX0_clear_15 : decode cX0_clear 15 = .ok (.iconst 0, 1) := by decide +kernel
theorem dX0_clear_16 : decode cX0_clear 16 = .ok (.istore_n 1, 1) := by decide +kernel
theorem dX0_clear_17 : decode cX0_clear 17 = .ok (.iload_n 1, 1) := by decide +kernel
theorem dX0_clear_18 : decode cX0_clear 18 = .ok (.aload_n 0, 1) := by decide +kernel
theorem dX0_clear_19 : decode cX0_clear 19 = .ok (.getfield 9, 3) := by decide +kernel
theorem dX0_clear_22 : decode cX0_clear 22 = .ok (.arraylength, 1) := by decide +kernel
theorem dX0_clear_23 : decode cX0_clear 23 = .ok (.if_icmp .ge 16, 3) := by decide +kernel
theorem dX0_clear_26 : decode cX0_clear 26 = .ok (.aload_n 0, 1) := by decide +kernel
theorem dX0_clear_27 : decode cX0_clear 27 = .ok (.getfield 9, 3) := by decide +kernel
theorem dX0_clear_30 : decode cX0_clear 30 = .ok (.iload_n 1, 1) := by decide +kernel
theorem dX0_clear_31 : decode cX0_clear 31 = .ok (.iconst (-1), 1) := by decide +kernel
theorem dX0_clear_32 : decode cX0_clear 32 = .ok (.iastore, 1) := by decide +kernel
theorem dX0_clear_33 : decode cX0_clear 33 = .ok (.iinc 1 1, 3) := by decide +kernel
theorem dX0_clear_36 : decode cX0_clear 36 = .ok (.goto (-19), 3) := by decide +kernel
theorem dX0_clear_39 : decode cX0_clear 39 = .ok (.return_, 1) := by decide +kernel
theorem dX0_start_0 : decode cX0_start 0 = .ok (.aload_n 0, 1) := by decide +kernel
theorem dX0_start_1 : decode cX0_start 1 = .ok (.invokevirtual 18, 3) := by decide +kernel
theorem dX0_start_4 : decode cX0_start 4 = .ok (.aload_n 0, 1) := by decide +kernel
theorem dX0_start_5 : decode cX0_start 5 = .ok (.iconst 1, 1) := by decide +kernel
theorem dX0_start_6 : decode cX0_start 6 = .ok (.putfield 21, 3) := by decide +kernel
theorem dX0_start_9 : decode cX0_start 9 = .ok (.aload_n 0, 1) := by decide +kernel
theorem dX0_start_10 : decode cX0_start 10 = .ok (.iload_n 1, 1) := by decide +kernel
theorem dX0_start_11 : decode cX0_start 11 = .ok (.putfield 25, 3) := by decide +kernel
theorem dX0_start_14 : decode cX0_start 14 = .ok (.return_, 1) := by decide +kernel
theorem dX0_take_0 : decode cX0_take 0 = .ok (.aload_n 0, 1) := by decide +kernel
theorem dX0_take_1 : decode cX0_take 1 = .ok (.aload_n 1, 1) := by decide +kernel
theorem dX0_take_2 : decode cX0_take 2 = .ok (.getfield 21, 3) := by decide +kernel
theorem dX0_take_5 : decode cX0_take 5 = .ok (.putfield 21, 3) := by decide +kernel
theorem dX0_take_8 : decode cX0_take 8 = .ok (.aload_n 0, 1) := by decide +kernel
theorem dX0_take_9 : decode cX0_take 9 = .ok (.aload_n 1, 1) := by decide +kernel
theorem dX0_take_10 : decode cX0_take 10 = .ok (.getfield 25, 3) := by decide +kernel
theorem dX0_take_13 : decode cX0_take 13 = .ok (.putfield 25, 3) := by decide +kernel
theorem dX0_take_16 : decode cX0_take 16 = .ok (.aload_n 0, 1) := by decide +kernel
theorem dX0_take_17 : decode cX0_take 17 = .ok (.aload_n 1, 1) := by decide +kernel
theorem dX0_take_18 : decode cX0_take 18 = .ok (.getfield 29, 3) := by decide +kernel
theorem dX0_take_21 : decode cX0_take 21 = .ok (.putfield 29, 3) := by decide +kernel
theorem dX0_take_24 : decode cX0_take 24 = .ok (.iconst 1, 1) := by decide +kernel
theorem dX0_take_25 : decode cX0_take 25 = .ok (.istore_n 2, 1) := by decide +kernel
theorem dX0_take_26 : decode cX0_take 26 = .ok (.iload_n 2, 1) := by decide +kernel
theorem dX0_take_27 : decode cX0_take 27 = .ok (.aload_n 0, 1) := by decide +kernel
theorem dX0_take_28 : decode cX0_take 28 = .ok (.getfield 9, 3) := by decide +kernel
theorem dX0_take_31 : decode cX0_take 31 = .ok (.arraylength, 1) := by decide +kernel
theorem dX0_take_32 : decode cX0_take 32 = .ok (.if_icmp .ge 20, 3) := by decide +kernel
theorem dX0_take_35 : decode cX0_take 35 = .ok (.aload_n 0, 1) := by decide +kernel
theorem dX0_take_36 : decode cX0_take 36 = .ok (.getfield 9, 3) := by decide +kernel
theorem dX0_take_39 : decode cX0_take 39 = .ok (.iload_n 2, 1) := by decide +kernel
theorem dX0_take_40 : decode cX0_take 40 = .ok (.aload_n 1, 1) := by decide +kernel
theorem dX0_take_41 : decode cX0_take 41 = .ok (.iload_n 2, 1) := by decide +kernel
theorem dX0_take_42 : decode cX0_take 42 = .ok (.invokevirtual 32, 3) := by decide +kernel
theorem dX0_take_45 : decode cX0_take 45 = .ok (.iastore, 1) := by decide +kernel
theorem dX0_take_46 : decode cX0_take 46 = .ok (.iinc 2 1, 3) := by decide +kernel
theorem dX0_take_49 : decode cX0_take 49 = .ok (.goto (-23), 3) := by decide +kernel
theorem dX0_take_52 : decode cX0_take 52 = .ok (.iconst 0, 1) := by decide +kernel
theorem dX0_take_53 : decode cX0_take 53 = .ok (.istore_n 2, 1) := by decide +kernel
theorem dX0_take_54 : decode cX0_take 54 = .ok (.iload_n 2, 1) := by decide +kernel
theorem dX0_take_55 : decode cX0_take 55 = .ok (.aload_n 0, 1) := by decide +kernel
theorem dX0_take_56 : decode cX0_take 56 = .ok (.getfield 15, 3) := by decide +kernel
theorem dX0_take_59 : decode cX0_take 59 = .ok (.arraylength, 1) := by decide +kernel
theorem dX0_take_60 : decode cX0_take 60 = .ok (.if_icmp .ge 20, 3) := by decide +kernel
theorem dX0_take_63 : decode cX0_take 63 = .ok (.aload_n 0, 1) := by decide +kernel
theorem dX0_take_64 : decode cX0_take 64 = .ok (.getfield 15, 3) := by decide +kernel
theorem dX0_take_67 : decode cX0_take 67 = .ok (.iload_n 2, 1) := by decide +kernel
theorem dX0_take_68 : decode cX0_take 68 = .ok (.aload_n 1, 1) := by decide +kernel
theorem dX0_take_69 : decode cX0_take 69 = .ok (.iload_n 2, 1) := by decide +kernel
theorem dX0_take_70 : decode cX0_take 70 = .ok (.invokevirtual 36, 3) := by decide +kernel
theorem dX0_take_73 : decode cX0_take 73 = .ok (.iastore, 1) := by decide +kernel
theorem dX0_take_74 : decode cX0_take 74 = .ok (.iinc 2 1, 3) := by decide +kernel
theorem dX0_take_77 : decode cX0_take 77 = .ok (.goto (-23), 3) := by decide +kernel
theorem dX0_take_80 : decode cX0_take 80 = .ok (.return_, 1) := by decide +kernel
theorem dX0_isEmpty_0 : decode cX0_isEmpty 0 = .ok (.aload_n 0, 1) := by decide +kernel
theorem dX0_isEmpty_1 : decode cX0_isEmpty 1 = .ok (.getfield 21, 3) := by decide +kernel
theorem dX0_isEmpty_4 : decode cX0_isEmpty 4 = .ok (.ifCond .ne 7, 3) := by decide +kernel
theorem dX0_isEmpty_7 : decode cX0_isEmpty 7 = .ok (.iconst 1, 1) := by decide +kernel
theorem dX0_isEmpty_8 : decode cX0_isEmpty 8 = .ok (.goto 4, 3) := by decide +kernel
theorem dX0_isEmpty_11 : decode cX0_isEmpty 11 = .ok (.iconst 0, 1) := by decide +kernel
theorem dX0_isEmpty_12 : decode cX0_isEmpty 12 = .ok (.ireturn, 1) := by decide +kernel
theorem dX0_shareAt_0 : decode cX0_shareAt 0 = .ok (.iload_n 1, 1) := by decide +kernel
theorem dX0_shareAt_1 : decode cX0_shareAt 1 = .ok (.iconst 1, 1) := by decide +kernel
theorem dX0_shareAt_2 : decode cX0_shareAt 2 = .ok (.if_icmp .lt 21, 3) := by decide +kernel
theorem dX0_shareAt_5 : decode cX0_shareAt 5 = .ok (.iload_n 1, 1) := by decide +kernel
theorem dX0_shareAt_6 : decode cX0_shareAt 6 = .ok (.aload_n 0, 1) := by decide +kernel
theorem dX0_shareAt_7 : decode cX0_shareAt 7 = .ok (.getfield 9, 3) := by decide +kernel
theorem dX0_shareAt_10 : decode cX0_shareAt 10 = .ok (.arraylength, 1) := by decide +kernel
theorem dX0_shareAt_11 : decode cX0_shareAt 11 = .ok (.if_icmp .ge 12, 3) := by decide +kernel
theorem dX0_shareAt_14 : decode cX0_shareAt 14 = .ok (.aload_n 0, 1) := by decide +kernel
theorem dX0_shareAt_15 : decode cX0_shareAt 15 = .ok (.getfield 9, 3) := by decide +kernel
theorem dX0_shareAt_18 : decode cX0_shareAt 18 = .ok (.iload_n 1, 1) := by decide +kernel
theorem dX0_shareAt_19 : decode cX0_shareAt 19 = .ok (.iaload, 1) := by decide +kernel
theorem dX0_shareAt_20 : decode cX0_shareAt 20 = .ok (.goto 4, 3) := by decide +kernel
theorem dX0_shareAt_23 : decode cX0_shareAt 23 = .ok (.iconst (-1), 1) := by decide +kernel
theorem dX0_shareAt_24 : decode cX0_shareAt 24 = .ok (.ireturn, 1) := by decide +kernel
theorem dX0_hasShare_0 : decode cX0_hasShare 0 = .ok (.aload_n 0, 1) := by decide +kernel
theorem dX0_hasShare_1 : decode cX0_hasShare 1 = .ok (.iload_n 1, 1) := by decide +kernel
theorem dX0_hasShare_2 : decode cX0_hasShare 2 = .ok (.invokevirtual 32, 3) := by decide +kernel
theorem dX0_hasShare_5 : decode cX0_hasShare 5 = .ok (.iconst (-1), 1) := by decide +kernel
theorem dX0_hasShare_6 : decode cX0_hasShare 6 = .ok (.if_icmp .eq 7, 3) := by decide +kernel
theorem dX0_hasShare_9 : decode cX0_hasShare 9 = .ok (.iconst 1, 1) := by decide +kernel
theorem dX0_hasShare_10 : decode cX0_hasShare 10 = .ok (.goto 4, 3) := by decide +kernel
theorem dX0_hasShare_13 : decode cX0_hasShare 13 = .ok (.iconst 0, 1) := by decide +kernel
theorem dX0_hasShare_14 : decode cX0_hasShare 14 = .ok (.ireturn, 1) := by decide +kernel
theorem dX0_setShare_0 : decode cX0_setShare 0 = .ok (.iload_n 1, 1) := by decide +kernel
theorem dX0_setShare_1 : decode cX0_setShare 1 = .ok (.iconst 1, 1) := by decide +kernel
theorem dX0_setShare_2 : decode cX0_setShare 2 = .ok (.if_icmp .lt 19, 3) := by decide +kernel
theorem dX0_setShare_5 : decode cX0_setShare 5 = .ok (.iload_n 1, 1) := by decide +kernel
theorem dX0_setShare_6 : decode cX0_setShare 6 = .ok (.aload_n 0, 1) := by decide +kernel
theorem dX0_setShare_7 : decode cX0_setShare 7 = .ok (.getfield 9, 3) := by decide +kernel
theorem dX0_setShare_10 : decode cX0_setShare 10 = .ok (.arraylength, 1) := by decide +kernel
theorem dX0_setShare_11 : decode cX0_setShare 11 = .ok (.if_icmp .ge 10, 3) := by decide +kernel
theorem dX0_setShare_14 : decode cX0_setShare 14 = .ok (.aload_n 0, 1) := by decide +kernel
theorem dX0_setShare_15 : decode cX0_setShare 15 = .ok (.getfield 9, 3) := by decide +kernel
theorem dX0_setShare_18 : decode cX0_setShare 18 = .ok (.iload_n 1, 1) := by decide +kernel
theorem dX0_setShare_19 : decode cX0_setShare 19 = .ok (.iload_n 2, 1) := by decide +kernel
theorem dX0_setShare_20 : decode cX0_setShare 20 = .ok (.iastore, 1) := by decide +kernel
theorem dX0_setShare_21 : decode cX0_setShare 21 = .ok (.return_, 1) := by decide +kernel
theorem dX0_holderSet_0 : decode cX0_holderSet 0 = .ok (.iconst 0, 1) := by decide +kernel
theorem dX0_holderSet_1 : decode cX0_holderSet 1 = .ok (.istore_n 1, 1) := by decide +kernel
theorem dX0_holderSet_2 : decode cX0_holderSet 2 = .ok (.iconst 1, 1) := by decide +kernel
theorem dX0_holderSet_3 : decode cX0_holderSet 3 = .ok (.istore_n 2, 1) := by decide +kernel
theorem dX0_holderSet_4 : decode cX0_holderSet 4 = .ok (.iload_n 2, 1) := by decide +kernel
theorem dX0_holderSet_5 : decode cX0_holderSet 5 = .ok (.aload_n 0, 1) := by decide +kernel
theorem dX0_holderSet_6 : decode cX0_holderSet 6 = .ok (.getfield 9, 3) := by decide +kernel
theorem dX0_holderSet_9 : decode cX0_holderSet 9 = .ok (.arraylength, 1) := by decide +kernel
theorem dX0_holderSet_10 : decode cX0_holderSet 10 = .ok (.if_icmp .ge 26, 3) := by decide +kernel
theorem dX0_holderSet_13 : decode cX0_holderSet 13 = .ok (.aload_n 0, 1) := by decide +kernel
theorem dX0_holderSet_14 : decode cX0_holderSet 14 = .ok (.getfield 9, 3) := by decide +kernel
theorem dX0_holderSet_17 : decode cX0_holderSet 17 = .ok (.iload_n 2, 1) := by decide +kernel
theorem dX0_holderSet_18 : decode cX0_holderSet 18 = .ok (.iaload, 1) := by decide +kernel
theorem dX0_holderSet_19 : decode cX0_holderSet 19 = .ok (.iconst (-1), 1) := by decide +kernel
theorem dX0_holderSet_20 : decode cX0_holderSet 20 = .ok (.if_icmp .eq 10, 3) := by decide +kernel
theorem dX0_holderSet_23 : decode cX0_holderSet 23 = .ok (.iload_n 1, 1) := by decide +kernel
theorem dX0_holderSet_24 : decode cX0_holderSet 24 = .ok (.iload_n 2, 1) := by decide +kernel
theorem dX0_holderSet_25 : decode cX0_holderSet 25 = .ok (.invokestatic 39, 3) := by decide +kernel
theorem dX0_holderSet_28 : decode cX0_holderSet 28 = .ok (.ior, 1) := by decide +kernel
theorem dX0_holderSet_29 : decode cX0_holderSet 29 = .ok (.istore_n 1, 1) := by decide +kernel
theorem dX0_holderSet_30 : decode cX0_holderSet 30 = .ok (.iinc 2 1, 3) := by decide +kernel
theorem dX0_holderSet_33 : decode cX0_holderSet 33 = .ok (.goto (-29), 3) := by decide +kernel
theorem dX0_holderSet_36 : decode cX0_holderSet 36 = .ok (.iload_n 1, 1) := by decide +kernel
theorem dX0_holderSet_37 : decode cX0_holderSet 37 = .ok (.ireturn, 1) := by decide +kernel
theorem dX0_shareCount_0 : decode cX0_shareCount 0 = .ok (.aload_n 0, 1) := by decide +kernel
theorem dX0_shareCount_1 : decode cX0_shareCount 1 = .ok (.invokevirtual 42, 3) := by decide +kernel
theorem dX0_shareCount_4 : decode cX0_shareCount 4 = .ok (.invokestatic 46, 3) := by decide +kernel
theorem dX0_shareCount_7 : decode cX0_shareCount 7 = .ok (.ireturn, 1) := by decide +kernel
theorem dX0_firstSet_0 : decode cX0_firstSet 0 = .ok (.iconst 0, 1) := by decide +kernel
theorem dX0_firstSet_1 : decode cX0_firstSet 1 = .ok (.istore_n 1, 1) := by decide +kernel
theorem dX0_firstSet_2 : decode cX0_firstSet 2 = .ok (.aload_n 0, 1) := by decide +kernel
theorem dX0_firstSet_3 : decode cX0_firstSet 3 = .ok (.getfield 25, 3) := by decide +kernel
theorem dX0_firstSet_6 : decode cX0_firstSet 6 = .ok (.iconst 1, 1) := by decide +kernel
theorem dX0_firstSet_7 : decode cX0_firstSet 7 = .ok (.iadd, 1) := by decide +kernel
theorem dX0_firstSet_8 : decode cX0_firstSet 8 = .ok (.istore_n 2, 1) := by decide +kernel
theorem dX0_firstSet_9 : decode cX0_firstSet 9 = .ok (.iconst 1, 1) := by decide +kernel
theorem dX0_firstSet_10 : decode cX0_firstSet 10 = .ok (.istore_n 3, 1) := by decide +kernel
theorem dX0_firstSet_11 : decode cX0_firstSet 11 = .ok (.iload_n 3, 1) := by decide +kernel
theorem dX0_firstSet_12 : decode cX0_firstSet 12 = .ok (.aload_n 0, 1) := by decide +kernel
theorem dX0_firstSet_13 : decode cX0_firstSet 13 = .ok (.getfield 9, 3) := by decide +kernel
theorem dX0_firstSet_16 : decode cX0_firstSet 16 = .ok (.arraylength, 1) := by decide +kernel
theorem dX0_firstSet_17 : decode cX0_firstSet 17 = .ok (.if_icmp .ge 33, 3) := by decide +kernel
theorem dX0_firstSet_20 : decode cX0_firstSet 20 = .ok (.iload_n 2, 1) := by decide +kernel
theorem dX0_firstSet_21 : decode cX0_firstSet 21 = .ok (.ifCond .le 29, 3) := by decide +kernel
theorem dX0_firstSet_24 : decode cX0_firstSet 24 = .ok (.aload_n 0, 1) := by decide +kernel
theorem dX0_firstSet_25 : decode cX0_firstSet 25 = .ok (.getfield 9, 3) := by decide +kernel
theorem dX0_firstSet_28 : decode cX0_firstSet 28 = .ok (.iload_n 3, 1) := by decide +kernel
theorem dX0_firstSet_29 : decode cX0_firstSet 29 = .ok (.iaload, 1) := by decide +kernel
theorem dX0_firstSet_30 : decode cX0_firstSet 30 = .ok (.iconst (-1), 1) := by decide +kernel
theorem dX0_firstSet_31 : decode cX0_firstSet 31 = .ok (.if_icmp .eq 13, 3) := by decide +kernel
theorem dX0_firstSet_34 : decode cX0_firstSet 34 = .ok (.iload_n 1, 1) := by decide +kernel
theorem dX0_firstSet_35 : decode cX0_firstSet 35 = .ok (.iload_n 3, 1) := by decide +kernel
theorem dX0_firstSet_36 : decode cX0_firstSet 36 = .ok (.invokestatic 39, 3) := by decide +kernel
theorem dX0_firstSet_39 : decode cX0_firstSet 39 = .ok (.ior, 1) := by decide +kernel
theorem dX0_firstSet_40 : decode cX0_firstSet 40 = .ok (.istore_n 1, 1) := by decide +kernel
theorem dX0_firstSet_41 : decode cX0_firstSet 41 = .ok (.iinc 2 (-1), 3) := by decide +kernel
theorem dX0_firstSet_44 : decode cX0_firstSet 44 = .ok (.iinc 3 1, 3) := by decide +kernel
theorem dX0_firstSet_47 : decode cX0_firstSet 47 = .ok (.goto (-36), 3) := by decide +kernel
theorem dX0_firstSet_50 : decode cX0_firstSet 50 = .ok (.iload_n 2, 1) := by decide +kernel
theorem dX0_firstSet_51 : decode cX0_firstSet 51 = .ok (.ifCond .ne 7, 3) := by decide +kernel
theorem dX0_firstSet_54 : decode cX0_firstSet 54 = .ok (.iload_n 1, 1) := by decide +kernel
theorem dX0_firstSet_55 : decode cX0_firstSet 55 = .ok (.goto 4, 3) := by decide +kernel
theorem dX0_firstSet_58 : decode cX0_firstSet 58 = .ok (.iconst 0, 1) := by decide +kernel
theorem dX0_firstSet_59 : decode cX0_firstSet 59 = .ok (.ireturn, 1) := by decide +kernel
theorem dX0_isThere_0 : decode cX0_isThere 0 = .ok (.aload_n 0, 1) := by decide +kernel
theorem dX0_isThere_1 : decode cX0_isThere 1 = .ok (.getfield 21, 3) := by decide +kernel
theorem dX0_isThere_4 : decode cX0_isThere 4 = .ok (.ifCond .eq 17, 3) := by decide +kernel
theorem dX0_isThere_7 : decode cX0_isThere 7 = .ok (.aload_n 0, 1) := by decide +kernel
theorem dX0_isThere_8 : decode cX0_isThere 8 = .ok (.invokevirtual 42, 3) := by decide +kernel
theorem dX0_isThere_11 : decode cX0_isThere 11 = .ok (.iload_n 1, 1) := by decide +kernel
theorem dX0_isThere_12 : decode cX0_isThere 12 = .ok (.iand, 1) := by decide +kernel
theorem dX0_isThere_13 : decode cX0_isThere 13 = .ok (.iload_n 1, 1) := by decide +kernel
theorem dX0_isThere_14 : decode cX0_isThere 14 = .ok (.if_icmp .ne 7, 3) := by decide +kernel
theorem dX0_isThere_17 : decode cX0_isThere 17 = .ok (.iconst 1, 1) := by decide +kernel
theorem dX0_isThere_18 : decode cX0_isThere 18 = .ok (.goto 4, 3) := by decide +kernel
theorem dX0_isThere_21 : decode cX0_isThere 21 = .ok (.iconst 0, 1) := by decide +kernel
theorem dX0_isThere_22 : decode cX0_isThere 22 = .ok (.ireturn, 1) := by decide +kernel
theorem dX0_isEnough_0 : decode cX0_isEnough 0 = .ok (.aload_n 0, 1) := by decide +kernel
theorem dX0_isEnough_1 : decode cX0_isEnough 1 = .ok (.iload_n 1, 1) := by decide +kernel
theorem dX0_isEnough_2 : decode cX0_isEnough 2 = .ok (.invokevirtual 51, 3) := by decide +kernel
theorem dX0_isEnough_5 : decode cX0_isEnough 5 = .ok (.ifCond .eq 18, 3) := by decide +kernel
theorem dX0_isEnough_8 : decode cX0_isEnough 8 = .ok (.iload_n 1, 1) := by decide +kernel
theorem dX0_isEnough_9 : decode cX0_isEnough 9 = .ok (.invokestatic 46, 3) := by decide +kernel
theorem dX0_isEnough_12 : decode cX0_isEnough 12 = .ok (.aload_n 0, 1) := by decide +kernel
theorem dX0_isEnough_13 : decode cX0_isEnough 13 = .ok (.getfield 25, 3) := by decide +kernel
theorem dX0_isEnough_16 : decode cX0_isEnough 16 = .ok (.if_icmp .le 7, 3) := by decide +kernel
theorem dX0_isEnough_19 : decode cX0_isEnough 19 = .ok (.iconst 1, 1) := by decide +kernel
theorem dX0_isEnough_20 : decode cX0_isEnough 20 = .ok (.goto 4, 3) := by decide +kernel
theorem dX0_isEnough_23 : decode cX0_isEnough 23 = .ok (.iconst 0, 1) := by decide +kernel
theorem dX0_isEnough_24 : decode cX0_isEnough 24 = .ok (.ireturn, 1) := by decide +kernel
theorem dX0_hasSeals_0 : decode cX0_hasSeals 0 = .ok (.aload_n 0, 1) := by decide +kernel
theorem dX0_hasSeals_1 : decode cX0_hasSeals 1 = .ok (.getfield 29, 3) := by decide +kernel
theorem dX0_hasSeals_4 : decode cX0_hasSeals 4 = .ok (.ifCond .le 7, 3) := by decide +kernel
theorem dX0_hasSeals_7 : decode cX0_hasSeals 7 = .ok (.iconst 1, 1) := by decide +kernel
theorem dX0_hasSeals_8 : decode cX0_hasSeals 8 = .ok (.goto 4, 3) := by decide +kernel
theorem dX0_hasSeals_11 : decode cX0_hasSeals 11 = .ok (.iconst 0, 1) := by decide +kernel
theorem dX0_hasSeals_12 : decode cX0_hasSeals 12 = .ok (.ireturn, 1) := by decide +kernel
theorem dX0_sealAt_0 : decode cX0_sealAt 0 = .ok (.iload_n 1, 1) := by decide +kernel
theorem dX0_sealAt_1 : decode cX0_sealAt 1 = .ok (.ifCond .lt 29, 3) := by decide +kernel
theorem dX0_sealAt_4 : decode cX0_sealAt 4 = .ok (.iload_n 1, 1) := by decide +kernel
theorem dX0_sealAt_5 : decode cX0_sealAt 5 = .ok (.aload_n 0, 1) := by decide +kernel
theorem dX0_sealAt_6 : decode cX0_sealAt 6 = .ok (.getfield 29, 3) := by decide +kernel
theorem dX0_sealAt_9 : decode cX0_sealAt 9 = .ok (.if_icmp .ge 21, 3) := by decide +kernel
theorem dX0_sealAt_12 : decode cX0_sealAt 12 = .ok (.iload_n 1, 1) := by decide +kernel
theorem dX0_sealAt_13 : decode cX0_sealAt 13 = .ok (.aload_n 0, 1) := by decide +kernel
theorem dX0_sealAt_14 : decode cX0_sealAt 14 = .ok (.getfield 15, 3) := by decide +kernel
theorem dX0_sealAt_17 : decode cX0_sealAt 17 = .ok (.arraylength, 1) := by decide +kernel
theorem dX0_sealAt_18 : decode cX0_sealAt 18 = .ok (.if_icmp .ge 12, 3) := by decide +kernel
theorem dX0_sealAt_21 : decode cX0_sealAt 21 = .ok (.aload_n 0, 1) := by decide +kernel
theorem dX0_sealAt_22 : decode cX0_sealAt 22 = .ok (.getfield 15, 3) := by decide +kernel
theorem dX0_sealAt_25 : decode cX0_sealAt 25 = .ok (.iload_n 1, 1) := by decide +kernel
theorem dX0_sealAt_26 : decode cX0_sealAt 26 = .ok (.iaload, 1) := by decide +kernel
theorem dX0_sealAt_27 : decode cX0_sealAt 27 = .ok (.goto 4, 3) := by decide +kernel
theorem dX0_sealAt_30 : decode cX0_sealAt 30 = .ok (.iconst (-1), 1) := by decide +kernel
theorem dX0_sealAt_31 : decode cX0_sealAt 31 = .ok (.ireturn, 1) := by decide +kernel
theorem dX0_setSeal_0 : decode cX0_setSeal 0 = .ok (.iload_n 1, 1) := by decide +kernel
theorem dX0_setSeal_1 : decode cX0_setSeal 1 = .ok (.ifCond .lt 27, 3) := by decide +kernel
theorem dX0_setSeal_4 : decode cX0_setSeal 4 = .ok (.iload_n 1, 1) := by decide +kernel
theorem dX0_setSeal_5 : decode cX0_setSeal 5 = .ok (.aload_n 0, 1) := by decide +kernel
theorem dX0_setSeal_6 : decode cX0_setSeal 6 = .ok (.getfield 29, 3) := by decide +kernel
theorem dX0_setSeal_9 : decode cX0_setSeal 9 = .ok (.if_icmp .ge 19, 3) := by decide +kernel
theorem dX0_setSeal_12 : decode cX0_setSeal 12 = .ok (.iload_n 1, 1) := by decide +kernel
theorem dX0_setSeal_13 : decode cX0_setSeal 13 = .ok (.aload_n 0, 1) := by decide +kernel
theorem dX0_setSeal_14 : decode cX0_setSeal 14 = .ok (.getfield 15, 3) := by decide +kernel
theorem dX0_setSeal_17 : decode cX0_setSeal 17 = .ok (.arraylength, 1) := by decide +kernel
theorem dX0_setSeal_18 : decode cX0_setSeal 18 = .ok (.if_icmp .ge 10, 3) := by decide +kernel
theorem dX0_setSeal_21 : decode cX0_setSeal 21 = .ok (.aload_n 0, 1) := by decide +kernel
theorem dX0_setSeal_22 : decode cX0_setSeal 22 = .ok (.getfield 15, 3) := by decide +kernel
theorem dX0_setSeal_25 : decode cX0_setSeal 25 = .ok (.iload_n 1, 1) := by decide +kernel
theorem dX0_setSeal_26 : decode cX0_setSeal 26 = .ok (.iload_n 2, 1) := by decide +kernel
theorem dX0_setSeal_27 : decode cX0_setSeal 27 = .ok (.iastore, 1) := by decide +kernel
theorem dX0_setSeal_28 : decode cX0_setSeal 28 = .ok (.return_, 1) := by decide +kernel
theorem dX0_addSeal_0 : decode cX0_addSeal 0 = .ok (.aload_n 0, 1) := by decide +kernel
theorem dX0_addSeal_1 : decode cX0_addSeal 1 = .ok (.getfield 29, 3) := by decide +kernel
theorem dX0_addSeal_4 : decode cX0_addSeal 4 = .ok (.ifCond .lt 35, 3) := by decide +kernel
theorem dX0_addSeal_7 : decode cX0_addSeal 7 = .ok (.aload_n 0, 1) := by decide +kernel
theorem dX0_addSeal_8 : decode cX0_addSeal 8 = .ok (.getfield 29, 3) := by decide +kernel
theorem dX0_addSeal_11 : decode cX0_addSeal 11 = .ok (.aload_n 0, 1) := by decide +kernel
theorem dX0_addSeal_12 : decode cX0_addSeal 12 = .ok (.getfield 15, 3) := by decide +kernel
theorem dX0_addSeal_15 : decode cX0_addSeal 15 = .ok (.arraylength, 1) := by decide +kernel
theorem dX0_addSeal_16 : decode cX0_addSeal 16 = .ok (.if_icmp .ge 23, 3) := by decide +kernel
theorem dX0_addSeal_19 : decode cX0_addSeal 19 = .ok (.aload_n 0, 1) := by decide +kernel
theorem dX0_addSeal_20 : decode cX0_addSeal 20 = .ok (.getfield 15, 3) := by decide +kernel
theorem dX0_addSeal_23 : decode cX0_addSeal 23 = .ok (.aload_n 0, 1) := by decide +kernel
theorem dX0_addSeal_24 : decode cX0_addSeal 24 = .ok (.getfield 29, 3) := by decide +kernel
theorem dX0_addSeal_27 : decode cX0_addSeal 27 = .ok (.iload_n 1, 1) := by decide +kernel
theorem dX0_addSeal_28 : decode cX0_addSeal 28 = .ok (.iastore, 1) := by decide +kernel
theorem dX0_addSeal_29 : decode cX0_addSeal 29 = .ok (.aload_n 0, 1) := by decide +kernel
theorem dX0_addSeal_30 : decode cX0_addSeal 30 = .ok (.dup, 1) := by decide +kernel
theorem dX0_addSeal_31 : decode cX0_addSeal 31 = .ok (.getfield 29, 3) := by decide +kernel
theorem dX0_addSeal_34 : decode cX0_addSeal 34 = .ok (.iconst 1, 1) := by decide +kernel
theorem dX0_addSeal_35 : decode cX0_addSeal 35 = .ok (.iadd, 1) := by decide +kernel
theorem dX0_addSeal_36 : decode cX0_addSeal 36 = .ok (.putfield 29, 3) := by decide +kernel
theorem dX0_addSeal_39 : decode cX0_addSeal 39 = .ok (.return_, 1) := by decide +kernel
theorem dX1_init_0 : decode cX1_init 0 = .ok (.aload_n 0, 1) := by decide +kernel
theorem dX1_init_1 : decode cX1_init 1 = .ok (.invokespecial 3, 3) := by decide +kernel
theorem dX1_init_4 : decode cX1_init 4 = .ok (.aload_n 0, 1) := by decide +kernel
theorem dX1_init_5 : decode cX1_init 5 = .ok (.iconst 3, 1) := by decide +kernel
theorem dX1_init_6 : decode cX1_init 6 = .ok (.invokevirtual 9, 3) := by decide +kernel
theorem dX1_init_9 : decode cX1_init 9 = .ok (.return_, 1) := by decide +kernel
theorem dX1_choose_0 : decode cX1_choose 0 = .ok (.iload_n 1, 1) := by decide +kernel
theorem dX1_choose_1 : decode cX1_choose 1 = .ok (.ifCond .lt 27, 3) := by decide +kernel
theorem dX1_choose_4 : decode cX1_choose 4 = .ok (.iload_n 1, 1) := by decide +kernel
theorem dX1_choose_5 : decode cX1_choose 5 = .ok (.getstatic 15, 3) := by decide +kernel
theorem dX1_choose_8 : decode cX1_choose 8 = .ok (.arraylength, 1) := by decide +kernel
theorem dX1_choose_9 : decode cX1_choose 9 = .ok (.if_icmp .ge 19, 3) := by decide +kernel
theorem dX1_choose_12 : decode cX1_choose 12 = .ok (.iload_n 1, 1) := by decide +kernel
theorem dX1_choose_13 : decode cX1_choose 13 = .ok (.getstatic 19, 3) := by decide +kernel
theorem dX1_choose_16 : decode cX1_choose 16 = .ok (.arraylength, 1) := by decide +kernel
theorem dX1_choose_17 : decode cX1_choose 17 = .ok (.if_icmp .ge 11, 3) := by decide +kernel
theorem dX1_choose_20 : decode cX1_choose 20 = .ok (.iload_n 1, 1) := by decide +kernel
theorem dX1_choose_21 : decode cX1_choose 21 = .ok (.getstatic 22, 3) := by decide +kernel
theorem dX1_choose_24 : decode cX1_choose 24 = .ok (.arraylength, 1) := by decide +kernel
theorem dX1_choose_25 : decode cX1_choose 25 = .ok (.if_icmp .lt 4, 3) := by decide +kernel
theorem dX1_choose_28 : decode cX1_choose 28 = .ok (.return_, 1) := by decide +kernel
theorem dX1_choose_29 : decode cX1_choose 29 = .ok (.aload_n 0, 1) := by decide +kernel
theorem dX1_choose_30 : decode cX1_choose 30 = .ok (.iload_n 1, 1) := by decide +kernel
theorem dX1_choose_31 : decode cX1_choose 31 = .ok (.putfield 25, 3) := by decide +kernel
theorem dX1_choose_34 : decode cX1_choose 34 = .ok (.aload_n 0, 1) := by decide +kernel
theorem dX1_choose_35 : decode cX1_choose 35 = .ok (.getstatic 15, 3) := by decide +kernel
theorem dX1_choose_38 : decode cX1_choose 38 = .ok (.iload_n 1, 1) := by decide +kernel
theorem dX1_choose_39 : decode cX1_choose 39 = .ok (.iaload, 1) := by decide +kernel
theorem dX1_choose_40 : decode cX1_choose 40 = .ok (.putfield 29, 3) := by decide +kernel
theorem dX1_choose_43 : decode cX1_choose 43 = .ok (.aload_n 0, 1) := by decide +kernel
theorem dX1_choose_44 : decode cX1_choose 44 = .ok (.getstatic 19, 3) := by decide +kernel
theorem dX1_choose_47 : decode cX1_choose 47 = .ok (.iload_n 1, 1) := by decide +kernel
theorem dX1_choose_48 : decode cX1_choose 48 = .ok (.iaload, 1) := by decide +kernel
theorem dX1_choose_49 : decode cX1_choose 49 = .ok (.putfield 32, 3) := by decide +kernel
theorem dX1_choose_52 : decode cX1_choose 52 = .ok (.aload_n 0, 1) := by decide +kernel
theorem dX1_choose_53 : decode cX1_choose 53 = .ok (.getstatic 22, 3) := by decide +kernel
theorem dX1_choose_56 : decode cX1_choose 56 = .ok (.iload_n 1, 1) := by decide +kernel
theorem dX1_choose_57 : decode cX1_choose 57 = .ok (.iaload, 1) := by decide +kernel
theorem dX1_choose_58 : decode cX1_choose 58 = .ok (.putfield 35, 3) := by decide +kernel
theorem dX1_choose_61 : decode cX1_choose 61 = .ok (.aload_n 0, 1) := by decide +kernel
theorem dX1_choose_62 : decode cX1_choose 62 = .ok (.bipush 7, 2) := by decide +kernel
theorem dX1_choose_64 : decode cX1_choose 64 = .ok (.aload_n 0, 1) := by decide +kernel
theorem dX1_choose_65 : decode cX1_choose 65 = .ok (.getfield 29, 3) := by decide +kernel
theorem dX1_choose_68 : decode cX1_choose 68 = .ok (.iconst 1, 1) := by decide +kernel
theorem dX1_choose_69 : decode cX1_choose 69 = .ok (.isub, 1) := by decide +kernel
theorem dX1_choose_70 : decode cX1_choose 70 = .ok (.invokestatic 38, 3) := by decide +kernel
theorem dX1_choose_73 : decode cX1_choose 73 = .ok (.putfield 44, 3) := by decide +kernel
theorem dX1_choose_76 : decode cX1_choose 76 = .ok (.return_, 1) := by decide +kernel
theorem dX1_raise_0 : decode cX1_raise 0 = .ok (.iload_n 3, 1) := by decide +kernel
theorem dX1_raise_1 : decode cX1_raise 1 = .ok (.ifCond .gt 5, 3) := by decide +kernel
theorem dX1_raise_4 : decode cX1_raise 4 = .ok (.iconst 0, 1) := by decide +kernel
theorem dX1_raise_5 : decode cX1_raise 5 = .ok (.ireturn, 1) := by decide +kernel
theorem dX1_raise_6 : decode cX1_raise 6 = .ok (.lconst 1, 1) := by decide +kernel
theorem dX1_raise_7 : decode cX1_raise 7 = .ok (.lstore 4, 2) := by decide +kernel
theorem dX1_raise_9 : decode cX1_raise 9 = .ok (.iload_n 0, 1) := by decide +kernel
theorem dX1_raise_10 : decode cX1_raise 10 = .ok (.i2l, 1) := by decide +kernel
theorem dX1_raise_11 : decode cX1_raise 11 = .ok (.lstore 6, 2) := by decide +kernel
theorem dX1_raise_13 : decode cX1_raise 13 = .ok (.lload_n 1, 1) := by decide +kernel
theorem dX1_raise_14 : decode cX1_raise 14 = .ok (.lstore 8, 2) := by decide +kernel
theorem dX1_raise_16 : decode cX1_raise 16 = .ok (.iconst 0, 1) := by decide +kernel
theorem dX1_raise_17 : decode cX1_raise 17 = .ok (.istore 10, 2) := by decide +kernel
theorem dX1_raise_19 : decode cX1_raise 19 = .ok (.iload 10, 2) := by decide +kernel
theorem dX1_raise_21 : decode cX1_raise 21 = .ok (.bipush 63, 2) := by decide +kernel
theorem dX1_raise_23 : decode cX1_raise 23 = .ok (.if_icmp .ge 51, 3) := by decide +kernel
theorem dX1_raise_26 : decode cX1_raise 26 = .ok (.lload 8, 2) := by decide +kernel
theorem dX1_raise_28 : decode cX1_raise 28 = .ok (.lconst 0, 1) := by decide +kernel
theorem dX1_raise_29 : decode cX1_raise 29 = .ok (.lcmp, 1) := by decide +kernel
theorem dX1_raise_30 : decode cX1_raise 30 = .ok (.ifCond .le 44, 3) := by decide +kernel
theorem dX1_raise_33 : decode cX1_raise 33 = .ok (.lload 8, 2) := by decide +kernel
theorem dX1_raise_35 : decode cX1_raise 35 = .ok (.lconst 1, 1) := by decide +kernel
theorem dX1_raise_36 : decode cX1_raise 36 = .ok (.land, 1) := by decide +kernel
theorem dX1_raise_37 : decode cX1_raise 37 = .ok (.lconst 1, 1) := by decide +kernel
theorem dX1_raise_38 : decode cX1_raise 38 = .ok (.lcmp, 1) := by decide +kernel
theorem dX1_raise_39 : decode cX1_raise 39 = .ok (.ifCond .ne 13, 3) := by decide +kernel
theorem dX1_raise_42 : decode cX1_raise 42 = .ok (.lload 4, 2) := by decide +kernel
theorem dX1_raise_44 : decode cX1_raise 44 = .ok (.lload 6, 2) := by decide +kernel
theorem dX1_raise_46 : decode cX1_raise 46 = .ok (.lmul, 1) := by decide +kernel
theorem dX1_raise_47 : decode cX1_raise 47 = .ok (.iload_n 3, 1) := by decide +kernel
theorem dX1_raise_48 : decode cX1_raise 48 = .ok (.i2l, 1) := by decide +kernel
theorem dX1_raise_49 : decode cX1_raise 49 = .ok (.lrem, 1) := by decide +kernel
theorem dX1_raise_50 : decode cX1_raise 50 = .ok (.lstore 4, 2) := by decide +kernel
theorem dX1_raise_52 : decode cX1_raise 52 = .ok (.lload 6, 2) := by decide +kernel
theorem dX1_raise_54 : decode cX1_raise 54 = .ok (.lload 6, 2) := by decide +kernel
theorem dX1_raise_56 : decode cX1_raise 56 = .ok (.lmul, 1) := by decide +kernel
theorem dX1_raise_57 : decode cX1_raise 57 = .ok (.iload_n 3, 1) := by decide +kernel
theorem dX1_raise_58 : decode cX1_raise 58 = .ok (.i2l, 1) := by decide +kernel
theorem dX1_raise_59 : decode cX1_raise 59 = .ok (.lrem, 1) := by decide +kernel
theorem dX1_raise_60 : decode cX1_raise 60 = .ok (.lstore 6, 2) := by decide +kernel
theorem dX1_raise_62 : decode cX1_raise 62 = .ok (.lload 8, 2) := by decide +kernel
theorem dX1_raise_64 : decode cX1_raise 64 = .ok (.iconst 1, 1) := by decide +kernel
theorem dX1_raise_65 : decode cX1_raise 65 = .ok (.lshr, 1) := by decide +kernel
theorem dX1_raise_66 : decode cX1_raise 66 = .ok (.lstore 8, 2) := by decide +kernel
theorem dX1_raise_68 : decode cX1_raise 68 = .ok (.iinc 10 1, 3) := by decide +kernel
theorem dX1_raise_71 : decode cX1_raise 71 = .ok (.goto (-52), 3) := by decide +kernel
theorem dX1_raise_74 : decode cX1_raise 74 = .ok (.lload 4, 2) := by decide +kernel
theorem dX1_raise_76 : decode cX1_raise 76 = .ok (.l2i, 1) := by decide +kernel
theorem dX1_raise_77 : decode cX1_raise 77 = .ok (.ireturn, 1) := by decide +kernel
theorem dX1_modPrime_0 : decode cX1_modPrime 0 = .ok (.aload_n 0, 1) := by decide +kernel
theorem dX1_modPrime_1 : decode cX1_modPrime 1 = .ok (.getfield 29, 3) := by decide +kernel
theorem dX1_modPrime_4 : decode cX1_modPrime 4 = .ok (.ifCond .gt 5, 3) := by decide +kernel
theorem dX1_modPrime_7 : decode cX1_modPrime 7 = .ok (.iconst 0, 1) := by decide +kernel
theorem dX1_modPrime_8 : decode cX1_modPrime 8 = .ok (.ireturn, 1) := by decide +kernel
theorem dX1_modPrime_9 : decode cX1_modPrime 9 = .ok (.lload_n 1, 1) := by decide +kernel
theorem dX1_modPrime_10 : decode cX1_modPrime 10 = .ok (.aload_n 0, 1) := by decide +kernel
theorem dX1_modPrime_11 : decode cX1_modPrime 11 = .ok (.getfield 29, 3) := by decide +kernel
theorem dX1_modPrime_14 : decode cX1_modPrime 14 = .ok (.i2l, 1) := by decide +kernel
theorem dX1_modPrime_15 : decode cX1_modPrime 15 = .ok (.lrem, 1) := by decide +kernel
theorem dX1_modPrime_16 : decode cX1_modPrime 16 = .ok (.lstore_n 3, 1) := by decide +kernel
theorem dX1_modPrime_17 : decode cX1_modPrime 17 = .ok (.lload_n 3, 1) := by decide +kernel
theorem dX1_modPrime_18 : decode cX1_modPrime 18 = .ok (.lconst 0, 1) := by decide +kernel
theorem dX1_modPrime_19 : decode cX1_modPrime 19 = .ok (.lcmp, 1) := by decide +kernel
theorem dX1_modPrime_20 : decode cX1_modPrime 20 = .ok (.ifCond .ge 13, 3) := by decide +kernel
theorem dX1_modPrime_23 : decode cX1_modPrime 23 = .ok (.lload_n 3, 1) := by decide +kernel
theorem dX1_modPrime_24 : decode cX1_modPrime 24 = .ok (.aload_n 0, 1) := by decide +kernel
theorem dX1_modPrime_25 : decode cX1_modPrime 25 = .ok (.getfield 29, 3) := by decide +kernel
theorem dX1_modPrime_28 : decode cX1_modPrime 28 = .ok (.i2l, 1) := by decide +kernel
theorem dX1_modPrime_29 : decode cX1_modPrime 29 = .ok (.ladd, 1) := by decide +kernel
theorem dX1_modPrime_30 : decode cX1_modPrime 30 = .ok (.goto 4, 3) := by decide +kernel
theorem dX1_modPrime_33 : decode cX1_modPrime 33 = .ok (.lload_n 3, 1) := by decide +kernel
theorem dX1_modPrime_34 : decode cX1_modPrime 34 = .ok (.l2i, 1) := by decide +kernel
theorem dX1_modPrime_35 : decode cX1_modPrime 35 = .ok (.ireturn, 1) := by decide +kernel
theorem dX1_inverse_0 : decode cX1_inverse 0 = .ok (.iload_n 1, 1) := by decide +kernel
theorem dX1_inverse_1 : decode cX1_inverse 1 = .ok (.aload_n 0, 1) := by decide +kernel
theorem dX1_inverse_2 : decode cX1_inverse 2 = .ok (.getfield 29, 3) := by decide +kernel
theorem dX1_inverse_5 : decode cX1_inverse 5 = .ok (.iconst 2, 1) := by decide +kernel
theorem dX1_inverse_6 : decode cX1_inverse 6 = .ok (.isub, 1) := by decide +kernel
theorem dX1_inverse_7 : decode cX1_inverse 7 = .ok (.i2l, 1) := by decide +kernel
theorem dX1_inverse_8 : decode cX1_inverse 8 = .ok (.aload_n 0, 1) := by decide +kernel
theorem dX1_inverse_9 : decode cX1_inverse 9 = .ok (.getfield 29, 3) := by decide +kernel
theorem dX1_inverse_12 : decode cX1_inverse 12 = .ok (.invokestatic 47, 3) := by decide +kernel
theorem dX1_inverse_15 : decode cX1_inverse 15 = .ok (.ireturn, 1) := by decide +kernel
theorem dX1_inverseSeal_0 : decode cX1_inverseSeal 0 = .ok (.iload_n 1, 1) := by decide +kernel
theorem dX1_inverseSeal_1 : decode cX1_inverseSeal 1 = .ok (.aload_n 0, 1) := by decide +kernel
theorem dX1_inverseSeal_2 : decode cX1_inverseSeal 2 = .ok (.getfield 32, 3) := by decide +kernel
theorem dX1_inverseSeal_5 : decode cX1_inverseSeal 5 = .ok (.iconst 2, 1) := by decide +kernel
theorem dX1_inverseSeal_6 : decode cX1_inverseSeal 6 = .ok (.isub, 1) := by decide +kernel
theorem dX1_inverseSeal_7 : decode cX1_inverseSeal 7 = .ok (.i2l, 1) := by decide +kernel
theorem dX1_inverseSeal_8 : decode cX1_inverseSeal 8 = .ok (.aload_n 0, 1) := by decide +kernel
theorem dX1_inverseSeal_9 : decode cX1_inverseSeal 9 = .ok (.getfield 32, 3) := by decide +kernel
theorem dX1_inverseSeal_12 : decode cX1_inverseSeal 12 = .ok (.invokestatic 47, 3) := by decide +kernel
theorem dX1_inverseSeal_15 : decode cX1_inverseSeal 15 = .ok (.ireturn, 1) := by decide +kernel
theorem dX1_sealProduct_0 : decode cX1_sealProduct 0 = .ok (.aload_n 0, 1) := by decide +kernel
theorem dX1_sealProduct_1 : decode cX1_sealProduct 1 = .ok (.getfield 32, 3) := by decide +kernel
theorem dX1_sealProduct_4 : decode cX1_sealProduct 4 = .ok (.ifCond .gt 7, 3) := by decide +kernel
theorem dX1_sealProduct_7 : decode cX1_sealProduct 7 = .ok (.iconst 0, 1) := by decide +kernel
theorem dX1_sealProduct_8 : decode cX1_sealProduct 8 = .ok (.goto 15, 3) := by decide +kernel
theorem dX1_sealProduct_11 : decode cX1_sealProduct 11 = .ok (.iload_n 1, 1) := by decide +kernel
theorem dX1_sealProduct_12 : decode cX1_sealProduct 12 = .ok (.i2l, 1) := by decide +kernel
theorem dX1_sealProduct_13 : decode cX1_sealProduct 13 = .ok (.iload_n 2, 1) := by decide +kernel
theorem dX1_sealProduct_14 : decode cX1_sealProduct 14 = .ok (.i2l, 1) := by decide +kernel
theorem dX1_sealProduct_15 : decode cX1_sealProduct 15 = .ok (.lmul, 1) := by decide +kernel
theorem dX1_sealProduct_16 : decode cX1_sealProduct 16 = .ok (.aload_n 0, 1) := by decide +kernel
theorem dX1_sealProduct_17 : decode cX1_sealProduct 17 = .ok (.getfield 32, 3) := by decide +kernel
theorem dX1_sealProduct_20 : decode cX1_sealProduct 20 = .ok (.i2l, 1) := by decide +kernel
theorem dX1_sealProduct_21 : decode cX1_sealProduct 21 = .ok (.lrem, 1) := by decide +kernel
theorem dX1_sealProduct_22 : decode cX1_sealProduct 22 = .ok (.l2i, 1) := by decide +kernel
theorem dX1_sealProduct_23 : decode cX1_sealProduct 23 = .ok (.ireturn, 1) := by decide +kernel
theorem dX1_sealFor_0 : decode cX1_sealFor 0 = .ok (.aload_n 0, 1) := by decide +kernel
theorem dX1_sealFor_1 : decode cX1_sealFor 1 = .ok (.getfield 35, 3) := by decide +kernel
theorem dX1_sealFor_4 : decode cX1_sealFor 4 = .ok (.aload_n 0, 1) := by decide +kernel
theorem dX1_sealFor_5 : decode cX1_sealFor 5 = .ok (.iload_n 1, 1) := by decide +kernel
theorem dX1_sealFor_6 : decode cX1_sealFor 6 = .ok (.i2l, 1) := by decide +kernel
theorem dX1_sealFor_7 : decode cX1_sealFor 7 = .ok (.invokevirtual 51, 3) := by decide +kernel
theorem dX1_sealFor_10 : decode cX1_sealFor 10 = .ok (.i2l, 1) := by decide +kernel
theorem dX1_sealFor_11 : decode cX1_sealFor 11 = .ok (.aload_n 0, 1) := by decide +kernel
theorem dX1_sealFor_12 : decode cX1_sealFor 12 = .ok (.getfield 32, 3) := by decide +kernel
theorem dX1_sealFor_15 : decode cX1_sealFor 15 = .ok (.invokestatic 47, 3) := by decide +kernel
theorem dX1_sealFor_18 : decode cX1_sealFor 18 = .ok (.ireturn, 1) := by decide +kernel
theorem dX1_weightAt_0 : decode cX1_weightAt 0 = .ok (.aload_n 0, 1) := by decide +kernel
theorem dX1_weightAt_1 : decode cX1_weightAt 1 = .ok (.iload_n 3, 1) := by decide +kernel
theorem dX1_weightAt_2 : decode cX1_weightAt 2 = .ok (.i2l, 1) := by decide +kernel
theorem dX1_weightAt_3 : decode cX1_weightAt 3 = .ok (.invokevirtual 51, 3) := by decide +kernel
theorem dX1_weightAt_6 : decode cX1_weightAt 6 = .ok (.istore 4, 2) := by decide +kernel
theorem dX1_weightAt_8 : decode cX1_weightAt 8 = .ok (.iconst 1, 1) := by decide +kernel
theorem dX1_weightAt_9 : decode cX1_weightAt 9 = .ok (.istore 5, 2) := by decide +kernel
theorem dX1_weightAt_11 : decode cX1_weightAt 11 = .ok (.iconst 1, 1) := by decide +kernel
theorem dX1_weightAt_12 : decode cX1_weightAt 12 = .ok (.istore 6, 2) := by decide +kernel
theorem dX1_weightAt_14 : decode cX1_weightAt 14 = .ok (.iconst 1, 1) := by decide +kernel
theorem dX1_weightAt_15 : decode cX1_weightAt 15 = .ok (.istore 7, 2) := by decide +kernel
theorem dX1_weightAt_17 : decode cX1_weightAt 17 = .ok (.iload 7, 2) := by decide +kernel
theorem dX1_weightAt_19 : decode cX1_weightAt 19 = .ok (.aload_n 0, 1) := by decide +kernel
theorem dX1_weightAt_20 : decode cX1_weightAt 20 = .ok (.getfield 44, 3) := by decide +kernel
theorem dX1_weightAt_23 : decode cX1_weightAt 23 = .ok (.if_icmp .gt 55, 3) := by decide +kernel
theorem dX1_weightAt_26 : decode cX1_weightAt 26 = .ok (.iload 7, 2) := by decide +kernel
theorem dX1_weightAt_28 : decode cX1_weightAt 28 = .ok (.iload_n 2, 1) := by decide +kernel
theorem dX1_weightAt_29 : decode cX1_weightAt 29 = .ok (.if_icmp .eq 43, 3) := by decide +kernel
theorem dX1_weightAt_32 : decode cX1_weightAt 32 = .ok (.iload_n 1, 1) := by decide +kernel
theorem dX1_weightAt_33 : decode cX1_weightAt 33 = .ok (.iload 7, 2) := by decide +kernel
theorem dX1_weightAt_35 : decode cX1_weightAt 35 = .ok (.invokestatic 55, 3) := by decide +kernel
theorem dX1_weightAt_38 : decode cX1_weightAt 38 = .ok (.ifCond .eq 34, 3) := by decide +kernel
theorem dX1_weightAt_41 : decode cX1_weightAt 41 = .ok (.aload_n 0, 1) := by decide +kernel
theorem dX1_weightAt_42 : decode cX1_weightAt 42 = .ok (.iload 5, 2) := by decide +kernel
theorem dX1_weightAt_44 : decode cX1_weightAt 44 = .ok (.i2l, 1) := by decide +kernel
theorem dX1_weightAt_45 : decode cX1_weightAt 45 = .ok (.iload 4, 2) := by decide +kernel
theorem dX1_weightAt_47 : decode cX1_weightAt 47 = .ok (.iload 7, 2) := by decide +kernel
theorem dX1_weightAt_49 : decode cX1_weightAt 49 = .ok (.isub, 1) := by decide +kernel
theorem dX1_weightAt_50 : decode cX1_weightAt 50 = .ok (.i2l, 1) := by decide +kernel
theorem dX1_weightAt_51 : decode cX1_weightAt 51 = .ok (.lmul, 1) := by decide +kernel
theorem dX1_weightAt_52 : decode cX1_weightAt 52 = .ok (.invokevirtual 51, 3) := by decide +kernel
theorem dX1_weightAt_55 : decode cX1_weightAt 55 = .ok (.istore 5, 2) := by decide +kernel
theorem dX1_weightAt_57 : decode cX1_weightAt 57 = .ok (.aload_n 0, 1) := by decide +kernel
theorem dX1_weightAt_58 : decode cX1_weightAt 58 = .ok (.iload 6, 2) := by decide +kernel
theorem dX1_weightAt_60 : decode cX1_weightAt 60 = .ok (.i2l, 1) := by decide +kernel
theorem dX1_weightAt_61 : decode cX1_weightAt 61 = .ok (.iload_n 2, 1) := by decide +kernel
theorem dX1_weightAt_62 : decode cX1_weightAt 62 = .ok (.iload 7, 2) := by decide +kernel
theorem dX1_weightAt_64 : decode cX1_weightAt 64 = .ok (.isub, 1) := by decide +kernel
theorem dX1_weightAt_65 : decode cX1_weightAt 65 = .ok (.i2l, 1) := by decide +kernel
theorem dX1_weightAt_66 : decode cX1_weightAt 66 = .ok (.lmul, 1) := by decide +kernel
theorem dX1_weightAt_67 : decode cX1_weightAt 67 = .ok (.invokevirtual 51, 3) := by decide +kernel
theorem dX1_weightAt_70 : decode cX1_weightAt 70 = .ok (.istore 6, 2) := by decide +kernel
theorem dX1_weightAt_72 : decode cX1_weightAt 72 = .ok (.iinc 7 1, 3) := by decide +kernel
theorem dX1_weightAt_75 : decode cX1_weightAt 75 = .ok (.goto (-58), 3) := by decide +kernel
theorem dX1_weightAt_78 : decode cX1_weightAt 78 = .ok (.aload_n 0, 1) := by decide +kernel
theorem dX1_weightAt_79 : decode cX1_weightAt 79 = .ok (.iload 5, 2) := by decide +kernel
theorem dX1_weightAt_81 : decode cX1_weightAt 81 = .ok (.i2l, 1) := by decide +kernel
theorem dX1_weightAt_82 : decode cX1_weightAt 82 = .ok (.aload_n 0, 1) := by decide +kernel
theorem dX1_weightAt_83 : decode cX1_weightAt 83 = .ok (.iload 6, 2) := by decide +kernel
theorem dX1_weightAt_85 : decode cX1_weightAt 85 = .ok (.invokevirtual 59, 3) := by decide +kernel
theorem dX1_weightAt_88 : decode cX1_weightAt 88 = .ok (.i2l, 1) := by decide +kernel
theorem dX1_weightAt_89 : decode cX1_weightAt 89 = .ok (.lmul, 1) := by decide +kernel
theorem dX1_weightAt_90 : decode cX1_weightAt 90 = .ok (.invokevirtual 51, 3) := by decide +kernel
theorem dX1_weightAt_93 : decode cX1_weightAt 93 = .ok (.ireturn, 1) := by decide +kernel
theorem dX2_init_0 : decode cX2_init 0 = .ok (.aload_n 0, 1) := by decide +kernel
theorem dX2_init_1 : decode cX2_init 1 = .ok (.invokespecial 3, 3) := by decide +kernel
theorem dX2_init_4 : decode cX2_init 4 = .ok (.aload_n 0, 1) := by decide +kernel
theorem dX2_init_5 : decode cX2_init 5 = .ok (.bipush 7, 2) := by decide +kernel
theorem dX2_init_7 : decode cX2_init 7 = .ok (.newarray .int, 2) := by decide +kernel
theorem dX2_init_9 : decode cX2_init 9 = .ok (.putfield 9, 3) := by decide +kernel
theorem dX2_init_12 : decode cX2_init 12 = .ok (.aload_n 0, 1) := by decide +kernel
theorem dX2_init_13 : decode cX2_init 13 = .ok (.bipush 7, 2) := by decide +kernel
theorem dX2_init_15 : decode cX2_init 15 = .ok (.newarray .int, 2) := by decide +kernel
theorem dX2_init_17 : decode cX2_init 17 = .ok (.putfield 15, 3) := by decide +kernel
theorem dX2_init_20 : decode cX2_init 20 = .ok (.return_, 1) := by decide +kernel
theorem dX2_clear_0 : decode cX2_clear 0 = .ok (.iconst 0, 1) := by decide +kernel
theorem dX2_clear_1 : decode cX2_clear 1 = .ok (.istore_n 1, 1) := by decide +kernel
theorem dX2_clear_2 : decode cX2_clear 2 = .ok (.iload_n 1, 1) := by decide +kernel
theorem dX2_clear_3 : decode cX2_clear 3 = .ok (.aload_n 0, 1) := by decide +kernel
theorem dX2_clear_4 : decode cX2_clear 4 = .ok (.getfield 9, 3) := by decide +kernel
theorem dX2_clear_7 : decode cX2_clear 7 = .ok (.arraylength, 1) := by decide +kernel
theorem dX2_clear_8 : decode cX2_clear 8 = .ok (.if_icmp .ge 16, 3) := by decide +kernel
theorem dX2_clear_11 : decode cX2_clear 11 = .ok (.aload_n 0, 1) := by decide +kernel
theorem dX2_clear_12 : decode cX2_clear 12 = .ok (.getfield 9, 3) := by decide +kernel
theorem dX2_clear_15 : decode cX2_clear 15 = .ok (.iload_n 1, 1) := by decide +kernel
theorem dX2_clear_16 : decode cX2_clear 16 = .ok (.iconst 0, 1) := by decide +kernel
theorem dX2_clear_17 : decode cX2_clear 17 = .ok (.iastore, 1) := by decide +kernel
theorem dX2_clear_18 : decode cX2_clear 18 = .ok (.iinc 1 1, 3) := by decide +kernel
theorem dX2_clear_21 : decode cX2_clear 21 = .ok (.goto (-19), 3) := by decide +kernel
theorem dX2_clear_24 : decode cX2_clear 24 = .ok (.return_, 1) := by decide +kernel
theorem dX2_at_0 : decode cX2_at 0 = .ok (.iload_n 1, 1) := by decide +kernel
theorem dX2_at_1 : decode cX2_at 1 = .ok (.ifCond .lt 21, 3) := by decide +kernel
theorem dX2_at_4 : decode cX2_at 4 = .ok (.iload_n 1, 1) := by decide +kernel
theorem dX2_at_5 : decode cX2_at 5 = .ok (.aload_n 0, 1) := by decide +kernel
theorem dX2_at_6 : decode cX2_at 6 = .ok (.getfield 9, 3) := by decide +kernel
theorem dX2_at_9 : decode cX2_at 9 = .ok (.arraylength, 1) := by decide +kernel
theorem dX2_at_10 : decode cX2_at 10 = .ok (.if_icmp .ge 12, 3) := by decide +kernel
theorem dX2_at_13 : decode cX2_at 13 = .ok (.aload_n 0, 1) := by decide +kernel
theorem dX2_at_14 : decode cX2_at 14 = .ok (.getfield 9, 3) := by decide +kernel
theorem dX2_at_17 : decode cX2_at 17 = .ok (.iload_n 1, 1) := by decide +kernel
theorem dX2_at_18 : decode cX2_at 18 = .ok (.iaload, 1) := by decide +kernel
theorem dX2_at_19 : decode cX2_at 19 = .ok (.goto 4, 3) := by decide +kernel
theorem dX2_at_22 : decode cX2_at 22 = .ok (.iconst 0, 1) := by decide +kernel
theorem dX2_at_23 : decode cX2_at 23 = .ok (.ireturn, 1) := by decide +kernel
theorem dX2_addTo_0 : decode cX2_addTo 0 = .ok (.iload_n 2, 1) := by decide +kernel
theorem dX2_addTo_1 : decode cX2_addTo 1 = .ok (.ifCond .lt 36, 3) := by decide +kernel
theorem dX2_addTo_4 : decode cX2_addTo 4 = .ok (.iload_n 2, 1) := by decide +kernel
theorem dX2_addTo_5 : decode cX2_addTo 5 = .ok (.aload_n 0, 1) := by decide +kernel
theorem dX2_addTo_6 : decode cX2_addTo 6 = .ok (.getfield 9, 3) := by decide +kernel
theorem dX2_addTo_9 : decode cX2_addTo 9 = .ok (.arraylength, 1) := by decide +kernel
theorem dX2_addTo_10 : decode cX2_addTo 10 = .ok (.if_icmp .ge 27, 3) := by decide +kernel
theorem dX2_addTo_13 : decode cX2_addTo 13 = .ok (.aload_n 0, 1) := by decide +kernel
theorem dX2_addTo_14 : decode cX2_addTo 14 = .ok (.getfield 9, 3) := by decide +kernel
theorem dX2_addTo_17 : decode cX2_addTo 17 = .ok (.iload_n 2, 1) := by decide +kernel
theorem dX2_addTo_18 : decode cX2_addTo 18 = .ok (.aload_n 1, 1) := by decide +kernel
theorem dX2_addTo_19 : decode cX2_addTo 19 = .ok (.aload_n 0, 1) := by decide +kernel
theorem dX2_addTo_20 : decode cX2_addTo 20 = .ok (.getfield 9, 3) := by decide +kernel
theorem dX2_addTo_23 : decode cX2_addTo 23 = .ok (.iload_n 2, 1) := by decide +kernel
theorem dX2_addTo_24 : decode cX2_addTo 24 = .ok (.iaload, 1) := by decide +kernel
theorem dX2_addTo_25 : decode cX2_addTo 25 = .ok (.i2l, 1) := by decide +kernel
theorem dX2_addTo_26 : decode cX2_addTo 26 = .ok (.iload_n 3, 1) := by decide +kernel
theorem dX2_addTo_27 : decode cX2_addTo 27 = .ok (.i2l, 1) := by decide +kernel
theorem dX2_addTo_28 : decode cX2_addTo 28 = .ok (.iload 4, 2) := by decide +kernel
theorem dX2_addTo_30 : decode cX2_addTo 30 = .ok (.i2l, 1) := by decide +kernel
theorem dX2_addTo_31 : decode cX2_addTo 31 = .ok (.lmul, 1) := by decide +kernel
theorem dX2_addTo_32 : decode cX2_addTo 32 = .ok (.ladd, 1) := by decide +kernel
theorem dX2_addTo_33 : decode cX2_addTo 33 = .ok (.invokevirtual 18, 3) := by decide +kernel
theorem dX2_addTo_36 : decode cX2_addTo 36 = .ok (.iastore, 1) := by decide +kernel
theorem dX2_addTo_37 : decode cX2_addTo 37 = .ok (.return_, 1) := by decide +kernel
theorem dX2_become_0 : decode cX2_become 0 = .ok (.aload_n 0, 1) := by decide +kernel
theorem dX2_become_1 : decode cX2_become 1 = .ok (.invokevirtual 24, 3) := by decide +kernel
theorem dX2_become_4 : decode cX2_become 4 = .ok (.aload_n 0, 1) := by decide +kernel
theorem dX2_become_5 : decode cX2_become 5 = .ok (.aload_n 1, 1) := by decide +kernel
theorem dX2_become_6 : decode cX2_become 6 = .ok (.iconst 0, 1) := by decide +kernel
theorem dX2_become_7 : decode cX2_become 7 = .ok (.iconst 1, 1) := by decide +kernel
theorem dX2_become_8 : decode cX2_become 8 = .ok (.iload_n 3, 1) := by decide +kernel
theorem dX2_become_9 : decode cX2_become 9 = .ok (.invokevirtual 27, 3) := by decide +kernel
theorem dX2_become_12 : decode cX2_become 12 = .ok (.iload_n 2, 1) := by decide +kernel
theorem dX2_become_13 : decode cX2_become 13 = .ok (.iconst 1, 1) := by decide +kernel
theorem dX2_become_14 : decode cX2_become 14 = .ok (.if_icmp .lt 12, 3) := by decide +kernel
theorem dX2_become_17 : decode cX2_become 17 = .ok (.aload_n 0, 1) := by decide +kernel
theorem dX2_become_18 : decode cX2_become 18 = .ok (.aload_n 1, 1) := by decide +kernel
theorem dX2_become_19 : decode cX2_become 19 = .ok (.iconst 1, 1) := by decide +kernel
theorem dX2_become_20 : decode cX2_become 20 = .ok (.iconst 1, 1) := by decide +kernel
theorem dX2_become_21 : decode cX2_become 21 = .ok (.iload 4, 2) := by decide +kernel
theorem dX2_become_23 : decode cX2_become 23 = .ok (.invokevirtual 27, 3) := by decide +kernel
theorem dX2_become_26 : decode cX2_become 26 = .ok (.iload_n 2, 1) := by decide +kernel
theorem dX2_become_27 : decode cX2_become 27 = .ok (.iconst 2, 1) := by decide +kernel
theorem dX2_become_28 : decode cX2_become 28 = .ok (.if_icmp .lt 12, 3) := by decide +kernel
theorem dX2_become_31 : decode cX2_become 31 = .ok (.aload_n 0, 1) := by decide +kernel
theorem dX2_become_32 : decode cX2_become 32 = .ok (.aload_n 1, 1) := by decide +kernel
theorem dX2_become_33 : decode cX2_become 33 = .ok (.iconst 2, 1) := by decide +kernel
theorem dX2_become_34 : decode cX2_become 34 = .ok (.iconst 1, 1) := by decide +kernel
theorem dX2_become_35 : decode cX2_become 35 = .ok (.iload 5, 2) := by decide +kernel
theorem dX2_become_37 : decode cX2_become 37 = .ok (.invokevirtual 27, 3) := by decide +kernel
theorem dX2_become_40 : decode cX2_become 40 = .ok (.iload_n 2, 1) := by decide +kernel
theorem dX2_become_41 : decode cX2_become 41 = .ok (.iconst 3, 1) := by decide +kernel
theorem dX2_become_42 : decode cX2_become 42 = .ok (.if_icmp .lt 12, 3) := by decide +kernel
theorem dX2_become_45 : decode cX2_become 45 = .ok (.aload_n 0, 1) := by decide +kernel
theorem dX2_become_46 : decode cX2_become 46 = .ok (.aload_n 1, 1) := by decide +kernel
theorem dX2_become_47 : decode cX2_become 47 = .ok (.iconst 3, 1) := by decide +kernel
theorem dX2_become_48 : decode cX2_become 48 = .ok (.iconst 1, 1) := by decide +kernel
theorem dX2_become_49 : decode cX2_become 49 = .ok (.iload 6, 2) := by decide +kernel
theorem dX2_become_51 : decode cX2_become 51 = .ok (.invokevirtual 27, 3) := by decide +kernel
theorem dX2_become_54 : decode cX2_become 54 = .ok (.return_, 1) := by decide +kernel
theorem dX2_valueAt_0 : decode cX2_valueAt 0 = .ok (.iconst 0, 1) := by decide +kernel
theorem dX2_valueAt_1 : decode cX2_valueAt 1 = .ok (.istore_n 3, 1) := by decide +kernel
theorem dX2_valueAt_2 : decode cX2_valueAt 2 = .ok (.aload_n 0, 1) := by decide +kernel
theorem dX2_valueAt_3 : decode cX2_valueAt 3 = .ok (.getfield 9, 3) := by decide +kernel
theorem dX2_valueAt_6 : decode cX2_valueAt 6 = .ok (.arraylength, 1) := by decide +kernel
theorem dX2_valueAt_7 : decode cX2_valueAt 7 = .ok (.iconst 1, 1) := by decide +kernel
theorem dX2_valueAt_8 : decode cX2_valueAt 8 = .ok (.isub, 1) := by decide +kernel
theorem dX2_valueAt_9 : decode cX2_valueAt 9 = .ok (.istore 4, 2) := by decide +kernel
theorem dX2_valueAt_11 : decode cX2_valueAt 11 = .ok (.iload 4, 2) := by decide +kernel
theorem dX2_valueAt_13 : decode cX2_valueAt 13 = .ok (.ifCond .lt 28, 3) := by decide +kernel
theorem dX2_valueAt_16 : decode cX2_valueAt 16 = .ok (.aload_n 1, 1) := by decide +kernel
theorem dX2_valueAt_17 : decode cX2_valueAt 17 = .ok (.iload_n 3, 1) := by decide +kernel
theorem dX2_valueAt_18 : decode cX2_valueAt 18 = .ok (.i2l, 1) := by decide +kernel
theorem dX2_valueAt_19 : decode cX2_valueAt 19 = .ok (.iload_n 2, 1) := by decide +kernel
theorem dX2_valueAt_20 : decode cX2_valueAt 20 = .ok (.i2l, 1) := by decide +kernel
theorem dX2_valueAt_21 : decode cX2_valueAt 21 = .ok (.lmul, 1) := by decide +kernel
theorem dX2_valueAt_22 : decode cX2_valueAt 22 = .ok (.aload_n 0, 1) := by decide +kernel
theorem dX2_valueAt_23 : decode cX2_valueAt 23 = .ok (.getfield 9, 3) := by decide +kernel
theorem dX2_valueAt_26 : decode cX2_valueAt 26 = .ok (.iload 4, 2) := by decide +kernel
theorem dX2_valueAt_28 : decode cX2_valueAt 28 = .ok (.iaload, 1) := by decide +kernel
theorem dX2_valueAt_29 : decode cX2_valueAt 29 = .ok (.i2l, 1) := by decide +kernel
theorem dX2_valueAt_30 : decode cX2_valueAt 30 = .ok (.ladd, 1) := by decide +kernel
theorem dX2_valueAt_31 : decode cX2_valueAt 31 = .ok (.invokevirtual 18, 3) := by decide +kernel
theorem dX2_valueAt_34 : decode cX2_valueAt 34 = .ok (.istore_n 3, 1) := by decide +kernel
theorem dX2_valueAt_35 : decode cX2_valueAt 35 = .ok (.iinc 4 (-1), 3) := by decide +kernel
theorem dX2_valueAt_38 : decode cX2_valueAt 38 = .ok (.goto (-27), 3) := by decide +kernel
theorem dX2_valueAt_41 : decode cX2_valueAt 41 = .ok (.iload_n 3, 1) := by decide +kernel
theorem dX2_valueAt_42 : decode cX2_valueAt 42 = .ok (.ireturn, 1) := by decide +kernel
theorem dX2_highest_0 : decode cX2_highest 0 = .ok (.aload_n 0, 1) := by decide +kernel
theorem dX2_highest_1 : decode cX2_highest 1 = .ok (.getfield 9, 3) := by decide +kernel
theorem dX2_highest_4 : decode cX2_highest 4 = .ok (.arraylength, 1) := by decide +kernel
theorem dX2_highest_5 : decode cX2_highest 5 = .ok (.iconst 1, 1) := by decide +kernel
theorem dX2_highest_6 : decode cX2_highest 6 = .ok (.isub, 1) := by decide +kernel
theorem dX2_highest_7 : decode cX2_highest 7 = .ok (.istore_n 1, 1) := by decide +kernel
theorem dX2_highest_8 : decode cX2_highest 8 = .ok (.iload_n 1, 1) := by decide +kernel
theorem dX2_highest_9 : decode cX2_highest 9 = .ok (.ifCond .lt 20, 3) := by decide +kernel
theorem dX2_highest_12 : decode cX2_highest 12 = .ok (.aload_n 0, 1) := by decide +kernel
theorem dX2_highest_13 : decode cX2_highest 13 = .ok (.getfield 9, 3) := by decide +kernel
theorem dX2_highest_16 : decode cX2_highest 16 = .ok (.iload_n 1, 1) := by decide +kernel
theorem dX2_highest_17 : decode cX2_highest 17 = .ok (.iaload, 1) := by decide +kernel
theorem dX2_highest_18 : decode cX2_highest 18 = .ok (.ifCond .eq 5, 3) := by decide +kernel
theorem dX2_highest_21 : decode cX2_highest 21 = .ok (.iload_n 1, 1) := by decide +kernel
theorem dX2_highest_22 : decode cX2_highest 22 = .ok (.ireturn, 1) := by decide +kernel
theorem dX2_highest_23 : decode cX2_highest 23 = .ok (.iinc 1 (-1), 3) := by decide +kernel
theorem dX2_highest_26 : decode cX2_highest 26 = .ok (.goto (-18), 3) := by decide +kernel
theorem dX2_highest_29 : decode cX2_highest 29 = .ok (.iconst (-1), 1) := by decide +kernel
theorem dX2_highest_30 : decode cX2_highest 30 = .ok (.ireturn, 1) := by decide +kernel
theorem dX2_goThrough_0 : decode cX2_goThrough 0 = .ok (.aload_n 0, 1) := by decide +kernel
theorem dX2_goThrough_1 : decode cX2_goThrough 1 = .ok (.invokevirtual 24, 3) := by decide +kernel
theorem dX2_goThrough_4 : decode cX2_goThrough 4 = .ok (.iconst 1, 1) := by decide +kernel
theorem dX2_goThrough_5 : decode cX2_goThrough 5 = .ok (.istore 4, 2) := by decide +kernel
theorem dX2_goThrough_7 : decode cX2_goThrough 7 = .ok (.iload 4, 2) := by decide +kernel
theorem dX2_goThrough_9 : decode cX2_goThrough 9 = .ok (.aload_n 1, 1) := by decide +kernel
theorem dX2_goThrough_10 : decode cX2_goThrough 10 = .ok (.getfield 31, 3) := by decide +kernel
theorem dX2_goThrough_13 : decode cX2_goThrough 13 = .ok (.if_icmp .gt 56, 3) := by decide +kernel
theorem dX2_goThrough_16 : decode cX2_goThrough 16 = .ok (.iload_n 3, 1) := by decide +kernel
theorem dX2_goThrough_17 : decode cX2_goThrough 17 = .ok (.iload 4, 2) := by decide +kernel
theorem dX2_goThrough_19 : decode cX2_goThrough 19 = .ok (.invokestatic 35, 3) := by decide +kernel
theorem dX2_goThrough_22 : decode cX2_goThrough 22 = .ok (.ifCond .eq 41, 3) := by decide +kernel
theorem dX2_goThrough_25 : decode cX2_goThrough 25 = .ok (.aload_n 0, 1) := by decide +kernel
theorem dX2_goThrough_26 : decode cX2_goThrough 26 = .ok (.aload_n 1, 1) := by decide +kernel
theorem dX2_goThrough_27 : decode cX2_goThrough 27 = .ok (.iload_n 3, 1) := by decide +kernel
theorem dX2_goThrough_28 : decode cX2_goThrough 28 = .ok (.iload 4, 2) := by decide +kernel
theorem dX2_goThrough_30 : decode cX2_goThrough 30 = .ok (.invokevirtual 39, 3) := by decide +kernel
theorem dX2_goThrough_33 : decode cX2_goThrough 33 = .ok (.istore 5, 2) := by decide +kernel
theorem dX2_goThrough_35 : decode cX2_goThrough 35 = .ok (.aload_n 1, 1) := by decide +kernel
theorem dX2_goThrough_36 : decode cX2_goThrough 36 = .ok (.aload_n 2, 1) := by decide +kernel
theorem dX2_goThrough_37 : decode cX2_goThrough 37 = .ok (.iload 4, 2) := by decide +kernel
theorem dX2_goThrough_39 : decode cX2_goThrough 39 = .ok (.invokevirtual 43, 3) := by decide +kernel
theorem dX2_goThrough_42 : decode cX2_goThrough 42 = .ok (.i2l, 1) := by decide +kernel
theorem dX2_goThrough_43 : decode cX2_goThrough 43 = .ok (.aload_n 1, 1) := by decide +kernel
theorem dX2_goThrough_44 : decode cX2_goThrough 44 = .ok (.iload 5, 2) := by decide +kernel
theorem dX2_goThrough_46 : decode cX2_goThrough 46 = .ok (.invokevirtual 49, 3) := by decide +kernel
theorem dX2_goThrough_49 : decode cX2_goThrough 49 = .ok (.i2l, 1) := by decide +kernel
theorem dX2_goThrough_50 : decode cX2_goThrough 50 = .ok (.lmul, 1) := by decide +kernel
theorem dX2_goThrough_51 : decode cX2_goThrough 51 = .ok (.invokevirtual 18, 3) := by decide +kernel
theorem dX2_goThrough_54 : decode cX2_goThrough 54 = .ok (.istore 6, 2) := by decide +kernel
theorem dX2_goThrough_56 : decode cX2_goThrough 56 = .ok (.aload_n 0, 1) := by decide +kernel
theorem dX2_goThrough_57 : decode cX2_goThrough 57 = .ok (.aload_n 1, 1) := by decide +kernel
theorem dX2_goThrough_58 : decode cX2_goThrough 58 = .ok (.iload 6, 2) := by decide +kernel
theorem dX2_goThrough_60 : decode cX2_goThrough 60 = .ok (.invokevirtual 52, 3) := by decide +kernel
theorem dX2_goThrough_63 : decode cX2_goThrough 63 = .ok (.iinc 4 1, 3) := by decide +kernel
theorem dX2_goThrough_66 : decode cX2_goThrough 66 = .ok (.goto (-59), 3) := by decide +kernel
theorem dX2_goThrough_69 : decode cX2_goThrough 69 = .ok (.return_, 1) := by decide +kernel
theorem dX2_makeTerm_0 : decode cX2_makeTerm 0 = .ok (.iconst 1, 1) := by decide +kernel
theorem dX2_makeTerm_1 : decode cX2_makeTerm 1 = .ok (.istore 4, 2) := by decide +kernel
theorem dX2_makeTerm_3 : decode cX2_makeTerm 3 = .ok (.iconst 0, 1) := by decide +kernel
theorem dX2_makeTerm_4 : decode cX2_makeTerm 4 = .ok (.istore 5, 2) := by decide +kernel
theorem dX2_makeTerm_6 : decode cX2_makeTerm 6 = .ok (.iload 5, 2) := by decide +kernel
theorem dX2_makeTerm_8 : decode cX2_makeTerm 8 = .ok (.aload_n 0, 1) := by decide +kernel
theorem dX2_makeTerm_9 : decode cX2_makeTerm 9 = .ok (.getfield 15, 3) := by decide +kernel
theorem dX2_makeTerm_12 : decode cX2_makeTerm 12 = .ok (.arraylength, 1) := by decide +kernel
theorem dX2_makeTerm_13 : decode cX2_makeTerm 13 = .ok (.if_icmp .ge 26, 3) := by decide +kernel
theorem dX2_makeTerm_16 : decode cX2_makeTerm 16 = .ok (.aload_n 0, 1) := by decide +kernel
theorem dX2_makeTerm_17 : decode cX2_makeTerm 17 = .ok (.getfield 15, 3) := by decide +kernel
theorem dX2_makeTerm_20 : decode cX2_makeTerm 20 = .ok (.iload 5, 2) := by decide +kernel
theorem dX2_makeTerm_22 : decode cX2_makeTerm 22 = .ok (.iload 5, 2) := by decide +kernel
theorem dX2_makeTerm_24 : decode cX2_makeTerm 24 = .ok (.ifCond .ne 7, 3) := by decide +kernel
theorem dX2_makeTerm_27 : decode cX2_makeTerm 27 = .ok (.iconst 1, 1) := by decide +kernel
theorem dX2_makeTerm_28 : decode cX2_makeTerm 28 = .ok (.goto 4, 3) := by decide +kernel
theorem dX2_makeTerm_31 : decode cX2_makeTerm 31 = .ok (.iconst 0, 1) := by decide +kernel
theorem dX2_makeTerm_32 : decode cX2_makeTerm 32 = .ok (.iastore, 1) := by decide +kernel
theorem dX2_makeTerm_33 : decode cX2_makeTerm 33 = .ok (.iinc 5 1, 3) := by decide +kernel
theorem dX2_makeTerm_36 : decode cX2_makeTerm 36 = .ok (.goto (-30), 3) := by decide +kernel
theorem dX2_makeTerm_39 : decode cX2_makeTerm 39 = .ok (.iconst 1, 1) := by decide +kernel
theorem dX2_makeTerm_40 : decode cX2_makeTerm 40 = .ok (.istore 5, 2) := by decide +kernel
theorem dX2_makeTerm_42 : decode cX2_makeTerm 42 = .ok (.iload 5, 2) := by decide +kernel
theorem dX2_makeTerm_44 : decode cX2_makeTerm 44 = .ok (.aload_n 1, 1) := by decide +kernel
theorem dX2_makeTerm_45 : decode cX2_makeTerm 45 = .ok (.getfield 31, 3) := by decide +kernel
theorem dX2_makeTerm_48 : decode cX2_makeTerm 48 = .ok (.if_icmp .gt 106, 3) := by decide +kernel
theorem dX2_makeTerm_51 : decode cX2_makeTerm 51 = .ok (.iload 5, 2) := by decide +kernel
theorem dX2_makeTerm_53 : decode cX2_makeTerm 53 = .ok (.iload_n 3, 1) := by decide +kernel
theorem dX2_makeTerm_54 : decode cX2_makeTerm 54 = .ok (.if_icmp .eq 94, 3) := by decide +kernel
theorem dX2_makeTerm_57 : decode cX2_makeTerm 57 = .ok (.iload_n 2, 1) := by decide +kernel
theorem dX2_makeTerm_58 : decode cX2_makeTerm 58 = .ok (.iload 5, 2) := by decide +kernel
theorem dX2_makeTerm_60 : decode cX2_makeTerm 60 = .ok (.invokestatic 35, 3) := by decide +kernel
theorem dX2_makeTerm_63 : decode cX2_makeTerm 63 = .ok (.ifCond .eq 85, 3) := by decide +kernel
theorem dX2_makeTerm_66 : decode cX2_makeTerm 66 = .ok (.aload_n 0, 1) := by decide +kernel
theorem dX2_makeTerm_67 : decode cX2_makeTerm 67 = .ok (.getfield 15, 3) := by decide +kernel
theorem dX2_makeTerm_70 : decode cX2_makeTerm 70 = .ok (.arraylength, 1) := by decide +kernel
theorem dX2_makeTerm_71 : decode cX2_makeTerm 71 = .ok (.iconst 1, 1) := by decide +kernel
theorem dX2_makeTerm_72 : decode cX2_makeTerm 72 = .ok (.isub, 1) := by decide +kernel
theorem dX2_makeTerm_73 : decode cX2_makeTerm 73 = .ok (.istore 6, 2) := by decide +kernel
theorem dX2_makeTerm_75 : decode cX2_makeTerm 75 = .ok (.iload 6, 2) := by decide +kernel
theorem dX2_makeTerm_77 : decode cX2_makeTerm 77 = .ok (.ifCond .lt 56, 3) := by decide +kernel
theorem dX2_makeTerm_80 : decode cX2_makeTerm 80 = .ok (.iload 6, 2) := by decide +kernel
theorem dX2_makeTerm_82 : decode cX2_makeTerm 82 = .ok (.ifCond .le 15, 3) := by decide +kernel
theorem dX2_makeTerm_85 : decode cX2_makeTerm 85 = .ok (.aload_n 0, 1) := by decide +kernel
theorem dX2_makeTerm_86 : decode cX2_makeTerm 86 = .ok (.getfield 15, 3) := by decide +kernel
theorem dX2_makeTerm_89 : decode cX2_makeTerm 89 = .ok (.iload 6, 2) := by decide +kernel
theorem dX2_makeTerm_91 : decode cX2_makeTerm 91 = .ok (.iconst 1, 1) := by decide +kernel
theorem dX2_makeTerm_92 : decode cX2_makeTerm 92 = .ok (.isub, 1) := by decide +kernel
theorem dX2_makeTerm_93 : decode cX2_makeTerm 93 = .ok (.iaload, 1) := by decide +kernel
theorem dX2_makeTerm_94 : decode cX2_makeTerm 94 = .ok (.goto 4, 3) := by decide +kernel
theorem dX2_makeTerm_97 : decode cX2_makeTerm 97 = .ok (.iconst 0, 1) := by decide +kernel
theorem dX2_makeTerm_98 : decode cX2_makeTerm 98 = .ok (.istore 7, 2) := by decide +kernel
theorem dX2_makeTerm_100 : decode cX2_makeTerm 100 = .ok (.aload_n 0, 1) := by decide +kernel
theorem dX2_makeTerm_101 : decode cX2_makeTerm 101 = .ok (.getfield 15, 3) := by decide +kernel
theorem dX2_makeTerm_104 : decode cX2_makeTerm 104 = .ok (.iload 6, 2) := by decide +kernel
theorem dX2_makeTerm_106 : decode cX2_makeTerm 106 = .ok (.aload_n 1, 1) := by decide +kernel
theorem dX2_makeTerm_107 : decode cX2_makeTerm 107 = .ok (.iload 7, 2) := by decide +kernel
theorem dX2_makeTerm_109 : decode cX2_makeTerm 109 = .ok (.i2l, 1) := by decide +kernel
theorem dX2_makeTerm_110 : decode cX2_makeTerm 110 = .ok (.iload 5, 2) := by decide +kernel
theorem dX2_makeTerm_112 : decode cX2_makeTerm 112 = .ok (.i2l, 1) := by decide +kernel
theorem dX2_makeTerm_113 : decode cX2_makeTerm 113 = .ok (.aload_n 0, 1) := by decide +kernel
theorem dX2_makeTerm_114 : decode cX2_makeTerm 114 = .ok (.getfield 15, 3) := by decide +kernel
theorem dX2_makeTerm_117 : decode cX2_makeTerm 117 = .ok (.iload 6, 2) := by decide +kernel
theorem dX2_makeTerm_119 : decode cX2_makeTerm 119 = .ok (.iaload, 1) := by decide +kernel
theorem dX2_makeTerm_120 : decode cX2_makeTerm 120 = .ok (.i2l, 1) := by decide +kernel
theorem dX2_makeTerm_121 : decode cX2_makeTerm 121 = .ok (.lmul, 1) := by decide +kernel
theorem dX2_makeTerm_122 : decode cX2_makeTerm 122 = .ok (.lsub, 1) := by decide +kernel
theorem dX2_makeTerm_123 : decode cX2_makeTerm 123 = .ok (.invokevirtual 18, 3) := by decide +kernel
theorem dX2_makeTerm_126 : decode cX2_makeTerm 126 = .ok (.iastore, 1) := by decide +kernel
theorem dX2_makeTerm_127 : decode cX2_makeTerm 127 = .ok (.iinc 6 (-1), 3) := by decide +kernel
theorem dX2_makeTerm_130 : decode cX2_makeTerm 130 = .ok (.goto (-55), 3) := by decide +kernel
theorem dX2_makeTerm_133 : decode cX2_makeTerm 133 = .ok (.aload_n 1, 1) := by decide +kernel
theorem dX2_makeTerm_134 : decode cX2_makeTerm 134 = .ok (.iload 4, 2) := by decide +kernel
theorem dX2_makeTerm_136 : decode cX2_makeTerm 136 = .ok (.i2l, 1) := by decide +kernel
theorem dX2_makeTerm_137 : decode cX2_makeTerm 137 = .ok (.iload_n 3, 1) := by decide +kernel
theorem dX2_makeTerm_138 : decode cX2_makeTerm 138 = .ok (.iload 5, 2) := by decide +kernel
theorem dX2_makeTerm_140 : decode cX2_makeTerm 140 = .ok (.isub, 1) := by decide +kernel
theorem dX2_makeTerm_141 : decode cX2_makeTerm 141 = .ok (.i2l, 1) := by decide +kernel
theorem dX2_makeTerm_142 : decode cX2_makeTerm 142 = .ok (.lmul, 1) := by decide +kernel
theorem dX2_makeTerm_143 : decode cX2_makeTerm 143 = .ok (.invokevirtual 18, 3) := by decide +kernel
theorem dX2_makeTerm_146 : decode cX2_makeTerm 146 = .ok (.istore 4, 2) := by decide +kernel
theorem dX2_makeTerm_148 : decode cX2_makeTerm 148 = .ok (.iinc 5 1, 3) := by decide +kernel
theorem dX2_makeTerm_151 : decode cX2_makeTerm 151 = .ok (.goto (-109), 3) := by decide +kernel
theorem dX2_makeTerm_154 : decode cX2_makeTerm 154 = .ok (.iload 4, 2) := by decide +kernel
theorem dX2_makeTerm_156 : decode cX2_makeTerm 156 = .ok (.ireturn, 1) := by decide +kernel
theorem dX2_addTerm_0 : decode cX2_addTerm 0 = .ok (.iconst 0, 1) := by decide +kernel
theorem dX2_addTerm_1 : decode cX2_addTerm 1 = .ok (.istore_n 3, 1) := by decide +kernel
theorem dX2_addTerm_2 : decode cX2_addTerm 2 = .ok (.iload_n 3, 1) := by decide +kernel
theorem dX2_addTerm_3 : decode cX2_addTerm 3 = .ok (.aload_n 0, 1) := by decide +kernel
theorem dX2_addTerm_4 : decode cX2_addTerm 4 = .ok (.getfield 9, 3) := by decide +kernel
theorem dX2_addTerm_7 : decode cX2_addTerm 7 = .ok (.arraylength, 1) := by decide +kernel
theorem dX2_addTerm_8 : decode cX2_addTerm 8 = .ok (.if_icmp .ge 46, 3) := by decide +kernel
theorem dX2_addTerm_11 : decode cX2_addTerm 11 = .ok (.iload_n 3, 1) := by decide +kernel
theorem dX2_addTerm_12 : decode cX2_addTerm 12 = .ok (.aload_n 0, 1) := by decide +kernel
theorem dX2_addTerm_13 : decode cX2_addTerm 13 = .ok (.getfield 15, 3) := by decide +kernel
theorem dX2_addTerm_16 : decode cX2_addTerm 16 = .ok (.arraylength, 1) := by decide +kernel
theorem dX2_addTerm_17 : decode cX2_addTerm 17 = .ok (.if_icmp .ge 37, 3) := by decide +kernel
theorem dX2_addTerm_20 : decode cX2_addTerm 20 = .ok (.aload_n 0, 1) := by decide +kernel
theorem dX2_addTerm_21 : decode cX2_addTerm 21 = .ok (.getfield 9, 3) := by decide +kernel
theorem dX2_addTerm_24 : decode cX2_addTerm 24 = .ok (.iload_n 3, 1) := by decide +kernel
theorem dX2_addTerm_25 : decode cX2_addTerm 25 = .ok (.aload_n 1, 1) := by decide +kernel
theorem dX2_addTerm_26 : decode cX2_addTerm 26 = .ok (.aload_n 0, 1) := by decide +kernel
theorem dX2_addTerm_27 : decode cX2_addTerm 27 = .ok (.getfield 9, 3) := by decide +kernel
theorem dX2_addTerm_30 : decode cX2_addTerm 30 = .ok (.iload_n 3, 1) := by decide +kernel
theorem dX2_addTerm_31 : decode cX2_addTerm 31 = .ok (.iaload, 1) := by decide +kernel
theorem dX2_addTerm_32 : decode cX2_addTerm 32 = .ok (.i2l, 1) := by decide +kernel
theorem dX2_addTerm_33 : decode cX2_addTerm 33 = .ok (.iload_n 2, 1) := by decide +kernel
theorem dX2_addTerm_34 : decode cX2_addTerm 34 = .ok (.i2l, 1) := by decide +kernel
theorem dX2_addTerm_35 : decode cX2_addTerm 35 = .ok (.aload_n 0, 1) := by decide +kernel
theorem dX2_addTerm_36 : decode cX2_addTerm 36 = .ok (.getfield 15, 3) := by decide +kernel
theorem dX2_addTerm_39 : decode cX2_addTerm 39 = .ok (.iload_n 3, 1) := by decide +kernel
theorem dX2_addTerm_40 : decode cX2_addTerm 40 = .ok (.iaload, 1) := by decide +kernel
theorem dX2_addTerm_41 : decode cX2_addTerm 41 = .ok (.i2l, 1) := by decide +kernel
theorem dX2_addTerm_42 : decode cX2_addTerm 42 = .ok (.lmul, 1) := by decide +kernel
theorem dX2_addTerm_43 : decode cX2_addTerm 43 = .ok (.ladd, 1) := by decide +kernel
theorem dX2_addTerm_44 : decode cX2_addTerm 44 = .ok (.invokevirtual 18, 3) := by decide +kernel
theorem dX2_addTerm_47 : decode cX2_addTerm 47 = .ok (.iastore, 1) := by decide +kernel
theorem dX2_addTerm_48 : decode cX2_addTerm 48 = .ok (.iinc 3 1, 3) := by decide +kernel
theorem dX2_addTerm_51 : decode cX2_addTerm 51 = .ok (.goto (-49), 3) := by decide +kernel
theorem dX2_addTerm_54 : decode cX2_addTerm 54 = .ok (.return_, 1) := by decide +kernel
theorem dX3_init_0 : decode cX3_init 0 = .ok (.aload_n 0, 1) := by decide +kernel
theorem dX3_init_1 : decode cX3_init 1 = .ok (.invokespecial 1, 3) := by decide +kernel
theorem dX3_init_4 : decode cX3_init 4 = .ok (.aload_n 0, 1) := by decide +kernel
theorem dX3_init_5 : decode cX3_init 5 = .ok (.new 7, 3) := by decide +kernel
theorem dX3_init_8 : decode cX3_init 8 = .ok (.dup, 1) := by decide +kernel
theorem dX3_init_9 : decode cX3_init 9 = .ok (.invokespecial 9, 3) := by decide +kernel
theorem dX3_init_12 : decode cX3_init 12 = .ok (.putfield 10, 3) := by decide +kernel
theorem dX3_init_15 : decode cX3_init 15 = .ok (.aload_n 0, 1) := by decide +kernel
theorem dX3_init_16 : decode cX3_init 16 = .ok (.new 16, 3) := by decide +kernel
theorem dX3_init_19 : decode cX3_init 19 = .ok (.dup, 1) := by decide +kernel
theorem dX3_init_20 : decode cX3_init 20 = .ok (.invokespecial 18, 3) := by decide +kernel
theorem dX3_init_23 : decode cX3_init 23 = .ok (.putfield 19, 3) := by decide +kernel
theorem dX3_init_26 : decode cX3_init 26 = .ok (.aload_n 0, 1) := by decide +kernel
theorem dX3_init_27 : decode cX3_init 27 = .ok (.bipush 6, 2) := by decide +kernel
theorem dX3_init_29 : decode cX3_init 29 = .ok (.anewarray 23, 3) := by decide +kernel
theorem dX3_init_32 : decode cX3_init 32 = .ok (.putfield 25, 3) := by decide +kernel
theorem dX3_init_35 : decode cX3_init 35 = .ok (.iconst 0, 1) := by decide +kernel
theorem dX3_init_36 : decode cX3_init 36 = .ok (.istore_n 1, 1) := by decide +kernel
theorem dX3_init_37 : decode cX3_init 37 = .ok (.iload_n 1, 1) := by decide +kernel
theorem dX3_init_38 : decode cX3_init 38 = .ok (.aload_n 0, 1) := by decide +kernel
theorem dX3_init_39 : decode cX3_init 39 = .ok (.getfield 25, 3) := by decide +kernel
theorem dX3_init_42 : decode cX3_init 42 = .ok (.arraylength, 1) := by decide +kernel
theorem dX3_init_43 : decode cX3_init 43 = .ok (.if_icmp .ge 22, 3) := by decide +kernel
theorem dX3_init_46 : decode cX3_init 46 = .ok (.aload_n 0, 1) := by decide +kernel
theorem dX3_init_47 : decode cX3_init 47 = .ok (.getfield 25, 3) := by decide +kernel
theorem dX3_init_50 : decode cX3_init 50 = .ok (.iload_n 1, 1) := by decide +kernel
theorem dX3_init_51 : decode cX3_init 51 = .ok (.new 23, 3) := by decide +kernel
theorem dX3_init_54 : decode cX3_init 54 = .ok (.dup, 1) := by decide +kernel
theorem dX3_init_55 : decode cX3_init 55 = .ok (.invokespecial 29, 3) := by decide +kernel
theorem dX3_init_58 : decode cX3_init 58 = .ok (.aastore, 1) := by decide +kernel
theorem dX3_init_59 : decode cX3_init 59 = .ok (.iinc 1 1, 3) := by decide +kernel
theorem dX3_init_62 : decode cX3_init 62 = .ok (.goto (-25), 3) := by decide +kernel
theorem dX3_init_65 : decode cX3_init 65 = .ok (.aload_n 0, 1) := by decide +kernel
theorem dX3_init_66 : decode cX3_init 66 = .ok (.new 23, 3) := by decide +kernel
theorem dX3_init_69 : decode cX3_init 69 = .ok (.dup, 1) := by decide +kernel
theorem dX3_init_70 : decode cX3_init 70 = .ok (.invokespecial 29, 3) := by decide +kernel
theorem dX3_init_73 : decode cX3_init 73 = .ok (.putfield 30, 3) := by decide +kernel
theorem dX3_init_76 : decode cX3_init 76 = .ok (.aload_n 0, 1) := by decide +kernel
theorem dX3_init_77 : decode cX3_init 77 = .ok (.iconst 0, 1) := by decide +kernel
theorem dX3_init_78 : decode cX3_init 78 = .ok (.putfield 34, 3) := by decide +kernel
theorem dX3_init_81 : decode cX3_init 81 = .ok (.return_, 1) := by decide +kernel
theorem dX3_prime_0 : decode cX3_prime 0 = .ok (.iload_n 1, 1) := by decide +kernel
theorem dX3_prime_1 : decode cX3_prime 1 = .ok (.ifCond .lt 11, 3) := by decide +kernel
theorem dX3_prime_4 : decode cX3_prime 4 = .ok (.iload_n 1, 1) := by decide +kernel
theorem dX3_prime_5 : decode cX3_prime 5 = .ok (.getstatic 38, 3) := by decide +kernel
theorem dX3_prime_8 : decode cX3_prime 8 = .ok (.arraylength, 1) := by decide +kernel
theorem dX3_prime_9 : decode cX3_prime 9 = .ok (.if_icmp .lt 13, 3) := by decide +kernel
theorem dX3_prime_12 : decode cX3_prime 12 = .ok (.new 42, 3) := by decide +kernel
theorem dX3_prime_15 : decode cX3_prime 15 = .ok (.dup, 1) := by decide +kernel
theorem dX3_prime_16 : decode cX3_prime 16 = .ok (.ldc 44, 2) := by decide +kernel
theorem dX3_prime_18 : decode cX3_prime 18 = .ok (.invokespecial 46, 3) := by decide +kernel
theorem dX3_prime_21 : decode cX3_prime 21 = .ok (.athrow, 1) := by decide +kernel
theorem dX3_prime_22 : decode cX3_prime 22 = .ok (.aload_n 0, 1) := by decide +kernel
theorem dX3_prime_23 : decode cX3_prime 23 = .ok (.getfield 10, 3) := by decide +kernel
theorem dX3_prime_26 : decode cX3_prime 26 = .ok (.getfield 49, 3) := by decide +kernel
theorem dX3_prime_29 : decode cX3_prime 29 = .ok (.istore_n 2, 1) := by decide +kernel
theorem dX3_prime_30 : decode cX3_prime 30 = .ok (.aload_n 0, 1) := by decide +kernel
theorem dX3_prime_31 : decode cX3_prime 31 = .ok (.getfield 10, 3) := by decide +kernel
theorem dX3_prime_34 : decode cX3_prime 34 = .ok (.iload_n 1, 1) := by decide +kernel
theorem dX3_prime_35 : decode cX3_prime 35 = .ok (.invokevirtual 52, 3) := by decide +kernel
theorem dX3_prime_38 : decode cX3_prime 38 = .ok (.iconst 0, 1) := by decide +kernel
theorem dX3_prime_39 : decode cX3_prime 39 = .ok (.istore_n 3, 1) := by decide +kernel
theorem dX3_prime_40 : decode cX3_prime 40 = .ok (.iload_n 3, 1) := by decide +kernel
theorem dX3_prime_41 : decode cX3_prime 41 = .ok (.aload_n 0, 1) := by decide +kernel
theorem dX3_prime_42 : decode cX3_prime 42 = .ok (.getfield 25, 3) := by decide +kernel
theorem dX3_prime_45 : decode cX3_prime 45 = .ok (.arraylength, 1) := by decide +kernel
theorem dX3_prime_46 : decode cX3_prime 46 = .ok (.if_icmp .ge 18, 3) := by decide +kernel
theorem dX3_prime_49 : decode cX3_prime 49 = .ok (.aload_n 0, 1) := by decide +kernel
theorem dX3_prime_50 : decode cX3_prime 50 = .ok (.getfield 25, 3) := by decide +kernel
theorem dX3_prime_53 : decode cX3_prime 53 = .ok (.iload_n 3, 1) := by decide +kernel
theorem dX3_prime_54 : decode cX3_prime 54 = .ok (.aaload, 1) := by decide +kernel
theorem dX3_prime_55 : decode cX3_prime 55 = .ok (.invokevirtual 56, 3) := by decide +kernel
theorem dX3_prime_58 : decode cX3_prime 58 = .ok (.iinc 3 1, 3) := by decide +kernel
theorem dX3_prime_61 : decode cX3_prime 61 = .ok (.goto (-21), 3) := by decide +kernel
theorem dX3_prime_64 : decode cX3_prime 64 = .ok (.iload_n 2, 1) := by decide +kernel
theorem dX3_prime_65 : decode cX3_prime 65 = .ok (.ireturn, 1) := by decide +kernel
theorem dX3_rest_0 : decode cX3_rest 0 = .ok (.aload_n 0, 1) := by decide +kernel
theorem dX3_rest_1 : decode cX3_rest 1 = .ok (.getfield 10, 3) := by decide +kernel
theorem dX3_rest_4 : decode cX3_rest 4 = .ok (.iload_n 1, 1) := by decide +kernel
theorem dX3_rest_5 : decode cX3_rest 5 = .ok (.i2l, 1) := by decide +kernel
theorem dX3_rest_6 : decode cX3_rest 6 = .ok (.invokevirtual 59, 3) := by decide +kernel
theorem dX3_rest_9 : decode cX3_rest 9 = .ok (.ireturn, 1) := by decide +kernel
theorem dX3_reckon_0 : decode cX3_reckon 0 = .ok (.iload_n 3, 1) := by decide +kernel
theorem dX3_reckon_1 : decode cX3_reckon 1 = .ok (.tableswitch 93 0 3 #[31, 44, 57, 70], 31) := by decide +kernel
theorem dX3_reckon_32 : decode cX3_reckon 32 = .ok (.aload_n 0, 1) := by decide +kernel
theorem dX3_reckon_33 : decode cX3_reckon 33 = .ok (.getfield 10, 3) := by decide +kernel
theorem dX3_reckon_36 : decode cX3_reckon 36 = .ok (.iload_n 1, 1) := by decide +kernel
theorem dX3_reckon_37 : decode cX3_reckon 37 = .ok (.i2l, 1) := by decide +kernel
theorem dX3_reckon_38 : decode cX3_reckon 38 = .ok (.iload_n 2, 1) := by decide +kernel
theorem dX3_reckon_39 : decode cX3_reckon 39 = .ok (.i2l, 1) := by decide +kernel
theorem dX3_reckon_40 : decode cX3_reckon 40 = .ok (.ladd, 1) := by decide +kernel
theorem dX3_reckon_41 : decode cX3_reckon 41 = .ok (.invokevirtual 59, 3) := by decide +kernel
theorem dX3_reckon_44 : decode cX3_reckon 44 = .ok (.ireturn, 1) := by decide +kernel
theorem dX3_reckon_45 : decode cX3_reckon 45 = .ok (.aload_n 0, 1) := by decide +kernel
theorem dX3_reckon_46 : decode cX3_reckon 46 = .ok (.getfield 10, 3) := by decide +kernel
theorem dX3_reckon_49 : decode cX3_reckon 49 = .ok (.iload_n 1, 1) := by decide +kernel
theorem dX3_reckon_50 : decode cX3_reckon 50 = .ok (.i2l, 1) := by decide +kernel
theorem dX3_reckon_51 : decode cX3_reckon 51 = .ok (.iload_n 2, 1) := by decide +kernel
theorem dX3_reckon_52 : decode cX3_reckon 52 = .ok (.i2l, 1) := by decide +kernel
theorem dX3_reckon_53 : decode cX3_reckon 53 = .ok (.lsub, 1) := by decide +kernel
theorem dX3_reckon_54 : decode cX3_reckon 54 = .ok (.invokevirtual 59, 3) := by decide +kernel
theorem dX3_reckon_57 : decode cX3_reckon 57 = .ok (.ireturn, 1) := by decide +kernel
theorem dX3_reckon_58 : decode cX3_reckon 58 = .ok (.aload_n 0, 1) := by decide +kernel
theorem dX3_reckon_59 : decode cX3_reckon 59 = .ok (.getfield 10, 3) := by decide +kernel
theorem dX3_reckon_62 : decode cX3_reckon 62 = .ok (.iload_n 1, 1) := by decide +kernel
theorem dX3_reckon_63 : decode cX3_reckon 63 = .ok (.i2l, 1) := by decide +kernel
theorem dX3_reckon_64 : decode cX3_reckon 64 = .ok (.iload_n 2, 1) := by decide +kernel
theorem dX3_reckon_65 : decode cX3_reckon 65 = .ok (.i2l, 1) := by decide +kernel
theorem dX3_reckon_66 : decode cX3_reckon 66 = .ok (.lmul, 1) := by decide +kernel
theorem dX3_reckon_67 : decode cX3_reckon 67 = .ok (.invokevirtual 59, 3) := by decide +kernel
theorem dX3_reckon_70 : decode cX3_reckon 70 = .ok (.ireturn, 1) := by decide +kernel
theorem dX3_reckon_71 : decode cX3_reckon 71 = .ok (.aload_n 0, 1) := by decide +kernel
theorem dX3_reckon_72 : decode cX3_reckon 72 = .ok (.aload_n 0, 1) := by decide +kernel
theorem dX3_reckon_73 : decode cX3_reckon 73 = .ok (.getfield 10, 3) := by decide +kernel
theorem dX3_reckon_76 : decode cX3_reckon 76 = .ok (.iload_n 1, 1) := by decide +kernel
theorem dX3_reckon_77 : decode cX3_reckon 77 = .ok (.i2l, 1) := by decide +kernel
theorem dX3_reckon_78 : decode cX3_reckon 78 = .ok (.invokevirtual 59, 3) := by decide +kernel
theorem dX3_reckon_81 : decode cX3_reckon 81 = .ok (.aload_n 0, 1) := by decide +kernel
theorem dX3_reckon_82 : decode cX3_reckon 82 = .ok (.getfield 10, 3) := by decide +kernel
theorem dX3_reckon_85 : decode cX3_reckon 85 = .ok (.iload_n 2, 1) := by decide +kernel
theorem dX3_reckon_86 : decode cX3_reckon 86 = .ok (.i2l, 1) := by decide +kernel
theorem dX3_reckon_87 : decode cX3_reckon 87 = .ok (.invokevirtual 59, 3) := by decide +kernel
theorem dX3_reckon_90 : decode cX3_reckon 90 = .ok (.invokevirtual 63, 3) := by decide +kernel
theorem dX3_reckon_93 : decode cX3_reckon 93 = .ok (.ireturn, 1) := by decide +kernel
theorem dX3_reckon_94 : decode cX3_reckon 94 = .ok (.new 42, 3) := by decide +kernel
theorem dX3_reckon_97 : decode cX3_reckon 97 = .ok (.dup, 1) := by decide +kernel
theorem dX3_reckon_98 : decode cX3_reckon 98 = .ok (.ldc 67, 2) := by decide +kernel
theorem dX3_reckon_100 : decode cX3_reckon 100 = .ok (.invokespecial 46, 3) := by decide +kernel
theorem dX3_reckon_103 : decode cX3_reckon 103 = .ok (.athrow, 1) := by decide +kernel
theorem dX3_reciprocal_0 : decode cX3_reciprocal 0 = .ok (.aload_n 0, 1) := by decide +kernel
theorem dX3_reciprocal_1 : decode cX3_reciprocal 1 = .ok (.iconst 1, 1) := by decide +kernel
theorem dX3_reciprocal_2 : decode cX3_reciprocal 2 = .ok (.aload_n 0, 1) := by decide +kernel
theorem dX3_reciprocal_3 : decode cX3_reciprocal 3 = .ok (.getfield 10, 3) := by decide +kernel
theorem dX3_reciprocal_6 : decode cX3_reciprocal 6 = .ok (.iload_n 1, 1) := by decide +kernel
theorem dX3_reciprocal_7 : decode cX3_reciprocal 7 = .ok (.i2l, 1) := by decide +kernel
theorem dX3_reciprocal_8 : decode cX3_reciprocal 8 = .ok (.invokevirtual 59, 3) := by decide +kernel
theorem dX3_reciprocal_11 : decode cX3_reciprocal 11 = .ok (.invokevirtual 63, 3) := by decide +kernel
theorem dX3_reciprocal_14 : decode cX3_reciprocal 14 = .ok (.ireturn, 1) := by decide +kernel
theorem dX3_power_0 : decode cX3_power 0 = .ok (.aload_n 0, 1) := by decide +kernel
theorem dX3_power_1 : decode cX3_power 1 = .ok (.getfield 10, 3) := by decide +kernel
theorem dX3_power_4 : decode cX3_power 4 = .ok (.iload_n 1, 1) := by decide +kernel
theorem dX3_power_5 : decode cX3_power 5 = .ok (.i2l, 1) := by decide +kernel
theorem dX3_power_6 : decode cX3_power 6 = .ok (.invokevirtual 59, 3) := by decide +kernel
theorem dX3_power_9 : decode cX3_power 9 = .ok (.istore_n 3, 1) := by decide +kernel
theorem dX3_power_10 : decode cX3_power 10 = .ok (.iload_n 2, 1) := by decide +kernel
theorem dX3_power_11 : decode cX3_power 11 = .ok (.ifCond .lt 17, 3) := by decide +kernel
theorem dX3_power_14 : decode cX3_power 14 = .ok (.iload_n 3, 1) := by decide +kernel
theorem dX3_power_15 : decode cX3_power 15 = .ok (.iload_n 2, 1) := by decide +kernel
theorem dX3_power_16 : decode cX3_power 16 = .ok (.i2l, 1) := by decide +kernel
theorem dX3_power_17 : decode cX3_power 17 = .ok (.aload_n 0, 1) := by decide +kernel
theorem dX3_power_18 : decode cX3_power 18 = .ok (.getfield 10, 3) := by decide +kernel
theorem dX3_power_21 : decode cX3_power 21 = .ok (.getfield 49, 3) := by decide +kernel
theorem dX3_power_24 : decode cX3_power 24 = .ok (.invokestatic 69, 3) := by decide +kernel
theorem dX3_power_27 : decode cX3_power 27 = .ok (.ireturn, 1) := by decide +kernel
theorem dX3_power_28 : decode cX3_power 28 = .ok (.aload_n 0, 1) := by decide +kernel
theorem dX3_power_29 : decode cX3_power 29 = .ok (.iconst 1, 1) := by decide +kernel
theorem dX3_power_30 : decode cX3_power 30 = .ok (.iload_n 3, 1) := by decide +kernel
theorem dX3_power_31 : decode cX3_power 31 = .ok (.invokevirtual 63, 3) := by decide +kernel
theorem dX3_power_34 : decode cX3_power 34 = .ok (.istore 4, 2) := by decide +kernel
theorem dX3_power_36 : decode cX3_power 36 = .ok (.iload 4, 2) := by decide +kernel
theorem dX3_power_38 : decode cX3_power 38 = .ok (.bipush (-9), 2) := by decide +kernel
theorem dX3_power_40 : decode cX3_power 40 = .ok (.if_icmp .ne 8, 3) := by decide +kernel
theorem dX3_power_43 : decode cX3_power 43 = .ok (.bipush (-9), 2) := by decide +kernel
theorem dX3_power_45 : decode cX3_power 45 = .ok (.goto 18, 3) := by decide +kernel
theorem dX3_power_48 : decode cX3_power 48 = .ok (.iload 4, 2) := by decide +kernel
theorem dX3_power_50 : decode cX3_power 50 = .ok (.iload_n 2, 1) := by decide +kernel
theorem dX3_power_51 : decode cX3_power 51 = .ok (.i2l, 1) := by decide +kernel
theorem dX3_power_52 : decode cX3_power 52 = .ok (.lneg, 1) := by decide +kernel
theorem dX3_power_53 : decode cX3_power 53 = .ok (.aload_n 0, 1) := by decide +kernel
theorem dX3_power_54 : decode cX3_power 54 = .ok (.getfield 10, 3) := by decide +kernel
theorem dX3_power_57 : decode cX3_power 57 = .ok (.getfield 49, 3) := by decide +kernel
theorem dX3_power_60 : decode cX3_power 60 = .ok (.invokestatic 69, 3) := by decide +kernel
theorem dX3_power_63 : decode cX3_power 63 = .ok (.ireturn, 1) := by decide +kernel
theorem dX3_sealOf_0 : decode cX3_sealOf 0 = .ok (.aload_n 0, 1) := by decide +kernel
theorem dX3_sealOf_1 : decode cX3_sealOf 1 = .ok (.getfield 10, 3) := by decide +kernel
theorem dX3_sealOf_4 : decode cX3_sealOf 4 = .ok (.iload_n 1, 1) := by decide +kernel
theorem dX3_sealOf_5 : decode cX3_sealOf 5 = .ok (.invokevirtual 73, 3) := by decide +kernel
theorem dX3_sealOf_8 : decode cX3_sealOf 8 = .ok (.ireturn, 1) := by decide +kernel
theorem dX3_weight_0 : decode cX3_weight 0 = .ok (.aload_n 0, 1) := by decide +kernel
theorem dX3_weight_1 : decode cX3_weight 1 = .ok (.iload_n 2, 1) := by decide +kernel
theorem dX3_weight_2 : decode cX3_weight 2 = .ok (.invokevirtual 77, 3) := by decide +kernel
theorem dX3_weight_5 : decode cX3_weight 5 = .ok (.aload_n 0, 1) := by decide +kernel
theorem dX3_weight_6 : decode cX3_weight 6 = .ok (.iload_n 1, 1) := by decide +kernel
theorem dX3_weight_7 : decode cX3_weight 7 = .ok (.invokevirtual 80, 3) := by decide +kernel
theorem dX3_weight_10 : decode cX3_weight 10 = .ok (.iload_n 1, 1) := by decide +kernel
theorem dX3_weight_11 : decode cX3_weight 11 = .ok (.iload_n 2, 1) := by decide +kernel
theorem dX3_weight_12 : decode cX3_weight 12 = .ok (.invokestatic 83, 3) := by decide +kernel
theorem dX3_weight_15 : decode cX3_weight 15 = .ok (.ifCond .eq 16, 3) := by decide +kernel
theorem dX3_weight_18 : decode cX3_weight 18 = .ok (.aload_n 0, 1) := by decide +kernel
theorem dX3_weight_19 : decode cX3_weight 19 = .ok (.getfield 10, 3) := by decide +kernel
theorem dX3_weight_22 : decode cX3_weight 22 = .ok (.iload_n 1, 1) := by decide +kernel
theorem dX3_weight_23 : decode cX3_weight 23 = .ok (.iload_n 2, 1) := by decide +kernel
theorem dX3_weight_24 : decode cX3_weight 24 = .ok (.iload_n 3, 1) := by decide +kernel
theorem dX3_weight_25 : decode cX3_weight 25 = .ok (.invokevirtual 87, 3) := by decide +kernel
theorem dX3_weight_28 : decode cX3_weight 28 = .ok (.goto 5, 3) := by decide +kernel
theorem dX3_weight_31 : decode cX3_weight 31 = .ok (.bipush (-9), 2) := by decide +kernel
theorem dX3_weight_33 : decode cX3_weight 33 = .ok (.ireturn, 1) := by decide +kernel
theorem dX3_weights_0 : decode cX3_weights 0 = .ok (.aload_n 0, 1) := by decide +kernel
theorem dX3_weights_1 : decode cX3_weights 1 = .ok (.iload_n 1, 1) := by decide +kernel
theorem dX3_weights_2 : decode cX3_weights 2 = .ok (.invokevirtual 80, 3) := by decide +kernel
theorem dX3_weights_5 : decode cX3_weights 5 = .ok (.aload_n 0, 1) := by decide +kernel
theorem dX3_weights_6 : decode cX3_weights 6 = .ok (.iload_n 1, 1) := by decide +kernel
theorem dX3_weights_7 : decode cX3_weights 7 = .ok (.iload_n 2, 1) := by decide +kernel
theorem dX3_weights_8 : decode cX3_weights 8 = .ok (.invokevirtual 91, 3) := by decide +kernel
theorem dX3_weights_11 : decode cX3_weights 11 = .ok (.ireturn, 1) := by decide +kernel
theorem dX3_hide_0 : decode cX3_hide 0 = .ok (.aload_n 0, 1) := by decide +kernel
theorem dX3_hide_1 : decode cX3_hide 1 = .ok (.iload_n 1, 1) := by decide +kernel
theorem dX3_hide_2 : decode cX3_hide 2 = .ok (.invokevirtual 94, 3) := by decide +kernel
theorem dX3_hide_5 : decode cX3_hide 5 = .ok (.astore 7, 2) := by decide +kernel
theorem dX3_hide_7 : decode cX3_hide 7 = .ok (.iload_n 2, 1) := by decide +kernel
theorem dX3_hide_8 : decode cX3_hide 8 = .ok (.invokestatic 98, 3) := by decide +kernel
theorem dX3_hide_11 : decode cX3_hide 11 = .ok (.aload_n 0, 1) := by decide +kernel
theorem dX3_hide_12 : decode cX3_hide 12 = .ok (.getfield 19, 3) := by decide +kernel
theorem dX3_hide_15 : decode cX3_hide 15 = .ok (.aload_n 0, 1) := by decide +kernel
theorem dX3_hide_16 : decode cX3_hide 16 = .ok (.getfield 10, 3) := by decide +kernel
theorem dX3_hide_19 : decode cX3_hide 19 = .ok (.iload_n 2, 1) := by decide +kernel
theorem dX3_hide_20 : decode cX3_hide 20 = .ok (.iload_n 3, 1) := by decide +kernel
theorem dX3_hide_21 : decode cX3_hide 21 = .ok (.iload 4, 2) := by decide +kernel
theorem dX3_hide_23 : decode cX3_hide 23 = .ok (.iload 5, 2) := by decide +kernel
theorem dX3_hide_25 : decode cX3_hide 25 = .ok (.iload 6, 2) := by decide +kernel
theorem dX3_hide_27 : decode cX3_hide 27 = .ok (.invokevirtual 101, 3) := by decide +kernel
theorem dX3_hide_30 : decode cX3_hide 30 = .ok (.aload_n 0, 1) := by decide +kernel
theorem dX3_hide_31 : decode cX3_hide 31 = .ok (.aload 7, 2) := by decide +kernel
theorem dX3_hide_33 : decode cX3_hide 33 = .ok (.iload_n 2, 1) := by decide +kernel
theorem dX3_hide_34 : decode cX3_hide 34 = .ok (.invokevirtual 105, 3) := by decide +kernel
theorem dX3_hide_37 : decode cX3_hide 37 = .ok (.ireturn, 1) := by decide +kernel
theorem dX3_pour_0 : decode cX3_pour 0 = .ok (.aload_n 0, 1) := by decide +kernel
theorem dX3_pour_1 : decode cX3_pour 1 = .ok (.iload_n 1, 1) := by decide +kernel
theorem dX3_pour_2 : decode cX3_pour 2 = .ok (.invokevirtual 94, 3) := by decide +kernel
theorem dX3_pour_5 : decode cX3_pour 5 = .ok (.astore 6, 2) := by decide +kernel
theorem dX3_pour_7 : decode cX3_pour 7 = .ok (.aload 6, 2) := by decide +kernel
theorem dX3_pour_9 : decode cX3_pour 9 = .ok (.invokevirtual 109, 3) := by decide +kernel
theorem dX3_pour_12 : decode cX3_pour 12 = .ok (.ifCond .eq 6, 3) := by decide +kernel
theorem dX3_pour_15 : decode cX3_pour 15 = .ok (.bipush (-9), 2) := by decide +kernel
theorem dX3_pour_17 : decode cX3_pour 17 = .ok (.ireturn, 1) := by decide +kernel
theorem dX3_pour_18 : decode cX3_pour 18 = .ok (.aload_n 0, 1) := by decide +kernel
theorem dX3_pour_19 : decode cX3_pour 19 = .ok (.getfield 19, 3) := by decide +kernel
theorem dX3_pour_22 : decode cX3_pour 22 = .ok (.aload_n 0, 1) := by decide +kernel
theorem dX3_pour_23 : decode cX3_pour 23 = .ok (.getfield 10, 3) := by decide +kernel
theorem dX3_pour_26 : decode cX3_pour 26 = .ok (.aload 6, 2) := by decide +kernel
theorem dX3_pour_28 : decode cX3_pour 28 = .ok (.getfield 113, 3) := by decide +kernel
theorem dX3_pour_31 : decode cX3_pour 31 = .ok (.iload_n 2, 1) := by decide +kernel
theorem dX3_pour_32 : decode cX3_pour 32 = .ok (.iload_n 3, 1) := by decide +kernel
theorem dX3_pour_33 : decode cX3_pour 33 = .ok (.iload 4, 2) := by decide +kernel
theorem dX3_pour_35 : decode cX3_pour 35 = .ok (.iload 5, 2) := by decide +kernel
theorem dX3_pour_37 : decode cX3_pour 37 = .ok (.invokevirtual 101, 3) := by decide +kernel
theorem dX3_pour_40 : decode cX3_pour 40 = .ok (.iconst 1, 1) := by decide +kernel
theorem dX3_pour_41 : decode cX3_pour 41 = .ok (.istore 7, 2) := by decide +kernel
theorem dX3_pour_43 : decode cX3_pour 43 = .ok (.iload 7, 2) := by decide +kernel
theorem dX3_pour_45 : decode cX3_pour 45 = .ok (.aload_n 0, 1) := by decide +kernel
theorem dX3_pour_46 : decode cX3_pour 46 = .ok (.getfield 10, 3) := by decide +kernel
theorem dX3_pour_49 : decode cX3_pour 49 = .ok (.getfield 116, 3) := by decide +kernel
theorem dX3_pour_52 : decode cX3_pour 52 = .ok (.if_icmp .gt 60, 3) := by decide +kernel
theorem dX3_pour_55 : decode cX3_pour 55 = .ok (.aload 6, 2) := by decide +kernel
theorem dX3_pour_57 : decode cX3_pour 57 = .ok (.iload 7, 2) := by decide +kernel
theorem dX3_pour_59 : decode cX3_pour 59 = .ok (.invokevirtual 119, 3) := by decide +kernel
theorem dX3_pour_62 : decode cX3_pour 62 = .ok (.ifCond .eq 44, 3) := by decide +kernel
theorem dX3_pour_65 : decode cX3_pour 65 = .ok (.aload 6, 2) := by decide +kernel
theorem dX3_pour_67 : decode cX3_pour 67 = .ok (.iload 7, 2) := by decide +kernel
theorem dX3_pour_69 : decode cX3_pour 69 = .ok (.invokevirtual 123, 3) := by decide +kernel
theorem dX3_pour_72 : decode cX3_pour 72 = .ok (.i2l, 1) := by decide +kernel
theorem dX3_pour_73 : decode cX3_pour 73 = .ok (.aload_n 0, 1) := by decide +kernel
theorem dX3_pour_74 : decode cX3_pour 74 = .ok (.getfield 19, 3) := by decide +kernel
theorem dX3_pour_77 : decode cX3_pour 77 = .ok (.aload_n 0, 1) := by decide +kernel
theorem dX3_pour_78 : decode cX3_pour 78 = .ok (.getfield 10, 3) := by decide +kernel
theorem dX3_pour_81 : decode cX3_pour 81 = .ok (.iload 7, 2) := by decide +kernel
theorem dX3_pour_83 : decode cX3_pour 83 = .ok (.invokevirtual 126, 3) := by decide +kernel
theorem dX3_pour_86 : decode cX3_pour 86 = .ok (.i2l, 1) := by decide +kernel
theorem dX3_pour_87 : decode cX3_pour 87 = .ok (.ladd, 1) := by decide +kernel
theorem dX3_pour_88 : decode cX3_pour 88 = .ok (.lstore 8, 2) := by decide +kernel
theorem dX3_pour_90 : decode cX3_pour 90 = .ok (.aload 6, 2) := by decide +kernel
theorem dX3_pour_92 : decode cX3_pour 92 = .ok (.iload 7, 2) := by decide +kernel
theorem dX3_pour_94 : decode cX3_pour 94 = .ok (.aload_n 0, 1) := by decide +kernel
theorem dX3_pour_95 : decode cX3_pour 95 = .ok (.getfield 10, 3) := by decide +kernel
theorem dX3_pour_98 : decode cX3_pour 98 = .ok (.lload 8, 2) := by decide +kernel
theorem dX3_pour_100 : decode cX3_pour 100 = .ok (.invokevirtual 59, 3) := by decide +kernel
theorem dX3_pour_103 : decode cX3_pour 103 = .ok (.invokevirtual 130, 3) := by decide +kernel
theorem dX3_pour_106 : decode cX3_pour 106 = .ok (.iinc 7 1, 3) := by decide +kernel
theorem dX3_pour_109 : decode cX3_pour 109 = .ok (.goto (-66), 3) := by decide +kernel
theorem dX3_pour_112 : decode cX3_pour 112 = .ok (.iconst 0, 1) := by decide +kernel
theorem dX3_pour_113 : decode cX3_pour 113 = .ok (.istore 7, 2) := by decide +kernel
theorem dX3_pour_115 : decode cX3_pour 115 = .ok (.iload 7, 2) := by decide +kernel
theorem dX3_pour_117 : decode cX3_pour 117 = .ok (.aload 6, 2) := by decide +kernel
theorem dX3_pour_119 : decode cX3_pour 119 = .ok (.getfield 134, 3) := by decide +kernel
theorem dX3_pour_122 : decode cX3_pour 122 = .ok (.if_icmp .ge 46, 3) := by decide +kernel
theorem dX3_pour_125 : decode cX3_pour 125 = .ok (.aload 6, 2) := by decide +kernel
theorem dX3_pour_127 : decode cX3_pour 127 = .ok (.iload 7, 2) := by decide +kernel
theorem dX3_pour_129 : decode cX3_pour 129 = .ok (.aload_n 0, 1) := by decide +kernel
theorem dX3_pour_130 : decode cX3_pour 130 = .ok (.getfield 10, 3) := by decide +kernel
theorem dX3_pour_133 : decode cX3_pour 133 = .ok (.aload 6, 2) := by decide +kernel
theorem dX3_pour_135 : decode cX3_pour 135 = .ok (.iload 7, 2) := by decide +kernel
theorem dX3_pour_137 : decode cX3_pour 137 = .ok (.invokevirtual 137, 3) := by decide +kernel
theorem dX3_pour_140 : decode cX3_pour 140 = .ok (.aload_n 0, 1) := by decide +kernel
theorem dX3_pour_141 : decode cX3_pour 141 = .ok (.getfield 10, 3) := by decide +kernel
theorem dX3_pour_144 : decode cX3_pour 144 = .ok (.aload_n 0, 1) := by decide +kernel
theorem dX3_pour_145 : decode cX3_pour 145 = .ok (.getfield 19, 3) := by decide +kernel
theorem dX3_pour_148 : decode cX3_pour 148 = .ok (.iload 7, 2) := by decide +kernel
theorem dX3_pour_150 : decode cX3_pour 150 = .ok (.invokevirtual 140, 3) := by decide +kernel
theorem dX3_pour_153 : decode cX3_pour 153 = .ok (.invokevirtual 73, 3) := by decide +kernel
theorem dX3_pour_156 : decode cX3_pour 156 = .ok (.invokevirtual 143, 3) := by decide +kernel
theorem dX3_pour_159 : decode cX3_pour 159 = .ok (.invokevirtual 146, 3) := by decide +kernel
theorem dX3_pour_162 : decode cX3_pour 162 = .ok (.iinc 7 1, 3) := by decide +kernel
theorem dX3_pour_165 : decode cX3_pour 165 = .ok (.goto (-50), 3) := by decide +kernel
theorem dX3_pour_168 : decode cX3_pour 168 = .ok (.aload 6, 2) := by decide +kernel
theorem dX3_pour_170 : decode cX3_pour 170 = .ok (.invokevirtual 149, 3) := by decide +kernel
theorem dX3_pour_173 : decode cX3_pour 173 = .ok (.ireturn, 1) := by decide +kernel
theorem dX3_plus_0 : decode cX3_plus 0 = .ok (.aload_n 0, 1) := by decide +kernel
theorem dX3_plus_1 : decode cX3_plus 1 = .ok (.aload_n 0, 1) := by decide +kernel
theorem dX3_plus_2 : decode cX3_plus 2 = .ok (.iload_n 1, 1) := by decide +kernel
theorem dX3_plus_3 : decode cX3_plus 3 = .ok (.invokevirtual 94, 3) := by decide +kernel
theorem dX3_plus_6 : decode cX3_plus 6 = .ok (.aload_n 0, 1) := by decide +kernel
theorem dX3_plus_7 : decode cX3_plus 7 = .ok (.iload_n 2, 1) := by decide +kernel
theorem dX3_plus_8 : decode cX3_plus 8 = .ok (.invokevirtual 94, 3) := by decide +kernel
theorem dX3_plus_11 : decode cX3_plus 11 = .ok (.aload_n 0, 1) := by decide +kernel
theorem dX3_plus_12 : decode cX3_plus 12 = .ok (.iload_n 3, 1) := by decide +kernel
theorem dX3_plus_13 : decode cX3_plus 13 = .ok (.invokevirtual 94, 3) := by decide +kernel
theorem dX3_plus_16 : decode cX3_plus 16 = .ok (.iconst 0, 1) := by decide +kernel
theorem dX3_plus_17 : decode cX3_plus 17 = .ok (.invokevirtual 153, 3) := by decide +kernel
theorem dX3_plus_20 : decode cX3_plus 20 = .ok (.ireturn, 1) := by decide +kernel
theorem dX3_less_0 : decode cX3_less 0 = .ok (.aload_n 0, 1) := by decide +kernel
theorem dX3_less_1 : decode cX3_less 1 = .ok (.aload_n 0, 1) := by decide +kernel
theorem dX3_less_2 : decode cX3_less 2 = .ok (.iload_n 1, 1) := by decide +kernel
theorem dX3_less_3 : decode cX3_less 3 = .ok (.invokevirtual 94, 3) := by decide +kernel
theorem dX3_less_6 : decode cX3_less 6 = .ok (.aload_n 0, 1) := by decide +kernel
theorem dX3_less_7 : decode cX3_less 7 = .ok (.iload_n 2, 1) := by decide +kernel
theorem dX3_less_8 : decode cX3_less 8 = .ok (.invokevirtual 94, 3) := by decide +kernel
theorem dX3_less_11 : decode cX3_less 11 = .ok (.aload_n 0, 1) := by decide +kernel
theorem dX3_less_12 : decode cX3_less 12 = .ok (.iload_n 3, 1) := by decide +kernel
theorem dX3_less_13 : decode cX3_less 13 = .ok (.invokevirtual 94, 3) := by decide +kernel
theorem dX3_less_16 : decode cX3_less 16 = .ok (.iconst 1, 1) := by decide +kernel
theorem dX3_less_17 : decode cX3_less 17 = .ok (.invokevirtual 153, 3) := by decide +kernel
theorem dX3_less_20 : decode cX3_less 20 = .ok (.ireturn, 1) := by decide +kernel
theorem dX3_times_0 : decode cX3_times 0 = .ok (.aload_n 0, 1) := by decide +kernel
theorem dX3_times_1 : decode cX3_times 1 = .ok (.iload_n 1, 1) := by decide +kernel
theorem dX3_times_2 : decode cX3_times 2 = .ok (.invokevirtual 94, 3) := by decide +kernel
theorem dX3_times_5 : decode cX3_times 5 = .ok (.astore 4, 2) := by decide +kernel
theorem dX3_times_7 : decode cX3_times 7 = .ok (.aload_n 0, 1) := by decide +kernel
theorem dX3_times_8 : decode cX3_times 8 = .ok (.iload_n 2, 1) := by decide +kernel
theorem dX3_times_9 : decode cX3_times 9 = .ok (.invokevirtual 94, 3) := by decide +kernel
theorem dX3_times_12 : decode cX3_times 12 = .ok (.astore 5, 2) := by decide +kernel
theorem dX3_times_14 : decode cX3_times 14 = .ok (.aload_n 0, 1) := by decide +kernel
theorem dX3_times_15 : decode cX3_times 15 = .ok (.iload_n 3, 1) := by decide +kernel
theorem dX3_times_16 : decode cX3_times 16 = .ok (.invokevirtual 94, 3) := by decide +kernel
theorem dX3_times_19 : decode cX3_times 19 = .ok (.astore 6, 2) := by decide +kernel
theorem dX3_times_21 : decode cX3_times 21 = .ok (.aload 4, 2) := by decide +kernel
theorem dX3_times_23 : decode cX3_times 23 = .ok (.invokevirtual 109, 3) := by decide +kernel
theorem dX3_times_26 : decode cX3_times 26 = .ok (.ifCond .ne 27, 3) := by decide +kernel
theorem dX3_times_29 : decode cX3_times 29 = .ok (.aload 5, 2) := by decide +kernel
theorem dX3_times_31 : decode cX3_times 31 = .ok (.invokevirtual 109, 3) := by decide +kernel
theorem dX3_times_34 : decode cX3_times 34 = .ok (.ifCond .ne 19, 3) := by decide +kernel
theorem dX3_times_37 : decode cX3_times 37 = .ok (.aload 4, 2) := by decide +kernel
theorem dX3_times_39 : decode cX3_times 39 = .ok (.getfield 113, 3) := by decide +kernel
theorem dX3_times_42 : decode cX3_times 42 = .ok (.aload 5, 2) := by decide +kernel
theorem dX3_times_44 : decode cX3_times 44 = .ok (.getfield 113, 3) := by decide +kernel
theorem dX3_times_47 : decode cX3_times 47 = .ok (.iadd, 1) := by decide +kernel
theorem dX3_times_48 : decode cX3_times 48 = .ok (.bipush 6, 2) := by decide +kernel
theorem dX3_times_50 : decode cX3_times 50 = .ok (.if_icmp .le 6, 3) := by decide +kernel
theorem dX3_times_53 : decode cX3_times 53 = .ok (.bipush (-9), 2) := by decide +kernel
theorem dX3_times_55 : decode cX3_times 55 = .ok (.ireturn, 1) := by decide +kernel
theorem dX3_times_56 : decode cX3_times 56 = .ok (.aload_n 0, 1) := by decide +kernel
theorem dX3_times_57 : decode cX3_times 57 = .ok (.getfield 30, 3) := by decide +kernel
theorem dX3_times_60 : decode cX3_times 60 = .ok (.aload 4, 2) := by decide +kernel
theorem dX3_times_62 : decode cX3_times 62 = .ok (.getfield 113, 3) := by decide +kernel
theorem dX3_times_65 : decode cX3_times 65 = .ok (.aload 5, 2) := by decide +kernel
theorem dX3_times_67 : decode cX3_times 67 = .ok (.getfield 113, 3) := by decide +kernel
theorem dX3_times_70 : decode cX3_times 70 = .ok (.iadd, 1) := by decide +kernel
theorem dX3_times_71 : decode cX3_times 71 = .ok (.invokevirtual 157, 3) := by decide +kernel
theorem dX3_times_74 : decode cX3_times 74 = .ok (.iconst 1, 1) := by decide +kernel
theorem dX3_times_75 : decode cX3_times 75 = .ok (.istore 7, 2) := by decide +kernel
theorem dX3_times_77 : decode cX3_times 77 = .ok (.iload 7, 2) := by decide +kernel
theorem dX3_times_79 : decode cX3_times 79 = .ok (.aload_n 0, 1) := by decide +kernel
theorem dX3_times_80 : decode cX3_times 80 = .ok (.getfield 10, 3) := by decide +kernel
theorem dX3_times_83 : decode cX3_times 83 = .ok (.getfield 116, 3) := by decide +kernel
theorem dX3_times_86 : decode cX3_times 86 = .ok (.if_icmp .gt 66, 3) := by decide +kernel
theorem dX3_times_89 : decode cX3_times 89 = .ok (.aload 4, 2) := by decide +kernel
theorem dX3_times_91 : decode cX3_times 91 = .ok (.iload 7, 2) := by decide +kernel
theorem dX3_times_93 : decode cX3_times 93 = .ok (.invokevirtual 119, 3) := by decide +kernel
theorem dX3_times_96 : decode cX3_times 96 = .ok (.ifCond .eq 50, 3) := by decide +kernel
theorem dX3_times_99 : decode cX3_times 99 = .ok (.aload 5, 2) := by decide +kernel
theorem dX3_times_101 : decode cX3_times 101 = .ok (.iload 7, 2) := by decide +kernel
theorem dX3_times_103 : decode cX3_times 103 = .ok (.invokevirtual 119, 3) := by decide +kernel
theorem dX3_times_106 : decode cX3_times 106 = .ok (.ifCond .eq 40, 3) := by decide +kernel
theorem dX3_times_109 : decode cX3_times 109 = .ok (.aload 4, 2) := by decide +kernel
theorem dX3_times_111 : decode cX3_times 111 = .ok (.iload 7, 2) := by decide +kernel
theorem dX3_times_113 : decode cX3_times 113 = .ok (.invokevirtual 123, 3) := by decide +kernel
theorem dX3_times_116 : decode cX3_times 116 = .ok (.i2l, 1) := by decide +kernel
theorem dX3_times_117 : decode cX3_times 117 = .ok (.aload 5, 2) := by decide +kernel
theorem dX3_times_119 : decode cX3_times 119 = .ok (.iload 7, 2) := by decide +kernel
theorem dX3_times_121 : decode cX3_times 121 = .ok (.invokevirtual 123, 3) := by decide +kernel
theorem dX3_times_124 : decode cX3_times 124 = .ok (.i2l, 1) := by decide +kernel
theorem dX3_times_125 : decode cX3_times 125 = .ok (.lmul, 1) := by decide +kernel
theorem dX3_times_126 : decode cX3_times 126 = .ok (.lstore 8, 2) := by decide +kernel
theorem dX3_times_128 : decode cX3_times 128 = .ok (.aload_n 0, 1) := by decide +kernel
theorem dX3_times_129 : decode cX3_times 129 = .ok (.getfield 30, 3) := by decide +kernel
theorem dX3_times_132 : decode cX3_times 132 = .ok (.iload 7, 2) := by decide +kernel
theorem dX3_times_134 : decode cX3_times 134 = .ok (.aload_n 0, 1) := by decide +kernel
theorem dX3_times_135 : decode cX3_times 135 = .ok (.getfield 10, 3) := by decide +kernel
theorem dX3_times_138 : decode cX3_times 138 = .ok (.lload 8, 2) := by decide +kernel
theorem dX3_times_140 : decode cX3_times 140 = .ok (.invokevirtual 59, 3) := by decide +kernel
theorem dX3_times_143 : decode cX3_times 143 = .ok (.invokevirtual 130, 3) := by decide +kernel
theorem dX3_times_146 : decode cX3_times 146 = .ok (.iinc 7 1, 3) := by decide +kernel
theorem dX3_times_149 : decode cX3_times 149 = .ok (.goto (-72), 3) := by decide +kernel
theorem dX3_times_152 : decode cX3_times 152 = .ok (.aload_n 0, 1) := by decide +kernel
theorem dX3_times_153 : decode cX3_times 153 = .ok (.aload 6, 2) := by decide +kernel
theorem dX3_times_155 : decode cX3_times 155 = .ok (.invokevirtual 160, 3) := by decide +kernel
theorem dX3_times_158 : decode cX3_times 158 = .ok (.ireturn, 1) := by decide +kernel
theorem dX3_scale_0 : decode cX3_scale 0 = .ok (.aload_n 0, 1) := by decide +kernel
theorem dX3_scale_1 : decode cX3_scale 1 = .ok (.iload_n 1, 1) := by decide +kernel
theorem dX3_scale_2 : decode cX3_scale 2 = .ok (.invokevirtual 94, 3) := by decide +kernel
theorem dX3_scale_5 : decode cX3_scale 5 = .ok (.astore 4, 2) := by decide +kernel
theorem dX3_scale_7 : decode cX3_scale 7 = .ok (.aload_n 0, 1) := by decide +kernel
theorem dX3_scale_8 : decode cX3_scale 8 = .ok (.iload_n 3, 1) := by decide +kernel
theorem dX3_scale_9 : decode cX3_scale 9 = .ok (.invokevirtual 94, 3) := by decide +kernel
theorem dX3_scale_12 : decode cX3_scale 12 = .ok (.astore 5, 2) := by decide +kernel
theorem dX3_scale_14 : decode cX3_scale 14 = .ok (.aload 4, 2) := by decide +kernel
theorem dX3_scale_16 : decode cX3_scale 16 = .ok (.invokevirtual 109, 3) := by decide +kernel
theorem dX3_scale_19 : decode cX3_scale 19 = .ok (.ifCond .eq 6, 3) := by decide +kernel
theorem dX3_scale_22 : decode cX3_scale 22 = .ok (.bipush (-9), 2) := by decide +kernel
theorem dX3_scale_24 : decode cX3_scale 24 = .ok (.ireturn, 1) := by decide +kernel
theorem dX3_scale_25 : decode cX3_scale 25 = .ok (.aload_n 0, 1) := by decide +kernel
theorem dX3_scale_26 : decode cX3_scale 26 = .ok (.getfield 10, 3) := by decide +kernel
theorem dX3_scale_29 : decode cX3_scale 29 = .ok (.iload_n 2, 1) := by decide +kernel
theorem dX3_scale_30 : decode cX3_scale 30 = .ok (.i2l, 1) := by decide +kernel
theorem dX3_scale_31 : decode cX3_scale 31 = .ok (.invokevirtual 59, 3) := by decide +kernel
theorem dX3_scale_34 : decode cX3_scale 34 = .ok (.istore 6, 2) := by decide +kernel
theorem dX3_scale_36 : decode cX3_scale 36 = .ok (.aload_n 0, 1) := by decide +kernel
theorem dX3_scale_37 : decode cX3_scale 37 = .ok (.getfield 30, 3) := by decide +kernel
theorem dX3_scale_40 : decode cX3_scale 40 = .ok (.aload 4, 2) := by decide +kernel
theorem dX3_scale_42 : decode cX3_scale 42 = .ok (.getfield 113, 3) := by decide +kernel
theorem dX3_scale_45 : decode cX3_scale 45 = .ok (.invokevirtual 157, 3) := by decide +kernel
theorem dX3_scale_48 : decode cX3_scale 48 = .ok (.iconst 1, 1) := by decide +kernel
theorem dX3_scale_49 : decode cX3_scale 49 = .ok (.istore 7, 2) := by decide +kernel
theorem dX3_scale_51 : decode cX3_scale 51 = .ok (.iload 7, 2) := by decide +kernel
theorem dX3_scale_53 : decode cX3_scale 53 = .ok (.aload_n 0, 1) := by decide +kernel
theorem dX3_scale_54 : decode cX3_scale 54 = .ok (.getfield 10, 3) := by decide +kernel
theorem dX3_scale_57 : decode cX3_scale 57 = .ok (.getfield 116, 3) := by decide +kernel
theorem dX3_scale_60 : decode cX3_scale 60 = .ok (.if_icmp .gt 47, 3) := by decide +kernel
theorem dX3_scale_63 : decode cX3_scale 63 = .ok (.aload 4, 2) := by decide +kernel
theorem dX3_scale_65 : decode cX3_scale 65 = .ok (.iload 7, 2) := by decide +kernel
theorem dX3_scale_67 : decode cX3_scale 67 = .ok (.invokevirtual 119, 3) := by decide +kernel
theorem dX3_scale_70 : decode cX3_scale 70 = .ok (.ifCond .eq 31, 3) := by decide +kernel
theorem dX3_scale_73 : decode cX3_scale 73 = .ok (.aload_n 0, 1) := by decide +kernel
theorem dX3_scale_74 : decode cX3_scale 74 = .ok (.getfield 30, 3) := by decide +kernel
theorem dX3_scale_77 : decode cX3_scale 77 = .ok (.iload 7, 2) := by decide +kernel
theorem dX3_scale_79 : decode cX3_scale 79 = .ok (.aload_n 0, 1) := by decide +kernel
theorem dX3_scale_80 : decode cX3_scale 80 = .ok (.getfield 10, 3) := by decide +kernel
theorem dX3_scale_83 : decode cX3_scale 83 = .ok (.aload 4, 2) := by decide +kernel
theorem dX3_scale_85 : decode cX3_scale 85 = .ok (.iload 7, 2) := by decide +kernel
theorem dX3_scale_87 : decode cX3_scale 87 = .ok (.invokevirtual 123, 3) := by decide +kernel
theorem dX3_scale_90 : decode cX3_scale 90 = .ok (.i2l, 1) := by decide +kernel
theorem dX3_scale_91 : decode cX3_scale 91 = .ok (.iload 6, 2) := by decide +kernel
theorem dX3_scale_93 : decode cX3_scale 93 = .ok (.i2l, 1) := by decide +kernel
theorem dX3_scale_94 : decode cX3_scale 94 = .ok (.lmul, 1) := by decide +kernel
theorem dX3_scale_95 : decode cX3_scale 95 = .ok (.invokevirtual 59, 3) := by decide +kernel
theorem dX3_scale_98 : decode cX3_scale 98 = .ok (.invokevirtual 130, 3) := by decide +kernel
theorem dX3_scale_101 : decode cX3_scale 101 = .ok (.iinc 7 1, 3) := by decide +kernel
theorem dX3_scale_104 : decode cX3_scale 104 = .ok (.goto (-53), 3) := by decide +kernel
theorem dX3_scale_107 : decode cX3_scale 107 = .ok (.iconst 0, 1) := by decide +kernel
theorem dX3_scale_108 : decode cX3_scale 108 = .ok (.istore 7, 2) := by decide +kernel
theorem dX3_scale_110 : decode cX3_scale 110 = .ok (.iload 7, 2) := by decide +kernel
theorem dX3_scale_112 : decode cX3_scale 112 = .ok (.aload 4, 2) := by decide +kernel
theorem dX3_scale_114 : decode cX3_scale 114 = .ok (.getfield 134, 3) := by decide +kernel
theorem dX3_scale_117 : decode cX3_scale 117 = .ok (.if_icmp .ge 36, 3) := by decide +kernel
theorem dX3_scale_120 : decode cX3_scale 120 = .ok (.aload_n 0, 1) := by decide +kernel
theorem dX3_scale_121 : decode cX3_scale 121 = .ok (.getfield 30, 3) := by decide +kernel
theorem dX3_scale_124 : decode cX3_scale 124 = .ok (.aload 4, 2) := by decide +kernel
theorem dX3_scale_126 : decode cX3_scale 126 = .ok (.iload 7, 2) := by decide +kernel
theorem dX3_scale_128 : decode cX3_scale 128 = .ok (.invokevirtual 137, 3) := by decide +kernel
theorem dX3_scale_131 : decode cX3_scale 131 = .ok (.iload 6, 2) := by decide +kernel
theorem dX3_scale_133 : decode cX3_scale 133 = .ok (.i2l, 1) := by decide +kernel
theorem dX3_scale_134 : decode cX3_scale 134 = .ok (.aload_n 0, 1) := by decide +kernel
theorem dX3_scale_135 : decode cX3_scale 135 = .ok (.getfield 10, 3) := by decide +kernel
theorem dX3_scale_138 : decode cX3_scale 138 = .ok (.getfield 164, 3) := by decide +kernel
theorem dX3_scale_141 : decode cX3_scale 141 = .ok (.invokestatic 69, 3) := by decide +kernel
theorem dX3_scale_144 : decode cX3_scale 144 = .ok (.invokevirtual 167, 3) := by decide +kernel
theorem dX3_scale_147 : decode cX3_scale 147 = .ok (.iinc 7 1, 3) := by decide +kernel
theorem dX3_scale_150 : decode cX3_scale 150 = .ok (.goto (-40), 3) := by decide +kernel
theorem dX3_scale_153 : decode cX3_scale 153 = .ok (.aload_n 0, 1) := by decide +kernel
theorem dX3_scale_154 : decode cX3_scale 154 = .ok (.aload 5, 2) := by decide +kernel
theorem dX3_scale_156 : decode cX3_scale 156 = .ok (.invokevirtual 160, 3) := by decide +kernel
theorem dX3_scale_159 : decode cX3_scale 159 = .ok (.ireturn, 1) := by decide +kernel
theorem dX3_handOn_0 : decode cX3_handOn 0 = .ok (.aload_n 0, 1) := by decide +kernel
theorem dX3_handOn_1 : decode cX3_handOn 1 = .ok (.iload_n 1, 1) := by decide +kernel
theorem dX3_handOn_2 : decode cX3_handOn 2 = .ok (.invokevirtual 94, 3) := by decide +kernel
theorem dX3_handOn_5 : decode cX3_handOn 5 = .ok (.astore 7, 2) := by decide +kernel
theorem dX3_handOn_7 : decode cX3_handOn 7 = .ok (.aload_n 0, 1) := by decide +kernel
theorem dX3_handOn_8 : decode cX3_handOn 8 = .ok (.iload_n 3, 1) := by decide +kernel
theorem dX3_handOn_9 : decode cX3_handOn 9 = .ok (.invokevirtual 94, 3) := by decide +kernel
theorem dX3_handOn_12 : decode cX3_handOn 12 = .ok (.astore 8, 2) := by decide +kernel
theorem dX3_handOn_14 : decode cX3_handOn 14 = .ok (.aload_n 0, 1) := by decide +kernel
theorem dX3_handOn_15 : decode cX3_handOn 15 = .ok (.iload_n 2, 1) := by decide +kernel
theorem dX3_handOn_16 : decode cX3_handOn 16 = .ok (.invokevirtual 80, 3) := by decide +kernel
theorem dX3_handOn_19 : decode cX3_handOn 19 = .ok (.iload 4, 2) := by decide +kernel
theorem dX3_handOn_21 : decode cX3_handOn 21 = .ok (.invokestatic 98, 3) := by decide +kernel
theorem dX3_handOn_24 : decode cX3_handOn 24 = .ok (.aload 7, 2) := by decide +kernel
theorem dX3_handOn_26 : decode cX3_handOn 26 = .ok (.iload_n 2, 1) := by decide +kernel
theorem dX3_handOn_27 : decode cX3_handOn 27 = .ok (.invokevirtual 170, 3) := by decide +kernel
theorem dX3_handOn_30 : decode cX3_handOn 30 = .ok (.ifCond .ne 6, 3) := by decide +kernel
theorem dX3_handOn_33 : decode cX3_handOn 33 = .ok (.bipush (-9), 2) := by decide +kernel
theorem dX3_handOn_35 : decode cX3_handOn 35 = .ok (.ireturn, 1) := by decide +kernel
theorem dX3_handOn_36 : decode cX3_handOn 36 = .ok (.aload_n 0, 1) := by decide +kernel
theorem dX3_handOn_37 : decode cX3_handOn 37 = .ok (.getfield 19, 3) := by decide +kernel
theorem dX3_handOn_40 : decode cX3_handOn 40 = .ok (.invokevirtual 173, 3) := by decide +kernel
theorem dX3_handOn_43 : decode cX3_handOn 43 = .ok (.iconst 1, 1) := by decide +kernel
theorem dX3_handOn_44 : decode cX3_handOn 44 = .ok (.istore 9, 2) := by decide +kernel
theorem dX3_handOn_46 : decode cX3_handOn 46 = .ok (.iload 9, 2) := by decide +kernel
theorem dX3_handOn_48 : decode cX3_handOn 48 = .ok (.aload_n 0, 1) := by decide +kernel
theorem dX3_handOn_49 : decode cX3_handOn 49 = .ok (.getfield 10, 3) := by decide +kernel
theorem dX3_handOn_52 : decode cX3_handOn 52 = .ok (.getfield 116, 3) := by decide +kernel
theorem dX3_handOn_55 : decode cX3_handOn 55 = .ok (.if_icmp .gt 105, 3) := by decide +kernel
theorem dX3_handOn_58 : decode cX3_handOn 58 = .ok (.iload_n 2, 1) := by decide +kernel
theorem dX3_handOn_59 : decode cX3_handOn 59 = .ok (.iload 9, 2) := by decide +kernel
theorem dX3_handOn_61 : decode cX3_handOn 61 = .ok (.invokestatic 83, 3) := by decide +kernel
theorem dX3_handOn_64 : decode cX3_handOn 64 = .ok (.ifCond .eq 90, 3) := by decide +kernel
theorem dX3_handOn_67 : decode cX3_handOn 67 = .ok (.aload_n 0, 1) := by decide +kernel
theorem dX3_handOn_68 : decode cX3_handOn 68 = .ok (.getfield 10, 3) := by decide +kernel
theorem dX3_handOn_71 : decode cX3_handOn 71 = .ok (.iload_n 2, 1) := by decide +kernel
theorem dX3_handOn_72 : decode cX3_handOn 72 = .ok (.iload 9, 2) := by decide +kernel
theorem dX3_handOn_74 : decode cX3_handOn 74 = .ok (.iconst 0, 1) := by decide +kernel
theorem dX3_handOn_75 : decode cX3_handOn 75 = .ok (.invokevirtual 87, 3) := by decide +kernel
theorem dX3_handOn_78 : decode cX3_handOn 78 = .ok (.istore 10, 2) := by decide +kernel
theorem dX3_handOn_80 : decode cX3_handOn 80 = .ok (.aload_n 0, 1) := by decide +kernel
theorem dX3_handOn_81 : decode cX3_handOn 81 = .ok (.getfield 19, 3) := by decide +kernel
theorem dX3_handOn_84 : decode cX3_handOn 84 = .ok (.aload_n 0, 1) := by decide +kernel
theorem dX3_handOn_85 : decode cX3_handOn 85 = .ok (.getfield 10, 3) := by decide +kernel
theorem dX3_handOn_88 : decode cX3_handOn 88 = .ok (.iconst 0, 1) := by decide +kernel
theorem dX3_handOn_89 : decode cX3_handOn 89 = .ok (.iload 10, 2) := by decide +kernel
theorem dX3_handOn_91 : decode cX3_handOn 91 = .ok (.aload 7, 2) := by decide +kernel
theorem dX3_handOn_93 : decode cX3_handOn 93 = .ok (.iload 9, 2) := by decide +kernel
theorem dX3_handOn_95 : decode cX3_handOn 95 = .ok (.invokevirtual 123, 3) := by decide +kernel
theorem dX3_handOn_98 : decode cX3_handOn 98 = .ok (.invokevirtual 174, 3) := by decide +kernel
theorem dX3_handOn_101 : decode cX3_handOn 101 = .ok (.iconst 1, 1) := by decide +kernel
theorem dX3_handOn_102 : decode cX3_handOn 102 = .ok (.istore 11, 2) := by decide +kernel
theorem dX3_handOn_104 : decode cX3_handOn 104 = .ok (.iload 11, 2) := by decide +kernel
theorem dX3_handOn_106 : decode cX3_handOn 106 = .ok (.iload 4, 2) := by decide +kernel
theorem dX3_handOn_108 : decode cX3_handOn 108 = .ok (.if_icmp .gt 46, 3) := by decide +kernel
theorem dX3_handOn_111 : decode cX3_handOn 111 = .ok (.aload_n 0, 1) := by decide +kernel
theorem dX3_handOn_112 : decode cX3_handOn 112 = .ok (.getfield 19, 3) := by decide +kernel
theorem dX3_handOn_115 : decode cX3_handOn 115 = .ok (.aload_n 0, 1) := by decide +kernel
theorem dX3_handOn_116 : decode cX3_handOn 116 = .ok (.getfield 10, 3) := by decide +kernel
theorem dX3_handOn_119 : decode cX3_handOn 119 = .ok (.iload 11, 2) := by decide +kernel
theorem dX3_handOn_121 : decode cX3_handOn 121 = .ok (.iload 10, 2) := by decide +kernel
theorem dX3_handOn_123 : decode cX3_handOn 123 = .ok (.aload_n 0, 1) := by decide +kernel
theorem dX3_handOn_124 : decode cX3_handOn 124 = .ok (.getfield 10, 3) := by decide +kernel
theorem dX3_handOn_127 : decode cX3_handOn 127 = .ok (.iload 5, 2) := by decide +kernel
theorem dX3_handOn_129 : decode cX3_handOn 129 = .ok (.i2l, 1) := by decide +kernel
theorem dX3_handOn_130 : decode cX3_handOn 130 = .ok (.iload 9, 2) := by decide +kernel
theorem dX3_handOn_132 : decode cX3_handOn 132 = .ok (.i2l, 1) := by decide +kernel
theorem dX3_handOn_133 : decode cX3_handOn 133 = .ok (.lmul, 1) := by decide +kernel
theorem dX3_handOn_134 : decode cX3_handOn 134 = .ok (.iload 6, 2) := by decide +kernel
theorem dX3_handOn_136 : decode cX3_handOn 136 = .ok (.i2l, 1) := by decide +kernel
theorem dX3_handOn_137 : decode cX3_handOn 137 = .ok (.iload 11, 2) := by decide +kernel
theorem dX3_handOn_139 : decode cX3_handOn 139 = .ok (.i2l, 1) := by decide +kernel
theorem dX3_handOn_140 : decode cX3_handOn 140 = .ok (.lmul, 1) := by decide +kernel
theorem dX3_handOn_141 : decode cX3_handOn 141 = .ok (.ladd, 1) := by decide +kernel
theorem dX3_handOn_142 : decode cX3_handOn 142 = .ok (.invokevirtual 59, 3) := by decide +kernel
theorem dX3_handOn_145 : decode cX3_handOn 145 = .ok (.invokevirtual 174, 3) := by decide +kernel
theorem dX3_handOn_148 : decode cX3_handOn 148 = .ok (.iinc 11 1, 3) := by decide +kernel
theorem dX3_handOn_151 : decode cX3_handOn 151 = .ok (.goto (-47), 3) := by decide +kernel
theorem dX3_handOn_154 : decode cX3_handOn 154 = .ok (.iinc 9 1, 3) := by decide +kernel
theorem dX3_handOn_157 : decode cX3_handOn 157 = .ok (.goto (-111), 3) := by decide +kernel
theorem dX3_handOn_160 : decode cX3_handOn 160 = .ok (.aload_n 0, 1) := by decide +kernel
theorem dX3_handOn_161 : decode cX3_handOn 161 = .ok (.aload 8, 2) := by decide +kernel
theorem dX3_handOn_163 : decode cX3_handOn 163 = .ok (.iload 4, 2) := by decide +kernel
theorem dX3_handOn_165 : decode cX3_handOn 165 = .ok (.invokevirtual 105, 3) := by decide +kernel
theorem dX3_handOn_168 : decode cX3_handOn 168 = .ok (.ireturn, 1) := by decide +kernel
theorem dX3_lose_0 : decode cX3_lose 0 = .ok (.aload_n 0, 1) := by decide +kernel
theorem dX3_lose_1 : decode cX3_lose 1 = .ok (.iload_n 1, 1) := by decide +kernel
theorem dX3_lose_2 : decode cX3_lose 2 = .ok (.invokevirtual 94, 3) := by decide +kernel
theorem dX3_lose_5 : decode cX3_lose 5 = .ok (.astore_n 3, 1) := by decide +kernel
theorem dX3_lose_6 : decode cX3_lose 6 = .ok (.aload_n 0, 1) := by decide +kernel
theorem dX3_lose_7 : decode cX3_lose 7 = .ok (.iload_n 2, 1) := by decide +kernel
theorem dX3_lose_8 : decode cX3_lose 8 = .ok (.invokevirtual 77, 3) := by decide +kernel
theorem dX3_lose_11 : decode cX3_lose 11 = .ok (.aload_n 3, 1) := by decide +kernel
theorem dX3_lose_12 : decode cX3_lose 12 = .ok (.iload_n 2, 1) := by decide +kernel
theorem dX3_lose_13 : decode cX3_lose 13 = .ok (.invokevirtual 119, 3) := by decide +kernel
theorem dX3_lose_16 : decode cX3_lose 16 = .ok (.ifCond .ne 6, 3) := by decide +kernel
theorem dX3_lose_19 : decode cX3_lose 19 = .ok (.bipush (-9), 2) := by decide +kernel
theorem dX3_lose_21 : decode cX3_lose 21 = .ok (.ireturn, 1) := by decide +kernel
theorem dX3_lose_22 : decode cX3_lose 22 = .ok (.aload_n 3, 1) := by decide +kernel
theorem dX3_lose_23 : decode cX3_lose 23 = .ok (.iload_n 2, 1) := by decide +kernel
theorem dX3_lose_24 : decode cX3_lose 24 = .ok (.invokevirtual 123, 3) := by decide +kernel
theorem dX3_lose_27 : decode cX3_lose 27 = .ok (.istore 4, 2) := by decide +kernel
theorem dX3_lose_29 : decode cX3_lose 29 = .ok (.aload_n 3, 1) := by decide +kernel
theorem dX3_lose_30 : decode cX3_lose 30 = .ok (.iload_n 2, 1) := by decide +kernel
theorem dX3_lose_31 : decode cX3_lose 31 = .ok (.iconst (-1), 1) := by decide +kernel
theorem dX3_lose_32 : decode cX3_lose 32 = .ok (.invokevirtual 130, 3) := by decide +kernel
theorem dX3_lose_35 : decode cX3_lose 35 = .ok (.iload 4, 2) := by decide +kernel
theorem dX3_lose_37 : decode cX3_lose 37 = .ok (.ireturn, 1) := by decide +kernel
theorem dX3_give_0 : decode cX3_give 0 = .ok (.aload_n 0, 1) := by decide +kernel
theorem dX3_give_1 : decode cX3_give 1 = .ok (.iload_n 1, 1) := by decide +kernel
theorem dX3_give_2 : decode cX3_give 2 = .ok (.invokevirtual 94, 3) := by decide +kernel
theorem dX3_give_5 : decode cX3_give 5 = .ok (.astore 4, 2) := by decide +kernel
theorem dX3_give_7 : decode cX3_give 7 = .ok (.aload_n 0, 1) := by decide +kernel
theorem dX3_give_8 : decode cX3_give 8 = .ok (.iload_n 2, 1) := by decide +kernel
theorem dX3_give_9 : decode cX3_give 9 = .ok (.invokevirtual 77, 3) := by decide +kernel
theorem dX3_give_12 : decode cX3_give 12 = .ok (.aload 4, 2) := by decide +kernel
theorem dX3_give_14 : decode cX3_give 14 = .ok (.invokevirtual 109, 3) := by decide +kernel
theorem dX3_give_17 : decode cX3_give 17 = .ok (.ifCond .eq 6, 3) := by decide +kernel
theorem dX3_give_20 : decode cX3_give 20 = .ok (.bipush (-9), 2) := by decide +kernel
theorem dX3_give_22 : decode cX3_give 22 = .ok (.ireturn, 1) := by decide +kernel
theorem dX3_give_23 : decode cX3_give 23 = .ok (.aload 4, 2) := by decide +kernel
theorem dX3_give_25 : decode cX3_give 25 = .ok (.iload_n 2, 1) := by decide +kernel
theorem dX3_give_26 : decode cX3_give 26 = .ok (.invokevirtual 123, 3) := by decide +kernel
theorem dX3_give_29 : decode cX3_give 29 = .ok (.istore 5, 2) := by decide +kernel
theorem dX3_give_31 : decode cX3_give 31 = .ok (.aload 4, 2) := by decide +kernel
theorem dX3_give_33 : decode cX3_give 33 = .ok (.iload_n 2, 1) := by decide +kernel
theorem dX3_give_34 : decode cX3_give 34 = .ok (.aload_n 0, 1) := by decide +kernel
theorem dX3_give_35 : decode cX3_give 35 = .ok (.getfield 10, 3) := by decide +kernel
theorem dX3_give_38 : decode cX3_give 38 = .ok (.iload_n 3, 1) := by decide +kernel
theorem dX3_give_39 : decode cX3_give 39 = .ok (.i2l, 1) := by decide +kernel
theorem dX3_give_40 : decode cX3_give 40 = .ok (.invokevirtual 59, 3) := by decide +kernel
theorem dX3_give_43 : decode cX3_give 43 = .ok (.invokevirtual 130, 3) := by decide +kernel
theorem dX3_give_46 : decode cX3_give 46 = .ok (.iload 5, 2) := by decide +kernel
theorem dX3_give_48 : decode cX3_give 48 = .ok (.ireturn, 1) := by decide +kernel
theorem dX3_regain_0 : decode cX3_regain 0 = .ok (.aload_n 0, 1) := by decide +kernel
theorem dX3_regain_1 : decode cX3_regain 1 = .ok (.iload_n 1, 1) := by decide +kernel
theorem dX3_regain_2 : decode cX3_regain 2 = .ok (.invokevirtual 94, 3) := by decide +kernel
theorem dX3_regain_5 : decode cX3_regain 5 = .ok (.astore 4, 2) := by decide +kernel
theorem dX3_regain_7 : decode cX3_regain 7 = .ok (.aload_n 0, 1) := by decide +kernel
theorem dX3_regain_8 : decode cX3_regain 8 = .ok (.iload_n 2, 1) := by decide +kernel
theorem dX3_regain_9 : decode cX3_regain 9 = .ok (.invokevirtual 77, 3) := by decide +kernel
theorem dX3_regain_12 : decode cX3_regain 12 = .ok (.aload_n 0, 1) := by decide +kernel
theorem dX3_regain_13 : decode cX3_regain 13 = .ok (.iload_n 3, 1) := by decide +kernel
theorem dX3_regain_14 : decode cX3_regain 14 = .ok (.invokevirtual 80, 3) := by decide +kernel
theorem dX3_regain_17 : decode cX3_regain 17 = .ok (.aload 4, 2) := by decide +kernel
theorem dX3_regain_19 : decode cX3_regain 19 = .ok (.iload_n 3, 1) := by decide +kernel
theorem dX3_regain_20 : decode cX3_regain 20 = .ok (.invokevirtual 170, 3) := by decide +kernel
theorem dX3_regain_23 : decode cX3_regain 23 = .ok (.ifCond .ne 6, 3) := by decide +kernel
theorem dX3_regain_26 : decode cX3_regain 26 = .ok (.bipush (-9), 2) := by decide +kernel
theorem dX3_regain_28 : decode cX3_regain 28 = .ok (.ireturn, 1) := by decide +kernel
theorem dX3_regain_29 : decode cX3_regain 29 = .ok (.aload_n 0, 1) := by decide +kernel
theorem dX3_regain_30 : decode cX3_regain 30 = .ok (.aload 4, 2) := by decide +kernel
theorem dX3_regain_32 : decode cX3_regain 32 = .ok (.iload_n 3, 1) := by decide +kernel
theorem dX3_regain_33 : decode cX3_regain 33 = .ok (.iload_n 2, 1) := by decide +kernel
theorem dX3_regain_34 : decode cX3_regain 34 = .ok (.invokevirtual 178, 3) := by decide +kernel
theorem dX3_regain_37 : decode cX3_regain 37 = .ok (.istore 5, 2) := by decide +kernel
theorem dX3_regain_39 : decode cX3_regain 39 = .ok (.aload 4, 2) := by decide +kernel
theorem dX3_regain_41 : decode cX3_regain 41 = .ok (.iload_n 2, 1) := by decide +kernel
theorem dX3_regain_42 : decode cX3_regain 42 = .ok (.iload 5, 2) := by decide +kernel
theorem dX3_regain_44 : decode cX3_regain 44 = .ok (.invokevirtual 130, 3) := by decide +kernel
theorem dX3_regain_47 : decode cX3_regain 47 = .ok (.iload 5, 2) := by decide +kernel
theorem dX3_regain_49 : decode cX3_regain 49 = .ok (.ireturn, 1) := by decide +kernel
theorem dX3_mend_0 : decode cX3_mend 0 = .ok (.aload_n 0, 1) := by decide +kernel
theorem dX3_mend_1 : decode cX3_mend 1 = .ok (.iload_n 1, 1) := by decide +kernel
theorem dX3_mend_2 : decode cX3_mend 2 = .ok (.invokevirtual 94, 3) := by decide +kernel
theorem dX3_mend_5 : decode cX3_mend 5 = .ok (.astore_n 2, 1) := by decide +kernel
theorem dX3_mend_6 : decode cX3_mend 6 = .ok (.aload_n 0, 1) := by decide +kernel
theorem dX3_mend_7 : decode cX3_mend 7 = .ok (.aload_n 2, 1) := by decide +kernel
theorem dX3_mend_8 : decode cX3_mend 8 = .ok (.invokevirtual 182, 3) := by decide +kernel
theorem dX3_mend_11 : decode cX3_mend 11 = .ok (.istore_n 3, 1) := by decide +kernel
theorem dX3_mend_12 : decode cX3_mend 12 = .ok (.iload_n 3, 1) := by decide +kernel
theorem dX3_mend_13 : decode cX3_mend 13 = .ok (.ifCond .le 29, 3) := by decide +kernel
theorem dX3_mend_16 : decode cX3_mend 16 = .ok (.aload_n 2, 1) := by decide +kernel
theorem dX3_mend_17 : decode cX3_mend 17 = .ok (.invokevirtual 185, 3) := by decide +kernel
theorem dX3_mend_20 : decode cX3_mend 20 = .ok (.iload_n 3, 1) := by decide +kernel
theorem dX3_mend_21 : decode cX3_mend 21 = .ok (.invokestatic 188, 3) := by decide +kernel
theorem dX3_mend_24 : decode cX3_mend 24 = .ok (.iconst (-1), 1) := by decide +kernel
theorem dX3_mend_25 : decode cX3_mend 25 = .ok (.ixor, 1) := by decide +kernel
theorem dX3_mend_26 : decode cX3_mend 26 = .ok (.iand, 1) := by decide +kernel
theorem dX3_mend_27 : decode cX3_mend 27 = .ok (.istore 4, 2) := by decide +kernel
theorem dX3_mend_29 : decode cX3_mend 29 = .ok (.aload_n 2, 1) := by decide +kernel
theorem dX3_mend_30 : decode cX3_mend 30 = .ok (.iload_n 3, 1) := by decide +kernel
theorem dX3_mend_31 : decode cX3_mend 31 = .ok (.aload_n 0, 1) := by decide +kernel
theorem dX3_mend_32 : decode cX3_mend 32 = .ok (.aload_n 2, 1) := by decide +kernel
theorem dX3_mend_33 : decode cX3_mend 33 = .ok (.iload 4, 2) := by decide +kernel
theorem dX3_mend_35 : decode cX3_mend 35 = .ok (.iload_n 3, 1) := by decide +kernel
theorem dX3_mend_36 : decode cX3_mend 36 = .ok (.invokevirtual 178, 3) := by decide +kernel
theorem dX3_mend_39 : decode cX3_mend 39 = .ok (.invokevirtual 130, 3) := by decide +kernel
theorem dX3_mend_42 : decode cX3_mend 42 = .ok (.iload_n 3, 1) := by decide +kernel
theorem dX3_mend_43 : decode cX3_mend 43 = .ok (.ireturn, 1) := by decide +kernel
theorem dX3_copy_0 : decode cX3_copy 0 = .ok (.aload_n 0, 1) := by decide +kernel
theorem dX3_copy_1 : decode cX3_copy 1 = .ok (.iload_n 1, 1) := by decide +kernel
theorem dX3_copy_2 : decode cX3_copy 2 = .ok (.invokevirtual 94, 3) := by decide +kernel
theorem dX3_copy_5 : decode cX3_copy 5 = .ok (.astore_n 3, 1) := by decide +kernel
theorem dX3_copy_6 : decode cX3_copy 6 = .ok (.aload_n 0, 1) := by decide +kernel
theorem dX3_copy_7 : decode cX3_copy 7 = .ok (.iload_n 2, 1) := by decide +kernel
theorem dX3_copy_8 : decode cX3_copy 8 = .ok (.invokevirtual 94, 3) := by decide +kernel
theorem dX3_copy_11 : decode cX3_copy 11 = .ok (.astore 4, 2) := by decide +kernel
theorem dX3_copy_13 : decode cX3_copy 13 = .ok (.aload 4, 2) := by decide +kernel
theorem dX3_copy_15 : decode cX3_copy 15 = .ok (.aload_n 3, 1) := by decide +kernel
theorem dX3_copy_16 : decode cX3_copy 16 = .ok (.invokevirtual 191, 3) := by decide +kernel
theorem dX3_copy_19 : decode cX3_copy 19 = .ok (.aload 4, 2) := by decide +kernel
theorem dX3_copy_21 : decode cX3_copy 21 = .ok (.invokevirtual 149, 3) := by decide +kernel
theorem dX3_copy_24 : decode cX3_copy 24 = .ok (.ireturn, 1) := by decide +kernel
theorem dX3_drop_0 : decode cX3_drop 0 = .ok (.aload_n 0, 1) := by decide +kernel
theorem dX3_drop_1 : decode cX3_drop 1 = .ok (.iload_n 1, 1) := by decide +kernel
theorem dX3_drop_2 : decode cX3_drop 2 = .ok (.invokevirtual 94, 3) := by decide +kernel
theorem dX3_drop_5 : decode cX3_drop 5 = .ok (.astore_n 2, 1) := by decide +kernel
theorem dX3_drop_6 : decode cX3_drop 6 = .ok (.aload_n 2, 1) := by decide +kernel
theorem dX3_drop_7 : decode cX3_drop 7 = .ok (.invokevirtual 149, 3) := by decide +kernel
theorem dX3_drop_10 : decode cX3_drop 10 = .ok (.istore_n 3, 1) := by decide +kernel
theorem dX3_drop_11 : decode cX3_drop 11 = .ok (.aload_n 2, 1) := by decide +kernel
theorem dX3_drop_12 : decode cX3_drop 12 = .ok (.invokevirtual 56, 3) := by decide +kernel
theorem dX3_drop_15 : decode cX3_drop 15 = .ok (.iload_n 3, 1) := by decide +kernel
theorem dX3_drop_16 : decode cX3_drop 16 = .ok (.ireturn, 1) := by decide +kernel
theorem dX3_knock_0 : decode cX3_knock 0 = .ok (.aload_n 0, 1) := by decide +kernel
theorem dX3_knock_1 : decode cX3_knock 1 = .ok (.dup, 1) := by decide +kernel
theorem dX3_knock_2 : decode cX3_knock 2 = .ok (.getfield 34, 3) := by decide +kernel
theorem dX3_knock_5 : decode cX3_knock 5 = .ok (.iconst 1, 1) := by decide +kernel
theorem dX3_knock_6 : decode cX3_knock 6 = .ok (.iadd, 1) := by decide +kernel
theorem dX3_knock_7 : decode cX3_knock 7 = .ok (.putfield 34, 3) := by decide +kernel
theorem dX3_knock_10 : decode cX3_knock 10 = .ok (.aload_n 0, 1) := by decide +kernel
theorem dX3_knock_11 : decode cX3_knock 11 = .ok (.getfield 34, 3) := by decide +kernel
theorem dX3_knock_14 : decode cX3_knock 14 = .ok (.ireturn, 1) := by decide +kernel
theorem dX3_share_0 : decode cX3_share 0 = .ok (.aload_n 0, 1) := by decide +kernel
theorem dX3_share_1 : decode cX3_share 1 = .ok (.iload_n 1, 1) := by decide +kernel
theorem dX3_share_2 : decode cX3_share 2 = .ok (.invokevirtual 94, 3) := by decide +kernel
theorem dX3_share_5 : decode cX3_share 5 = .ok (.astore_n 3, 1) := by decide +kernel
theorem dX3_share_6 : decode cX3_share 6 = .ok (.aload_n 0, 1) := by decide +kernel
theorem dX3_share_7 : decode cX3_share 7 = .ok (.iload_n 2, 1) := by decide +kernel
theorem dX3_share_8 : decode cX3_share 8 = .ok (.invokevirtual 77, 3) := by decide +kernel
theorem dX3_share_11 : decode cX3_share 11 = .ok (.aload_n 3, 1) := by decide +kernel
theorem dX3_share_12 : decode cX3_share 12 = .ok (.iload_n 2, 1) := by decide +kernel
theorem dX3_share_13 : decode cX3_share 13 = .ok (.invokevirtual 123, 3) := by decide +kernel
theorem dX3_share_16 : decode cX3_share 16 = .ok (.ireturn, 1) := by decide +kernel
theorem dX3_ofDeal_0 : decode cX3_ofDeal 0 = .ok (.aload_n 0, 1) := by decide +kernel
theorem dX3_ofDeal_1 : decode cX3_ofDeal 1 = .ok (.iload_n 1, 1) := by decide +kernel
theorem dX3_ofDeal_2 : decode cX3_ofDeal 2 = .ok (.invokevirtual 94, 3) := by decide +kernel
theorem dX3_ofDeal_5 : decode cX3_ofDeal 5 = .ok (.astore_n 3, 1) := by decide +kernel
theorem dX3_ofDeal_6 : decode cX3_ofDeal 6 = .ok (.iload_n 2, 1) := by decide +kernel
theorem dX3_ofDeal_7 : decode cX3_ofDeal 7 = .ok (.tableswitch 118 0 5 #[37, 53, 58, 63, 76, 94], 37) := by decide +kernel
theorem dX3_ofDeal_44 : decode cX3_ofDeal 44 = .ok (.aload_n 3, 1) := by decide +kernel
theorem dX3_ofDeal_45 : decode cX3_ofDeal 45 = .ok (.invokevirtual 109, 3) := by decide +kernel
theorem dX3_ofDeal_48 : decode cX3_ofDeal 48 = .ok (.ifCond .eq 7, 3) := by decide +kernel
theorem dX3_ofDeal_51 : decode cX3_ofDeal 51 = .ok (.iconst (-1), 1) := by decide +kernel
theorem dX3_ofDeal_52 : decode cX3_ofDeal 52 = .ok (.goto 7, 3) := by decide +kernel
theorem dX3_ofDeal_55 : decode cX3_ofDeal 55 = .ok (.aload_n 3, 1) := by decide +kernel
theorem dX3_ofDeal_56 : decode cX3_ofDeal 56 = .ok (.getfield 113, 3) := by decide +kernel
theorem dX3_ofDeal_59 : decode cX3_ofDeal 59 = .ok (.ireturn, 1) := by decide +kernel
theorem dX3_ofDeal_60 : decode cX3_ofDeal 60 = .ok (.aload_n 3, 1) := by decide +kernel
theorem dX3_ofDeal_61 : decode cX3_ofDeal 61 = .ok (.invokevirtual 149, 3) := by decide +kernel
theorem dX3_ofDeal_64 : decode cX3_ofDeal 64 = .ok (.ireturn, 1) := by decide +kernel
theorem dX3_ofDeal_65 : decode cX3_ofDeal 65 = .ok (.aload_n 3, 1) := by decide +kernel
theorem dX3_ofDeal_66 : decode cX3_ofDeal 66 = .ok (.invokevirtual 185, 3) := by decide +kernel
theorem dX3_ofDeal_69 : decode cX3_ofDeal 69 = .ok (.ireturn, 1) := by decide +kernel
theorem dX3_ofDeal_70 : decode cX3_ofDeal 70 = .ok (.aload_n 3, 1) := by decide +kernel
theorem dX3_ofDeal_71 : decode cX3_ofDeal 71 = .ok (.invokevirtual 195, 3) := by decide +kernel
theorem dX3_ofDeal_74 : decode cX3_ofDeal 74 = .ok (.ifCond .eq 7, 3) := by decide +kernel
theorem dX3_ofDeal_77 : decode cX3_ofDeal 77 = .ok (.iconst 1, 1) := by decide +kernel
theorem dX3_ofDeal_78 : decode cX3_ofDeal 78 = .ok (.goto 4, 3) := by decide +kernel
theorem dX3_ofDeal_81 : decode cX3_ofDeal 81 = .ok (.iconst 0, 1) := by decide +kernel
theorem dX3_ofDeal_82 : decode cX3_ofDeal 82 = .ok (.ireturn, 1) := by decide +kernel
theorem dX3_ofDeal_83 : decode cX3_ofDeal 83 = .ok (.aload_n 0, 1) := by decide +kernel
theorem dX3_ofDeal_84 : decode cX3_ofDeal 84 = .ok (.aload_n 3, 1) := by decide +kernel
theorem dX3_ofDeal_85 : decode cX3_ofDeal 85 = .ok (.aload_n 3, 1) := by decide +kernel
theorem dX3_ofDeal_86 : decode cX3_ofDeal 86 = .ok (.invokevirtual 185, 3) := by decide +kernel
theorem dX3_ofDeal_89 : decode cX3_ofDeal 89 = .ok (.invokevirtual 198, 3) := by decide +kernel
theorem dX3_ofDeal_92 : decode cX3_ofDeal 92 = .ok (.ifCond .eq 7, 3) := by decide +kernel
theorem dX3_ofDeal_95 : decode cX3_ofDeal 95 = .ok (.iconst 1, 1) := by decide +kernel
theorem dX3_ofDeal_96 : decode cX3_ofDeal 96 = .ok (.goto 4, 3) := by decide +kernel
theorem dX3_ofDeal_99 : decode cX3_ofDeal 99 = .ok (.iconst 0, 1) := by decide +kernel
theorem dX3_ofDeal_100 : decode cX3_ofDeal 100 = .ok (.ireturn, 1) := by decide +kernel
theorem dX3_ofDeal_101 : decode cX3_ofDeal 101 = .ok (.aload_n 3, 1) := by decide +kernel
theorem dX3_ofDeal_102 : decode cX3_ofDeal 102 = .ok (.invokevirtual 202, 3) := by decide +kernel
theorem dX3_ofDeal_105 : decode cX3_ofDeal 105 = .ok (.istore 4, 2) := by decide +kernel
theorem dX3_ofDeal_107 : decode cX3_ofDeal 107 = .ok (.iload 4, 2) := by decide +kernel
theorem dX3_ofDeal_109 : decode cX3_ofDeal 109 = .ok (.ifCond .ne 7, 3) := by decide +kernel
theorem dX3_ofDeal_112 : decode cX3_ofDeal 112 = .ok (.iconst (-1), 1) := by decide +kernel
theorem dX3_ofDeal_113 : decode cX3_ofDeal 113 = .ok (.goto 11, 3) := by decide +kernel
theorem dX3_ofDeal_116 : decode cX3_ofDeal 116 = .ok (.aload_n 0, 1) := by decide +kernel
theorem dX3_ofDeal_117 : decode cX3_ofDeal 117 = .ok (.aload_n 3, 1) := by decide +kernel
theorem dX3_ofDeal_118 : decode cX3_ofDeal 118 = .ok (.iload 4, 2) := by decide +kernel
theorem dX3_ofDeal_120 : decode cX3_ofDeal 120 = .ok (.iconst 0, 1) := by decide +kernel
theorem dX3_ofDeal_121 : decode cX3_ofDeal 121 = .ok (.invokevirtual 178, 3) := by decide +kernel
theorem dX3_ofDeal_124 : decode cX3_ofDeal 124 = .ok (.ireturn, 1) := by decide +kernel
theorem dX3_ofDeal_125 : decode cX3_ofDeal 125 = .ok (.new 42, 3) := by decide +kernel
theorem dX3_ofDeal_128 : decode cX3_ofDeal 128 = .ok (.dup, 1) := by decide +kernel
theorem dX3_ofDeal_129 : decode cX3_ofDeal 129 = .ok (.ldc 205, 2) := by decide +kernel
theorem dX3_ofDeal_131 : decode cX3_ofDeal 131 = .ok (.invokespecial 46, 3) := by decide +kernel
theorem dX3_ofDeal_134 : decode cX3_ofDeal 134 = .ok (.athrow, 1) := by decide +kernel
theorem dX3_told_0 : decode cX3_told 0 = .ok (.aload_n 0, 1) := by decide +kernel
theorem dX3_told_1 : decode cX3_told 1 = .ok (.iload_n 1, 1) := by decide +kernel
theorem dX3_told_2 : decode cX3_told 2 = .ok (.invokevirtual 94, 3) := by decide +kernel
theorem dX3_told_5 : decode cX3_told 5 = .ok (.astore 4, 2) := by decide +kernel
theorem dX3_told_7 : decode cX3_told 7 = .ok (.aload_n 0, 1) := by decide +kernel
theorem dX3_told_8 : decode cX3_told 8 = .ok (.iload_n 2, 1) := by decide +kernel
theorem dX3_told_9 : decode cX3_told 9 = .ok (.invokevirtual 80, 3) := by decide +kernel
theorem dX3_told_12 : decode cX3_told 12 = .ok (.aload 4, 2) := by decide +kernel
theorem dX3_told_14 : decode cX3_told 14 = .ok (.iload_n 2, 1) := by decide +kernel
theorem dX3_told_15 : decode cX3_told 15 = .ok (.invokevirtual 207, 3) := by decide +kernel
theorem dX3_told_18 : decode cX3_told 18 = .ok (.ifCond .eq 14, 3) := by decide +kernel
theorem dX3_told_21 : decode cX3_told 21 = .ok (.aload_n 0, 1) := by decide +kernel
theorem dX3_told_22 : decode cX3_told 22 = .ok (.aload 4, 2) := by decide +kernel
theorem dX3_told_24 : decode cX3_told 24 = .ok (.iload_n 2, 1) := by decide +kernel
theorem dX3_told_25 : decode cX3_told 25 = .ok (.iload_n 3, 1) := by decide +kernel
theorem dX3_told_26 : decode cX3_told 26 = .ok (.invokevirtual 178, 3) := by decide +kernel
theorem dX3_told_29 : decode cX3_told 29 = .ok (.goto 5, 3) := by decide +kernel
theorem dX3_told_32 : decode cX3_told 32 = .ok (.bipush (-9), 2) := by decide +kernel
theorem dX3_told_34 : decode cX3_told 34 = .ok (.ireturn, 1) := by decide +kernel
theorem dX3_open_0 : decode cX3_open 0 = .ok (.aload_n 0, 1) := by decide +kernel
theorem dX3_open_1 : decode cX3_open 1 = .ok (.iload_n 1, 1) := by decide +kernel
theorem dX3_open_2 : decode cX3_open 2 = .ok (.invokevirtual 94, 3) := by decide +kernel
theorem dX3_open_5 : decode cX3_open 5 = .ok (.astore_n 3, 1) := by decide +kernel
theorem dX3_open_6 : decode cX3_open 6 = .ok (.aload_n 0, 1) := by decide +kernel
theorem dX3_open_7 : decode cX3_open 7 = .ok (.iload_n 2, 1) := by decide +kernel
theorem dX3_open_8 : decode cX3_open 8 = .ok (.invokevirtual 80, 3) := by decide +kernel
theorem dX3_open_11 : decode cX3_open 11 = .ok (.aload_n 3, 1) := by decide +kernel
theorem dX3_open_12 : decode cX3_open 12 = .ok (.iload_n 2, 1) := by decide +kernel
theorem dX3_open_13 : decode cX3_open 13 = .ok (.invokevirtual 170, 3) := by decide +kernel
theorem dX3_open_16 : decode cX3_open 16 = .ok (.ifCond .eq 13, 3) := by decide +kernel
theorem dX3_open_19 : decode cX3_open 19 = .ok (.aload_n 0, 1) := by decide +kernel
theorem dX3_open_20 : decode cX3_open 20 = .ok (.aload_n 3, 1) := by decide +kernel
theorem dX3_open_21 : decode cX3_open 21 = .ok (.iload_n 2, 1) := by decide +kernel
theorem dX3_open_22 : decode cX3_open 22 = .ok (.iconst 0, 1) := by decide +kernel
theorem dX3_open_23 : decode cX3_open 23 = .ok (.invokevirtual 178, 3) := by decide +kernel
theorem dX3_open_26 : decode cX3_open 26 = .ok (.goto 5, 3) := by decide +kernel
theorem dX3_open_29 : decode cX3_open 29 = .ok (.bipush (-9), 2) := by decide +kernel
theorem dX3_open_31 : decode cX3_open 31 = .ok (.ireturn, 1) := by decide +kernel
theorem dX3_coefficient_0 : decode cX3_coefficient 0 = .ok (.aload_n 0, 1) := by decide +kernel
theorem dX3_coefficient_1 : decode cX3_coefficient 1 = .ok (.iload_n 1, 1) := by decide +kernel
theorem dX3_coefficient_2 : decode cX3_coefficient 2 = .ok (.invokevirtual 94, 3) := by decide +kernel
theorem dX3_coefficient_5 : decode cX3_coefficient 5 = .ok (.astore 4, 2) := by decide +kernel
theorem dX3_coefficient_7 : decode cX3_coefficient 7 = .ok (.aload_n 0, 1) := by decide +kernel
theorem dX3_coefficient_8 : decode cX3_coefficient 8 = .ok (.iload_n 2, 1) := by decide +kernel
theorem dX3_coefficient_9 : decode cX3_coefficient 9 = .ok (.invokevirtual 80, 3) := by decide +kernel
theorem dX3_coefficient_12 : decode cX3_coefficient 12 = .ok (.iload_n 3, 1) := by decide +kernel
theorem dX3_coefficient_13 : decode cX3_coefficient 13 = .ok (.invokestatic 210, 3) := by decide +kernel
theorem dX3_coefficient_16 : decode cX3_coefficient 16 = .ok (.aload 4, 2) := by decide +kernel
theorem dX3_coefficient_18 : decode cX3_coefficient 18 = .ok (.iload_n 2, 1) := by decide +kernel
theorem dX3_coefficient_19 : decode cX3_coefficient 19 = .ok (.invokevirtual 207, 3) := by decide +kernel
theorem dX3_coefficient_22 : decode cX3_coefficient 22 = .ok (.ifCond .ne 6, 3) := by decide +kernel
theorem dX3_coefficient_25 : decode cX3_coefficient 25 = .ok (.bipush (-9), 2) := by decide +kernel
theorem dX3_coefficient_27 : decode cX3_coefficient 27 = .ok (.ireturn, 1) := by decide +kernel
theorem dX3_coefficient_28 : decode cX3_coefficient 28 = .ok (.aload_n 0, 1) := by decide +kernel
theorem dX3_coefficient_29 : decode cX3_coefficient 29 = .ok (.getfield 19, 3) := by decide +kernel
theorem dX3_coefficient_32 : decode cX3_coefficient 32 = .ok (.aload_n 0, 1) := by decide +kernel
theorem dX3_coefficient_33 : decode cX3_coefficient 33 = .ok (.getfield 10, 3) := by decide +kernel
theorem dX3_coefficient_36 : decode cX3_coefficient 36 = .ok (.aload 4, 2) := by decide +kernel
theorem dX3_coefficient_38 : decode cX3_coefficient 38 = .ok (.iload_n 2, 1) := by decide +kernel
theorem dX3_coefficient_39 : decode cX3_coefficient 39 = .ok (.invokevirtual 213, 3) := by decide +kernel
theorem dX3_coefficient_42 : decode cX3_coefficient 42 = .ok (.aload_n 0, 1) := by decide +kernel
theorem dX3_coefficient_43 : decode cX3_coefficient 43 = .ok (.getfield 19, 3) := by decide +kernel
theorem dX3_coefficient_46 : decode cX3_coefficient 46 = .ok (.iload_n 3, 1) := by decide +kernel
theorem dX3_coefficient_47 : decode cX3_coefficient 47 = .ok (.invokevirtual 140, 3) := by decide +kernel
theorem dX3_coefficient_50 : decode cX3_coefficient 50 = .ok (.ireturn, 1) := by decide +kernel
theorem dX3_degreeBy_0 : decode cX3_degreeBy 0 = .ok (.aload_n 0, 1) := by decide +kernel
theorem dX3_degreeBy_1 : decode cX3_degreeBy 1 = .ok (.iload_n 1, 1) := by decide +kernel
theorem dX3_degreeBy_2 : decode cX3_degreeBy 2 = .ok (.invokevirtual 94, 3) := by decide +kernel
theorem dX3_degreeBy_5 : decode cX3_degreeBy 5 = .ok (.astore_n 3, 1) := by decide +kernel
theorem dX3_degreeBy_6 : decode cX3_degreeBy 6 = .ok (.aload_n 0, 1) := by decide +kernel
theorem dX3_degreeBy_7 : decode cX3_degreeBy 7 = .ok (.iload_n 2, 1) := by decide +kernel
theorem dX3_degreeBy_8 : decode cX3_degreeBy 8 = .ok (.invokevirtual 80, 3) := by decide +kernel
theorem dX3_degreeBy_11 : decode cX3_degreeBy 11 = .ok (.aload_n 3, 1) := by decide +kernel
theorem dX3_degreeBy_12 : decode cX3_degreeBy 12 = .ok (.iload_n 2, 1) := by decide +kernel
theorem dX3_degreeBy_13 : decode cX3_degreeBy 13 = .ok (.invokevirtual 207, 3) := by decide +kernel
theorem dX3_degreeBy_16 : decode cX3_degreeBy 16 = .ok (.ifCond .ne 6, 3) := by decide +kernel
theorem dX3_degreeBy_19 : decode cX3_degreeBy 19 = .ok (.bipush (-9), 2) := by decide +kernel
theorem dX3_degreeBy_21 : decode cX3_degreeBy 21 = .ok (.ireturn, 1) := by decide +kernel
theorem dX3_degreeBy_22 : decode cX3_degreeBy 22 = .ok (.aload_n 0, 1) := by decide +kernel
theorem dX3_degreeBy_23 : decode cX3_degreeBy 23 = .ok (.getfield 19, 3) := by decide +kernel
theorem dX3_degreeBy_26 : decode cX3_degreeBy 26 = .ok (.aload_n 0, 1) := by decide +kernel
theorem dX3_degreeBy_27 : decode cX3_degreeBy 27 = .ok (.getfield 10, 3) := by decide +kernel
theorem dX3_degreeBy_30 : decode cX3_degreeBy 30 = .ok (.aload_n 3, 1) := by decide +kernel
theorem dX3_degreeBy_31 : decode cX3_degreeBy 31 = .ok (.iload_n 2, 1) := by decide +kernel
theorem dX3_degreeBy_32 : decode cX3_degreeBy 32 = .ok (.invokevirtual 213, 3) := by decide +kernel
theorem dX3_degreeBy_35 : decode cX3_degreeBy 35 = .ok (.aload_n 0, 1) := by decide +kernel
theorem dX3_degreeBy_36 : decode cX3_degreeBy 36 = .ok (.getfield 19, 3) := by decide +kernel
theorem dX3_degreeBy_39 : decode cX3_degreeBy 39 = .ok (.invokevirtual 217, 3) := by decide +kernel
theorem dX3_degreeBy_42 : decode cX3_degreeBy 42 = .ok (.ireturn, 1) := by decide +kernel
theorem dX3_agrees_0 : decode cX3_agrees 0 = .ok (.aload_n 0, 1) := by decide +kernel
theorem dX3_agrees_1 : decode cX3_agrees 1 = .ok (.iload_n 1, 1) := by decide +kernel
theorem dX3_agrees_2 : decode cX3_agrees 2 = .ok (.invokevirtual 94, 3) := by decide +kernel
theorem dX3_agrees_5 : decode cX3_agrees 5 = .ok (.astore_n 3, 1) := by decide +kernel
theorem dX3_agrees_6 : decode cX3_agrees 6 = .ok (.aload_n 0, 1) := by decide +kernel
theorem dX3_agrees_7 : decode cX3_agrees 7 = .ok (.iload_n 2, 1) := by decide +kernel
theorem dX3_agrees_8 : decode cX3_agrees 8 = .ok (.invokevirtual 80, 3) := by decide +kernel
theorem dX3_agrees_11 : decode cX3_agrees 11 = .ok (.aload_n 3, 1) := by decide +kernel
theorem dX3_agrees_12 : decode cX3_agrees 12 = .ok (.iload_n 2, 1) := by decide +kernel
theorem dX3_agrees_13 : decode cX3_agrees 13 = .ok (.invokevirtual 207, 3) := by decide +kernel
theorem dX3_agrees_16 : decode cX3_agrees 16 = .ok (.ifCond .ne 6, 3) := by decide +kernel
theorem dX3_agrees_19 : decode cX3_agrees 19 = .ok (.bipush (-9), 2) := by decide +kernel
theorem dX3_agrees_21 : decode cX3_agrees 21 = .ok (.ireturn, 1) := by decide +kernel
theorem dX3_agrees_22 : decode cX3_agrees 22 = .ok (.aload_n 0, 1) := by decide +kernel
theorem dX3_agrees_23 : decode cX3_agrees 23 = .ok (.aload_n 3, 1) := by decide +kernel
theorem dX3_agrees_24 : decode cX3_agrees 24 = .ok (.iload_n 2, 1) := by decide +kernel
theorem dX3_agrees_25 : decode cX3_agrees 25 = .ok (.invokevirtual 198, 3) := by decide +kernel
theorem dX3_agrees_28 : decode cX3_agrees 28 = .ok (.ifCond .eq 7, 3) := by decide +kernel
theorem dX3_agrees_31 : decode cX3_agrees 31 = .ok (.iconst 1, 1) := by decide +kernel
theorem dX3_agrees_32 : decode cX3_agrees 32 = .ok (.goto 4, 3) := by decide +kernel
theorem dX3_agrees_35 : decode cX3_agrees 35 = .ok (.iconst 0, 1) := by decide +kernel
theorem dX3_agrees_36 : decode cX3_agrees 36 = .ok (.ireturn, 1) := by decide +kernel
theorem dX3_suspects_0 : decode cX3_suspects 0 = .ok (.aload_n 0, 1) := by decide +kernel
theorem dX3_suspects_1 : decode cX3_suspects 1 = .ok (.iload_n 1, 1) := by decide +kernel
theorem dX3_suspects_2 : decode cX3_suspects 2 = .ok (.invokevirtual 94, 3) := by decide +kernel
theorem dX3_suspects_5 : decode cX3_suspects 5 = .ok (.astore_n 2, 1) := by decide +kernel
theorem dX3_suspects_6 : decode cX3_suspects 6 = .ok (.aload_n 2, 1) := by decide +kernel
theorem dX3_suspects_7 : decode cX3_suspects 7 = .ok (.invokevirtual 109, 3) := by decide +kernel
theorem dX3_suspects_10 : decode cX3_suspects 10 = .ok (.ifCond .eq 8, 3) := by decide +kernel
theorem dX3_suspects_13 : decode cX3_suspects 13 = .ok (.bipush (-9), 2) := by decide +kernel
theorem dX3_suspects_15 : decode cX3_suspects 15 = .ok (.goto 8, 3) := by decide +kernel
theorem dX3_suspects_18 : decode cX3_suspects 18 = .ok (.aload_n 0, 1) := by decide +kernel
theorem dX3_suspects_19 : decode cX3_suspects 19 = .ok (.aload_n 2, 1) := by decide +kernel
theorem dX3_suspects_20 : decode cX3_suspects 20 = .ok (.invokevirtual 220, 3) := by decide +kernel
theorem dX3_suspects_23 : decode cX3_suspects 23 = .ok (.ireturn, 1) := by decide +kernel
theorem dX3_wrong_0 : decode cX3_wrong 0 = .ok (.aload_n 0, 1) := by decide +kernel
theorem dX3_wrong_1 : decode cX3_wrong 1 = .ok (.aload_n 0, 1) := by decide +kernel
theorem dX3_wrong_2 : decode cX3_wrong 2 = .ok (.iload_n 1, 1) := by decide +kernel
theorem dX3_wrong_3 : decode cX3_wrong 3 = .ok (.invokevirtual 94, 3) := by decide +kernel
theorem dX3_wrong_6 : decode cX3_wrong 6 = .ok (.invokevirtual 182, 3) := by decide +kernel
theorem dX3_wrong_9 : decode cX3_wrong 9 = .ok (.ireturn, 1) := by decide +kernel
theorem dX3_ways_0 : decode cX3_ways 0 = .ok (.aload_n 0, 1) := by decide +kernel
theorem dX3_ways_1 : decode cX3_ways 1 = .ok (.iload_n 1, 1) := by decide +kernel
theorem dX3_ways_2 : decode cX3_ways 2 = .ok (.invokevirtual 94, 3) := by decide +kernel
theorem dX3_ways_5 : decode cX3_ways 5 = .ok (.astore 4, 2) := by decide +kernel
theorem dX3_ways_7 : decode cX3_ways 7 = .ok (.aload_n 0, 1) := by decide +kernel
theorem dX3_ways_8 : decode cX3_ways 8 = .ok (.iload_n 2, 1) := by decide +kernel
theorem dX3_ways_9 : decode cX3_ways 9 = .ok (.invokevirtual 80, 3) := by decide +kernel
theorem dX3_ways_12 : decode cX3_ways 12 = .ok (.aload 4, 2) := by decide +kernel
theorem dX3_ways_14 : decode cX3_ways 14 = .ok (.iload_n 2, 1) := by decide +kernel
theorem dX3_ways_15 : decode cX3_ways 15 = .ok (.invokevirtual 207, 3) := by decide +kernel
theorem dX3_ways_18 : decode cX3_ways 18 = .ok (.ifCond .eq 17, 3) := by decide +kernel
theorem dX3_ways_21 : decode cX3_ways 21 = .ok (.aload_n 0, 1) := by decide +kernel
theorem dX3_ways_22 : decode cX3_ways 22 = .ok (.aload 4, 2) := by decide +kernel
theorem dX3_ways_24 : decode cX3_ways 24 = .ok (.getfield 113, 3) := by decide +kernel
theorem dX3_ways_27 : decode cX3_ways 27 = .ok (.invokevirtual 223, 3) := by decide +kernel
theorem dX3_ways_30 : decode cX3_ways 30 = .ok (.bipush 125, 2) := by decide +kernel
theorem dX3_ways_32 : decode cX3_ways 32 = .ok (.if_icmp .le 6, 3) := by decide +kernel
theorem dX3_ways_35 : decode cX3_ways 35 = .ok (.bipush (-9), 2) := by decide +kernel
theorem dX3_ways_37 : decode cX3_ways 37 = .ok (.ireturn, 1) := by decide +kernel
theorem dX3_ways_38 : decode cX3_ways 38 = .ok (.aload 4, 2) := by decide +kernel
theorem dX3_ways_40 : decode cX3_ways 40 = .ok (.getfield 113, 3) := by decide +kernel
theorem dX3_ways_43 : decode cX3_ways 43 = .ok (.iload_n 2, 1) := by decide +kernel
theorem dX3_ways_44 : decode cX3_ways 44 = .ok (.invokestatic 226, 3) := by decide +kernel
theorem dX3_ways_47 : decode cX3_ways 47 = .ok (.isub, 1) := by decide +kernel
theorem dX3_ways_48 : decode cX3_ways 48 = .ok (.istore 5, 2) := by decide +kernel
theorem dX3_ways_50 : decode cX3_ways 50 = .ok (.iload 5, 2) := by decide +kernel
theorem dX3_ways_52 : decode cX3_ways 52 = .ok (.ifCond .lt 10, 3) := by decide +kernel
theorem dX3_ways_55 : decode cX3_ways 55 = .ok (.aload_n 0, 1) := by decide +kernel
theorem dX3_ways_56 : decode cX3_ways 56 = .ok (.iload 5, 2) := by decide +kernel
theorem dX3_ways_58 : decode cX3_ways 58 = .ok (.invokevirtual 223, 3) := by decide +kernel
theorem dX3_ways_61 : decode cX3_ways 61 = .ok (.ireturn, 1) := by decide +kernel
theorem dX3_ways_62 : decode cX3_ways 62 = .ok (.aload_n 0, 1) := by decide +kernel
theorem dX3_ways_63 : decode cX3_ways 63 = .ok (.aload 4, 2) := by decide +kernel
theorem dX3_ways_65 : decode cX3_ways 65 = .ok (.iload_n 2, 1) := by decide +kernel
theorem dX3_ways_66 : decode cX3_ways 66 = .ok (.invokevirtual 198, 3) := by decide +kernel
theorem dX3_ways_69 : decode cX3_ways 69 = .ok (.ifCond .eq 27, 3) := by decide +kernel
theorem dX3_ways_72 : decode cX3_ways 72 = .ok (.aload_n 0, 1) := by decide +kernel
theorem dX3_ways_73 : decode cX3_ways 73 = .ok (.aload 4, 2) := by decide +kernel
theorem dX3_ways_75 : decode cX3_ways 75 = .ok (.iload_n 2, 1) := by decide +kernel
theorem dX3_ways_76 : decode cX3_ways 76 = .ok (.iconst 0, 1) := by decide +kernel
theorem dX3_ways_77 : decode cX3_ways 77 = .ok (.invokevirtual 178, 3) := by decide +kernel
theorem dX3_ways_80 : decode cX3_ways 80 = .ok (.aload_n 0, 1) := by decide +kernel
theorem dX3_ways_81 : decode cX3_ways 81 = .ok (.getfield 10, 3) := by decide +kernel
theorem dX3_ways_84 : decode cX3_ways 84 = .ok (.iload_n 3, 1) := by decide +kernel
theorem dX3_ways_85 : decode cX3_ways 85 = .ok (.i2l, 1) := by decide +kernel
theorem dX3_ways_86 : decode cX3_ways 86 = .ok (.invokevirtual 59, 3) := by decide +kernel
theorem dX3_ways_89 : decode cX3_ways 89 = .ok (.if_icmp .ne 7, 3) := by decide +kernel
theorem dX3_ways_92 : decode cX3_ways 92 = .ok (.iconst 1, 1) := by decide +kernel
theorem dX3_ways_93 : decode cX3_ways 93 = .ok (.goto 4, 3) := by decide +kernel
theorem dX3_ways_96 : decode cX3_ways 96 = .ok (.iconst 0, 1) := by decide +kernel
theorem dX3_ways_97 : decode cX3_ways 97 = .ok (.ireturn, 1) := by decide +kernel
theorem dX3_total_0 : decode cX3_total 0 = .ok (.aload_n 0, 1) := by decide +kernel
theorem dX3_total_1 : decode cX3_total 1 = .ok (.iload_n 1, 1) := by decide +kernel
theorem dX3_total_2 : decode cX3_total 2 = .ok (.invokevirtual 94, 3) := by decide +kernel
theorem dX3_total_5 : decode cX3_total 5 = .ok (.astore_n 3, 1) := by decide +kernel
theorem dX3_total_6 : decode cX3_total 6 = .ok (.aload_n 0, 1) := by decide +kernel
theorem dX3_total_7 : decode cX3_total 7 = .ok (.iload_n 2, 1) := by decide +kernel
theorem dX3_total_8 : decode cX3_total 8 = .ok (.invokevirtual 80, 3) := by decide +kernel
theorem dX3_total_11 : decode cX3_total 11 = .ok (.aload_n 3, 1) := by decide +kernel
theorem dX3_total_12 : decode cX3_total 12 = .ok (.iload_n 2, 1) := by decide +kernel
theorem dX3_total_13 : decode cX3_total 13 = .ok (.invokevirtual 207, 3) := by decide +kernel
theorem dX3_total_16 : decode cX3_total 16 = .ok (.ifCond .ne 6, 3) := by decide +kernel
theorem dX3_total_19 : decode cX3_total 19 = .ok (.bipush (-9), 2) := by decide +kernel
theorem dX3_total_21 : decode cX3_total 21 = .ok (.ireturn, 1) := by decide +kernel
theorem dX3_total_22 : decode cX3_total 22 = .ok (.iconst 0, 1) := by decide +kernel
theorem dX3_total_23 : decode cX3_total 23 = .ok (.istore 4, 2) := by decide +kernel
theorem dX3_total_25 : decode cX3_total 25 = .ok (.iconst 1, 1) := by decide +kernel
theorem dX3_total_26 : decode cX3_total 26 = .ok (.istore 5, 2) := by decide +kernel
theorem dX3_total_28 : decode cX3_total 28 = .ok (.iload 5, 2) := by decide +kernel
theorem dX3_total_30 : decode cX3_total 30 = .ok (.aload_n 0, 1) := by decide +kernel
theorem dX3_total_31 : decode cX3_total 31 = .ok (.getfield 10, 3) := by decide +kernel
theorem dX3_total_34 : decode cX3_total 34 = .ok (.getfield 116, 3) := by decide +kernel
theorem dX3_total_37 : decode cX3_total 37 = .ok (.if_icmp .gt 29, 3) := by decide +kernel
theorem dX3_total_40 : decode cX3_total 40 = .ok (.iload_n 2, 1) := by decide +kernel
theorem dX3_total_41 : decode cX3_total 41 = .ok (.iload 5, 2) := by decide +kernel
theorem dX3_total_43 : decode cX3_total 43 = .ok (.invokestatic 83, 3) := by decide +kernel
theorem dX3_total_46 : decode cX3_total 46 = .ok (.ifCond .eq 14, 3) := by decide +kernel
theorem dX3_total_49 : decode cX3_total 49 = .ok (.iload 4, 2) := by decide +kernel
theorem dX3_total_51 : decode cX3_total 51 = .ok (.aload_n 3, 1) := by decide +kernel
theorem dX3_total_52 : decode cX3_total 52 = .ok (.iload 5, 2) := by decide +kernel
theorem dX3_total_54 : decode cX3_total 54 = .ok (.invokevirtual 123, 3) := by decide +kernel
theorem dX3_total_57 : decode cX3_total 57 = .ok (.iadd, 1) := by decide +kernel
theorem dX3_total_58 : decode cX3_total 58 = .ok (.istore 4, 2) := by decide +kernel
theorem dX3_total_60 : decode cX3_total 60 = .ok (.iinc 5 1, 3) := by decide +kernel
theorem dX3_total_63 : decode cX3_total 63 = .ok (.goto (-35), 3) := by decide +kernel
theorem dX3_total_66 : decode cX3_total 66 = .ok (.iload 4, 2) := by decide +kernel
theorem dX3_total_68 : decode cX3_total 68 = .ok (.ireturn, 1) := by decide +kernel
theorem dX3_seal_0 : decode cX3_seal 0 = .ok (.aload_n 0, 1) := by decide +kernel
theorem dX3_seal_1 : decode cX3_seal 1 = .ok (.iload_n 1, 1) := by decide +kernel
theorem dX3_seal_2 : decode cX3_seal 2 = .ok (.invokevirtual 94, 3) := by decide +kernel
theorem dX3_seal_5 : decode cX3_seal 5 = .ok (.astore_n 3, 1) := by decide +kernel
theorem dX3_seal_6 : decode cX3_seal 6 = .ok (.iload_n 2, 1) := by decide +kernel
theorem dX3_seal_7 : decode cX3_seal 7 = .ok (.invokestatic 210, 3) := by decide +kernel
theorem dX3_seal_10 : decode cX3_seal 10 = .ok (.aload_n 3, 1) := by decide +kernel
theorem dX3_seal_11 : decode cX3_seal 11 = .ok (.iload_n 2, 1) := by decide +kernel
theorem dX3_seal_12 : decode cX3_seal 12 = .ok (.invokevirtual 137, 3) := by decide +kernel
theorem dX3_seal_15 : decode cX3_seal 15 = .ok (.ireturn, 1) := by decide +kernel
theorem dX3_fits_0 : decode cX3_fits 0 = .ok (.aload_n 0, 1) := by decide +kernel
theorem dX3_fits_1 : decode cX3_fits 1 = .ok (.iload_n 1, 1) := by decide +kernel
theorem dX3_fits_2 : decode cX3_fits 2 = .ok (.invokevirtual 94, 3) := by decide +kernel
theorem dX3_fits_5 : decode cX3_fits 5 = .ok (.astore_n 3, 1) := by decide +kernel
theorem dX3_fits_6 : decode cX3_fits 6 = .ok (.aload_n 0, 1) := by decide +kernel
theorem dX3_fits_7 : decode cX3_fits 7 = .ok (.iload_n 2, 1) := by decide +kernel
theorem dX3_fits_8 : decode cX3_fits 8 = .ok (.invokevirtual 77, 3) := by decide +kernel
theorem dX3_fits_11 : decode cX3_fits 11 = .ok (.aload_n 3, 1) := by decide +kernel
theorem dX3_fits_12 : decode cX3_fits 12 = .ok (.invokevirtual 195, 3) := by decide +kernel
theorem dX3_fits_15 : decode cX3_fits 15 = .ok (.ifCond .eq 11, 3) := by decide +kernel
theorem dX3_fits_18 : decode cX3_fits 18 = .ok (.aload_n 3, 1) := by decide +kernel
theorem dX3_fits_19 : decode cX3_fits 19 = .ok (.iload_n 2, 1) := by decide +kernel
theorem dX3_fits_20 : decode cX3_fits 20 = .ok (.invokevirtual 119, 3) := by decide +kernel
theorem dX3_fits_23 : decode cX3_fits 23 = .ok (.ifCond .ne 6, 3) := by decide +kernel
theorem dX3_fits_26 : decode cX3_fits 26 = .ok (.bipush (-9), 2) := by decide +kernel
theorem dX3_fits_28 : decode cX3_fits 28 = .ok (.ireturn, 1) := by decide +kernel
theorem dX3_fits_29 : decode cX3_fits 29 = .ok (.aload_n 0, 1) := by decide +kernel
theorem dX3_fits_30 : decode cX3_fits 30 = .ok (.aload_n 3, 1) := by decide +kernel
theorem dX3_fits_31 : decode cX3_fits 31 = .ok (.iload_n 2, 1) := by decide +kernel
theorem dX3_fits_32 : decode cX3_fits 32 = .ok (.invokevirtual 231, 3) := by decide +kernel
theorem dX3_fits_35 : decode cX3_fits 35 = .ok (.ifCond .eq 7, 3) := by decide +kernel
theorem dX3_fits_38 : decode cX3_fits 38 = .ok (.iconst 1, 1) := by decide +kernel
theorem dX3_fits_39 : decode cX3_fits 39 = .ok (.goto 4, 3) := by decide +kernel
theorem dX3_fits_42 : decode cX3_fits 42 = .ok (.iconst 0, 1) := by decide +kernel
theorem dX3_fits_43 : decode cX3_fits 43 = .ok (.ireturn, 1) := by decide +kernel
theorem dX3_order_0 : decode cX3_order 0 = .ok (.aload_n 0, 1) := by decide +kernel
theorem dX3_order_1 : decode cX3_order 1 = .ok (.iload_n 1, 1) := by decide +kernel
theorem dX3_order_2 : decode cX3_order 2 = .ok (.invokevirtual 94, 3) := by decide +kernel
theorem dX3_order_5 : decode cX3_order 5 = .ok (.astore 4, 2) := by decide +kernel
theorem dX3_order_7 : decode cX3_order 7 = .ok (.aload_n 0, 1) := by decide +kernel
theorem dX3_order_8 : decode cX3_order 8 = .ok (.iload_n 2, 1) := by decide +kernel
theorem dX3_order_9 : decode cX3_order 9 = .ok (.invokevirtual 94, 3) := by decide +kernel
theorem dX3_order_12 : decode cX3_order 12 = .ok (.astore 5, 2) := by decide +kernel
theorem dX3_order_14 : decode cX3_order 14 = .ok (.aload_n 0, 1) := by decide +kernel
theorem dX3_order_15 : decode cX3_order 15 = .ok (.iload_n 3, 1) := by decide +kernel
theorem dX3_order_16 : decode cX3_order 16 = .ok (.invokevirtual 77, 3) := by decide +kernel
theorem dX3_order_19 : decode cX3_order 19 = .ok (.aload 4, 2) := by decide +kernel
theorem dX3_order_21 : decode cX3_order 21 = .ok (.iload_n 3, 1) := by decide +kernel
theorem dX3_order_22 : decode cX3_order 22 = .ok (.invokevirtual 119, 3) := by decide +kernel
theorem dX3_order_25 : decode cX3_order 25 = .ok (.ifCond .eq 12, 3) := by decide +kernel
theorem dX3_order_28 : decode cX3_order 28 = .ok (.aload 5, 2) := by decide +kernel
theorem dX3_order_30 : decode cX3_order 30 = .ok (.iload_n 3, 1) := by decide +kernel
theorem dX3_order_31 : decode cX3_order 31 = .ok (.invokevirtual 119, 3) := by decide +kernel
theorem dX3_order_34 : decode cX3_order 34 = .ok (.ifCond .ne 6, 3) := by decide +kernel
theorem dX3_order_37 : decode cX3_order 37 = .ok (.bipush (-9), 2) := by decide +kernel
theorem dX3_order_39 : decode cX3_order 39 = .ok (.ireturn, 1) := by decide +kernel
theorem dX3_order_40 : decode cX3_order 40 = .ok (.aload 4, 2) := by decide +kernel
theorem dX3_order_42 : decode cX3_order 42 = .ok (.iload_n 3, 1) := by decide +kernel
theorem dX3_order_43 : decode cX3_order 43 = .ok (.invokevirtual 123, 3) := by decide +kernel
theorem dX3_order_46 : decode cX3_order 46 = .ok (.istore 6, 2) := by decide +kernel
theorem dX3_order_48 : decode cX3_order 48 = .ok (.aload 5, 2) := by decide +kernel
theorem dX3_order_50 : decode cX3_order 50 = .ok (.iload_n 3, 1) := by decide +kernel
theorem dX3_order_51 : decode cX3_order 51 = .ok (.invokevirtual 123, 3) := by decide +kernel
theorem dX3_order_54 : decode cX3_order 54 = .ok (.istore 7, 2) := by decide +kernel
theorem dX3_order_56 : decode cX3_order 56 = .ok (.iload 6, 2) := by decide +kernel
theorem dX3_order_58 : decode cX3_order 58 = .ok (.iload 7, 2) := by decide +kernel
theorem dX3_order_60 : decode cX3_order 60 = .ok (.if_icmp .ge 7, 3) := by decide +kernel
theorem dX3_order_63 : decode cX3_order 63 = .ok (.iconst (-1), 1) := by decide +kernel
theorem dX3_order_64 : decode cX3_order 64 = .ok (.goto 15, 3) := by decide +kernel
theorem dX3_order_67 : decode cX3_order 67 = .ok (.iload 6, 2) := by decide +kernel
theorem dX3_order_69 : decode cX3_order 69 = .ok (.iload 7, 2) := by decide +kernel
theorem dX3_order_71 : decode cX3_order 71 = .ok (.if_icmp .le 7, 3) := by decide +kernel
theorem dX3_order_74 : decode cX3_order 74 = .ok (.iconst 1, 1) := by decide +kernel
theorem dX3_order_75 : decode cX3_order 75 = .ok (.goto 4, 3) := by decide +kernel
theorem dX3_order_78 : decode cX3_order 78 = .ok (.iconst 0, 1) := by decide +kernel
theorem dX3_order_79 : decode cX3_order 79 = .ok (.ireturn, 1) := by decide +kernel
theorem dX3_most_0 : decode cX3_most 0 = .ok (.aload_n 0, 1) := by decide +kernel
theorem dX3_most_1 : decode cX3_most 1 = .ok (.iload_n 1, 1) := by decide +kernel
theorem dX3_most_2 : decode cX3_most 2 = .ok (.invokevirtual 94, 3) := by decide +kernel
theorem dX3_most_5 : decode cX3_most 5 = .ok (.astore_n 3, 1) := by decide +kernel
theorem dX3_most_6 : decode cX3_most 6 = .ok (.aload_n 3, 1) := by decide +kernel
theorem dX3_most_7 : decode cX3_most 7 = .ok (.invokevirtual 109, 3) := by decide +kernel
theorem dX3_most_10 : decode cX3_most 10 = .ok (.ifCond .eq 6, 3) := by decide +kernel
theorem dX3_most_13 : decode cX3_most 13 = .ok (.bipush (-9), 2) := by decide +kernel
theorem dX3_most_15 : decode cX3_most 15 = .ok (.ireturn, 1) := by decide +kernel
theorem dX3_most_16 : decode cX3_most 16 = .ok (.iconst 0, 1) := by decide +kernel
theorem dX3_most_17 : decode cX3_most 17 = .ok (.istore 4, 2) := by decide +kernel
theorem dX3_most_19 : decode cX3_most 19 = .ok (.iconst 0, 1) := by decide +kernel
theorem dX3_most_20 : decode cX3_most 20 = .ok (.istore 5, 2) := by decide +kernel
theorem dX3_most_22 : decode cX3_most 22 = .ok (.iconst 1, 1) := by decide +kernel
theorem dX3_most_23 : decode cX3_most 23 = .ok (.istore 6, 2) := by decide +kernel
theorem dX3_most_25 : decode cX3_most 25 = .ok (.iload 6, 2) := by decide +kernel
theorem dX3_most_27 : decode cX3_most 27 = .ok (.aload_n 0, 1) := by decide +kernel
theorem dX3_most_28 : decode cX3_most 28 = .ok (.getfield 10, 3) := by decide +kernel
theorem dX3_most_31 : decode cX3_most 31 = .ok (.getfield 116, 3) := by decide +kernel
theorem dX3_most_34 : decode cX3_most 34 = .ok (.if_icmp .gt 69, 3) := by decide +kernel
theorem dX3_most_37 : decode cX3_most 37 = .ok (.aload_n 3, 1) := by decide +kernel
theorem dX3_most_38 : decode cX3_most 38 = .ok (.iload 6, 2) := by decide +kernel
theorem dX3_most_40 : decode cX3_most 40 = .ok (.invokevirtual 123, 3) := by decide +kernel
theorem dX3_most_43 : decode cX3_most 43 = .ok (.istore 7, 2) := by decide +kernel
theorem dX3_most_45 : decode cX3_most 45 = .ok (.iload 4, 2) := by decide +kernel
theorem dX3_most_47 : decode cX3_most 47 = .ok (.ifCond .eq 24, 3) := by decide +kernel
theorem dX3_most_50 : decode cX3_most 50 = .ok (.iload_n 2, 1) := by decide +kernel
theorem dX3_most_51 : decode cX3_most 51 = .ok (.ifCond .eq 13, 3) := by decide +kernel
theorem dX3_most_54 : decode cX3_most 54 = .ok (.iload 7, 2) := by decide +kernel
theorem dX3_most_56 : decode cX3_most 56 = .ok (.iload 5, 2) := by decide +kernel
theorem dX3_most_58 : decode cX3_most 58 = .ok (.if_icmp .ge 17, 3) := by decide +kernel
theorem dX3_most_61 : decode cX3_most 61 = .ok (.goto 10, 3) := by decide +kernel
theorem dX3_most_64 : decode cX3_most 64 = .ok (.iload 7, 2) := by decide +kernel
theorem dX3_most_66 : decode cX3_most 66 = .ok (.iload 5, 2) := by decide +kernel
theorem dX3_most_68 : decode cX3_most 68 = .ok (.if_icmp .le 7, 3) := by decide +kernel
theorem dX3_most_71 : decode cX3_most 71 = .ok (.iconst 1, 1) := by decide +kernel
theorem dX3_most_72 : decode cX3_most 72 = .ok (.goto 4, 3) := by decide +kernel
theorem dX3_most_75 : decode cX3_most 75 = .ok (.iconst 0, 1) := by decide +kernel
theorem dX3_most_76 : decode cX3_most 76 = .ok (.istore 8, 2) := by decide +kernel
theorem dX3_most_78 : decode cX3_most 78 = .ok (.iload 7, 2) := by decide +kernel
theorem dX3_most_80 : decode cX3_most 80 = .ok (.iconst (-1), 1) := by decide +kernel
theorem dX3_most_81 : decode cX3_most 81 = .ok (.if_icmp .eq 16, 3) := by decide +kernel
theorem dX3_most_84 : decode cX3_most 84 = .ok (.iload 8, 2) := by decide +kernel
theorem dX3_most_86 : decode cX3_most 86 = .ok (.ifCond .eq 11, 3) := by decide +kernel
theorem dX3_most_89 : decode cX3_most 89 = .ok (.iload 6, 2) := by decide +kernel
theorem dX3_most_91 : decode cX3_most 91 = .ok (.istore 4, 2) := by decide +kernel
theorem dX3_most_93 : decode cX3_most 93 = .ok (.iload 7, 2) := by decide +kernel
theorem dX3_most_95 : decode cX3_most 95 = .ok (.istore 5, 2) := by decide +kernel
theorem dX3_most_97 : decode cX3_most 97 = .ok (.iinc 6 1, 3) := by decide +kernel
theorem dX3_most_100 : decode cX3_most 100 = .ok (.goto (-75), 3) := by decide +kernel
theorem dX3_most_103 : decode cX3_most 103 = .ok (.iload 4, 2) := by decide +kernel
theorem dX3_most_105 : decode cX3_most 105 = .ok (.ireturn, 1) := by decide +kernel
theorem dX3_text_0 : decode cX3_text 0 = .ok (.aload_n 0, 1) := by decide +kernel
theorem dX3_text_1 : decode cX3_text 1 = .ok (.iload_n 1, 1) := by decide +kernel
theorem dX3_text_2 : decode cX3_text 2 = .ok (.invokevirtual 94, 3) := by decide +kernel
theorem dX3_text_5 : decode cX3_text 5 = .ok (.astore_n 2, 1) := by decide +kernel
theorem dX3_text_6 : decode cX3_text 6 = .ok (.new 234, 3) := by decide +kernel
theorem dX3_text_9 : decode cX3_text 9 = .ok (.dup, 1) := by decide +kernel
theorem dX3_text_10 : decode cX3_text 10 = .ok (.invokespecial 236, 3) := by decide +kernel
theorem dX3_text_13 : decode cX3_text 13 = .ok (.astore_n 3, 1) := by decide +kernel
theorem dX3_text_14 : decode cX3_text 14 = .ok (.aload_n 2, 1) := by decide +kernel
theorem dX3_text_15 : decode cX3_text 15 = .ok (.invokevirtual 109, 3) := by decide +kernel
theorem dX3_text_18 : decode cX3_text 18 = .ok (.ifCond .eq 8, 3) := by decide +kernel
theorem dX3_text_21 : decode cX3_text 21 = .ok (.aload_n 3, 1) := by decide +kernel
theorem dX3_text_22 : decode cX3_text 22 = .ok (.invokevirtual 237, 3) := by decide +kernel
theorem dX3_text_25 : decode cX3_text 25 = .ok (.areturn, 1) := by decide +kernel
theorem dX3_text_26 : decode cX3_text 26 = .ok (.iconst 1, 1) := by decide +kernel
theorem dX3_text_27 : decode cX3_text 27 = .ok (.istore 4, 2) := by decide +kernel
theorem dX3_text_29 : decode cX3_text 29 = .ok (.iload 4, 2) := by decide +kernel
theorem dX3_text_31 : decode cX3_text 31 = .ok (.aload_n 0, 1) := by decide +kernel
theorem dX3_text_32 : decode cX3_text 32 = .ok (.getfield 10, 3) := by decide +kernel
theorem dX3_text_35 : decode cX3_text 35 = .ok (.getfield 116, 3) := by decide +kernel
theorem dX3_text_38 : decode cX3_text 38 = .ok (.if_icmp .gt 52, 3) := by decide +kernel
theorem dX3_text_41 : decode cX3_text 41 = .ok (.iload 4, 2) := by decide +kernel
theorem dX3_text_43 : decode cX3_text 43 = .ok (.iconst 1, 1) := by decide +kernel
theorem dX3_text_44 : decode cX3_text 44 = .ok (.if_icmp .le 10, 3) := by decide +kernel
theorem dX3_text_47 : decode cX3_text 47 = .ok (.aload_n 3, 1) := by decide +kernel
theorem dX3_text_48 : decode cX3_text 48 = .ok (.bipush 32, 2) := by decide +kernel
theorem dX3_text_50 : decode cX3_text 50 = .ok (.invokevirtual 241, 3) := by decide +kernel
theorem dX3_text_53 : decode cX3_text 53 = .ok (.pop, 1) := by decide +kernel
theorem dX3_text_54 : decode cX3_text 54 = .ok (.aload_n 2, 1) := by decide +kernel
theorem dX3_text_55 : decode cX3_text 55 = .ok (.iload 4, 2) := by decide +kernel
theorem dX3_text_57 : decode cX3_text 57 = .ok (.invokevirtual 119, 3) := by decide +kernel
theorem dX3_text_60 : decode cX3_text 60 = .ok (.ifCond .eq 17, 3) := by decide +kernel
theorem dX3_text_63 : decode cX3_text 63 = .ok (.aload_n 3, 1) := by decide +kernel
theorem dX3_text_64 : decode cX3_text 64 = .ok (.aload_n 2, 1) := by decide +kernel
theorem dX3_text_65 : decode cX3_text 65 = .ok (.iload 4, 2) := by decide +kernel
theorem dX3_text_67 : decode cX3_text 67 = .ok (.invokevirtual 123, 3) := by decide +kernel
theorem dX3_text_70 : decode cX3_text 70 = .ok (.invokevirtual 245, 3) := by decide +kernel
theorem dX3_text_73 : decode cX3_text 73 = .ok (.pop, 1) := by decide +kernel
theorem dX3_text_74 : decode cX3_text 74 = .ok (.goto 10, 3) := by decide +kernel
theorem dX3_text_77 : decode cX3_text 77 = .ok (.aload_n 3, 1) := by decide +kernel
theorem dX3_text_78 : decode cX3_text 78 = .ok (.bipush 45, 2) := by decide +kernel
theorem dX3_text_80 : decode cX3_text 80 = .ok (.invokevirtual 241, 3) := by decide +kernel
theorem dX3_text_83 : decode cX3_text 83 = .ok (.pop, 1) := by decide +kernel
theorem dX3_text_84 : decode cX3_text 84 = .ok (.iinc 4 1, 3) := by decide +kernel
theorem dX3_text_87 : decode cX3_text 87 = .ok (.goto (-58), 3) := by decide +kernel
theorem dX3_text_90 : decode cX3_text 90 = .ok (.aload_n 3, 1) := by decide +kernel
theorem dX3_text_91 : decode cX3_text 91 = .ok (.invokevirtual 237, 3) := by decide +kernel
theorem dX3_text_94 : decode cX3_text 94 = .ok (.areturn, 1) := by decide +kernel
theorem dX3_seals_0 : decode cX3_seals 0 = .ok (.aload_n 0, 1) := by decide +kernel
theorem dX3_seals_1 : decode cX3_seals 1 = .ok (.iload_n 1, 1) := by decide +kernel
theorem dX3_seals_2 : decode cX3_seals 2 = .ok (.invokevirtual 94, 3) := by decide +kernel
theorem dX3_seals_5 : decode cX3_seals 5 = .ok (.astore_n 2, 1) := by decide +kernel
theorem dX3_seals_6 : decode cX3_seals 6 = .ok (.new 234, 3) := by decide +kernel
theorem dX3_seals_9 : decode cX3_seals 9 = .ok (.dup, 1) := by decide +kernel
theorem dX3_seals_10 : decode cX3_seals 10 = .ok (.invokespecial 236, 3) := by decide +kernel
theorem dX3_seals_13 : decode cX3_seals 13 = .ok (.astore_n 3, 1) := by decide +kernel
theorem dX3_seals_14 : decode cX3_seals 14 = .ok (.iconst 0, 1) := by decide +kernel
theorem dX3_seals_15 : decode cX3_seals 15 = .ok (.istore 4, 2) := by decide +kernel
theorem dX3_seals_17 : decode cX3_seals 17 = .ok (.iload 4, 2) := by decide +kernel
theorem dX3_seals_19 : decode cX3_seals 19 = .ok (.aload_n 2, 1) := by decide +kernel
theorem dX3_seals_20 : decode cX3_seals 20 = .ok (.getfield 134, 3) := by decide +kernel
theorem dX3_seals_23 : decode cX3_seals 23 = .ok (.if_icmp .ge 32, 3) := by decide +kernel
theorem dX3_seals_26 : decode cX3_seals 26 = .ok (.iload 4, 2) := by decide +kernel
theorem dX3_seals_28 : decode cX3_seals 28 = .ok (.ifCond .le 10, 3) := by decide +kernel
theorem dX3_seals_31 : decode cX3_seals 31 = .ok (.aload_n 3, 1) := by decide +kernel
theorem dX3_seals_32 : decode cX3_seals 32 = .ok (.bipush 32, 2) := by decide +kernel
theorem dX3_seals_34 : decode cX3_seals 34 = .ok (.invokevirtual 241, 3) := by decide +kernel
theorem dX3_seals_37 : decode cX3_seals 37 = .ok (.pop, 1) := by decide +kernel
theorem dX3_seals_38 : decode cX3_seals 38 = .ok (.aload_n 3, 1) := by decide +kernel
theorem dX3_seals_39 : decode cX3_seals 39 = .ok (.aload_n 2, 1) := by decide +kernel
theorem dX3_seals_40 : decode cX3_seals 40 = .ok (.iload 4, 2) := by decide +kernel
theorem dX3_seals_42 : decode cX3_seals 42 = .ok (.invokevirtual 137, 3) := by decide +kernel
theorem dX3_seals_45 : decode cX3_seals 45 = .ok (.invokevirtual 245, 3) := by decide +kernel
theorem dX3_seals_48 : decode cX3_seals 48 = .ok (.pop, 1) := by decide +kernel
theorem dX3_seals_49 : decode cX3_seals 49 = .ok (.iinc 4 1, 3) := by decide +kernel
theorem dX3_seals_52 : decode cX3_seals 52 = .ok (.goto (-35), 3) := by decide +kernel
theorem dX3_seals_55 : decode cX3_seals 55 = .ok (.aload_n 3, 1) := by decide +kernel
theorem dX3_seals_56 : decode cX3_seals 56 = .ok (.invokevirtual 237, 3) := by decide +kernel
theorem dX3_seals_59 : decode cX3_seals 59 = .ok (.areturn, 1) := by decide +kernel
theorem dX3_isSame_0 : decode cX3_isSame 0 = .ok (.aload_n 0, 1) := by decide +kernel
theorem dX3_isSame_1 : decode cX3_isSame 1 = .ok (.iload_n 1, 1) := by decide +kernel
theorem dX3_isSame_2 : decode cX3_isSame 2 = .ok (.invokevirtual 94, 3) := by decide +kernel
theorem dX3_isSame_5 : decode cX3_isSame 5 = .ok (.astore_n 3, 1) := by decide +kernel
theorem dX3_isSame_6 : decode cX3_isSame 6 = .ok (.aload_n 0, 1) := by decide +kernel
theorem dX3_isSame_7 : decode cX3_isSame 7 = .ok (.iload_n 2, 1) := by decide +kernel
theorem dX3_isSame_8 : decode cX3_isSame 8 = .ok (.invokevirtual 94, 3) := by decide +kernel
theorem dX3_isSame_11 : decode cX3_isSame 11 = .ok (.astore 4, 2) := by decide +kernel
theorem dX3_isSame_13 : decode cX3_isSame 13 = .ok (.aload_n 3, 1) := by decide +kernel
theorem dX3_isSame_14 : decode cX3_isSame 14 = .ok (.invokevirtual 109, 3) := by decide +kernel
theorem dX3_isSame_17 : decode cX3_isSame 17 = .ok (.ifCond .ne 11, 3) := by decide +kernel
theorem dX3_isSame_20 : decode cX3_isSame 20 = .ok (.aload 4, 2) := by decide +kernel
theorem dX3_isSame_22 : decode cX3_isSame 22 = .ok (.invokevirtual 109, 3) := by decide +kernel
theorem dX3_isSame_25 : decode cX3_isSame 25 = .ok (.ifCond .eq 24, 3) := by decide +kernel
theorem dX3_isSame_28 : decode cX3_isSame 28 = .ok (.aload_n 3, 1) := by decide +kernel
theorem dX3_isSame_29 : decode cX3_isSame 29 = .ok (.invokevirtual 109, 3) := by decide +kernel
theorem dX3_isSame_32 : decode cX3_isSame 32 = .ok (.ifCond .eq 15, 3) := by decide +kernel
theorem dX3_isSame_35 : decode cX3_isSame 35 = .ok (.aload 4, 2) := by decide +kernel
theorem dX3_isSame_37 : decode cX3_isSame 37 = .ok (.invokevirtual 109, 3) := by decide +kernel
theorem dX3_isSame_40 : decode cX3_isSame 40 = .ok (.ifCond .eq 7, 3) := by decide +kernel
theorem dX3_isSame_43 : decode cX3_isSame 43 = .ok (.iconst 1, 1) := by decide +kernel
theorem dX3_isSame_44 : decode cX3_isSame 44 = .ok (.goto 4, 3) := by decide +kernel
theorem dX3_isSame_47 : decode cX3_isSame 47 = .ok (.iconst 0, 1) := by decide +kernel
theorem dX3_isSame_48 : decode cX3_isSame 48 = .ok (.ireturn, 1) := by decide +kernel
theorem dX3_isSame_49 : decode cX3_isSame 49 = .ok (.aload_n 3, 1) := by decide +kernel
theorem dX3_isSame_50 : decode cX3_isSame 50 = .ok (.getfield 113, 3) := by decide +kernel
theorem dX3_isSame_53 : decode cX3_isSame 53 = .ok (.aload 4, 2) := by decide +kernel
theorem dX3_isSame_55 : decode cX3_isSame 55 = .ok (.getfield 113, 3) := by decide +kernel
theorem dX3_isSame_58 : decode cX3_isSame 58 = .ok (.if_icmp .ne 7, 3) := by decide +kernel
theorem dX3_isSame_61 : decode cX3_isSame 61 = .ok (.iconst 1, 1) := by decide +kernel
theorem dX3_isSame_62 : decode cX3_isSame 62 = .ok (.goto 4, 3) := by decide +kernel
theorem dX3_isSame_65 : decode cX3_isSame 65 = .ok (.iconst 0, 1) := by decide +kernel
theorem dX3_isSame_66 : decode cX3_isSame 66 = .ok (.istore 5, 2) := by decide +kernel
theorem dX3_isSame_68 : decode cX3_isSame 68 = .ok (.iconst 1, 1) := by decide +kernel
theorem dX3_isSame_69 : decode cX3_isSame 69 = .ok (.istore 6, 2) := by decide +kernel
theorem dX3_isSame_71 : decode cX3_isSame 71 = .ok (.iload 6, 2) := by decide +kernel
theorem dX3_isSame_73 : decode cX3_isSame 73 = .ok (.aload_n 0, 1) := by decide +kernel
theorem dX3_isSame_74 : decode cX3_isSame 74 = .ok (.getfield 10, 3) := by decide +kernel
theorem dX3_isSame_77 : decode cX3_isSame 77 = .ok (.getfield 116, 3) := by decide +kernel
theorem dX3_isSame_80 : decode cX3_isSame 80 = .ok (.if_icmp .gt 37, 3) := by decide +kernel
theorem dX3_isSame_83 : decode cX3_isSame 83 = .ok (.iload 5, 2) := by decide +kernel
theorem dX3_isSame_85 : decode cX3_isSame 85 = .ok (.ifCond .eq 23, 3) := by decide +kernel
theorem dX3_isSame_88 : decode cX3_isSame 88 = .ok (.aload_n 3, 1) := by decide +kernel
theorem dX3_isSame_89 : decode cX3_isSame 89 = .ok (.iload 6, 2) := by decide +kernel
theorem dX3_isSame_91 : decode cX3_isSame 91 = .ok (.invokevirtual 123, 3) := by decide +kernel
theorem dX3_isSame_94 : decode cX3_isSame 94 = .ok (.aload 4, 2) := by decide +kernel
theorem dX3_isSame_96 : decode cX3_isSame 96 = .ok (.iload 6, 2) := by decide +kernel
theorem dX3_isSame_98 : decode cX3_isSame 98 = .ok (.invokevirtual 123, 3) := by decide +kernel
theorem dX3_isSame_101 : decode cX3_isSame 101 = .ok (.if_icmp .ne 7, 3) := by decide +kernel
theorem dX3_isSame_104 : decode cX3_isSame 104 = .ok (.iconst 1, 1) := by decide +kernel
theorem dX3_isSame_105 : decode cX3_isSame 105 = .ok (.goto 4, 3) := by decide +kernel
theorem dX3_isSame_108 : decode cX3_isSame 108 = .ok (.iconst 0, 1) := by decide +kernel
theorem dX3_isSame_109 : decode cX3_isSame 109 = .ok (.istore 5, 2) := by decide +kernel
theorem dX3_isSame_111 : decode cX3_isSame 111 = .ok (.iinc 6 1, 3) := by decide +kernel
theorem dX3_isSame_114 : decode cX3_isSame 114 = .ok (.goto (-43), 3) := by decide +kernel
theorem dX3_isSame_117 : decode cX3_isSame 117 = .ok (.iload 5, 2) := by decide +kernel
theorem dX3_isSame_119 : decode cX3_isSame 119 = .ok (.ireturn, 1) := by decide +kernel
theorem dX3_house_0 : decode cX3_house 0 = .ok (.iload_n 1, 1) := by decide +kernel
theorem dX3_house_1 : decode cX3_house 1 = .ok (.tableswitch 93 0 6 #[43, 51, 59, 67, 75, 83, 88], 43) := by decide +kernel
theorem dX3_house_44 : decode cX3_house 44 = .ok (.aload_n 0, 1) := by decide +kernel
theorem dX3_house_45 : decode cX3_house 45 = .ok (.getfield 10, 3) := by decide +kernel
theorem dX3_house_48 : decode cX3_house 48 = .ok (.getfield 248, 3) := by decide +kernel
theorem dX3_house_51 : decode cX3_house 51 = .ok (.ireturn, 1) := by decide +kernel
theorem dX3_house_52 : decode cX3_house 52 = .ok (.aload_n 0, 1) := by decide +kernel
theorem dX3_house_53 : decode cX3_house 53 = .ok (.getfield 10, 3) := by decide +kernel
theorem dX3_house_56 : decode cX3_house 56 = .ok (.getfield 49, 3) := by decide +kernel
theorem dX3_house_59 : decode cX3_house 59 = .ok (.ireturn, 1) := by decide +kernel
theorem dX3_house_60 : decode cX3_house 60 = .ok (.aload_n 0, 1) := by decide +kernel
theorem dX3_house_61 : decode cX3_house 61 = .ok (.getfield 10, 3) := by decide +kernel
theorem dX3_house_64 : decode cX3_house 64 = .ok (.getfield 164, 3) := by decide +kernel
theorem dX3_house_67 : decode cX3_house 67 = .ok (.ireturn, 1) := by decide +kernel
theorem dX3_house_68 : decode cX3_house 68 = .ok (.aload_n 0, 1) := by decide +kernel
theorem dX3_house_69 : decode cX3_house 69 = .ok (.getfield 10, 3) := by decide +kernel
theorem dX3_house_72 : decode cX3_house 72 = .ok (.getfield 251, 3) := by decide +kernel
theorem dX3_house_75 : decode cX3_house 75 = .ok (.ireturn, 1) := by decide +kernel
theorem dX3_house_76 : decode cX3_house 76 = .ok (.aload_n 0, 1) := by decide +kernel
theorem dX3_house_77 : decode cX3_house 77 = .ok (.getfield 10, 3) := by decide +kernel
theorem dX3_house_80 : decode cX3_house 80 = .ok (.getfield 116, 3) := by decide +kernel
theorem dX3_house_83 : decode cX3_house 83 = .ok (.ireturn, 1) := by decide +kernel
theorem dX3_house_84 : decode cX3_house 84 = .ok (.aload_n 0, 1) := by decide +kernel
theorem dX3_house_85 : decode cX3_house 85 = .ok (.invokevirtual 254, 3) := by decide +kernel
theorem dX3_house_88 : decode cX3_house 88 = .ok (.ireturn, 1) := by decide +kernel
theorem dX3_house_89 : decode cX3_house 89 = .ok (.aload_n 0, 1) := by decide +kernel
theorem dX3_house_90 : decode cX3_house 90 = .ok (.getfield 34, 3) := by decide +kernel
theorem dX3_house_93 : decode cX3_house 93 = .ok (.ireturn, 1) := by decide +kernel
theorem dX3_house_94 : decode cX3_house 94 = .ok (.new 42, 3) := by decide +kernel
theorem dX3_house_97 : decode cX3_house 97 = .ok (.dup, 1) := by decide +kernel
theorem dX3_house_98 : decode cX3_house 98 = .ok (.ldc_w 257, 3) := by decide +kernel
theorem dX3_house_101 : decode cX3_house 101 = .ok (.invokespecial 46, 3) := by decide +kernel
theorem dX3_house_104 : decode cX3_house 104 = .ok (.athrow, 1) := by decide +kernel
theorem dX3_isSound_0 : decode cX3_isSound 0 = .ok (.iconst 0, 1) := by decide +kernel
theorem dX3_isSound_1 : decode cX3_isSound 1 = .ok (.istore_n 1, 1) := by decide +kernel
theorem dX3_isSound_2 : decode cX3_isSound 2 = .ok (.iload_n 1, 1) := by decide +kernel
theorem dX3_isSound_3 : decode cX3_isSound 3 = .ok (.aload_n 0, 1) := by decide +kernel
theorem dX3_isSound_4 : decode cX3_isSound 4 = .ok (.getfield 25, 3) := by decide +kernel
theorem dX3_isSound_7 : decode cX3_isSound 7 = .ok (.arraylength, 1) := by decide +kernel
theorem dX3_isSound_8 : decode cX3_isSound 8 = .ok (.if_icmp .ge 37, 3) := by decide +kernel
theorem dX3_isSound_11 : decode cX3_isSound 11 = .ok (.aload_n 0, 1) := by decide +kernel
theorem dX3_isSound_12 : decode cX3_isSound 12 = .ok (.aload_n 0, 1) := by decide +kernel
theorem dX3_isSound_13 : decode cX3_isSound 13 = .ok (.getfield 25, 3) := by decide +kernel
theorem dX3_isSound_16 : decode cX3_isSound 16 = .ok (.iload_n 1, 1) := by decide +kernel
theorem dX3_isSound_17 : decode cX3_isSound 17 = .ok (.aaload, 1) := by decide +kernel
theorem dX3_isSound_18 : decode cX3_isSound 18 = .ok (.invokevirtual 259, 3) := by decide +kernel
theorem dX3_isSound_21 : decode cX3_isSound 21 = .ok (.ifCond .eq 16, 3) := by decide +kernel
theorem dX3_isSound_24 : decode cX3_isSound 24 = .ok (.aload_n 0, 1) := by decide +kernel
theorem dX3_isSound_25 : decode cX3_isSound 25 = .ok (.aload_n 0, 1) := by decide +kernel
theorem dX3_isSound_26 : decode cX3_isSound 26 = .ok (.getfield 25, 3) := by decide +kernel
theorem dX3_isSound_29 : decode cX3_isSound 29 = .ok (.iload_n 1, 1) := by decide +kernel
theorem dX3_isSound_30 : decode cX3_isSound 30 = .ok (.aaload, 1) := by decide +kernel
theorem dX3_isSound_31 : decode cX3_isSound 31 = .ok (.invokevirtual 263, 3) := by decide +kernel
theorem dX3_isSound_34 : decode cX3_isSound 34 = .ok (.ifCond .ne 5, 3) := by decide +kernel
theorem dX3_isSound_37 : decode cX3_isSound 37 = .ok (.iconst 0, 1) := by decide +kernel
theorem dX3_isSound_38 : decode cX3_isSound 38 = .ok (.ireturn, 1) := by decide +kernel
theorem dX3_isSound_39 : decode cX3_isSound 39 = .ok (.iinc 1 1, 3) := by decide +kernel
theorem dX3_isSound_42 : decode cX3_isSound 42 = .ok (.goto (-40), 3) := by decide +kernel
theorem dX3_isSound_45 : decode cX3_isSound 45 = .ok (.aload_n 0, 1) := by decide +kernel
theorem dX3_isSound_46 : decode cX3_isSound 46 = .ok (.aload_n 0, 1) := by decide +kernel
theorem dX3_isSound_47 : decode cX3_isSound 47 = .ok (.invokevirtual 266, 3) := by decide +kernel
theorem dX3_isSound_50 : decode cX3_isSound 50 = .ok (.iconst 0, 1) := by decide +kernel
theorem dX3_isSound_51 : decode cX3_isSound 51 = .ok (.invokevirtual 91, 3) := by decide +kernel
theorem dX3_isSound_54 : decode cX3_isSound 54 = .ok (.iconst 1, 1) := by decide +kernel
theorem dX3_isSound_55 : decode cX3_isSound 55 = .ok (.if_icmp .ne 14, 3) := by decide +kernel
theorem dX3_isSound_58 : decode cX3_isSound 58 = .ok (.aload_n 0, 1) := by decide +kernel
theorem dX3_isSound_59 : decode cX3_isSound 59 = .ok (.invokevirtual 269, 3) := by decide +kernel
theorem dX3_isSound_62 : decode cX3_isSound 62 = .ok (.ifCond .eq 7, 3) := by decide +kernel
theorem dX3_isSound_65 : decode cX3_isSound 65 = .ok (.iconst 1, 1) := by decide +kernel
theorem dX3_isSound_66 : decode cX3_isSound 66 = .ok (.goto 4, 3) := by decide +kernel
theorem dX3_isSound_69 : decode cX3_isSound 69 = .ok (.iconst 0, 1) := by decide +kernel
theorem dX3_isSound_70 : decode cX3_isSound 70 = .ok (.ireturn, 1) := by decide +kernel
theorem dX3_digest_0 : decode cX3_digest 0 = .ok (.ldc2_w 272, 3) := by decide +kernel
theorem dX3_digest_3 : decode cX3_digest 3 = .ok (.lstore_n 1, 1) := by decide +kernel
theorem dX3_digest_4 : decode cX3_digest 4 = .ok (.iconst 0, 1) := by decide +kernel
theorem dX3_digest_5 : decode cX3_digest 5 = .ok (.istore_n 3, 1) := by decide +kernel
theorem dX3_digest_6 : decode cX3_digest 6 = .ok (.iload_n 3, 1) := by decide +kernel
theorem dX3_digest_7 : decode cX3_digest 7 = .ok (.bipush 6, 2) := by decide +kernel
theorem dX3_digest_9 : decode cX3_digest 9 = .ok (.if_icmp .gt 22, 3) := by decide +kernel
theorem dX3_digest_12 : decode cX3_digest 12 = .ok (.lload_n 1, 1) := by decide +kernel
theorem dX3_digest_13 : decode cX3_digest 13 = .ok (.ldc2_w 274, 3) := by decide +kernel
theorem dX3_digest_16 : decode cX3_digest 16 = .ok (.lmul, 1) := by decide +kernel
theorem dX3_digest_17 : decode cX3_digest 17 = .ok (.aload_n 0, 1) := by decide +kernel
theorem dX3_digest_18 : decode cX3_digest 18 = .ok (.iload_n 3, 1) := by decide +kernel
theorem dX3_digest_19 : decode cX3_digest 19 = .ok (.invokevirtual 276, 3) := by decide +kernel
theorem dX3_digest_22 : decode cX3_digest 22 = .ok (.i2l, 1) := by decide +kernel
theorem dX3_digest_23 : decode cX3_digest 23 = .ok (.ladd, 1) := by decide +kernel
theorem dX3_digest_24 : decode cX3_digest 24 = .ok (.lstore_n 1, 1) := by decide +kernel
theorem dX3_digest_25 : decode cX3_digest 25 = .ok (.iinc 3 1, 3) := by decide +kernel
theorem dX3_digest_28 : decode cX3_digest 28 = .ok (.goto (-22), 3) := by decide +kernel
theorem dX3_digest_31 : decode cX3_digest 31 = .ok (.iconst 0, 1) := by decide +kernel
theorem dX3_digest_32 : decode cX3_digest 32 = .ok (.istore_n 3, 1) := by decide +kernel
theorem dX3_digest_33 : decode cX3_digest 33 = .ok (.iload_n 3, 1) := by decide +kernel
theorem dX3_digest_34 : decode cX3_digest 34 = .ok (.bipush 6, 2) := by decide +kernel
theorem dX3_digest_36 : decode cX3_digest 36 = .ok (.if_icmp .ge 105, 3) := by decide +kernel
theorem dX3_digest_39 : decode cX3_digest 39 = .ok (.iconst 0, 1) := by decide +kernel
theorem dX3_digest_40 : decode cX3_digest 40 = .ok (.istore 4, 2) := by decide +kernel
theorem dX3_digest_42 : decode cX3_digest 42 = .ok (.iload 4, 2) := by decide +kernel
theorem dX3_digest_44 : decode cX3_digest 44 = .ok (.iconst 3, 1) := by decide +kernel
theorem dX3_digest_45 : decode cX3_digest 45 = .ok (.if_icmp .gt 24, 3) := by decide +kernel
theorem dX3_digest_48 : decode cX3_digest 48 = .ok (.lload_n 1, 1) := by decide +kernel
theorem dX3_digest_49 : decode cX3_digest 49 = .ok (.ldc2_w 274, 3) := by decide +kernel
theorem dX3_digest_52 : decode cX3_digest 52 = .ok (.lmul, 1) := by decide +kernel
theorem dX3_digest_53 : decode cX3_digest 53 = .ok (.aload_n 0, 1) := by decide +kernel
theorem dX3_digest_54 : decode cX3_digest 54 = .ok (.iload_n 3, 1) := by decide +kernel
theorem dX3_digest_55 : decode cX3_digest 55 = .ok (.iload 4, 2) := by decide +kernel
theorem dX3_digest_57 : decode cX3_digest 57 = .ok (.invokevirtual 279, 3) := by decide +kernel
theorem dX3_digest_60 : decode cX3_digest 60 = .ok (.i2l, 1) := by decide +kernel
theorem dX3_digest_61 : decode cX3_digest 61 = .ok (.ladd, 1) := by decide +kernel
theorem dX3_digest_62 : decode cX3_digest 62 = .ok (.lstore_n 1, 1) := by decide +kernel
theorem dX3_digest_63 : decode cX3_digest 63 = .ok (.iinc 4 1, 3) := by decide +kernel
theorem dX3_digest_66 : decode cX3_digest 66 = .ok (.goto (-24), 3) := by decide +kernel
theorem dX3_digest_69 : decode cX3_digest 69 = .ok (.iconst 1, 1) := by decide +kernel
theorem dX3_digest_70 : decode cX3_digest 70 = .ok (.istore 4, 2) := by decide +kernel
theorem dX3_digest_72 : decode cX3_digest 72 = .ok (.iload 4, 2) := by decide +kernel
theorem dX3_digest_74 : decode cX3_digest 74 = .ok (.aload_n 0, 1) := by decide +kernel
theorem dX3_digest_75 : decode cX3_digest 75 = .ok (.getfield 10, 3) := by decide +kernel
theorem dX3_digest_78 : decode cX3_digest 78 = .ok (.getfield 116, 3) := by decide +kernel
theorem dX3_digest_81 : decode cX3_digest 81 = .ok (.if_icmp .gt 24, 3) := by decide +kernel
theorem dX3_digest_84 : decode cX3_digest 84 = .ok (.lload_n 1, 1) := by decide +kernel
theorem dX3_digest_85 : decode cX3_digest 85 = .ok (.ldc2_w 274, 3) := by decide +kernel
theorem dX3_digest_88 : decode cX3_digest 88 = .ok (.lmul, 1) := by decide +kernel
theorem dX3_digest_89 : decode cX3_digest 89 = .ok (.aload_n 0, 1) := by decide +kernel
theorem dX3_digest_90 : decode cX3_digest 90 = .ok (.iload_n 3, 1) := by decide +kernel
theorem dX3_digest_91 : decode cX3_digest 91 = .ok (.iload 4, 2) := by decide +kernel
theorem dX3_digest_93 : decode cX3_digest 93 = .ok (.invokevirtual 282, 3) := by decide +kernel
theorem dX3_digest_96 : decode cX3_digest 96 = .ok (.i2l, 1) := by decide +kernel
theorem dX3_digest_97 : decode cX3_digest 97 = .ok (.ladd, 1) := by decide +kernel
theorem dX3_digest_98 : decode cX3_digest 98 = .ok (.lstore_n 1, 1) := by decide +kernel
theorem dX3_digest_99 : decode cX3_digest 99 = .ok (.iinc 4 1, 3) := by decide +kernel
theorem dX3_digest_102 : decode cX3_digest 102 = .ok (.goto (-30), 3) := by decide +kernel
theorem dX3_digest_105 : decode cX3_digest 105 = .ok (.iconst 0, 1) := by decide +kernel
theorem dX3_digest_106 : decode cX3_digest 106 = .ok (.istore 4, 2) := by decide +kernel
theorem dX3_digest_108 : decode cX3_digest 108 = .ok (.iload 4, 2) := by decide +kernel
theorem dX3_digest_110 : decode cX3_digest 110 = .ok (.iconst 3, 1) := by decide +kernel
theorem dX3_digest_111 : decode cX3_digest 111 = .ok (.if_icmp .gt 24, 3) := by decide +kernel
theorem dX3_digest_114 : decode cX3_digest 114 = .ok (.lload_n 1, 1) := by decide +kernel
theorem dX3_digest_115 : decode cX3_digest 115 = .ok (.ldc2_w 274, 3) := by decide +kernel
theorem dX3_digest_118 : decode cX3_digest 118 = .ok (.lmul, 1) := by decide +kernel
theorem dX3_digest_119 : decode cX3_digest 119 = .ok (.aload_n 0, 1) := by decide +kernel
theorem dX3_digest_120 : decode cX3_digest 120 = .ok (.iload_n 3, 1) := by decide +kernel
theorem dX3_digest_121 : decode cX3_digest 121 = .ok (.iload 4, 2) := by decide +kernel
theorem dX3_digest_123 : decode cX3_digest 123 = .ok (.invokevirtual 285, 3) := by decide +kernel
theorem dX3_digest_126 : decode cX3_digest 126 = .ok (.i2l, 1) := by decide +kernel
theorem dX3_digest_127 : decode cX3_digest 127 = .ok (.ladd, 1) := by decide +kernel
theorem dX3_digest_128 : decode cX3_digest 128 = .ok (.lstore_n 1, 1) := by decide +kernel
theorem dX3_digest_129 : decode cX3_digest 129 = .ok (.iinc 4 1, 3) := by decide +kernel
theorem dX3_digest_132 : decode cX3_digest 132 = .ok (.goto (-24), 3) := by decide +kernel
theorem dX3_digest_135 : decode cX3_digest 135 = .ok (.iinc 3 1, 3) := by decide +kernel
theorem dX3_digest_138 : decode cX3_digest 138 = .ok (.goto (-105), 3) := by decide +kernel
theorem dX3_digest_141 : decode cX3_digest 141 = .ok (.lload_n 1, 1) := by decide +kernel
theorem dX3_digest_142 : decode cX3_digest 142 = .ok (.ldc2_w 274, 3) := by decide +kernel
theorem dX3_digest_145 : decode cX3_digest 145 = .ok (.lmul, 1) := by decide +kernel
theorem dX3_digest_146 : decode cX3_digest 146 = .ok (.aload_n 0, 1) := by decide +kernel
theorem dX3_digest_147 : decode cX3_digest 147 = .ok (.invokevirtual 288, 3) := by decide +kernel
theorem dX3_digest_150 : decode cX3_digest 150 = .ok (.ifCond .eq 7, 3) := by decide +kernel
theorem dX3_digest_153 : decode cX3_digest 153 = .ok (.iconst 1, 1) := by decide +kernel
theorem dX3_digest_154 : decode cX3_digest 154 = .ok (.goto 4, 3) := by decide +kernel
theorem dX3_digest_157 : decode cX3_digest 157 = .ok (.iconst 0, 1) := by decide +kernel
theorem dX3_digest_158 : decode cX3_digest 158 = .ok (.i2l, 1) := by decide +kernel
theorem dX3_digest_159 : decode cX3_digest 159 = .ok (.ladd, 1) := by decide +kernel
theorem dX3_digest_160 : decode cX3_digest 160 = .ok (.lreturn, 1) := by decide +kernel
theorem dX3_dealAt_0 : decode cX3_dealAt 0 = .ok (.iload_n 1, 1) := by decide +kernel
theorem dX3_dealAt_1 : decode cX3_dealAt 1 = .ok (.ifCond .lt 12, 3) := by decide +kernel
theorem dX3_dealAt_4 : decode cX3_dealAt 4 = .ok (.iload_n 1, 1) := by decide +kernel
theorem dX3_dealAt_5 : decode cX3_dealAt 5 = .ok (.aload_n 0, 1) := by decide +kernel
theorem dX3_dealAt_6 : decode cX3_dealAt 6 = .ok (.getfield 25, 3) := by decide +kernel
theorem dX3_dealAt_9 : decode cX3_dealAt 9 = .ok (.arraylength, 1) := by decide +kernel
theorem dX3_dealAt_10 : decode cX3_dealAt 10 = .ok (.if_icmp .lt 14, 3) := by decide +kernel
theorem dX3_dealAt_13 : decode cX3_dealAt 13 = .ok (.new 291, 3) := by decide +kernel
theorem dX3_dealAt_16 : decode cX3_dealAt 16 = .ok (.dup, 1) := by decide +kernel
theorem dX3_dealAt_17 : decode cX3_dealAt 17 = .ok (.ldc_w 293, 3) := by decide +kernel
theorem dX3_dealAt_20 : decode cX3_dealAt 20 = .ok (.invokespecial 295, 3) := by decide +kernel
theorem dX3_dealAt_23 : decode cX3_dealAt 23 = .ok (.athrow, 1) := by decide +kernel
theorem dX3_dealAt_24 : decode cX3_dealAt 24 = .ok (.aload_n 0, 1) := by decide +kernel
theorem dX3_dealAt_25 : decode cX3_dealAt 25 = .ok (.getfield 25, 3) := by decide +kernel
theorem dX3_dealAt_28 : decode cX3_dealAt 28 = .ok (.iload_n 1, 1) := by decide +kernel
theorem dX3_dealAt_29 : decode cX3_dealAt 29 = .ok (.aaload, 1) := by decide +kernel
theorem dX3_dealAt_30 : decode cX3_dealAt 30 = .ok (.areturn, 1) := by decide +kernel
theorem dX3_requireHolder_0 : decode cX3_requireHolder 0 = .ok (.iload_n 1, 1) := by decide +kernel
theorem dX3_requireHolder_1 : decode cX3_requireHolder 1 = .ok (.iconst 1, 1) := by decide +kernel
theorem dX3_requireHolder_2 : decode cX3_requireHolder 2 = .ok (.if_icmp .lt 14, 3) := by decide +kernel
theorem dX3_requireHolder_5 : decode cX3_requireHolder 5 = .ok (.iload_n 1, 1) := by decide +kernel
theorem dX3_requireHolder_6 : decode cX3_requireHolder 6 = .ok (.aload_n 0, 1) := by decide +kernel
theorem dX3_requireHolder_7 : decode cX3_requireHolder 7 = .ok (.getfield 10, 3) := by decide +kernel
theorem dX3_requireHolder_10 : decode cX3_requireHolder 10 = .ok (.getfield 116, 3) := by decide +kernel
theorem dX3_requireHolder_13 : decode cX3_requireHolder 13 = .ok (.if_icmp .le 14, 3) := by decide +kernel
theorem dX3_requireHolder_16 : decode cX3_requireHolder 16 = .ok (.new 291, 3) := by decide +kernel
theorem dX3_requireHolder_19 : decode cX3_requireHolder 19 = .ok (.dup, 1) := by decide +kernel
theorem dX3_requireHolder_20 : decode cX3_requireHolder 20 = .ok (.ldc_w 296, 3) := by decide +kernel
theorem dX3_requireHolder_23 : decode cX3_requireHolder 23 = .ok (.invokespecial 295, 3) := by decide +kernel
theorem dX3_requireHolder_26 : decode cX3_requireHolder 26 = .ok (.athrow, 1) := by decide +kernel
theorem dX3_requireHolder_27 : decode cX3_requireHolder 27 = .ok (.return_, 1) := by decide +kernel
theorem dX3_requireSet_0 : decode cX3_requireSet 0 = .ok (.iload_n 1, 1) := by decide +kernel
theorem dX3_requireSet_1 : decode cX3_requireSet 1 = .ok (.iconst 1, 1) := by decide +kernel
theorem dX3_requireSet_2 : decode cX3_requireSet 2 = .ok (.if_icmp .lt 11, 3) := by decide +kernel
theorem dX3_requireSet_5 : decode cX3_requireSet 5 = .ok (.iload_n 1, 1) := by decide +kernel
theorem dX3_requireSet_6 : decode cX3_requireSet 6 = .ok (.aload_n 0, 1) := by decide +kernel
theorem dX3_requireSet_7 : decode cX3_requireSet 7 = .ok (.invokevirtual 266, 3) := by decide +kernel
theorem dX3_requireSet_10 : decode cX3_requireSet 10 = .ok (.if_icmp .le 14, 3) := by decide +kernel
theorem dX3_requireSet_13 : decode cX3_requireSet 13 = .ok (.new 42, 3) := by decide +kernel
theorem dX3_requireSet_16 : decode cX3_requireSet 16 = .ok (.dup, 1) := by decide +kernel
theorem dX3_requireSet_17 : decode cX3_requireSet 17 = .ok (.ldc_w 298, 3) := by decide +kernel
theorem dX3_requireSet_20 : decode cX3_requireSet 20 = .ok (.invokespecial 46, 3) := by decide +kernel
theorem dX3_requireSet_23 : decode cX3_requireSet 23 = .ok (.athrow, 1) := by decide +kernel
theorem dX3_requireSet_24 : decode cX3_requireSet 24 = .ok (.return_, 1) := by decide +kernel
theorem dX3_requireToldDegree_0 : decode cX3_requireToldDegree 0 = .ok (.iload_n 0, 1) := by decide +kernel
theorem dX3_requireToldDegree_1 : decode cX3_requireToldDegree 1 = .ok (.ifCond .lt 8, 3) := by decide +kernel
theorem dX3_requireToldDegree_4 : decode cX3_requireToldDegree 4 = .ok (.iload_n 0, 1) := by decide +kernel
theorem dX3_requireToldDegree_5 : decode cX3_requireToldDegree 5 = .ok (.iconst 3, 1) := by decide +kernel
theorem dX3_requireToldDegree_6 : decode cX3_requireToldDegree 6 = .ok (.if_icmp .le 14, 3) := by decide +kernel
theorem dX3_requireToldDegree_9 : decode cX3_requireToldDegree 9 = .ok (.new 42, 3) := by decide +kernel
theorem dX3_requireToldDegree_12 : decode cX3_requireToldDegree 12 = .ok (.dup, 1) := by decide +kernel
theorem dX3_requireToldDegree_13 : decode cX3_requireToldDegree 13 = .ok (.ldc_w 300, 3) := by decide +kernel
theorem dX3_requireToldDegree_16 : decode cX3_requireToldDegree 16 = .ok (.invokespecial 46, 3) := by decide +kernel
theorem dX3_requireToldDegree_19 : decode cX3_requireToldDegree 19 = .ok (.athrow, 1) := by decide +kernel
theorem dX3_requireToldDegree_20 : decode cX3_requireToldDegree 20 = .ok (.return_, 1) := by decide +kernel
theorem dX3_requireCoefficient_0 : decode cX3_requireCoefficient 0 = .ok (.iload_n 0, 1) := by decide +kernel
theorem dX3_requireCoefficient_1 : decode cX3_requireCoefficient 1 = .ok (.ifCond .lt 9, 3) := by decide +kernel
theorem dX3_requireCoefficient_4 : decode cX3_requireCoefficient 4 = .ok (.iload_n 0, 1) := by decide +kernel
theorem dX3_requireCoefficient_5 : decode cX3_requireCoefficient 5 = .ok (.bipush 6, 2) := by decide +kernel
theorem dX3_requireCoefficient_7 : decode cX3_requireCoefficient 7 = .ok (.if_icmp .le 14, 3) := by decide +kernel
theorem dX3_requireCoefficient_10 : decode cX3_requireCoefficient 10 = .ok (.new 42, 3) := by decide +kernel
theorem dX3_requireCoefficient_13 : decode cX3_requireCoefficient 13 = .ok (.dup, 1) := by decide +kernel
theorem dX3_requireCoefficient_14 : decode cX3_requireCoefficient 14 = .ok (.ldc_w 302, 3) := by decide +kernel
theorem dX3_requireCoefficient_17 : decode cX3_requireCoefficient 17 = .ok (.invokespecial 46, 3) := by decide +kernel
theorem dX3_requireCoefficient_20 : decode cX3_requireCoefficient 20 = .ok (.athrow, 1) := by decide +kernel
theorem dX3_requireCoefficient_21 : decode cX3_requireCoefficient 21 = .ok (.return_, 1) := by decide +kernel
theorem dX3_bitOf_0 : decode cX3_bitOf 0 = .ok (.iconst 1, 1) := by decide +kernel
theorem dX3_bitOf_1 : decode cX3_bitOf 1 = .ok (.iload_n 0, 1) := by decide +kernel
theorem dX3_bitOf_2 : decode cX3_bitOf 2 = .ok (.iconst 1, 1) := by decide +kernel
theorem dX3_bitOf_3 : decode cX3_bitOf 3 = .ok (.isub, 1) := by decide +kernel
theorem dX3_bitOf_4 : decode cX3_bitOf 4 = .ok (.ishl, 1) := by decide +kernel
theorem dX3_bitOf_5 : decode cX3_bitOf 5 = .ok (.ireturn, 1) := by decide +kernel
theorem dX3_isIn_0 : decode cX3_isIn 0 = .ok (.iload_n 0, 1) := by decide +kernel
theorem dX3_isIn_1 : decode cX3_isIn 1 = .ok (.iload_n 1, 1) := by decide +kernel
theorem dX3_isIn_2 : decode cX3_isIn 2 = .ok (.iconst 1, 1) := by decide +kernel
theorem dX3_isIn_3 : decode cX3_isIn 3 = .ok (.isub, 1) := by decide +kernel
theorem dX3_isIn_4 : decode cX3_isIn 4 = .ok (.ishr, 1) := by decide +kernel
theorem dX3_isIn_5 : decode cX3_isIn 5 = .ok (.iconst 1, 1) := by decide +kernel
theorem dX3_isIn_6 : decode cX3_isIn 6 = .ok (.iand, 1) := by decide +kernel
theorem dX3_isIn_7 : decode cX3_isIn 7 = .ok (.iconst 1, 1) := by decide +kernel
theorem dX3_isIn_8 : decode cX3_isIn 8 = .ok (.if_icmp .ne 7, 3) := by decide +kernel
theorem dX3_isIn_11 : decode cX3_isIn 11 = .ok (.iconst 1, 1) := by decide +kernel
theorem dX3_isIn_12 : decode cX3_isIn 12 = .ok (.goto 4, 3) := by decide +kernel
theorem dX3_isIn_15 : decode cX3_isIn 15 = .ok (.iconst 0, 1) := by decide +kernel
theorem dX3_isIn_16 : decode cX3_isIn 16 = .ok (.ireturn, 1) := by decide +kernel
theorem dX3_allHolders_0 : decode cX3_allHolders 0 = .ok (.iconst 1, 1) := by decide +kernel
theorem dX3_allHolders_1 : decode cX3_allHolders 1 = .ok (.aload_n 0, 1) := by decide +kernel
theorem dX3_allHolders_2 : decode cX3_allHolders 2 = .ok (.getfield 10, 3) := by decide +kernel
theorem dX3_allHolders_5 : decode cX3_allHolders 5 = .ok (.getfield 116, 3) := by decide +kernel
theorem dX3_allHolders_8 : decode cX3_allHolders 8 = .ok (.ishl, 1) := by decide +kernel
theorem dX3_allHolders_9 : decode cX3_allHolders 9 = .ok (.iconst 1, 1) := by decide +kernel
theorem dX3_allHolders_10 : decode cX3_allHolders 10 = .ok (.isub, 1) := by decide +kernel
theorem dX3_allHolders_11 : decode cX3_allHolders 11 = .ok (.ireturn, 1) := by decide +kernel
theorem dX3_quotient_0 : decode cX3_quotient 0 = .ok (.iload_n 2, 1) := by decide +kernel
theorem dX3_quotient_1 : decode cX3_quotient 1 = .ok (.ifCond .ne 8, 3) := by decide +kernel
theorem dX3_quotient_4 : decode cX3_quotient 4 = .ok (.bipush (-9), 2) := by decide +kernel
theorem dX3_quotient_6 : decode cX3_quotient 6 = .ok (.goto 22, 3) := by decide +kernel
theorem dX3_quotient_9 : decode cX3_quotient 9 = .ok (.aload_n 0, 1) := by decide +kernel
theorem dX3_quotient_10 : decode cX3_quotient 10 = .ok (.getfield 10, 3) := by decide +kernel
theorem dX3_quotient_13 : decode cX3_quotient 13 = .ok (.iload_n 1, 1) := by decide +kernel
theorem dX3_quotient_14 : decode cX3_quotient 14 = .ok (.i2l, 1) := by decide +kernel
theorem dX3_quotient_15 : decode cX3_quotient 15 = .ok (.aload_n 0, 1) := by decide +kernel
theorem dX3_quotient_16 : decode cX3_quotient 16 = .ok (.getfield 10, 3) := by decide +kernel
theorem dX3_quotient_19 : decode cX3_quotient 19 = .ok (.iload_n 2, 1) := by decide +kernel
theorem dX3_quotient_20 : decode cX3_quotient 20 = .ok (.invokevirtual 304, 3) := by decide +kernel
theorem dX3_quotient_23 : decode cX3_quotient 23 = .ok (.i2l, 1) := by decide +kernel
theorem dX3_quotient_24 : decode cX3_quotient 24 = .ok (.lmul, 1) := by decide +kernel
theorem dX3_quotient_25 : decode cX3_quotient 25 = .ok (.invokevirtual 59, 3) := by decide +kernel
theorem dX3_quotient_28 : decode cX3_quotient 28 = .ok (.ireturn, 1) := by decide +kernel
theorem dX3_weightSum_0 : decode cX3_weightSum 0 = .ok (.lconst 0, 1) := by decide +kernel
theorem dX3_weightSum_1 : decode cX3_weightSum 1 = .ok (.lstore_n 3, 1) := by decide +kernel
theorem dX3_weightSum_2 : decode cX3_weightSum 2 = .ok (.iconst 1, 1) := by decide +kernel
theorem dX3_weightSum_3 : decode cX3_weightSum 3 = .ok (.istore 5, 2) := by decide +kernel
theorem dX3_weightSum_5 : decode cX3_weightSum 5 = .ok (.iload 5, 2) := by decide +kernel
theorem dX3_weightSum_7 : decode cX3_weightSum 7 = .ok (.aload_n 0, 1) := by decide +kernel
theorem dX3_weightSum_8 : decode cX3_weightSum 8 = .ok (.getfield 10, 3) := by decide +kernel
theorem dX3_weightSum_11 : decode cX3_weightSum 11 = .ok (.getfield 116, 3) := by decide +kernel
theorem dX3_weightSum_14 : decode cX3_weightSum 14 = .ok (.if_icmp .gt 33, 3) := by decide +kernel
theorem dX3_weightSum_17 : decode cX3_weightSum 17 = .ok (.iload_n 1, 1) := by decide +kernel
theorem dX3_weightSum_18 : decode cX3_weightSum 18 = .ok (.iload 5, 2) := by decide +kernel
theorem dX3_weightSum_20 : decode cX3_weightSum 20 = .ok (.invokestatic 83, 3) := by decide +kernel
theorem dX3_weightSum_23 : decode cX3_weightSum 23 = .ok (.ifCond .eq 18, 3) := by decide +kernel
theorem dX3_weightSum_26 : decode cX3_weightSum 26 = .ok (.lload_n 3, 1) := by decide +kernel
theorem dX3_weightSum_27 : decode cX3_weightSum 27 = .ok (.aload_n 0, 1) := by decide +kernel
theorem dX3_weightSum_28 : decode cX3_weightSum 28 = .ok (.getfield 10, 3) := by decide +kernel
theorem dX3_weightSum_31 : decode cX3_weightSum 31 = .ok (.iload_n 1, 1) := by decide +kernel
theorem dX3_weightSum_32 : decode cX3_weightSum 32 = .ok (.iload 5, 2) := by decide +kernel
theorem dX3_weightSum_34 : decode cX3_weightSum 34 = .ok (.iload_n 2, 1) := by decide +kernel
theorem dX3_weightSum_35 : decode cX3_weightSum 35 = .ok (.invokevirtual 87, 3) := by decide +kernel
theorem dX3_weightSum_38 : decode cX3_weightSum 38 = .ok (.i2l, 1) := by decide +kernel
theorem dX3_weightSum_39 : decode cX3_weightSum 39 = .ok (.ladd, 1) := by decide +kernel
theorem dX3_weightSum_40 : decode cX3_weightSum 40 = .ok (.lstore_n 3, 1) := by decide +kernel
theorem dX3_weightSum_41 : decode cX3_weightSum 41 = .ok (.iinc 5 1, 3) := by decide +kernel
theorem dX3_weightSum_44 : decode cX3_weightSum 44 = .ok (.goto (-39), 3) := by decide +kernel
theorem dX3_weightSum_47 : decode cX3_weightSum 47 = .ok (.aload_n 0, 1) := by decide +kernel
theorem dX3_weightSum_48 : decode cX3_weightSum 48 = .ok (.getfield 10, 3) := by decide +kernel
theorem dX3_weightSum_51 : decode cX3_weightSum 51 = .ok (.lload_n 3, 1) := by decide +kernel
theorem dX3_weightSum_52 : decode cX3_weightSum 52 = .ok (.invokevirtual 59, 3) := by decide +kernel
theorem dX3_weightSum_55 : decode cX3_weightSum 55 = .ok (.ireturn, 1) := by decide +kernel
theorem dX3_tell_0 : decode cX3_tell 0 = .ok (.lconst 0, 1) := by decide +kernel
theorem dX3_tell_1 : decode cX3_tell 1 = .ok (.lstore 4, 2) := by decide +kernel
theorem dX3_tell_3 : decode cX3_tell 3 = .ok (.iconst 1, 1) := by decide +kernel
theorem dX3_tell_4 : decode cX3_tell 4 = .ok (.istore 6, 2) := by decide +kernel
theorem dX3_tell_6 : decode cX3_tell 6 = .ok (.iload 6, 2) := by decide +kernel
theorem dX3_tell_8 : decode cX3_tell 8 = .ok (.aload_n 0, 1) := by decide +kernel
theorem dX3_tell_9 : decode cX3_tell 9 = .ok (.getfield 10, 3) := by decide +kernel
theorem dX3_tell_12 : decode cX3_tell 12 = .ok (.getfield 116, 3) := by decide +kernel
theorem dX3_tell_15 : decode cX3_tell 15 = .ok (.if_icmp .gt 43, 3) := by decide +kernel
theorem dX3_tell_18 : decode cX3_tell 18 = .ok (.iload_n 2, 1) := by decide +kernel
theorem dX3_tell_19 : decode cX3_tell 19 = .ok (.iload 6, 2) := by decide +kernel
theorem dX3_tell_21 : decode cX3_tell 21 = .ok (.invokestatic 83, 3) := by decide +kernel
theorem dX3_tell_24 : decode cX3_tell 24 = .ok (.ifCond .eq 28, 3) := by decide +kernel
theorem dX3_tell_27 : decode cX3_tell 27 = .ok (.lload 4, 2) := by decide +kernel
theorem dX3_tell_29 : decode cX3_tell 29 = .ok (.aload_n 1, 1) := by decide +kernel
theorem dX3_tell_30 : decode cX3_tell 30 = .ok (.iload 6, 2) := by decide +kernel
theorem dX3_tell_32 : decode cX3_tell 32 = .ok (.invokevirtual 123, 3) := by decide +kernel
theorem dX3_tell_35 : decode cX3_tell 35 = .ok (.i2l, 1) := by decide +kernel
theorem dX3_tell_36 : decode cX3_tell 36 = .ok (.aload_n 0, 1) := by decide +kernel
theorem dX3_tell_37 : decode cX3_tell 37 = .ok (.getfield 10, 3) := by decide +kernel
theorem dX3_tell_40 : decode cX3_tell 40 = .ok (.iload_n 2, 1) := by decide +kernel
theorem dX3_tell_41 : decode cX3_tell 41 = .ok (.iload 6, 2) := by decide +kernel
theorem dX3_tell_43 : decode cX3_tell 43 = .ok (.iload_n 3, 1) := by decide +kernel
theorem dX3_tell_44 : decode cX3_tell 44 = .ok (.invokevirtual 87, 3) := by decide +kernel
theorem dX3_tell_47 : decode cX3_tell 47 = .ok (.i2l, 1) := by decide +kernel
theorem dX3_tell_48 : decode cX3_tell 48 = .ok (.lmul, 1) := by decide +kernel
theorem dX3_tell_49 : decode cX3_tell 49 = .ok (.ladd, 1) := by decide +kernel
theorem dX3_tell_50 : decode cX3_tell 50 = .ok (.lstore 4, 2) := by decide +kernel
theorem dX3_tell_52 : decode cX3_tell 52 = .ok (.iinc 6 1, 3) := by decide +kernel
theorem dX3_tell_55 : decode cX3_tell 55 = .ok (.goto (-49), 3) := by decide +kernel
theorem dX3_tell_58 : decode cX3_tell 58 = .ok (.aload_n 0, 1) := by decide +kernel
theorem dX3_tell_59 : decode cX3_tell 59 = .ok (.getfield 10, 3) := by decide +kernel
theorem dX3_tell_62 : decode cX3_tell 62 = .ok (.lload 4, 2) := by decide +kernel
theorem dX3_tell_64 : decode cX3_tell 64 = .ok (.invokevirtual 59, 3) := by decide +kernel
theorem dX3_tell_67 : decode cX3_tell 67 = .ok (.ireturn, 1) := by decide +kernel
theorem dX3_layPoly_0 : decode cX3_layPoly 0 = .ok (.aload_n 1, 1) := by decide +kernel
theorem dX3_layPoly_1 : decode cX3_layPoly 1 = .ok (.iload_n 2, 1) := by decide +kernel
theorem dX3_layPoly_2 : decode cX3_layPoly 2 = .ok (.invokevirtual 157, 3) := by decide +kernel
theorem dX3_layPoly_5 : decode cX3_layPoly 5 = .ok (.iconst 1, 1) := by decide +kernel
theorem dX3_layPoly_6 : decode cX3_layPoly 6 = .ok (.istore_n 3, 1) := by decide +kernel
theorem dX3_layPoly_7 : decode cX3_layPoly 7 = .ok (.iload_n 3, 1) := by decide +kernel
theorem dX3_layPoly_8 : decode cX3_layPoly 8 = .ok (.aload_n 0, 1) := by decide +kernel
theorem dX3_layPoly_9 : decode cX3_layPoly 9 = .ok (.getfield 10, 3) := by decide +kernel
theorem dX3_layPoly_12 : decode cX3_layPoly 12 = .ok (.getfield 116, 3) := by decide +kernel
theorem dX3_layPoly_15 : decode cX3_layPoly 15 = .ok (.if_icmp .gt 26, 3) := by decide +kernel
theorem dX3_layPoly_18 : decode cX3_layPoly 18 = .ok (.aload_n 1, 1) := by decide +kernel
theorem dX3_layPoly_19 : decode cX3_layPoly 19 = .ok (.iload_n 3, 1) := by decide +kernel
theorem dX3_layPoly_20 : decode cX3_layPoly 20 = .ok (.aload_n 0, 1) := by decide +kernel
theorem dX3_layPoly_21 : decode cX3_layPoly 21 = .ok (.getfield 19, 3) := by decide +kernel
theorem dX3_layPoly_24 : decode cX3_layPoly 24 = .ok (.aload_n 0, 1) := by decide +kernel
theorem dX3_layPoly_25 : decode cX3_layPoly 25 = .ok (.getfield 10, 3) := by decide +kernel
theorem dX3_layPoly_28 : decode cX3_layPoly 28 = .ok (.iload_n 3, 1) := by decide +kernel
theorem dX3_layPoly_29 : decode cX3_layPoly 29 = .ok (.invokevirtual 126, 3) := by decide +kernel
theorem dX3_layPoly_32 : decode cX3_layPoly 32 = .ok (.invokevirtual 130, 3) := by decide +kernel
theorem dX3_layPoly_35 : decode cX3_layPoly 35 = .ok (.iinc 3 1, 3) := by decide +kernel
theorem dX3_layPoly_38 : decode cX3_layPoly 38 = .ok (.goto (-31), 3) := by decide +kernel
theorem dX3_layPoly_41 : decode cX3_layPoly 41 = .ok (.iconst 0, 1) := by decide +kernel
theorem dX3_layPoly_42 : decode cX3_layPoly 42 = .ok (.istore_n 3, 1) := by decide +kernel
theorem dX3_layPoly_43 : decode cX3_layPoly 43 = .ok (.iload_n 3, 1) := by decide +kernel
theorem dX3_layPoly_44 : decode cX3_layPoly 44 = .ok (.iload_n 2, 1) := by decide +kernel
theorem dX3_layPoly_45 : decode cX3_layPoly 45 = .ok (.if_icmp .gt 28, 3) := by decide +kernel
theorem dX3_layPoly_48 : decode cX3_layPoly 48 = .ok (.aload_n 1, 1) := by decide +kernel
theorem dX3_layPoly_49 : decode cX3_layPoly 49 = .ok (.aload_n 0, 1) := by decide +kernel
theorem dX3_layPoly_50 : decode cX3_layPoly 50 = .ok (.getfield 10, 3) := by decide +kernel
theorem dX3_layPoly_53 : decode cX3_layPoly 53 = .ok (.aload_n 0, 1) := by decide +kernel
theorem dX3_layPoly_54 : decode cX3_layPoly 54 = .ok (.getfield 19, 3) := by decide +kernel
theorem dX3_layPoly_57 : decode cX3_layPoly 57 = .ok (.iload_n 3, 1) := by decide +kernel
theorem dX3_layPoly_58 : decode cX3_layPoly 58 = .ok (.invokevirtual 140, 3) := by decide +kernel
theorem dX3_layPoly_61 : decode cX3_layPoly 61 = .ok (.invokevirtual 73, 3) := by decide +kernel
theorem dX3_layPoly_64 : decode cX3_layPoly 64 = .ok (.invokevirtual 167, 3) := by decide +kernel
theorem dX3_layPoly_67 : decode cX3_layPoly 67 = .ok (.iinc 3 1, 3) := by decide +kernel
theorem dX3_layPoly_70 : decode cX3_layPoly 70 = .ok (.goto (-27), 3) := by decide +kernel
theorem dX3_layPoly_73 : decode cX3_layPoly 73 = .ok (.aload_n 1, 1) := by decide +kernel
theorem dX3_layPoly_74 : decode cX3_layPoly 74 = .ok (.invokevirtual 149, 3) := by decide +kernel
theorem dX3_layPoly_77 : decode cX3_layPoly 77 = .ok (.ireturn, 1) := by decide +kernel
theorem dX3_laySpare_0 : decode cX3_laySpare 0 = .ok (.aload_n 1, 1) := by decide +kernel
theorem dX3_laySpare_1 : decode cX3_laySpare 1 = .ok (.aload_n 0, 1) := by decide +kernel
theorem dX3_laySpare_2 : decode cX3_laySpare 2 = .ok (.getfield 30, 3) := by decide +kernel
theorem dX3_laySpare_5 : decode cX3_laySpare 5 = .ok (.invokevirtual 191, 3) := by decide +kernel
theorem dX3_laySpare_8 : decode cX3_laySpare 8 = .ok (.aload_n 1, 1) := by decide +kernel
theorem dX3_laySpare_9 : decode cX3_laySpare 9 = .ok (.invokevirtual 149, 3) := by decide +kernel
theorem dX3_laySpare_12 : decode cX3_laySpare 12 = .ok (.ireturn, 1) := by decide +kernel
theorem dX3_addUp_0 : decode cX3_addUp 0 = .ok (.aload_n 1, 1) := by decide +kernel
theorem dX3_addUp_1 : decode cX3_addUp 1 = .ok (.invokevirtual 109, 3) := by decide +kernel
theorem dX3_addUp_4 : decode cX3_addUp 4 = .ok (.ifCond .ne 10, 3) := by decide +kernel
theorem dX3_addUp_7 : decode cX3_addUp 7 = .ok (.aload_n 2, 1) := by decide +kernel
theorem dX3_addUp_8 : decode cX3_addUp 8 = .ok (.invokevirtual 109, 3) := by decide +kernel
theorem dX3_addUp_11 : decode cX3_addUp 11 = .ok (.ifCond .eq 6, 3) := by decide +kernel
theorem dX3_addUp_14 : decode cX3_addUp 14 = .ok (.bipush (-9), 2) := by decide +kernel
theorem dX3_addUp_16 : decode cX3_addUp 16 = .ok (.ireturn, 1) := by decide +kernel
theorem dX3_addUp_17 : decode cX3_addUp 17 = .ok (.aload_n 0, 1) := by decide +kernel
theorem dX3_addUp_18 : decode cX3_addUp 18 = .ok (.getfield 30, 3) := by decide +kernel
theorem dX3_addUp_21 : decode cX3_addUp 21 = .ok (.aload_n 1, 1) := by decide +kernel
theorem dX3_addUp_22 : decode cX3_addUp 22 = .ok (.getfield 113, 3) := by decide +kernel
theorem dX3_addUp_25 : decode cX3_addUp 25 = .ok (.aload_n 2, 1) := by decide +kernel
theorem dX3_addUp_26 : decode cX3_addUp 26 = .ok (.getfield 113, 3) := by decide +kernel
theorem dX3_addUp_29 : decode cX3_addUp 29 = .ok (.invokestatic 307, 3) := by decide +kernel
theorem dX3_addUp_32 : decode cX3_addUp 32 = .ok (.invokevirtual 157, 3) := by decide +kernel
theorem dX3_addUp_35 : decode cX3_addUp 35 = .ok (.iconst 1, 1) := by decide +kernel
theorem dX3_addUp_36 : decode cX3_addUp 36 = .ok (.istore 5, 2) := by decide +kernel
theorem dX3_addUp_38 : decode cX3_addUp 38 = .ok (.iload 5, 2) := by decide +kernel
theorem dX3_addUp_40 : decode cX3_addUp 40 = .ok (.aload_n 0, 1) := by decide +kernel
theorem dX3_addUp_41 : decode cX3_addUp 41 = .ok (.getfield 10, 3) := by decide +kernel
theorem dX3_addUp_44 : decode cX3_addUp 44 = .ok (.getfield 116, 3) := by decide +kernel
theorem dX3_addUp_47 : decode cX3_addUp 47 = .ok (.if_icmp .gt 78, 3) := by decide +kernel
theorem dX3_addUp_50 : decode cX3_addUp 50 = .ok (.aload_n 1, 1) := by decide +kernel
theorem dX3_addUp_51 : decode cX3_addUp 51 = .ok (.iload 5, 2) := by decide +kernel
theorem dX3_addUp_53 : decode cX3_addUp 53 = .ok (.invokevirtual 119, 3) := by decide +kernel
theorem dX3_addUp_56 : decode cX3_addUp 56 = .ok (.ifCond .eq 63, 3) := by decide +kernel
theorem dX3_addUp_59 : decode cX3_addUp 59 = .ok (.aload_n 2, 1) := by decide +kernel
theorem dX3_addUp_60 : decode cX3_addUp 60 = .ok (.iload 5, 2) := by decide +kernel
theorem dX3_addUp_62 : decode cX3_addUp 62 = .ok (.invokevirtual 119, 3) := by decide +kernel
theorem dX3_addUp_65 : decode cX3_addUp 65 = .ok (.ifCond .eq 54, 3) := by decide +kernel
theorem dX3_addUp_68 : decode cX3_addUp 68 = .ok (.iload 4, 2) := by decide +kernel
theorem dX3_addUp_70 : decode cX3_addUp 70 = .ok (.ifCond .eq 14, 3) := by decide +kernel
theorem dX3_addUp_73 : decode cX3_addUp 73 = .ok (.aload_n 2, 1) := by decide +kernel
theorem dX3_addUp_74 : decode cX3_addUp 74 = .ok (.iload 5, 2) := by decide +kernel
theorem dX3_addUp_76 : decode cX3_addUp 76 = .ok (.invokevirtual 123, 3) := by decide +kernel
theorem dX3_addUp_79 : decode cX3_addUp 79 = .ok (.i2l, 1) := by decide +kernel
theorem dX3_addUp_80 : decode cX3_addUp 80 = .ok (.lneg, 1) := by decide +kernel
theorem dX3_addUp_81 : decode cX3_addUp 81 = .ok (.goto 10, 3) := by decide +kernel
theorem dX3_addUp_84 : decode cX3_addUp 84 = .ok (.aload_n 2, 1) := by decide +kernel
theorem dX3_addUp_85 : decode cX3_addUp 85 = .ok (.iload 5, 2) := by decide +kernel
theorem dX3_addUp_87 : decode cX3_addUp 87 = .ok (.invokevirtual 123, 3) := by decide +kernel
theorem dX3_addUp_90 : decode cX3_addUp 90 = .ok (.i2l, 1) := by decide +kernel
theorem dX3_addUp_91 : decode cX3_addUp 91 = .ok (.lstore 6, 2) := by decide +kernel
theorem dX3_addUp_93 : decode cX3_addUp 93 = .ok (.aload_n 0, 1) := by decide +kernel
theorem dX3_addUp_94 : decode cX3_addUp 94 = .ok (.getfield 30, 3) := by decide +kernel
theorem dX3_addUp_97 : decode cX3_addUp 97 = .ok (.iload 5, 2) := by decide +kernel
theorem dX3_addUp_99 : decode cX3_addUp 99 = .ok (.aload_n 0, 1) := by decide +kernel
theorem dX3_addUp_100 : decode cX3_addUp 100 = .ok (.getfield 10, 3) := by decide +kernel
theorem dX3_addUp_103 : decode cX3_addUp 103 = .ok (.aload_n 1, 1) := by decide +kernel
theorem dX3_addUp_104 : decode cX3_addUp 104 = .ok (.iload 5, 2) := by decide +kernel
theorem dX3_addUp_106 : decode cX3_addUp 106 = .ok (.invokevirtual 123, 3) := by decide +kernel
theorem dX3_addUp_109 : decode cX3_addUp 109 = .ok (.i2l, 1) := by decide +kernel
theorem dX3_addUp_110 : decode cX3_addUp 110 = .ok (.lload 6, 2) := by decide +kernel
theorem dX3_addUp_112 : decode cX3_addUp 112 = .ok (.ladd, 1) := by decide +kernel
theorem dX3_addUp_113 : decode cX3_addUp 113 = .ok (.invokevirtual 59, 3) := by decide +kernel
theorem dX3_addUp_116 : decode cX3_addUp 116 = .ok (.invokevirtual 130, 3) := by decide +kernel
theorem dX3_addUp_119 : decode cX3_addUp 119 = .ok (.iinc 5 1, 3) := by decide +kernel
theorem dX3_addUp_122 : decode cX3_addUp 122 = .ok (.goto (-84), 3) := by decide +kernel
theorem dX3_addUp_125 : decode cX3_addUp 125 = .ok (.aload_n 1, 1) := by decide +kernel
theorem dX3_addUp_126 : decode cX3_addUp 126 = .ok (.invokevirtual 195, 3) := by decide +kernel
theorem dX3_addUp_129 : decode cX3_addUp 129 = .ok (.ifCond .eq 18, 3) := by decide +kernel
theorem dX3_addUp_132 : decode cX3_addUp 132 = .ok (.aload_n 2, 1) := by decide +kernel
theorem dX3_addUp_133 : decode cX3_addUp 133 = .ok (.invokevirtual 195, 3) := by decide +kernel
theorem dX3_addUp_136 : decode cX3_addUp 136 = .ok (.ifCond .eq 11, 3) := by decide +kernel
theorem dX3_addUp_139 : decode cX3_addUp 139 = .ok (.aload_n 0, 1) := by decide +kernel
theorem dX3_addUp_140 : decode cX3_addUp 140 = .ok (.aload_n 1, 1) := by decide +kernel
theorem dX3_addUp_141 : decode cX3_addUp 141 = .ok (.aload_n 2, 1) := by decide +kernel
theorem dX3_addUp_142 : decode cX3_addUp 142 = .ok (.iload 4, 2) := by decide +kernel
theorem dX3_addUp_144 : decode cX3_addUp 144 = .ok (.invokevirtual 312, 3) := by decide +kernel
theorem dX3_addUp_147 : decode cX3_addUp 147 = .ok (.aload_n 0, 1) := by decide +kernel
theorem dX3_addUp_148 : decode cX3_addUp 148 = .ok (.aload_n 3, 1) := by decide +kernel
theorem dX3_addUp_149 : decode cX3_addUp 149 = .ok (.invokevirtual 160, 3) := by decide +kernel
theorem dX3_addUp_152 : decode cX3_addUp 152 = .ok (.ireturn, 1) := by decide +kernel
theorem dX3_addUpSeals_0 : decode cX3_addUpSeals 0 = .ok (.iconst 0, 1) := by decide +kernel
theorem dX3_addUpSeals_1 : decode cX3_addUpSeals 1 = .ok (.istore 4, 2) := by decide +kernel
theorem dX3_addUpSeals_3 : decode cX3_addUpSeals 3 = .ok (.iload 4, 2) := by decide +kernel
theorem dX3_addUpSeals_5 : decode cX3_addUpSeals 5 = .ok (.aload_n 0, 1) := by decide +kernel
theorem dX3_addUpSeals_6 : decode cX3_addUpSeals 6 = .ok (.getfield 30, 3) := by decide +kernel
theorem dX3_addUpSeals_9 : decode cX3_addUpSeals 9 = .ok (.getfield 113, 3) := by decide +kernel
theorem dX3_addUpSeals_12 : decode cX3_addUpSeals 12 = .ok (.if_icmp .gt 85, 3) := by decide +kernel
theorem dX3_addUpSeals_15 : decode cX3_addUpSeals 15 = .ok (.iload 4, 2) := by decide +kernel
theorem dX3_addUpSeals_17 : decode cX3_addUpSeals 17 = .ok (.aload_n 1, 1) := by decide +kernel
theorem dX3_addUpSeals_18 : decode cX3_addUpSeals 18 = .ok (.getfield 134, 3) := by decide +kernel
theorem dX3_addUpSeals_21 : decode cX3_addUpSeals 21 = .ok (.if_icmp .ge 12, 3) := by decide +kernel
theorem dX3_addUpSeals_24 : decode cX3_addUpSeals 24 = .ok (.aload_n 1, 1) := by decide +kernel
theorem dX3_addUpSeals_25 : decode cX3_addUpSeals 25 = .ok (.iload 4, 2) := by decide +kernel
theorem dX3_addUpSeals_27 : decode cX3_addUpSeals 27 = .ok (.invokevirtual 137, 3) := by decide +kernel
theorem dX3_addUpSeals_30 : decode cX3_addUpSeals 30 = .ok (.goto 4, 3) := by decide +kernel
theorem dX3_addUpSeals_33 : decode cX3_addUpSeals 33 = .ok (.iconst 1, 1) := by decide +kernel
theorem dX3_addUpSeals_34 : decode cX3_addUpSeals 34 = .ok (.istore 5, 2) := by decide +kernel
theorem dX3_addUpSeals_36 : decode cX3_addUpSeals 36 = .ok (.iload 4, 2) := by decide +kernel
theorem dX3_addUpSeals_38 : decode cX3_addUpSeals 38 = .ok (.aload_n 2, 1) := by decide +kernel
theorem dX3_addUpSeals_39 : decode cX3_addUpSeals 39 = .ok (.getfield 134, 3) := by decide +kernel
theorem dX3_addUpSeals_42 : decode cX3_addUpSeals 42 = .ok (.if_icmp .ge 12, 3) := by decide +kernel
theorem dX3_addUpSeals_45 : decode cX3_addUpSeals 45 = .ok (.aload_n 2, 1) := by decide +kernel
theorem dX3_addUpSeals_46 : decode cX3_addUpSeals 46 = .ok (.iload 4, 2) := by decide +kernel
theorem dX3_addUpSeals_48 : decode cX3_addUpSeals 48 = .ok (.invokevirtual 137, 3) := by decide +kernel
theorem dX3_addUpSeals_51 : decode cX3_addUpSeals 51 = .ok (.goto 4, 3) := by decide +kernel
theorem dX3_addUpSeals_54 : decode cX3_addUpSeals 54 = .ok (.iconst 1, 1) := by decide +kernel
theorem dX3_addUpSeals_55 : decode cX3_addUpSeals 55 = .ok (.istore 6, 2) := by decide +kernel
theorem dX3_addUpSeals_57 : decode cX3_addUpSeals 57 = .ok (.aload_n 0, 1) := by decide +kernel
theorem dX3_addUpSeals_58 : decode cX3_addUpSeals 58 = .ok (.getfield 30, 3) := by decide +kernel
theorem dX3_addUpSeals_61 : decode cX3_addUpSeals 61 = .ok (.aload_n 0, 1) := by decide +kernel
theorem dX3_addUpSeals_62 : decode cX3_addUpSeals 62 = .ok (.getfield 10, 3) := by decide +kernel
theorem dX3_addUpSeals_65 : decode cX3_addUpSeals 65 = .ok (.iload 5, 2) := by decide +kernel
theorem dX3_addUpSeals_67 : decode cX3_addUpSeals 67 = .ok (.iload_n 3, 1) := by decide +kernel
theorem dX3_addUpSeals_68 : decode cX3_addUpSeals 68 = .ok (.ifCond .eq 15, 3) := by decide +kernel
theorem dX3_addUpSeals_71 : decode cX3_addUpSeals 71 = .ok (.aload_n 0, 1) := by decide +kernel
theorem dX3_addUpSeals_72 : decode cX3_addUpSeals 72 = .ok (.getfield 10, 3) := by decide +kernel
theorem dX3_addUpSeals_75 : decode cX3_addUpSeals 75 = .ok (.iload 6, 2) := by decide +kernel
theorem dX3_addUpSeals_77 : decode cX3_addUpSeals 77 = .ok (.invokevirtual 316, 3) := by decide +kernel
theorem dX3_addUpSeals_80 : decode cX3_addUpSeals 80 = .ok (.goto 5, 3) := by decide +kernel
theorem dX3_addUpSeals_83 : decode cX3_addUpSeals 83 = .ok (.iload 6, 2) := by decide +kernel
theorem dX3_addUpSeals_85 : decode cX3_addUpSeals 85 = .ok (.invokevirtual 143, 3) := by decide +kernel
theorem dX3_addUpSeals_88 : decode cX3_addUpSeals 88 = .ok (.invokevirtual 167, 3) := by decide +kernel
theorem dX3_addUpSeals_91 : decode cX3_addUpSeals 91 = .ok (.iinc 4 1, 3) := by decide +kernel
theorem dX3_addUpSeals_94 : decode cX3_addUpSeals 94 = .ok (.goto (-91), 3) := by decide +kernel
theorem dX3_addUpSeals_97 : decode cX3_addUpSeals 97 = .ok (.return_, 1) := by decide +kernel
theorem dX3_isInLine_0 : decode cX3_isInLine 0 = .ok (.aload_n 1, 1) := by decide +kernel
theorem dX3_isInLine_1 : decode cX3_isInLine 1 = .ok (.invokevirtual 109, 3) := by decide +kernel
theorem dX3_isInLine_4 : decode cX3_isInLine 4 = .ok (.ifCond .eq 5, 3) := by decide +kernel
theorem dX3_isInLine_7 : decode cX3_isInLine 7 = .ok (.iconst 0, 1) := by decide +kernel
theorem dX3_isInLine_8 : decode cX3_isInLine 8 = .ok (.ireturn, 1) := by decide +kernel
theorem dX3_isInLine_9 : decode cX3_isInLine 9 = .ok (.aload_n 0, 1) := by decide +kernel
theorem dX3_isInLine_10 : decode cX3_isInLine 10 = .ok (.getfield 19, 3) := by decide +kernel
theorem dX3_isInLine_13 : decode cX3_isInLine 13 = .ok (.aload_n 0, 1) := by decide +kernel
theorem dX3_isInLine_14 : decode cX3_isInLine 14 = .ok (.getfield 10, 3) := by decide +kernel
theorem dX3_isInLine_17 : decode cX3_isInLine 17 = .ok (.aload_n 1, 1) := by decide +kernel
theorem dX3_isInLine_18 : decode cX3_isInLine 18 = .ok (.iload_n 2, 1) := by decide +kernel
theorem dX3_isInLine_19 : decode cX3_isInLine 19 = .ok (.invokevirtual 213, 3) := by decide +kernel
theorem dX3_isInLine_22 : decode cX3_isInLine 22 = .ok (.aload_n 0, 1) := by decide +kernel
theorem dX3_isInLine_23 : decode cX3_isInLine 23 = .ok (.getfield 19, 3) := by decide +kernel
theorem dX3_isInLine_26 : decode cX3_isInLine 26 = .ok (.invokevirtual 217, 3) := by decide +kernel
theorem dX3_isInLine_29 : decode cX3_isInLine 29 = .ok (.aload_n 1, 1) := by decide +kernel
theorem dX3_isInLine_30 : decode cX3_isInLine 30 = .ok (.getfield 113, 3) := by decide +kernel
theorem dX3_isInLine_33 : decode cX3_isInLine 33 = .ok (.if_icmp .gt 7, 3) := by decide +kernel
theorem dX3_isInLine_36 : decode cX3_isInLine 36 = .ok (.iconst 1, 1) := by decide +kernel
theorem dX3_isInLine_37 : decode cX3_isInLine 37 = .ok (.goto 4, 3) := by decide +kernel
theorem dX3_isInLine_40 : decode cX3_isInLine 40 = .ok (.iconst 0, 1) := by decide +kernel
theorem dX3_isInLine_41 : decode cX3_isInLine 41 = .ok (.ireturn, 1) := by decide +kernel
theorem dX3_suspectSet_0 : decode cX3_suspectSet 0 = .ok (.aload_n 1, 1) := by decide +kernel
theorem dX3_suspectSet_1 : decode cX3_suspectSet 1 = .ok (.invokevirtual 185, 3) := by decide +kernel
theorem dX3_suspectSet_4 : decode cX3_suspectSet 4 = .ok (.istore_n 2, 1) := by decide +kernel
theorem dX3_suspectSet_5 : decode cX3_suspectSet 5 = .ok (.iconst 0, 1) := by decide +kernel
theorem dX3_suspectSet_6 : decode cX3_suspectSet 6 = .ok (.istore_n 3, 1) := by decide +kernel
theorem dX3_suspectSet_7 : decode cX3_suspectSet 7 = .ok (.iconst 1, 1) := by decide +kernel
theorem dX3_suspectSet_8 : decode cX3_suspectSet 8 = .ok (.istore 4, 2) := by decide +kernel
theorem dX3_suspectSet_10 : decode cX3_suspectSet 10 = .ok (.iload 4, 2) := by decide +kernel
theorem dX3_suspectSet_12 : decode cX3_suspectSet 12 = .ok (.aload_n 0, 1) := by decide +kernel
theorem dX3_suspectSet_13 : decode cX3_suspectSet 13 = .ok (.getfield 10, 3) := by decide +kernel
theorem dX3_suspectSet_16 : decode cX3_suspectSet 16 = .ok (.getfield 116, 3) := by decide +kernel
theorem dX3_suspectSet_19 : decode cX3_suspectSet 19 = .ok (.if_icmp .gt 43, 3) := by decide +kernel
theorem dX3_suspectSet_22 : decode cX3_suspectSet 22 = .ok (.iload_n 2, 1) := by decide +kernel
theorem dX3_suspectSet_23 : decode cX3_suspectSet 23 = .ok (.iload 4, 2) := by decide +kernel
theorem dX3_suspectSet_25 : decode cX3_suspectSet 25 = .ok (.invokestatic 83, 3) := by decide +kernel
theorem dX3_suspectSet_28 : decode cX3_suspectSet 28 = .ok (.ifCond .eq 28, 3) := by decide +kernel
theorem dX3_suspectSet_31 : decode cX3_suspectSet 31 = .ok (.aload_n 0, 1) := by decide +kernel
theorem dX3_suspectSet_32 : decode cX3_suspectSet 32 = .ok (.aload_n 1, 1) := by decide +kernel
theorem dX3_suspectSet_33 : decode cX3_suspectSet 33 = .ok (.iload_n 2, 1) := by decide +kernel
theorem dX3_suspectSet_34 : decode cX3_suspectSet 34 = .ok (.iload 4, 2) := by decide +kernel
theorem dX3_suspectSet_36 : decode cX3_suspectSet 36 = .ok (.invokestatic 188, 3) := by decide +kernel
theorem dX3_suspectSet_39 : decode cX3_suspectSet 39 = .ok (.iconst (-1), 1) := by decide +kernel
theorem dX3_suspectSet_40 : decode cX3_suspectSet 40 = .ok (.ixor, 1) := by decide +kernel
theorem dX3_suspectSet_41 : decode cX3_suspectSet 41 = .ok (.iand, 1) := by decide +kernel
theorem dX3_suspectSet_42 : decode cX3_suspectSet 42 = .ok (.invokevirtual 198, 3) := by decide +kernel
theorem dX3_suspectSet_45 : decode cX3_suspectSet 45 = .ok (.ifCond .eq 11, 3) := by decide +kernel
theorem dX3_suspectSet_48 : decode cX3_suspectSet 48 = .ok (.iload_n 3, 1) := by decide +kernel
theorem dX3_suspectSet_49 : decode cX3_suspectSet 49 = .ok (.iload 4, 2) := by decide +kernel
theorem dX3_suspectSet_51 : decode cX3_suspectSet 51 = .ok (.invokestatic 188, 3) := by decide +kernel
theorem dX3_suspectSet_54 : decode cX3_suspectSet 54 = .ok (.ior, 1) := by decide +kernel
theorem dX3_suspectSet_55 : decode cX3_suspectSet 55 = .ok (.istore_n 3, 1) := by decide +kernel
theorem dX3_suspectSet_56 : decode cX3_suspectSet 56 = .ok (.iinc 4 1, 3) := by decide +kernel
theorem dX3_suspectSet_59 : decode cX3_suspectSet 59 = .ok (.goto (-49), 3) := by decide +kernel
theorem dX3_suspectSet_62 : decode cX3_suspectSet 62 = .ok (.iload_n 3, 1) := by decide +kernel
theorem dX3_suspectSet_63 : decode cX3_suspectSet 63 = .ok (.ireturn, 1) := by decide +kernel
theorem dX3_wrongHolder_0 : decode cX3_wrongHolder 0 = .ok (.aload_n 1, 1) := by decide +kernel
theorem dX3_wrongHolder_1 : decode cX3_wrongHolder 1 = .ok (.invokevirtual 109, 3) := by decide +kernel
theorem dX3_wrongHolder_4 : decode cX3_wrongHolder 4 = .ok (.ifCond .eq 6, 3) := by decide +kernel
theorem dX3_wrongHolder_7 : decode cX3_wrongHolder 7 = .ok (.bipush (-9), 2) := by decide +kernel
theorem dX3_wrongHolder_9 : decode cX3_wrongHolder 9 = .ok (.ireturn, 1) := by decide +kernel
theorem dX3_wrongHolder_10 : decode cX3_wrongHolder 10 = .ok (.aload_n 0, 1) := by decide +kernel
theorem dX3_wrongHolder_11 : decode cX3_wrongHolder 11 = .ok (.aload_n 1, 1) := by decide +kernel
theorem dX3_wrongHolder_12 : decode cX3_wrongHolder 12 = .ok (.aload_n 1, 1) := by decide +kernel
theorem dX3_wrongHolder_13 : decode cX3_wrongHolder 13 = .ok (.invokevirtual 185, 3) := by decide +kernel
theorem dX3_wrongHolder_16 : decode cX3_wrongHolder 16 = .ok (.invokevirtual 198, 3) := by decide +kernel
theorem dX3_wrongHolder_19 : decode cX3_wrongHolder 19 = .ok (.ifCond .eq 5, 3) := by decide +kernel
theorem dX3_wrongHolder_22 : decode cX3_wrongHolder 22 = .ok (.iconst 0, 1) := by decide +kernel
theorem dX3_wrongHolder_23 : decode cX3_wrongHolder 23 = .ok (.ireturn, 1) := by decide +kernel
theorem dX3_wrongHolder_24 : decode cX3_wrongHolder 24 = .ok (.aload_n 1, 1) := by decide +kernel
theorem dX3_wrongHolder_25 : decode cX3_wrongHolder 25 = .ok (.invokevirtual 149, 3) := by decide +kernel
theorem dX3_wrongHolder_28 : decode cX3_wrongHolder 28 = .ok (.aload_n 1, 1) := by decide +kernel
theorem dX3_wrongHolder_29 : decode cX3_wrongHolder 29 = .ok (.getfield 113, 3) := by decide +kernel
theorem dX3_wrongHolder_32 : decode cX3_wrongHolder 32 = .ok (.iconst 3, 1) := by decide +kernel
theorem dX3_wrongHolder_33 : decode cX3_wrongHolder 33 = .ok (.iadd, 1) := by decide +kernel
theorem dX3_wrongHolder_34 : decode cX3_wrongHolder 34 = .ok (.if_icmp .ge 6, 3) := by decide +kernel
theorem dX3_wrongHolder_37 : decode cX3_wrongHolder 37 = .ok (.bipush (-9), 2) := by decide +kernel
theorem dX3_wrongHolder_39 : decode cX3_wrongHolder 39 = .ok (.ireturn, 1) := by decide +kernel
theorem dX3_wrongHolder_40 : decode cX3_wrongHolder 40 = .ok (.aload_n 0, 1) := by decide +kernel
theorem dX3_wrongHolder_41 : decode cX3_wrongHolder 41 = .ok (.aload_n 1, 1) := by decide +kernel
theorem dX3_wrongHolder_42 : decode cX3_wrongHolder 42 = .ok (.invokevirtual 220, 3) := by decide +kernel
theorem dX3_wrongHolder_45 : decode cX3_wrongHolder 45 = .ok (.istore_n 2, 1) := by decide +kernel
theorem dX3_wrongHolder_46 : decode cX3_wrongHolder 46 = .ok (.iconst 1, 1) := by decide +kernel
theorem dX3_wrongHolder_47 : decode cX3_wrongHolder 47 = .ok (.istore_n 3, 1) := by decide +kernel
theorem dX3_wrongHolder_48 : decode cX3_wrongHolder 48 = .ok (.iload_n 3, 1) := by decide +kernel
theorem dX3_wrongHolder_49 : decode cX3_wrongHolder 49 = .ok (.aload_n 0, 1) := by decide +kernel
theorem dX3_wrongHolder_50 : decode cX3_wrongHolder 50 = .ok (.getfield 10, 3) := by decide +kernel
theorem dX3_wrongHolder_53 : decode cX3_wrongHolder 53 = .ok (.getfield 116, 3) := by decide +kernel
theorem dX3_wrongHolder_56 : decode cX3_wrongHolder 56 = .ok (.if_icmp .gt 19, 3) := by decide +kernel
theorem dX3_wrongHolder_59 : decode cX3_wrongHolder 59 = .ok (.iload_n 2, 1) := by decide +kernel
theorem dX3_wrongHolder_60 : decode cX3_wrongHolder 60 = .ok (.iload_n 3, 1) := by decide +kernel
theorem dX3_wrongHolder_61 : decode cX3_wrongHolder 61 = .ok (.invokestatic 83, 3) := by decide +kernel
theorem dX3_wrongHolder_64 : decode cX3_wrongHolder 64 = .ok (.ifCond .eq 5, 3) := by decide +kernel
theorem dX3_wrongHolder_67 : decode cX3_wrongHolder 67 = .ok (.iload_n 3, 1) := by decide +kernel
theorem dX3_wrongHolder_68 : decode cX3_wrongHolder 68 = .ok (.ireturn, 1) := by decide +kernel
theorem dX3_wrongHolder_69 : decode cX3_wrongHolder 69 = .ok (.iinc 3 1, 3) := by decide +kernel
theorem dX3_wrongHolder_72 : decode cX3_wrongHolder 72 = .ok (.goto (-24), 3) := by decide +kernel
theorem dX3_wrongHolder_75 : decode cX3_wrongHolder 75 = .ok (.bipush (-9), 2) := by decide +kernel
theorem dX3_wrongHolder_77 : decode cX3_wrongHolder 77 = .ok (.ireturn, 1) := by decide +kernel
theorem dX3_polysBeyond_0 : decode cX3_polysBeyond 0 = .ok (.iconst 1, 1) := by decide +kernel
theorem dX3_polysBeyond_1 : decode cX3_polysBeyond 1 = .ok (.istore_n 2, 1) := by decide +kernel
theorem dX3_polysBeyond_2 : decode cX3_polysBeyond 2 = .ok (.iconst 0, 1) := by decide +kernel
theorem dX3_polysBeyond_3 : decode cX3_polysBeyond 3 = .ok (.istore_n 3, 1) := by decide +kernel
theorem dX3_polysBeyond_4 : decode cX3_polysBeyond 4 = .ok (.iload_n 3, 1) := by decide +kernel
theorem dX3_polysBeyond_5 : decode cX3_polysBeyond 5 = .ok (.iload_n 1, 1) := by decide +kernel
theorem dX3_polysBeyond_6 : decode cX3_polysBeyond 6 = .ok (.if_icmp .ge 25, 3) := by decide +kernel
theorem dX3_polysBeyond_9 : decode cX3_polysBeyond 9 = .ok (.iload_n 2, 1) := by decide +kernel
theorem dX3_polysBeyond_10 : decode cX3_polysBeyond 10 = .ok (.bipush 125, 2) := by decide +kernel
theorem dX3_polysBeyond_12 : decode cX3_polysBeyond 12 = .ok (.if_icmp .gt 19, 3) := by decide +kernel
theorem dX3_polysBeyond_15 : decode cX3_polysBeyond 15 = .ok (.iload_n 2, 1) := by decide +kernel
theorem dX3_polysBeyond_16 : decode cX3_polysBeyond 16 = .ok (.aload_n 0, 1) := by decide +kernel
theorem dX3_polysBeyond_17 : decode cX3_polysBeyond 17 = .ok (.getfield 10, 3) := by decide +kernel
theorem dX3_polysBeyond_20 : decode cX3_polysBeyond 20 = .ok (.getfield 49, 3) := by decide +kernel
theorem dX3_polysBeyond_23 : decode cX3_polysBeyond 23 = .ok (.imul, 1) := by decide +kernel
theorem dX3_polysBeyond_24 : decode cX3_polysBeyond 24 = .ok (.istore_n 2, 1) := by decide +kernel
theorem dX3_polysBeyond_25 : decode cX3_polysBeyond 25 = .ok (.iinc 3 1, 3) := by decide +kernel
theorem dX3_polysBeyond_28 : decode cX3_polysBeyond 28 = .ok (.goto (-24), 3) := by decide +kernel
theorem dX3_polysBeyond_31 : decode cX3_polysBeyond 31 = .ok (.iload_n 2, 1) := by decide +kernel
theorem dX3_polysBeyond_32 : decode cX3_polysBeyond 32 = .ok (.ireturn, 1) := by decide +kernel
theorem dX3_doesFit_0 : decode cX3_doesFit 0 = .ok (.iconst 1, 1) := by decide +kernel
theorem dX3_doesFit_1 : decode cX3_doesFit 1 = .ok (.istore_n 3, 1) := by decide +kernel
theorem dX3_doesFit_2 : decode cX3_doesFit 2 = .ok (.lconst 1, 1) := by decide +kernel
theorem dX3_doesFit_3 : decode cX3_doesFit 3 = .ok (.lstore 4, 2) := by decide +kernel
theorem dX3_doesFit_5 : decode cX3_doesFit 5 = .ok (.iconst 0, 1) := by decide +kernel
theorem dX3_doesFit_6 : decode cX3_doesFit 6 = .ok (.istore 6, 2) := by decide +kernel
theorem dX3_doesFit_8 : decode cX3_doesFit 8 = .ok (.iload 6, 2) := by decide +kernel
theorem dX3_doesFit_10 : decode cX3_doesFit 10 = .ok (.aload_n 1, 1) := by decide +kernel
theorem dX3_doesFit_11 : decode cX3_doesFit 11 = .ok (.getfield 134, 3) := by decide +kernel
theorem dX3_doesFit_14 : decode cX3_doesFit 14 = .ok (.if_icmp .ge 43, 3) := by decide +kernel
theorem dX3_doesFit_17 : decode cX3_doesFit 17 = .ok (.aload_n 0, 1) := by decide +kernel
theorem dX3_doesFit_18 : decode cX3_doesFit 18 = .ok (.getfield 10, 3) := by decide +kernel
theorem dX3_doesFit_21 : decode cX3_doesFit 21 = .ok (.iload_n 3, 1) := by decide +kernel
theorem dX3_doesFit_22 : decode cX3_doesFit 22 = .ok (.aload_n 1, 1) := by decide +kernel
theorem dX3_doesFit_23 : decode cX3_doesFit 23 = .ok (.iload 6, 2) := by decide +kernel
theorem dX3_doesFit_25 : decode cX3_doesFit 25 = .ok (.invokevirtual 137, 3) := by decide +kernel
theorem dX3_doesFit_28 : decode cX3_doesFit 28 = .ok (.lload 4, 2) := by decide +kernel
theorem dX3_doesFit_30 : decode cX3_doesFit 30 = .ok (.aload_n 0, 1) := by decide +kernel
theorem dX3_doesFit_31 : decode cX3_doesFit 31 = .ok (.getfield 10, 3) := by decide +kernel
theorem dX3_doesFit_34 : decode cX3_doesFit 34 = .ok (.getfield 164, 3) := by decide +kernel
theorem dX3_doesFit_37 : decode cX3_doesFit 37 = .ok (.invokestatic 69, 3) := by decide +kernel
theorem dX3_doesFit_40 : decode cX3_doesFit 40 = .ok (.invokevirtual 143, 3) := by decide +kernel
theorem dX3_doesFit_43 : decode cX3_doesFit 43 = .ok (.istore_n 3, 1) := by decide +kernel
theorem dX3_doesFit_44 : decode cX3_doesFit 44 = .ok (.lload 4, 2) := by decide +kernel
theorem dX3_doesFit_46 : decode cX3_doesFit 46 = .ok (.iload_n 2, 1) := by decide +kernel
theorem dX3_doesFit_47 : decode cX3_doesFit 47 = .ok (.i2l, 1) := by decide +kernel
theorem dX3_doesFit_48 : decode cX3_doesFit 48 = .ok (.lmul, 1) := by decide +kernel
theorem dX3_doesFit_49 : decode cX3_doesFit 49 = .ok (.lstore 4, 2) := by decide +kernel
theorem dX3_doesFit_51 : decode cX3_doesFit 51 = .ok (.iinc 6 1, 3) := by decide +kernel
theorem dX3_doesFit_54 : decode cX3_doesFit 54 = .ok (.goto (-46), 3) := by decide +kernel
theorem dX3_doesFit_57 : decode cX3_doesFit 57 = .ok (.aload_n 0, 1) := by decide +kernel
theorem dX3_doesFit_58 : decode cX3_doesFit 58 = .ok (.getfield 10, 3) := by decide +kernel
theorem dX3_doesFit_61 : decode cX3_doesFit 61 = .ok (.aload_n 1, 1) := by decide +kernel
theorem dX3_doesFit_62 : decode cX3_doesFit 62 = .ok (.iload_n 2, 1) := by decide +kernel
theorem dX3_doesFit_63 : decode cX3_doesFit 63 = .ok (.invokevirtual 123, 3) := by decide +kernel
theorem dX3_doesFit_66 : decode cX3_doesFit 66 = .ok (.invokevirtual 73, 3) := by decide +kernel
theorem dX3_doesFit_69 : decode cX3_doesFit 69 = .ok (.iload_n 3, 1) := by decide +kernel
theorem dX3_doesFit_70 : decode cX3_doesFit 70 = .ok (.if_icmp .ne 7, 3) := by decide +kernel
theorem dX3_doesFit_73 : decode cX3_doesFit 73 = .ok (.iconst 1, 1) := by decide +kernel
theorem dX3_doesFit_74 : decode cX3_doesFit 74 = .ok (.goto 4, 3) := by decide +kernel
theorem dX3_doesFit_77 : decode cX3_doesFit 77 = .ok (.iconst 0, 1) := by decide +kernel
theorem dX3_doesFit_78 : decode cX3_doesFit 78 = .ok (.ireturn, 1) := by decide +kernel
theorem dX3_filledDeals_0 : decode cX3_filledDeals 0 = .ok (.iconst 0, 1) := by decide +kernel
theorem dX3_filledDeals_1 : decode cX3_filledDeals 1 = .ok (.istore_n 1, 1) := by decide +kernel
theorem dX3_filledDeals_2 : decode cX3_filledDeals 2 = .ok (.iconst 0, 1) := by decide +kernel
theorem dX3_filledDeals_3 : decode cX3_filledDeals 3 = .ok (.istore_n 2, 1) := by decide +kernel
theorem dX3_filledDeals_4 : decode cX3_filledDeals 4 = .ok (.iload_n 2, 1) := by decide +kernel
theorem dX3_filledDeals_5 : decode cX3_filledDeals 5 = .ok (.aload_n 0, 1) := by decide +kernel
theorem dX3_filledDeals_6 : decode cX3_filledDeals 6 = .ok (.getfield 25, 3) := by decide +kernel
theorem dX3_filledDeals_9 : decode cX3_filledDeals 9 = .ok (.arraylength, 1) := by decide +kernel
theorem dX3_filledDeals_10 : decode cX3_filledDeals 10 = .ok (.if_icmp .ge 24, 3) := by decide +kernel
theorem dX3_filledDeals_13 : decode cX3_filledDeals 13 = .ok (.aload_n 0, 1) := by decide +kernel
theorem dX3_filledDeals_14 : decode cX3_filledDeals 14 = .ok (.getfield 25, 3) := by decide +kernel
theorem dX3_filledDeals_17 : decode cX3_filledDeals 17 = .ok (.iload_n 2, 1) := by decide +kernel
theorem dX3_filledDeals_18 : decode cX3_filledDeals 18 = .ok (.aaload, 1) := by decide +kernel
theorem dX3_filledDeals_19 : decode cX3_filledDeals 19 = .ok (.invokevirtual 109, 3) := by decide +kernel
theorem dX3_filledDeals_22 : decode cX3_filledDeals 22 = .ok (.ifCond .ne 6, 3) := by decide +kernel
theorem dX3_filledDeals_25 : decode cX3_filledDeals 25 = .ok (.iinc 1 1, 3) := by decide +kernel
theorem dX3_filledDeals_28 : decode cX3_filledDeals 28 = .ok (.iinc 2 1, 3) := by decide +kernel
theorem dX3_filledDeals_31 : decode cX3_filledDeals 31 = .ok (.goto (-27), 3) := by decide +kernel
theorem dX3_filledDeals_34 : decode cX3_filledDeals 34 = .ok (.iload_n 1, 1) := by decide +kernel
theorem dX3_filledDeals_35 : decode cX3_filledDeals 35 = .ok (.ireturn, 1) := by decide +kernel
theorem dX3_areSharesSound_0 : decode cX3_areSharesSound 0 = .ok (.iconst 1, 1) := by decide +kernel
theorem dX3_areSharesSound_1 : decode cX3_areSharesSound 1 = .ok (.istore_n 2, 1) := by decide +kernel
theorem dX3_areSharesSound_2 : decode cX3_areSharesSound 2 = .ok (.iload_n 2, 1) := by decide +kernel
theorem dX3_areSharesSound_3 : decode cX3_areSharesSound 3 = .ok (.aload_n 0, 1) := by decide +kernel
theorem dX3_areSharesSound_4 : decode cX3_areSharesSound 4 = .ok (.getfield 10, 3) := by decide +kernel
theorem dX3_areSharesSound_7 : decode cX3_areSharesSound 7 = .ok (.getfield 116, 3) := by decide +kernel
theorem dX3_areSharesSound_10 : decode cX3_areSharesSound 10 = .ok (.if_icmp .gt 37, 3) := by decide +kernel
theorem dX3_areSharesSound_13 : decode cX3_areSharesSound 13 = .ok (.aload_n 1, 1) := by decide +kernel
theorem dX3_areSharesSound_14 : decode cX3_areSharesSound 14 = .ok (.iload_n 2, 1) := by decide +kernel
theorem dX3_areSharesSound_15 : decode cX3_areSharesSound 15 = .ok (.invokevirtual 123, 3) := by decide +kernel
theorem dX3_areSharesSound_18 : decode cX3_areSharesSound 18 = .ok (.istore_n 3, 1) := by decide +kernel
theorem dX3_areSharesSound_19 : decode cX3_areSharesSound 19 = .ok (.iload_n 3, 1) := by decide +kernel
theorem dX3_areSharesSound_20 : decode cX3_areSharesSound 20 = .ok (.iconst (-1), 1) := by decide +kernel
theorem dX3_areSharesSound_21 : decode cX3_areSharesSound 21 = .ok (.if_icmp .eq 20, 3) := by decide +kernel
theorem dX3_areSharesSound_24 : decode cX3_areSharesSound 24 = .ok (.iload_n 3, 1) := by decide +kernel
theorem dX3_areSharesSound_25 : decode cX3_areSharesSound 25 = .ok (.ifCond .lt 14, 3) := by decide +kernel
theorem dX3_areSharesSound_28 : decode cX3_areSharesSound 28 = .ok (.iload_n 3, 1) := by decide +kernel
theorem dX3_areSharesSound_29 : decode cX3_areSharesSound 29 = .ok (.aload_n 0, 1) := by decide +kernel
theorem dX3_areSharesSound_30 : decode cX3_areSharesSound 30 = .ok (.getfield 10, 3) := by decide +kernel
theorem dX3_areSharesSound_33 : decode cX3_areSharesSound 33 = .ok (.getfield 49, 3) := by decide +kernel
theorem dX3_areSharesSound_36 : decode cX3_areSharesSound 36 = .ok (.if_icmp .lt 5, 3) := by decide +kernel
theorem dX3_areSharesSound_39 : decode cX3_areSharesSound 39 = .ok (.iconst 0, 1) := by decide +kernel
theorem dX3_areSharesSound_40 : decode cX3_areSharesSound 40 = .ok (.ireturn, 1) := by decide +kernel
theorem dX3_areSharesSound_41 : decode cX3_areSharesSound 41 = .ok (.iinc 2 1, 3) := by decide +kernel
theorem dX3_areSharesSound_44 : decode cX3_areSharesSound 44 = .ok (.goto (-42), 3) := by decide +kernel
theorem dX3_areSharesSound_47 : decode cX3_areSharesSound 47 = .ok (.iconst 1, 1) := by decide +kernel
theorem dX3_areSharesSound_48 : decode cX3_areSharesSound 48 = .ok (.ireturn, 1) := by decide +kernel
theorem dX3_areSealsSound_0 : decode cX3_areSealsSound 0 = .ok (.iconst 0, 1) := by decide +kernel
theorem dX3_areSealsSound_1 : decode cX3_areSealsSound 1 = .ok (.istore_n 2, 1) := by decide +kernel
theorem dX3_areSealsSound_2 : decode cX3_areSealsSound 2 = .ok (.iload_n 2, 1) := by decide +kernel
theorem dX3_areSealsSound_3 : decode cX3_areSealsSound 3 = .ok (.aload_n 1, 1) := by decide +kernel
theorem dX3_areSealsSound_4 : decode cX3_areSealsSound 4 = .ok (.getfield 134, 3) := by decide +kernel
theorem dX3_areSealsSound_7 : decode cX3_areSealsSound 7 = .ok (.if_icmp .ge 35, 3) := by decide +kernel
theorem dX3_areSealsSound_10 : decode cX3_areSealsSound 10 = .ok (.aload_n 1, 1) := by decide +kernel
theorem dX3_areSealsSound_11 : decode cX3_areSealsSound 11 = .ok (.iload_n 2, 1) := by decide +kernel
theorem dX3_areSealsSound_12 : decode cX3_areSealsSound 12 = .ok (.invokevirtual 137, 3) := by decide +kernel
theorem dX3_areSealsSound_15 : decode cX3_areSealsSound 15 = .ok (.iconst 1, 1) := by decide +kernel
theorem dX3_areSealsSound_16 : decode cX3_areSealsSound 16 = .ok (.if_icmp .lt 18, 3) := by decide +kernel
theorem dX3_areSealsSound_19 : decode cX3_areSealsSound 19 = .ok (.aload_n 1, 1) := by decide +kernel
theorem dX3_areSealsSound_20 : decode cX3_areSealsSound 20 = .ok (.iload_n 2, 1) := by decide +kernel
theorem dX3_areSealsSound_21 : decode cX3_areSealsSound 21 = .ok (.invokevirtual 137, 3) := by decide +kernel
theorem dX3_areSealsSound_24 : decode cX3_areSealsSound 24 = .ok (.aload_n 0, 1) := by decide +kernel
theorem dX3_areSealsSound_25 : decode cX3_areSealsSound 25 = .ok (.getfield 10, 3) := by decide +kernel
theorem dX3_areSealsSound_28 : decode cX3_areSealsSound 28 = .ok (.getfield 164, 3) := by decide +kernel
theorem dX3_areSealsSound_31 : decode cX3_areSealsSound 31 = .ok (.if_icmp .lt 5, 3) := by decide +kernel
theorem dX3_areSealsSound_34 : decode cX3_areSealsSound 34 = .ok (.iconst 0, 1) := by decide +kernel
theorem dX3_areSealsSound_35 : decode cX3_areSealsSound 35 = .ok (.ireturn, 1) := by decide +kernel
theorem dX3_areSealsSound_36 : decode cX3_areSealsSound 36 = .ok (.iinc 2 1, 3) := by decide +kernel
theorem dX3_areSealsSound_39 : decode cX3_areSealsSound 39 = .ok (.goto (-37), 3) := by decide +kernel
theorem dX3_areSealsSound_42 : decode cX3_areSealsSound 42 = .ok (.aload_n 1, 1) := by decide +kernel
theorem dX3_areSealsSound_43 : decode cX3_areSealsSound 43 = .ok (.invokevirtual 195, 3) := by decide +kernel
theorem dX3_areSealsSound_46 : decode cX3_areSealsSound 46 = .ok (.ifCond .eq 16, 3) := by decide +kernel
theorem dX3_areSealsSound_49 : decode cX3_areSealsSound 49 = .ok (.aload_n 1, 1) := by decide +kernel
theorem dX3_areSealsSound_50 : decode cX3_areSealsSound 50 = .ok (.getfield 134, 3) := by decide +kernel
theorem dX3_areSealsSound_53 : decode cX3_areSealsSound 53 = .ok (.aload_n 1, 1) := by decide +kernel
theorem dX3_areSealsSound_54 : decode cX3_areSealsSound 54 = .ok (.getfield 113, 3) := by decide +kernel
theorem dX3_areSealsSound_57 : decode cX3_areSealsSound 57 = .ok (.iconst 1, 1) := by decide +kernel
theorem dX3_areSealsSound_58 : decode cX3_areSealsSound 58 = .ok (.iadd, 1) := by decide +kernel
theorem dX3_areSealsSound_59 : decode cX3_areSealsSound 59 = .ok (.if_icmp .ne 7, 3) := by decide +kernel
theorem dX3_areSealsSound_62 : decode cX3_areSealsSound 62 = .ok (.iconst 1, 1) := by decide +kernel
theorem dX3_areSealsSound_63 : decode cX3_areSealsSound 63 = .ok (.goto 4, 3) := by decide +kernel
theorem dX3_areSealsSound_66 : decode cX3_areSealsSound 66 = .ok (.iconst 0, 1) := by decide +kernel
theorem dX3_areSealsSound_67 : decode cX3_areSealsSound 67 = .ok (.ireturn, 1) := by decide +kernel
theorem dX3_isFirstSealSound_0 : decode cX3_isFirstSealSound 0 = .ok (.iconst 0, 1) := by decide +kernel
theorem dX3_isFirstSealSound_1 : decode cX3_isFirstSealSound 1 = .ok (.istore_n 1, 1) := by decide +kernel
theorem dX3_isFirstSealSound_2 : decode cX3_isFirstSealSound 2 = .ok (.iload_n 1, 1) := by decide +kernel
theorem dX3_isFirstSealSound_3 : decode cX3_isFirstSealSound 3 = .ok (.aload_n 0, 1) := by decide +kernel
theorem dX3_isFirstSealSound_4 : decode cX3_isFirstSealSound 4 = .ok (.getfield 25, 3) := by decide +kernel
theorem dX3_isFirstSealSound_7 : decode cX3_isFirstSealSound 7 = .ok (.arraylength, 1) := by decide +kernel
theorem dX3_isFirstSealSound_8 : decode cX3_isFirstSealSound 8 = .ok (.if_icmp .ge 87, 3) := by decide +kernel
theorem dX3_isFirstSealSound_11 : decode cX3_isFirstSealSound 11 = .ok (.aload_n 0, 1) := by decide +kernel
theorem dX3_isFirstSealSound_12 : decode cX3_isFirstSealSound 12 = .ok (.getfield 25, 3) := by decide +kernel
theorem dX3_isFirstSealSound_15 : decode cX3_isFirstSealSound 15 = .ok (.iload_n 1, 1) := by decide +kernel
theorem dX3_isFirstSealSound_16 : decode cX3_isFirstSealSound 16 = .ok (.aaload, 1) := by decide +kernel
theorem dX3_isFirstSealSound_17 : decode cX3_isFirstSealSound 17 = .ok (.invokevirtual 195, 3) := by decide +kernel
theorem dX3_isFirstSealSound_20 : decode cX3_isFirstSealSound 20 = .ok (.ifCond .eq 69, 3) := by decide +kernel
theorem dX3_isFirstSealSound_23 : decode cX3_isFirstSealSound 23 = .ok (.aload_n 0, 1) := by decide +kernel
theorem dX3_isFirstSealSound_24 : decode cX3_isFirstSealSound 24 = .ok (.getfield 25, 3) := by decide +kernel
theorem dX3_isFirstSealSound_27 : decode cX3_isFirstSealSound 27 = .ok (.iload_n 1, 1) := by decide +kernel
theorem dX3_isFirstSealSound_28 : decode cX3_isFirstSealSound 28 = .ok (.aaload, 1) := by decide +kernel
theorem dX3_isFirstSealSound_29 : decode cX3_isFirstSealSound 29 = .ok (.invokevirtual 202, 3) := by decide +kernel
theorem dX3_isFirstSealSound_32 : decode cX3_isFirstSealSound 32 = .ok (.istore_n 2, 1) := by decide +kernel
theorem dX3_isFirstSealSound_33 : decode cX3_isFirstSealSound 33 = .ok (.iload_n 2, 1) := by decide +kernel
theorem dX3_isFirstSealSound_34 : decode cX3_isFirstSealSound 34 = .ok (.ifCond .eq 49, 3) := by decide +kernel
theorem dX3_isFirstSealSound_37 : decode cX3_isFirstSealSound 37 = .ok (.aload_n 0, 1) := by decide +kernel
theorem dX3_isFirstSealSound_38 : decode cX3_isFirstSealSound 38 = .ok (.aload_n 0, 1) := by decide +kernel
theorem dX3_isFirstSealSound_39 : decode cX3_isFirstSealSound 39 = .ok (.getfield 25, 3) := by decide +kernel
theorem dX3_isFirstSealSound_42 : decode cX3_isFirstSealSound 42 = .ok (.iload_n 1, 1) := by decide +kernel
theorem dX3_isFirstSealSound_43 : decode cX3_isFirstSealSound 43 = .ok (.aaload, 1) := by decide +kernel
theorem dX3_isFirstSealSound_44 : decode cX3_isFirstSealSound 44 = .ok (.iload_n 2, 1) := by decide +kernel
theorem dX3_isFirstSealSound_45 : decode cX3_isFirstSealSound 45 = .ok (.invokevirtual 319, 3) := by decide +kernel
theorem dX3_isFirstSealSound_48 : decode cX3_isFirstSealSound 48 = .ok (.ifCond .eq 35, 3) := by decide +kernel
theorem dX3_isFirstSealSound_51 : decode cX3_isFirstSealSound 51 = .ok (.aload_n 0, 1) := by decide +kernel
theorem dX3_isFirstSealSound_52 : decode cX3_isFirstSealSound 52 = .ok (.getfield 10, 3) := by decide +kernel
theorem dX3_isFirstSealSound_55 : decode cX3_isFirstSealSound 55 = .ok (.aload_n 0, 1) := by decide +kernel
theorem dX3_isFirstSealSound_56 : decode cX3_isFirstSealSound 56 = .ok (.aload_n 0, 1) := by decide +kernel
theorem dX3_isFirstSealSound_57 : decode cX3_isFirstSealSound 57 = .ok (.getfield 25, 3) := by decide +kernel
theorem dX3_isFirstSealSound_60 : decode cX3_isFirstSealSound 60 = .ok (.iload_n 1, 1) := by decide +kernel
theorem dX3_isFirstSealSound_61 : decode cX3_isFirstSealSound 61 = .ok (.aaload, 1) := by decide +kernel
theorem dX3_isFirstSealSound_62 : decode cX3_isFirstSealSound 62 = .ok (.iload_n 2, 1) := by decide +kernel
theorem dX3_isFirstSealSound_63 : decode cX3_isFirstSealSound 63 = .ok (.iconst 0, 1) := by decide +kernel
theorem dX3_isFirstSealSound_64 : decode cX3_isFirstSealSound 64 = .ok (.invokevirtual 178, 3) := by decide +kernel
theorem dX3_isFirstSealSound_67 : decode cX3_isFirstSealSound 67 = .ok (.invokevirtual 73, 3) := by decide +kernel
theorem dX3_isFirstSealSound_70 : decode cX3_isFirstSealSound 70 = .ok (.aload_n 0, 1) := by decide +kernel
theorem dX3_isFirstSealSound_71 : decode cX3_isFirstSealSound 71 = .ok (.getfield 25, 3) := by decide +kernel
theorem dX3_isFirstSealSound_74 : decode cX3_isFirstSealSound 74 = .ok (.iload_n 1, 1) := by decide +kernel
theorem dX3_isFirstSealSound_75 : decode cX3_isFirstSealSound 75 = .ok (.aaload, 1) := by decide +kernel
theorem dX3_isFirstSealSound_76 : decode cX3_isFirstSealSound 76 = .ok (.iconst 0, 1) := by decide +kernel
theorem dX3_isFirstSealSound_77 : decode cX3_isFirstSealSound 77 = .ok (.invokevirtual 137, 3) := by decide +kernel
theorem dX3_isFirstSealSound_80 : decode cX3_isFirstSealSound 80 = .ok (.if_icmp .ne 7, 3) := by decide +kernel
theorem dX3_isFirstSealSound_83 : decode cX3_isFirstSealSound 83 = .ok (.iconst 1, 1) := by decide +kernel
theorem dX3_isFirstSealSound_84 : decode cX3_isFirstSealSound 84 = .ok (.goto 4, 3) := by decide +kernel
theorem dX3_isFirstSealSound_87 : decode cX3_isFirstSealSound 87 = .ok (.iconst 0, 1) := by decide +kernel
theorem dX3_isFirstSealSound_88 : decode cX3_isFirstSealSound 88 = .ok (.ireturn, 1) := by decide +kernel
theorem dX3_isFirstSealSound_89 : decode cX3_isFirstSealSound 89 = .ok (.iinc 1 1, 3) := by decide +kernel
theorem dX3_isFirstSealSound_92 : decode cX3_isFirstSealSound 92 = .ok (.goto (-90), 3) := by decide +kernel
theorem dX3_isFirstSealSound_95 : decode cX3_isFirstSealSound 95 = .ok (.iconst 1, 1) := by decide +kernel
theorem dX3_isFirstSealSound_96 : decode cX3_isFirstSealSound 96 = .ok (.ireturn, 1) := by decide +kernel
theorem dX3_doAllFit_0 : decode cX3_doAllFit 0 = .ok (.iconst 1, 1) := by decide +kernel
theorem dX3_doAllFit_1 : decode cX3_doAllFit 1 = .ok (.istore_n 3, 1) := by decide +kernel
theorem dX3_doAllFit_2 : decode cX3_doAllFit 2 = .ok (.iload_n 3, 1) := by decide +kernel
theorem dX3_doAllFit_3 : decode cX3_doAllFit 3 = .ok (.aload_n 0, 1) := by decide +kernel
theorem dX3_doAllFit_4 : decode cX3_doAllFit 4 = .ok (.getfield 10, 3) := by decide +kernel
theorem dX3_doAllFit_7 : decode cX3_doAllFit 7 = .ok (.getfield 116, 3) := by decide +kernel
theorem dX3_doAllFit_10 : decode cX3_doAllFit 10 = .ok (.if_icmp .gt 28, 3) := by decide +kernel
theorem dX3_doAllFit_13 : decode cX3_doAllFit 13 = .ok (.iload_n 2, 1) := by decide +kernel
theorem dX3_doAllFit_14 : decode cX3_doAllFit 14 = .ok (.iload_n 3, 1) := by decide +kernel
theorem dX3_doAllFit_15 : decode cX3_doAllFit 15 = .ok (.invokestatic 83, 3) := by decide +kernel
theorem dX3_doAllFit_18 : decode cX3_doAllFit 18 = .ok (.ifCond .eq 14, 3) := by decide +kernel
theorem dX3_doAllFit_21 : decode cX3_doAllFit 21 = .ok (.aload_n 0, 1) := by decide +kernel
theorem dX3_doAllFit_22 : decode cX3_doAllFit 22 = .ok (.aload_n 1, 1) := by decide +kernel
theorem dX3_doAllFit_23 : decode cX3_doAllFit 23 = .ok (.iload_n 3, 1) := by decide +kernel
theorem dX3_doAllFit_24 : decode cX3_doAllFit 24 = .ok (.invokevirtual 231, 3) := by decide +kernel
theorem dX3_doAllFit_27 : decode cX3_doAllFit 27 = .ok (.ifCond .ne 5, 3) := by decide +kernel
theorem dX3_doAllFit_30 : decode cX3_doAllFit 30 = .ok (.iconst 0, 1) := by decide +kernel
theorem dX3_doAllFit_31 : decode cX3_doAllFit 31 = .ok (.ireturn, 1) := by decide +kernel
theorem dX3_doAllFit_32 : decode cX3_doAllFit 32 = .ok (.iinc 3 1, 3) := by decide +kernel
theorem dX3_doAllFit_35 : decode cX3_doAllFit 35 = .ok (.goto (-33), 3) := by decide +kernel
theorem dX3_doAllFit_38 : decode cX3_doAllFit 38 = .ok (.iconst 1, 1) := by decide +kernel
theorem dX3_doAllFit_39 : decode cX3_doAllFit 39 = .ok (.ireturn, 1) := by decide +kernel
theorem dX4_init_0 : decode cX4_init 0 = .ok (.aload_n 0, 1) := by decide +kernel
theorem dX4_init_1 : decode cX4_init 1 = .ok (.invokespecial 1, 3) := by decide +kernel
theorem dX4_init_4 : decode cX4_init 4 = .ok (.return_, 1) := by decide +kernel
theorem dJ6_bitCount_0f7a4_0 : decode cJ6_bitCount_0f7a4 0 = .ok (.iload_n 0, 1) := by decide +kernel
theorem dJ6_bitCount_0f7a4_1 : decode cJ6_bitCount_0f7a4 1 = .ok (.iload_n 0, 1) := by decide +kernel
theorem dJ6_bitCount_0f7a4_2 : decode cJ6_bitCount_0f7a4 2 = .ok (.iconst 1, 1) := by decide +kernel
theorem dJ6_bitCount_0f7a4_3 : decode cJ6_bitCount_0f7a4 3 = .ok (.iushr, 1) := by decide +kernel
theorem dJ6_bitCount_0f7a4_4 : decode cJ6_bitCount_0f7a4 4 = .ok (.ldc_w 265, 3) := by decide +kernel
theorem dJ6_bitCount_0f7a4_7 : decode cJ6_bitCount_0f7a4 7 = .ok (.iand, 1) := by decide +kernel
theorem dJ6_bitCount_0f7a4_8 : decode cJ6_bitCount_0f7a4 8 = .ok (.isub, 1) := by decide +kernel
theorem dJ6_bitCount_0f7a4_9 : decode cJ6_bitCount_0f7a4 9 = .ok (.istore_n 0, 1) := by decide +kernel
theorem dJ6_bitCount_0f7a4_10 : decode cJ6_bitCount_0f7a4 10 = .ok (.iload_n 0, 1) := by decide +kernel
theorem dJ6_bitCount_0f7a4_11 : decode cJ6_bitCount_0f7a4 11 = .ok (.ldc_w 266, 3) := by decide +kernel
theorem dJ6_bitCount_0f7a4_14 : decode cJ6_bitCount_0f7a4 14 = .ok (.iand, 1) := by decide +kernel
theorem dJ6_bitCount_0f7a4_15 : decode cJ6_bitCount_0f7a4 15 = .ok (.iload_n 0, 1) := by decide +kernel
theorem dJ6_bitCount_0f7a4_16 : decode cJ6_bitCount_0f7a4 16 = .ok (.iconst 2, 1) := by decide +kernel
theorem dJ6_bitCount_0f7a4_17 : decode cJ6_bitCount_0f7a4 17 = .ok (.iushr, 1) := by decide +kernel
theorem dJ6_bitCount_0f7a4_18 : decode cJ6_bitCount_0f7a4 18 = .ok (.ldc_w 266, 3) := by decide +kernel
theorem dJ6_bitCount_0f7a4_21 : decode cJ6_bitCount_0f7a4 21 = .ok (.iand, 1) := by decide +kernel
theorem dJ6_bitCount_0f7a4_22 : decode cJ6_bitCount_0f7a4 22 = .ok (.iadd, 1) := by decide +kernel
theorem dJ6_bitCount_0f7a4_23 : decode cJ6_bitCount_0f7a4 23 = .ok (.istore_n 0, 1) := by decide +kernel
theorem dJ6_bitCount_0f7a4_24 : decode cJ6_bitCount_0f7a4 24 = .ok (.iload_n 0, 1) := by decide +kernel
theorem dJ6_bitCount_0f7a4_25 : decode cJ6_bitCount_0f7a4 25 = .ok (.iload_n 0, 1) := by decide +kernel
theorem dJ6_bitCount_0f7a4_26 : decode cJ6_bitCount_0f7a4 26 = .ok (.iconst 4, 1) := by decide +kernel
theorem dJ6_bitCount_0f7a4_27 : decode cJ6_bitCount_0f7a4 27 = .ok (.iushr, 1) := by decide +kernel
theorem dJ6_bitCount_0f7a4_28 : decode cJ6_bitCount_0f7a4 28 = .ok (.iadd, 1) := by decide +kernel
theorem dJ6_bitCount_0f7a4_29 : decode cJ6_bitCount_0f7a4 29 = .ok (.ldc_w 267, 3) := by decide +kernel
theorem dJ6_bitCount_0f7a4_32 : decode cJ6_bitCount_0f7a4 32 = .ok (.iand, 1) := by decide +kernel
theorem dJ6_bitCount_0f7a4_33 : decode cJ6_bitCount_0f7a4 33 = .ok (.istore_n 0, 1) := by decide +kernel
theorem dJ6_bitCount_0f7a4_34 : decode cJ6_bitCount_0f7a4 34 = .ok (.iload_n 0, 1) := by decide +kernel
theorem dJ6_bitCount_0f7a4_35 : decode cJ6_bitCount_0f7a4 35 = .ok (.iload_n 0, 1) := by decide +kernel
theorem dJ6_bitCount_0f7a4_36 : decode cJ6_bitCount_0f7a4 36 = .ok (.bipush 8, 2) := by decide +kernel
theorem dJ6_bitCount_0f7a4_38 : decode cJ6_bitCount_0f7a4 38 = .ok (.iushr, 1) := by decide +kernel
theorem dJ6_bitCount_0f7a4_39 : decode cJ6_bitCount_0f7a4 39 = .ok (.iadd, 1) := by decide +kernel
theorem dJ6_bitCount_0f7a4_40 : decode cJ6_bitCount_0f7a4 40 = .ok (.istore_n 0, 1) := by decide +kernel
theorem dJ6_bitCount_0f7a4_41 : decode cJ6_bitCount_0f7a4 41 = .ok (.iload_n 0, 1) := by decide +kernel
theorem dJ6_bitCount_0f7a4_42 : decode cJ6_bitCount_0f7a4 42 = .ok (.iload_n 0, 1) := by decide +kernel
theorem dJ6_bitCount_0f7a4_43 : decode cJ6_bitCount_0f7a4 43 = .ok (.bipush 16, 2) := by decide +kernel
theorem dJ6_bitCount_0f7a4_45 : decode cJ6_bitCount_0f7a4 45 = .ok (.iushr, 1) := by decide +kernel
theorem dJ6_bitCount_0f7a4_46 : decode cJ6_bitCount_0f7a4 46 = .ok (.iadd, 1) := by decide +kernel
theorem dJ6_bitCount_0f7a4_47 : decode cJ6_bitCount_0f7a4 47 = .ok (.istore_n 0, 1) := by decide +kernel
theorem dJ6_bitCount_0f7a4_48 : decode cJ6_bitCount_0f7a4 48 = .ok (.iload_n 0, 1) := by decide +kernel
theorem dJ6_bitCount_0f7a4_49 : decode cJ6_bitCount_0f7a4 49 = .ok (.bipush 63, 2) := by decide +kernel
theorem dJ6_bitCount_0f7a4_51 : decode cJ6_bitCount_0f7a4 51 = .ok (.iand, 1) := by decide +kernel
theorem dJ6_bitCount_0f7a4_52 : decode cJ6_bitCount_0f7a4 52 = .ok (.ireturn, 1) := by decide +kernel
theorem dJ9_max_7cf53_0 : decode cJ9_max_7cf53 0 = .ok (.iload_n 0, 1) := by decide +kernel
theorem dJ9_max_7cf53_1 : decode cJ9_max_7cf53 1 = .ok (.iload_n 1, 1) := by decide +kernel
theorem dJ9_max_7cf53_2 : decode cJ9_max_7cf53 2 = .ok (.if_icmp .lt 7, 3) := by decide +kernel
theorem dJ9_max_7cf53_5 : decode cJ9_max_7cf53 5 = .ok (.iload_n 0, 1) := by decide +kernel
theorem dJ9_max_7cf53_6 : decode cJ9_max_7cf53 6 = .ok (.goto 4, 3) := by decide +kernel
theorem dJ9_max_7cf53_9 : decode cJ9_max_7cf53 9 = .ok (.iload_n 1, 1) := by decide +kernel
theorem dJ9_max_7cf53_10 : decode cJ9_max_7cf53 10 = .ok (.ireturn, 1) := by decide +kernel
theorem dJ9_min_7cf53_0 : decode cJ9_min_7cf53 0 = .ok (.iload_n 0, 1) := by decide +kernel
theorem dJ9_min_7cf53_1 : decode cJ9_min_7cf53 1 = .ok (.iload_n 1, 1) := by decide +kernel
theorem dJ9_min_7cf53_2 : decode cJ9_min_7cf53 2 = .ok (.if_icmp .gt 7, 3) := by decide +kernel
theorem dJ9_min_7cf53_5 : decode cJ9_min_7cf53 5 = .ok (.iload_n 0, 1) := by decide +kernel
theorem dJ9_min_7cf53_6 : decode cJ9_min_7cf53 6 = .ok (.goto 4, 3) := by decide +kernel
theorem dJ9_min_7cf53_9 : decode cJ9_min_7cf53 9 = .ok (.iload_n 1, 1) := by decide +kernel
theorem dJ9_min_7cf53_10 : decode cJ9_min_7cf53 10 = .ok (.ireturn, 1) := by decide +kernel
end
section
/-! ===== the engine: a heap as a function from addresses to cells; contracts; a row for each instruction ===== -/
def e_ST : List (String × Nat × String) := [("Secretshares", 257, "what is not 0 to 6"), ("Secretshares", 293, "deal is not 0 to 5"), ("Secretshares", 205, "what is not 0 to 5"), ("Secretshares", 296, "holder is not 1 to M"), ("Secretshares", 302, "k is not 0 to 6"), ("Secretshares", 44, "no such prime"), ("Secretshares", 67, "how is not 0 to 3"), ("Secretshares", 298, "set is no set of holders"), ("Secretshares", 300, "degree is not 0 to 3"), ("SecretsharesModel", 200, "")]
abbrev e_tys (K : e_K) : List (ClassId × FieldType) := [(K.2.1.1 8, .int), (K.2.1.1 9, .object "Secretshares$Deal"), (K.2.1.1 10, .array .int)]
def e_zs (K : e_K) : List (String × String × String × Value) := [("Secretshares", "PRIMES", "[I", .ref (K.2.2 0)), ("Secretshares", "GREAT_PRIMES", "[I", .ref (K.2.2 1)), ("Secretshares", "BASES", "[I", .ref (K.2.2 2)), ("SecretsharesModel", "PRIMES", "[I", .ref (K.2.2 3)), ("SecretsharesModel", "GREATS", "[I", .ref (K.2.2 4)), ("SecretsharesModel", "BASES", "[I", .ref (K.2.2 5))]
def e_row : Nat → List Int
  | 0 => [5, 7, 11, 13, 101, 65537, 1000003]
  | 1 => [11, 29, 23, 53, 607, 917519, 36000109]
  | 2 => [3, 7, 2, 10, 7, 5, 76]
  | 3 => [5, 7, 11, 13, 101, 65537, 1000003]
  | 4 => [11, 29, 23, 53, 607, 917519, 36000109]
  | _ => [3, 7, 2, 10, 7, 5, 76]
def e_rowv (i j : Nat) : Value := .int (eI ((e_row i).getD j 0))
def e_G (K : e_K) (U : State) : Prop := va_K K.2.1 e_cl (e_tys K) U ∧ (∀ w ∈ e_NW, va_Nw w U) ∧ (∀ z ∈ e_zs K, va_Z z.1 z.2.1 z.2.2.1 z.2.2.2 (e_fr K) U U.heap) ∧ (∀ i, i < 6 → va_T .int (K.2.2 i) 7 (e_rowv i) (e_fr K) U U.heap) ∧ vx_Zq Bundle.tN "UNASSIGNED_STACK" Bundle.steD (e_fr K) U U.heap ∧ vx_Zq Bundle.tN "SUPPRESSED_SENTINEL" Bundle.listD (e_fr K) U U.heap ∧ ∀ z ∈ e_ST, ∃ a, vk_R z.1 z.2.1 z.2.2 a U
def e_at (K : e_K) (q : Nat) (e : e_C) (H : Heap) : Prop := match e with
  | .inl o => ∃ r : vw_C, e_cl[o.1]? = some r ∧ t_OB q (K.2.1.1 o.1) r.2.2 (K.2.1.2 o.1) H (vp_V o.2)
  | .inr a => H[q]? = some (arrV (K.2.1.1 a.1) a.2.1 a.2.2)
def e_R (K : e_K) (w : e_W) (n : Nat) (s : State) (H : Heap) : Prop := H.size = n ∧ K.1 ≤ n ∧ (∀ q e, w q = some e → K.1 ≤ q ∧ e_at K q e H) ∧ (∀ q, q < K.1 → H[q]? = s.heap[q]?) ∧ s.heap.size ≤ n
theorem e_at.kept {K : e_K} {q : Nat} {e : e_C} {H H1 : Heap} (h : e_at K q e H) (hq : H1[q]? = H[q]?) : e_at K q e H1 := by
  cases e with
  | inl o =>
    obtain ⟨r, h1, h2⟩ := h
    exact ⟨r, h1, h2.kept hq⟩
  | inr a => exact hq.trans h
theorem e_at.lt {K : e_K} {q : Nat} {e : e_C} {H : Heap} (h : e_at K q e H) : q < H.size := by
  cases e with
  | inl o =>
    obtain ⟨r, h1, cell, h2, -⟩ := h
    exact (Array.getElem?_eq_some_iff.mp h2).1
  | inr a => exact (Array.getElem?_eq_some_iff.mp h).1
theorem e_findIdx {vm vm' : Vm} (h : vm.Alike vm') (f : Class → Bool) (hf : ∀ k : Class, f k.bare = f k) : vm'.classes.findIdx? f = vm.classes.findIdx? f := by
  have e : ∀ v : Vm, v.bare.classes.findIdx? f = v.classes.findIdx? f := fun v => by
    simp only [Vm.bare, Array.findIdx?_map]
    congr 1; funext k; exact hf k
  rw [← e vm', ← e vm, h.bare_eq]
theorem e_AOmoved {ty : FieldType} {u U : State} (hvm : u.vm.Alike U.vm) (h : va_Nw (.arrayOver ty) u) : va_Nw (.arrayOver ty) U := by
  have key : (Cond.arrayOver ty).before #[] U = (Cond.arrayOver ty).before #[] u := by
    simp only [Cond.before, Cond.holds, Cond.value, hvm.findClass]
    congr 1
    congr 1
    funext comp
    rw [e_findIdx hvm _ (fun k => rfl)]
    congr 1
    funext c
    exact hvm.class_map _ (fun k r _ _ => rfl) c
  unfold va_Nw at h ⊢
  rw [key]; exact h
theorem e_NWwarm {w : Cond} {s U : State} (hw : e_isN w = true) (hW : s.WarmedH U.vm) (h : va_Nw w s) : va_Nw w U := by
  cases w <;> first | exact va_Nw.warmF hW h | exact va_Nw.warmM hW h | exact va_Nw.warmC hW h | exact e_AOmoved hW.alike h | (simp [e_isN] at hw)
theorem e_NWsame {w : Cond} {u U : State} (hw : e_isN w = true) (hvm : u.vm = U.vm) (h : va_Nw w u) : va_Nw w U := by
  cases w <;> first | exact va_Nw.same rfl hvm h | exact e_AOmoved (by rw [hvm]; exact Vm.Alike.refl _) h | (simp [e_isN] at hw)
theorem e_NWis {w : Cond} (h : w ∈ e_NW) : e_isN w = true := (List.mem_filter.mp h).2
theorem e_G.go {K : e_K} {s U : State} (h : e_G K s) (hW : s.WarmedH U.vm) (hq : ∀ q, q < K.1 → U.heap[q]? = s.heap[q]?) : e_G K U := by
  obtain ⟨h1, h2, h3, h4, h5, h6, h7⟩ := h
  have hk : ∀ a : Nat, a < s.heap.size → ¬ e_fr K a → U.heap[a]? = s.heap[a]? := fun a _ hn => hq a (Nat.not_le.mp hn)
  exact ⟨va_K.moved hW.alike h1, fun w hw => e_NWwarm (e_NWis hw) hW (h2 w hw), fun z hz => va_Z.moved hW.alike ((h3 z hz).kept hk), fun i hi => va_T.moved hW.alike ((h4 i hi).kept hk), vx_Zq.moved hW.alike (h5.kept hk), vx_Zq.moved hW.alike (h6.kept hk), fun z hz => by
    obtain ⟨a, ha⟩ := h7 z hz
    exact ⟨a, vk_R.warm hW ha⟩⟩
theorem e_R.lt {K : e_K} {w : e_W} {n : Nat} {s : State} {H : Heap} (h : e_R K w n s H) {q : Nat} {e : e_C} (hq : w q = some e) : q < n := by
  rw [← h.1]; exact (h.2.2.1 q e hq).2.lt
/-- the heap as seen from a callee's start -/
theorem e_R.re {K : e_K} {w : e_W} {n : Nat} {s : State} {H : Heap} (h : e_R K w n s H) {U : State} (hU : U.heap = H) : e_R K w n U U.heap := by
  obtain ⟨h1, h2, h3, h4, h5⟩ := h
  rw [hU]
  exact ⟨h1, h2, h3, fun q _ => by rw [hU], by rw [hU, h1]; exact Nat.le_refl _⟩
def e_up (w : e_W) (a : Nat) (c : e_C) : e_W := fun q => if q = a then some c else w q
theorem e_up_s {w : e_W} {a : Nat} {c : e_C} : e_up w a c a = some c := by simp [e_up]
theorem e_up_n {w : e_W} {a q : Nat} {c : e_C} (h : q ≠ a) : e_up w a c q = w q := by simp [e_up, h]
/-- contracts -/
def e_Qc (K : e_K) (post : Option Value → e_W → Nat → Prop) : Array Value → State → Outcome → State → Prop := fun _ st oc t => ∃ r w n, oc = .returned r ∧ post r w n ∧ e_R K w n st t.heap
def e_XC (K : e_K) (px : String → e_W → Nat → Prop) : String → State → State → Prop := fun E st t => ∃ w n, px E w n ∧ e_R K w n st t.heap
abbrev e_rm (d mc : Nat) : Room := { frames := d, cells := mc, slots := 256 * mc, locals := 64 * d }
def e_Pc (K : e_K) (as : List Value) (w : e_W) (n : Nat) : Array Value → State → Prop := va_Pc as (fun U => e_G K U ∧ e_R K w n U U.heap)
def e_Met (K : e_K) (l : Launch) (y : MethodName) (ws : List Cond) (d mc : Nat) (as : List Value) (w : e_W) (n : Nat) (post : Option Value → e_W → Nat → Prop) (px : String → e_W → Nat → Prop) : Prop :=
  l.stackTraces = false → vx_Met l y ws (e_rm d mc) (e_Pc K as w n) (e_Qc K post) (e_XC K px) mc (256 * mc) (e_fr K)
def e_px0 : String → e_W → Nat → Prop := fun _ _ _ => False
theorem e_blind {K : e_K} {as : List Value} {w : e_W} {n : Nat} : FrameBlind (e_Pc K as w n) := by
  intro a U g mk h
  obtain ⟨h0, ⟨h1, h2, h3, h4, h5, h6, h7⟩, hR⟩ := h
  refine ⟨h0, ⟨va_K.moved (u := U) (U := U.calling g mk a) (Vm.Alike.refl U.vm) h1, fun w hw => e_NWsame (e_NWis hw) (u := U) (U := U.calling g mk a) rfl (h2 w hw), fun z hz => va_Z.moved (u := U) (U := U.calling g mk a) (Vm.Alike.refl U.vm) (h3 z hz), fun i hi => va_T.moved (u := U) (U := U.calling g mk a) (Vm.Alike.refl U.vm) (h4 i hi), vx_Zq.moved (u := U) (U := U.calling g mk a) (Vm.Alike.refl U.vm) h5, vx_Zq.moved (u := U) (U := U.calling g mk a) (Vm.Alike.refl U.vm) h6, fun z hz => ?_⟩, hR⟩
  obtain ⟨a9, ha⟩ := h7 z hz
  exact ⟨a9, vk_R.warm (s := U) (U := U.calling g mk a) (State.WarmedH.refl U) ha⟩
/-- a point of a body -/
def e_V (K : e_K) (p : Program) (l : Launch) (e : Env) (d mc : Nat) (s : State) (m : MethodId) (args : Array Value) (below : List Frame) (meth : Method) (c : Code) (nL : Nat) (post : Option Value → e_W → Nat → Prop) (px : String → e_W → Nat → Prop) (pc : Nat) (L : List (Nat × Value)) (st : List Value) (w : e_W) (n k : Nat) : Prop :=
  ∀ (H : Heap) (locs : List Loc) (ls : Array Slot), lv_has ls nL L → e_R K w n s H → (∀ z ∈ locs, K.1 ≤ z.base) → W p l e (e_rm d mc) s m args below meth c H locs k (256 * k) (vx_MQ below (e_Qc K post) (e_XC K px) args s mc (256 * mc) (e_fr K)) (F0 m pc ls st)
/-- what holds all through a body -/
def e_F (K : e_K) (p : Program) (l : Launch) (s : State) (m : MethodId) (args : Array Value) (meth : Method) (c : Code) (cc : ByteArray) (nL : Nat) (ret : Option FieldType) (own : String) : Prop :=
  p.tables.exec = Jvm.exec ∧ c.code = cc ∧ c.maxLocals = nL ∧ meth.sig.returnType = ret ∧ s.vm.findClass own = some m.cls ∧ (∀ w ∈ e_TB, w.before args s = true) ∧ meth.locks = false ∧ (∀ x ∈ c.exceptionTable.toList, False) ∧ e_G K s ∧ l.stackTraces = false
theorem e_TBgood : ∀ w ∈ e_TB, (w.onTables && w.keeps) = true ∨ ∃ ty, w = .arrayClass ty := fun w h => good_of_word (List.mem_filter.mp h).2
theorem e_goodIn {ws : List Cond} (h : ∀ w ∈ ws, w ∈ e_TB) : GoodIn e_TB ws := fun w hw => ⟨h w hw, e_TBgood w (h w hw)⟩
def e_look (L : List (Nat × Value)) (k : Nat) : Option Value := (L.find? (fun q => q.1 == k)).map (·.2)
theorem e_look_has {ls : Array Slot} {nL : Nat} {L : List (Nat × Value)} (h : lv_has ls nL L) {k : Nat} {v : Value} (hk : e_look L k = some v) : ls[k]? = some (.val v) := by
  unfold e_look at hk
  cases hf : L.find? (fun q => q.1 == k) with
  | none => rw [hf] at hk; cases hk
  | some q =>
    rw [hf] at hk
    have h1 : q ∈ L := List.mem_of_find?_eq_some hf
    have h2 : (q.1 == k) = true := by have := List.find?_some hf; simpa using this
    have h3 : q.1 = k := by simpa using h2
    have h4 : q.2 = v := by simpa using hk
    have h5 := h.2.2 q h1
    rw [h3, h4] at h5
    exact h5
abbrev e_put (L : List (Nat × Value)) (i : Nat) (v : Value) : List (Nat × Value) := (i, v) :: L.filter (fun q => !(q.1 == i) && !(q.1 + 1 == i && q.2.category == 2))
abbrev e_putL (L : List (Nat × Value)) (i : Nat) (v : Value) : List (Nat × Value) := (i, v) :: L.filter (fun q => !(q.1 == i) && (!(q.1 == i + 1) && !(q.1 + 1 == i && q.2.category == 2)))
def e_subs : List (Nat × Value) → List (Nat × Value) → Prop
  | [], _ => True
  | q :: r, L => e_look L q.1 = some q.2 ∧ e_subs r L
theorem e_subs_has {ls : Array Slot} {nL : Nat} {L L' : List (Nat × Value)} (h : lv_has ls nL L) (hs : e_subs L' L) : lv_has ls nL L' := by
  refine ⟨h.1, h.2.1, ?_⟩
  induction L' with
  | nil => intro q hq; cases hq
  | cons a r ih =>
    intro q hq
    rcases List.mem_cons.mp hq with rfl | hq
    · exact e_look_has h hs.1
    · exact ih hs.2 q hq
/-! numbers -/
theorem eI_add (a b : Int) : eI a + eI b = eI (a + b) := (Int32.ofInt_add a b).symm
theorem eI_sub (a b : Int) : eI a - eI b = eI (a - b) := (Int32.ofInt_sub a b).symm
theorem eI_mul (a b : Int) : eI a * eI b = eI (a * b) := (Int32.ofInt_mul a b).symm
theorem eJ_add (a b : Int) : eJ a + eJ b = eJ (a + b) := (Int64.ofInt_add a b).symm
theorem eJ_sub (a b : Int) : eJ a - eJ b = eJ (a - b) := (Int64.ofInt_sub a b).symm
theorem eJ_mul (a b : Int) : eJ a * eJ b = eJ (a * b) := (Int64.ofInt_mul a b).symm
theorem eJ_neg (a : Int) : -eJ a = eJ (-a) := (Int64.ofInt_neg a).symm
theorem eI_toInt {a : Int} (h1 : -2147483648 ≤ a) (h2 : a < 2147483648) : (eI a).toInt = a := by
  exact Int32.toInt_ofInt_of_le (by omega) (by omega)
theorem eJ_toInt {a : Int} (h1 : -9223372036854775808 ≤ a) (h2 : a < 9223372036854775808) : (eJ a).toInt = a := by
  exact Int64.toInt_ofInt_of_le (by omega) (by omega)
theorem eI_self (x : Int32) : eI x.toInt = x := Int32.ofInt_toInt x
theorem eI_rg (x : Int32) : -2147483648 ≤ x.toInt ∧ x.toInt < 2147483648 := ⟨x.le_toInt, x.toInt_lt⟩
abbrev e_r (a : Int) : Prop := -2147483648 ≤ a ∧ a < 2147483648
abbrev e_r8 (a : Int) : Prop := -9223372036854775808 ≤ a ∧ a < 9223372036854775808
theorem eI_lt {a b : Int} (ha : e_r a) (hb : e_r b) : eI a < eI b ↔ a < b := by
  rw [Int32.lt_iff_toInt_lt, eI_toInt ha.1 ha.2, eI_toInt hb.1 hb.2]
theorem eI_le {a b : Int} (ha : e_r a) (hb : e_r b) : eI a ≤ eI b ↔ a ≤ b := by
  rw [Int32.le_iff_toInt_le, eI_toInt ha.1 ha.2, eI_toInt hb.1 hb.2]
theorem eI_eq {a b : Int} (ha : e_r a) (hb : e_r b) : eI a = eI b ↔ a = b := by
  rw [← Int32.toInt_inj, eI_toInt ha.1 ha.2, eI_toInt hb.1 hb.2]
theorem eJ_lt {a b : Int} (ha : e_r8 a) (hb : e_r8 b) : eJ a < eJ b ↔ a < b := by
  rw [Int64.lt_iff_toInt_lt, eJ_toInt ha.1 ha.2, eJ_toInt hb.1 hb.2]
theorem eJ_eq {a b : Int} (ha : e_r8 a) (hb : e_r8 b) : eJ a = eJ b ↔ a = b := by
  rw [← Int64.toInt_inj, eJ_toInt ha.1 ha.2, eJ_toInt hb.1 hb.2]
theorem eI_l {a : Int} (h : e_r a) : (eI a).toInt64 = eJ a := by
  rw [← Int64.toInt_inj, Int32.toInt_toInt64, eI_toInt h.1 h.2, eJ_toInt (by omega) (by omega)]
theorem eJ_i {a : Int} : (eJ a).toInt32 = eI a := by
  rw [← Int32.toInt_inj, Int64.toInt_toInt32, Int64.toInt_ofInt, Int32.toInt_ofInt, Int.bmod_bmod_of_dvd (by decide)]
theorem eI_div {a b : Int} (ha : e_r a) (hb : e_r b) : eI a / eI b = eI (a.tdiv b) := by
  rw [← Int32.toInt_inj, Int32.toInt_div, eI_toInt ha.1 ha.2, eI_toInt hb.1 hb.2, Int32.toInt_ofInt]
theorem eI_rem {a b : Int} (ha : e_r a) (hb : e_r b) : eI a - eI a / eI b * eI b = eI (a.tmod b) := by
  rw [eI_div ha hb, eI_mul, eI_sub, Int.tmod_def, Int.mul_comm]
theorem eJ_div {a b : Int} (ha : e_r8 a) (hb : e_r8 b) : eJ a / eJ b = eJ (a.tdiv b) := by
  rw [← Int64.toInt_inj, Int64.toInt_div, eJ_toInt ha.1 ha.2, eJ_toInt hb.1 hb.2, Int64.toInt_ofInt]
theorem eJ_rem {a b : Int} (ha : e_r8 a) (hb : e_r8 b) : eJ a - eJ a / eJ b * eJ b = eJ (a.tmod b) := by
  rw [eJ_div ha hb, eJ_mul, eJ_sub, Int.tmod_def, Int.mul_comm]
def e_cmp (a b : Int) : Int := if b < a then 1 else if a = b then 0 else -1
theorem eJ_cmp {a b : Int} (ha : e_r8 a) (hb : e_r8 b) : lg_cmp (eJ a) (eJ b) = eI (e_cmp a b) := by
  unfold lg_cmp e_cmp
  simp only [gt_iff_lt, eJ_lt hb ha, eJ_eq ha hb]
  split
  · rfl
  · split <;> rfl
theorem e_ix {i : Int} {N : Nat} (h0 : 0 ≤ i) (h : i < N) (hN : N < 2147483648) : ¬ (eI i < 0 ∨ N ≤ (eI i).toNatClampNeg) ∧ (eI i).toNatClampNeg = i.toNat := by
  have h1 : (eI i).toInt = i := eI_toInt (by omega) (by omega)
  have h2 : (eI i).toNatClampNeg = i.toNat := by
    show (eI i).toInt.toNat = i.toNat
    rw [h1]
  refine ⟨?_, h2⟩
  rw [h2]
  rintro (h3 | h3)
  · rw [Int32.lt_iff_toInt_lt, h1] at h3
    have : (0 : Int32).toInt = 0 := by decide
    omega
  · omega
theorem e_R.up {K : e_K} {w : e_W} {n : Nat} {s : State} {H H1 : Heap} {a : Nat} {c0 c : e_C} (h : e_R K w n s H) (ha : w a = some c0) (hc : e_at K a c H1) (hz : H1.size = H.size) (ho : ∀ q : Nat, q ≠ a → H1[q]? = H[q]?) : e_R K (e_up w a c) n s H1 := by
  obtain ⟨h1, h2, h3, h4, h5⟩ := h
  refine ⟨by rw [hz, h1], h2, fun q e he => ?_, fun q hq => ?_, h5⟩
  · by_cases hqa : q = a
    · subst hqa
      rw [e_up_s] at he
      cases he
      exact ⟨(h3 _ _ ha).1, hc⟩
    · rw [e_up_n hqa] at he
      exact ⟨(h3 q e he).1, (h3 q e he).2.kept (ho q hqa)⟩
  · rw [ho q (fun x => by subst x; exact absurd (h3 _ _ ha).1 (by omega))]
    exact h4 q hq
theorem e_R.push {K : e_K} {w : e_W} {n : Nat} {s : State} {H H1 : Heap} {c : e_C} (h : e_R K w n s H) (hc : e_at K n c H1) (hz : H1.size = n + 1) (ho : ∀ q : Nat, q < n → H1[q]? = H[q]?) : e_R K (e_up w n c) (n + 1) s H1 := by
  have hlt : ∀ q e, w q = some e → q < n := fun q e he => h.lt he
  obtain ⟨h1, h2, h3, h4, h5⟩ := h
  refine ⟨hz, by omega, fun q e he => ?_, fun q hq => ?_, by omega⟩
  · by_cases hqa : q = n
    · subst hqa
      rw [e_up_s] at he
      cases he
      exact ⟨h2, hc⟩
    · rw [e_up_n hqa] at he
      exact ⟨(h3 q e he).1, (h3 q e he).2.kept (ho q (hlt q e he))⟩
  · rw [ho q (by omega)]
    exact h4 q hq
theorem e_look_mem {L : List (Nat × Value)} {k : Nat} {v : Value} (hk : e_look L k = some v) : ∃ i : Nat, L[i]? = some (k, v) := by
  unfold e_look at hk
  cases hf : L.find? (fun q => q.1 == k) with
  | none => rw [hf] at hk; cases hk
  | some q =>
    rw [hf] at hk
    have h1 : q ∈ L := List.mem_of_find?_eq_some hf
    have h2 : (q.1 == k) = true := by have := List.find?_some hf; simpa using this
    have h3 : q.1 = k := by simpa using h2
    have h4 : q.2 = v := by simpa using hk
    obtain ⟨i, hi⟩ := List.getElem?_of_mem h1
    exact ⟨i, by rw [hi, ← h3, ← h4]⟩
theorem e_i8 {z : Int} (h1 : -128 ≤ z) (h2 : z < 128) : (Int8.ofInt z).toInt32 = eI z := by
  rw [← Int32.toInt_inj, Int8.toInt_toInt32, Int8.toInt_ofInt_of_le (by omega) (by omega), eI_toInt (by omega) (by omega)]
theorem e_clTB : ∀ (ci : Nat) (q : vw_C), e_cl[ci]? = some q → ∀ w ∈ u_ws q.1 q.2.1 q.2.2, w ∈ e_TB := by
  have h : ∀ q ∈ e_cl, ∀ w ∈ u_ws q.1 q.2.1 q.2.2, w ∈ e_TB := by decide +kernel
  exact fun ci q hq => h q (List.mem_of_getElem? hq)
def e_ty (ci : Nat) : Nat → FieldType := match ci with
  | 0 => tyX0
  | 1 => tyX1
  | 2 => tyX2
  | 3 => tyX3
  | 4 => tyX4
  | _ => tyX5
theorem e_ty_ok : ∀ (ci : Nat) (q : vw_C), e_cl[ci]? = some q → ∀ k, k < q.2.2 → parseFieldDescriptor (q.2.1 k).2.2.1 = some (e_ty ci k) := by
  intro ci q hq
  match ci, hq with
  | 0, hq => cases hq; exact tyX0_ok
  | 1, hq => cases hq; exact tyX1_ok
  | 2, hq => cases hq; exact tyX2_ok
  | 3, hq => cases hq; exact tyX3_ok
  | 4, hq => cases hq; exact tyX4_ok
  | 5, hq => cases hq; exact tyX5_ok
  | n + 6, hq => simp [e_cl] at hq
theorem e_nm : ∀ (ci : Nat) (q : vw_C), e_cl[ci]? = some q → ∀ a, a < q.2.2 → ∀ b, b < q.2.2 → a ≠ b → (q.2.1 a).2.1 ≠ (q.2.1 b).2.1 := by
  intro ci q hq
  match ci, hq with
  | 0, hq => cases hq; exact nmX0
  | 1, hq => cases hq; exact nmX1
  | 2, hq => cases hq; exact nmX2
  | 3, hq => cases hq; exact nmX3
  | 4, hq => cases hq; exact nmX4
  | 5, hq => cases hq; exact nmX5
  | n + 6, hq => simp [e_cl] at hq
abbrev e_ia (n : Nat) (f : Int → Int) : e_C := .inr (8, n, fun j => .int (eI (f (j : Int))))
abbrev e_da (n : Nat) (f : Int → Nat) : e_C := .inr (9, n, fun j => .ref (f (j : Int)))
abbrev e_ra (n : Nat) (f : Int → Option Nat) : e_C := .inr (10, n, fun j => va_rf (f (j : Int)))
def e_fu {α : Type} (f : Int → α) (i : Int) (x : α) : Int → α := fun j => if j = i then x else f j
section EV
variable {K : e_K} {p : Program} {l : Launch} {e : Env} {d mc : Nat} {s : State} {m : MethodId} {args : Array Value} {below : List Frame} {meth : Method} {c : Code} {cc : ByteArray} {nL : Nat} {ret : Option FieldType} {own : String} {post : Option Value → e_W → Nat → Prop} {px : String → e_W → Nat → Prop} {pc : Nat} {L : List (Nat × Value)} {st : List Value} {w : e_W} {n k : Nat}
theorem e_iconst (F : e_F K p l s m args meth c cc nL ret own) {z : Int} (hd : decode cc pc = .ok (.iconst z, 1)) (kk : e_V K p l e d mc s m args below meth c nL post px (pc + 1) (L) (.int (eI z) :: st) (w) (n) (k)) : e_V K p l e d mc s m args below meth c nL post px (pc) (L) (st) (w) (n) (k) := fun H locs ls hl hR hz => lv_iconst F.1 F.2.1 hd rfl (kk H locs ls hl hR hz)
theorem e_bipush (F : e_F K p l s m args meth c cc nL ret own) {z : Int} (hd : decode cc pc = .ok (.bipush z, 2)) (hv : -128 ≤ z ∧ z < 128) (kk : e_V K p l e d mc s m args below meth c nL post px (pc + 2) (L) (.int (eI z) :: st) (w) (n) (k)) : e_V K p l e d mc s m args below meth c nL post px (pc) (L) (st) (w) (n) (k) := fun H locs ls hl hR hz => lv_bipush F.1 F.2.1 hd (e_i8 hv.1 hv.2) (kk H locs ls hl hR hz)
theorem e_lconst (F : e_F K p l s m args meth c cc nL ret own) {z : Fin 2} {y : Int} (hd : decode cc pc = .ok (.lconst z, 1)) (hv : ((z : Nat) : Int) = y) (kk : e_V K p l e d mc s m args below meth c nL post px (pc + 1) (L) (.long (eJ y) :: st) (w) (n) (k)) : e_V K p l e d mc s m args below meth c nL post px (pc) (L) (st) (w) (n) (k) := fun H locs ls hl hR hz => lv_lconst F.1 F.2.1 hd (by rw [← hv]; rfl) (kk H locs ls hl hR hz)
theorem e_null (F : e_F K p l s m args meth c cc nL ret own)  (hd : decode cc pc = .ok (.aconst_null, 1)) (kk : e_V K p l e d mc s m args below meth c nL post px (pc + 1) (L) (.null :: st) (w) (n) (k)) : e_V K p l e d mc s m args below meth c nL post px (pc) (L) (st) (w) (n) (k) := fun H locs ls hl hR hz => lv_null F.1 F.2.1 hd (kk H locs ls hl hR hz)
theorem e_ldcw (F : e_F K p l s m args meth c cc nL ret own) {i : Nat} {z : Int} (hd : decode cc pc = .ok (.ldc_w i, 3)) (hw : Cond.constant own i (eI z) ∈ e_TB) (kk : e_V K p l e d mc s m args below meth c nL post px (pc + 3) (L) (.int (eI z) :: st) (w) (n) (k)) : e_V K p l e d mc s m args below meth c nL post px (pc) (L) (st) (w) (n) (k) := fun H locs ls hl hR hz => lv_ldcw F.1 F.2.1 F.2.2.2.2.1 (F.2.2.2.2.2.1 _ hw) hd (kk H locs ls hl hR hz)
theorem e_ldc (F : e_F K p l s m args meth c cc nL ret own) {i : Nat} {z : Int} (hd : decode cc pc = .ok (.ldc i, 2)) (hw : Cond.constant own i (eI z) ∈ e_TB) (kk : e_V K p l e d mc s m args below meth c nL post px (pc + 2) (L) (.int (eI z) :: st) (w) (n) (k)) : e_V K p l e d mc s m args below meth c nL post px (pc) (L) (st) (w) (n) (k) := fun H locs ls hl hR hz => lv_ldc F.1 F.2.1 F.2.2.2.2.1 (F.2.2.2.2.2.1 _ hw) hd (kk H locs ls hl hR hz)
theorem e_ldc2 (F : e_F K p l s m args meth c cc nL ret own) {i : Nat} {z : Int} (hd : decode cc pc = .ok (.ldc2_w i, 3)) (hw : Cond.constantLong own i (eJ z) ∈ e_TB) (kk : e_V K p l e d mc s m args below meth c nL post px (pc + 3) (L) (.long (eJ z) :: st) (w) (n) (k)) : e_V K p l e d mc s m args below meth c nL post px (pc) (L) (st) (w) (n) (k) := fun H locs ls hl hR hz => lv_ldc2 F.1 F.2.1 F.2.2.2.2.1 (F.2.2.2.2.2.1 _ hw) hd (kk H locs ls hl hR hz)
theorem e_iload_n (F : e_F K p l s m args meth c cc nL ret own) {i : Fin 4} {x : Int32} (hd : decode cc pc = .ok (.iload_n i, 1)) (hk : e_look L (i : Nat) = some (.int x)) (kk : e_V K p l e d mc s m args below meth c nL post px (pc + 1) (L) (.int x :: st) (w) (n) (k)) : e_V K p l e d mc s m args below meth c nL post px (pc) (L) (st) (w) (n) (k) := fun H locs ls hl hR hz => lv_iload_n F.1 F.2.1 hd rfl (e_look_has hl hk) (kk H locs ls hl hR hz)
theorem e_lload_n (F : e_F K p l s m args meth c cc nL ret own) {i : Fin 4} {x : Int64} (hd : decode cc pc = .ok (.lload_n i, 1)) (hk : e_look L (i : Nat) = some (.long x)) (kk : e_V K p l e d mc s m args below meth c nL post px (pc + 1) (L) (.long x :: st) (w) (n) (k)) : e_V K p l e d mc s m args below meth c nL post px (pc) (L) (st) (w) (n) (k) := fun H locs ls hl hR hz => lv_lload_n F.1 F.2.1 hd rfl (e_look_has hl hk) (kk H locs ls hl hR hz)
theorem e_aload_n (F : e_F K p l s m args meth c cc nL ret own) {i : Fin 4} {x : Nat} (hd : decode cc pc = .ok (.aload_n i, 1)) (hk : e_look L (i : Nat) = some (.ref x)) (kk : e_V K p l e d mc s m args below meth c nL post px (pc + 1) (L) (.ref x :: st) (w) (n) (k)) : e_V K p l e d mc s m args below meth c nL post px (pc) (L) (st) (w) (n) (k) := fun H locs ls hl hR hz => lv_aload_n F.1 F.2.1 hd rfl (e_look_has hl hk) (kk H locs ls hl hR hz)
theorem e_iload (F : e_F K p l s m args meth c cc nL ret own) {i : Nat} {x : Int32} (hd : decode cc pc = .ok (.iload i, 2)) (hk : e_look L i = some (.int x)) (kk : e_V K p l e d mc s m args below meth c nL post px (pc + 2) (L) (.int x :: st) (w) (n) (k)) : e_V K p l e d mc s m args below meth c nL post px (pc) (L) (st) (w) (n) (k) := fun H locs ls hl hR hz => lv_iload F.1 F.2.1 hd (e_look_has hl hk) (kk H locs ls hl hR hz)
theorem e_lload (F : e_F K p l s m args meth c cc nL ret own) {i : Nat} {x : Int64} (hd : decode cc pc = .ok (.lload i, 2)) (hk : e_look L i = some (.long x)) (kk : e_V K p l e d mc s m args below meth c nL post px (pc + 2) (L) (.long x :: st) (w) (n) (k)) : e_V K p l e d mc s m args below meth c nL post px (pc) (L) (st) (w) (n) (k) := fun H locs ls hl hR hz => lv_lload F.1 F.2.1 hd (e_look_has hl hk) (kk H locs ls hl hR hz)
theorem e_aload (F : e_F K p l s m args meth c cc nL ret own) {i : Nat} {x : Nat} (hd : decode cc pc = .ok (.aload i, 2)) (hk : e_look L i = some (.ref x)) (kk : e_V K p l e d mc s m args below meth c nL post px (pc + 2) (L) (.ref x :: st) (w) (n) (k)) : e_V K p l e d mc s m args below meth c nL post px (pc) (L) (st) (w) (n) (k) := fun H locs ls hl hR hz => lv_aload F.1 F.2.1 hd (e_look_has hl hk) (kk H locs ls hl hR hz)
theorem e_aload_nN (F : e_F K p l s m args meth c cc nL ret own) {i : Fin 4} (hd : decode cc pc = .ok (.aload_n i, 1)) (hk : e_look L (i : Nat) = some .null) (kk : e_V K p l e d mc s m args below meth c nL post px (pc + 1) (L) (.null :: st) (w) (n) (k)) : e_V K p l e d mc s m args below meth c nL post px (pc) (L) (st) (w) (n) (k) := fun H locs ls hl hR hz => lv_aload_nN F.1 F.2.1 hd rfl (e_look_has hl hk) (kk H locs ls hl hR hz)
theorem e_aloadN (F : e_F K p l s m args meth c cc nL ret own) {i : Nat} (hd : decode cc pc = .ok (.aload i, 2)) (hk : e_look L i = some .null) (kk : e_V K p l e d mc s m args below meth c nL post px (pc + 2) (L) (.null :: st) (w) (n) (k)) : e_V K p l e d mc s m args below meth c nL post px (pc) (L) (st) (w) (n) (k) := fun H locs ls hl hR hz => lv_aloadN F.1 F.2.1 hd (e_look_has hl hk) (kk H locs ls hl hR hz)
theorem e_istore_n (F : e_F K p l s m args meth c cc nL ret own) {i : Fin 4} {x : Int32} (hd : decode cc pc = .ok (.istore_n i, 1)) (hb : (i : Nat) < nL) (kk : e_V K p l e d mc s m args below meth c nL post px (pc + 1) (e_put L (i : Nat) (.int x)) (st) (w) (n) (k)) : e_V K p l e d mc s m args below meth c nL post px (pc) (L) (.int x :: st) (w) (n) (k) := fun H locs ls hl hR hz => lv_istore_n F.1 F.2.1 hd rfl hl hb rfl (fun ls hl => kk H locs ls hl hR hz)
theorem e_lstore_n (F : e_F K p l s m args meth c cc nL ret own) {i : Fin 4} {x : Int64} (hd : decode cc pc = .ok (.lstore_n i, 1)) (hb : (i : Nat) + 1 < nL) (kk : e_V K p l e d mc s m args below meth c nL post px (pc + 1) (e_putL L (i : Nat) (.long x)) (st) (w) (n) (k)) : e_V K p l e d mc s m args below meth c nL post px (pc) (L) (.long x :: st) (w) (n) (k) := fun H locs ls hl hR hz => lv_lstore_n F.1 F.2.1 hd rfl hl hb rfl (fun ls hl => kk H locs ls hl hR hz)
theorem e_astore_n (F : e_F K p l s m args meth c cc nL ret own) {i : Fin 4} {x : Nat} (hd : decode cc pc = .ok (.astore_n i, 1)) (hb : (i : Nat) < nL) (kk : e_V K p l e d mc s m args below meth c nL post px (pc + 1) (e_put L (i : Nat) (.ref x)) (st) (w) (n) (k)) : e_V K p l e d mc s m args below meth c nL post px (pc) (L) (.ref x :: st) (w) (n) (k) := fun H locs ls hl hR hz => lv_astore_n F.1 F.2.1 hd rfl hl hb rfl (fun ls hl => kk H locs ls hl hR hz)
theorem e_istore (F : e_F K p l s m args meth c cc nL ret own) {i : Nat} {x : Int32} (hd : decode cc pc = .ok (.istore i, 2)) (hb : i < nL) (kk : e_V K p l e d mc s m args below meth c nL post px (pc + 2) (e_put L i (.int x)) (st) (w) (n) (k)) : e_V K p l e d mc s m args below meth c nL post px (pc) (L) (.int x :: st) (w) (n) (k) := fun H locs ls hl hR hz => lv_istore F.1 F.2.1 hd hl hb rfl (fun ls hl => kk H locs ls hl hR hz)
theorem e_lstore (F : e_F K p l s m args meth c cc nL ret own) {i : Nat} {x : Int64} (hd : decode cc pc = .ok (.lstore i, 2)) (hb : i + 1 < nL) (kk : e_V K p l e d mc s m args below meth c nL post px (pc + 2) (e_putL L i (.long x)) (st) (w) (n) (k)) : e_V K p l e d mc s m args below meth c nL post px (pc) (L) (.long x :: st) (w) (n) (k) := fun H locs ls hl hR hz => lv_lstore F.1 F.2.1 hd hl hb rfl (fun ls hl => kk H locs ls hl hR hz)
theorem e_astore (F : e_F K p l s m args meth c cc nL ret own) {i : Nat} {x : Nat} (hd : decode cc pc = .ok (.astore i, 2)) (hb : i < nL) (kk : e_V K p l e d mc s m args below meth c nL post px (pc + 2) (e_put L i (.ref x)) (st) (w) (n) (k)) : e_V K p l e d mc s m args below meth c nL post px (pc) (L) (.ref x :: st) (w) (n) (k) := fun H locs ls hl hR hz => lv_astore F.1 F.2.1 hd hl hb rfl (fun ls hl => kk H locs ls hl hR hz)
theorem e_astore_nN (F : e_F K p l s m args meth c cc nL ret own) {i : Fin 4} (hd : decode cc pc = .ok (.astore_n i, 1)) (hb : (i : Nat) < nL) (kk : e_V K p l e d mc s m args below meth c nL post px (pc + 1) (e_put L (i : Nat) .null) (st) (w) (n) (k)) : e_V K p l e d mc s m args below meth c nL post px (pc) (L) (.null :: st) (w) (n) (k) := fun H locs ls hl hR hz => lv_astore_nN F.1 F.2.1 hd rfl hl hb rfl (fun ls hl => kk H locs ls hl hR hz)
theorem e_astoreN (F : e_F K p l s m args meth c cc nL ret own) {i : Nat} (hd : decode cc pc = .ok (.astore i, 2)) (hb : i < nL) (kk : e_V K p l e d mc s m args below meth c nL post px (pc + 2) (e_put L i .null) (st) (w) (n) (k)) : e_V K p l e d mc s m args below meth c nL post px (pc) (L) (.null :: st) (w) (n) (k) := fun H locs ls hl hR hz => lv_astoreN F.1 F.2.1 hd hl hb rfl (fun ls hl => kk H locs ls hl hR hz)
theorem e_iinc (F : e_F K p l s m args meth c cc nL ret own) {i : Nat} {z a : Int} (hd : decode cc pc = .ok (.iinc i z, 3)) (hk : e_look L i = some (.int (eI a))) (hb : i < nL) (kk : e_V K p l e d mc s m args below meth c nL post px (pc + 3) (e_put L i (.int (eI (a + z)))) (st) (w) (n) (k)) : e_V K p l e d mc s m args below meth c nL post px (pc) (L) (st) (w) (n) (k) := by
  obtain ⟨j, hj⟩ := e_look_mem hk
  exact fun H locs ls hl hR hz => lv_iinc F.1 F.2.1 hd hl hj (eI_add a z) hb rfl (fun ls hl => kk H locs ls hl hR hz)
theorem e_iadd (F : e_F K p l s m args meth c cc nL ret own) {a b : Int} (hd : decode cc pc = .ok (.iadd, 1)) (kk : e_V K p l e d mc s m args below meth c nL post px (pc + 1) (L) (.int (eI (a + b)) :: st) (w) (n) (k)) : e_V K p l e d mc s m args below meth c nL post px (pc) (L) (.int (eI b) :: .int (eI a) :: st) (w) (n) (k) := fun H locs ls hl hR hz => lv_iadd F.1 F.2.1 hd (by rw [eI_add]; exact kk H locs ls hl hR hz)
theorem e_isub (F : e_F K p l s m args meth c cc nL ret own) {a b : Int} (hd : decode cc pc = .ok (.isub, 1)) (kk : e_V K p l e d mc s m args below meth c nL post px (pc + 1) (L) (.int (eI (a - b)) :: st) (w) (n) (k)) : e_V K p l e d mc s m args below meth c nL post px (pc) (L) (.int (eI b) :: .int (eI a) :: st) (w) (n) (k) := fun H locs ls hl hR hz => lv_isub F.1 F.2.1 hd (by rw [eI_sub]; exact kk H locs ls hl hR hz)
theorem e_imul (F : e_F K p l s m args meth c cc nL ret own) {a b : Int} (hd : decode cc pc = .ok (.imul, 1)) (kk : e_V K p l e d mc s m args below meth c nL post px (pc + 1) (L) (.int (eI (a * b)) :: st) (w) (n) (k)) : e_V K p l e d mc s m args below meth c nL post px (pc) (L) (.int (eI b) :: .int (eI a) :: st) (w) (n) (k) := fun H locs ls hl hR hz => lv_imul F.1 F.2.1 hd (by rw [eI_mul]; exact kk H locs ls hl hR hz)
theorem e_ladd (F : e_F K p l s m args meth c cc nL ret own) {a b : Int} (hd : decode cc pc = .ok (.ladd, 1)) (kk : e_V K p l e d mc s m args below meth c nL post px (pc + 1) (L) (.long (eJ (a + b)) :: st) (w) (n) (k)) : e_V K p l e d mc s m args below meth c nL post px (pc) (L) (.long (eJ b) :: .long (eJ a) :: st) (w) (n) (k) := fun H locs ls hl hR hz => lv_ladd F.1 F.2.1 hd (by rw [eJ_add]; exact kk H locs ls hl hR hz)
theorem e_lsub (F : e_F K p l s m args meth c cc nL ret own) {a b : Int} (hd : decode cc pc = .ok (.lsub, 1)) (kk : e_V K p l e d mc s m args below meth c nL post px (pc + 1) (L) (.long (eJ (a - b)) :: st) (w) (n) (k)) : e_V K p l e d mc s m args below meth c nL post px (pc) (L) (.long (eJ b) :: .long (eJ a) :: st) (w) (n) (k) := fun H locs ls hl hR hz => lv_lsub F.1 F.2.1 hd (by rw [eJ_sub]; exact kk H locs ls hl hR hz)
theorem e_lmul (F : e_F K p l s m args meth c cc nL ret own) {a b : Int} (hd : decode cc pc = .ok (.lmul, 1)) (kk : e_V K p l e d mc s m args below meth c nL post px (pc + 1) (L) (.long (eJ (a * b)) :: st) (w) (n) (k)) : e_V K p l e d mc s m args below meth c nL post px (pc) (L) (.long (eJ b) :: .long (eJ a) :: st) (w) (n) (k) := fun H locs ls hl hR hz => lv_lmul F.1 F.2.1 hd (by rw [eJ_mul]; exact kk H locs ls hl hR hz)
theorem e_lneg (F : e_F K p l s m args meth c cc nL ret own) {a : Int} (hd : decode cc pc = .ok (.lneg, 1)) (kk : e_V K p l e d mc s m args below meth c nL post px (pc + 1) (L) (.long (eJ (-a)) :: st) (w) (n) (k)) : e_V K p l e d mc s m args below meth c nL post px (pc) (L) (.long (eJ a) :: st) (w) (n) (k) := fun H locs ls hl hR hz => lv_lneg F.1 F.2.1 hd (by rw [eJ_neg]; exact kk H locs ls hl hR hz)
theorem e_iand (F : e_F K p l s m args meth c cc nL ret own) {x y : Int32} {z : Int} (hd : decode cc pc = .ok (.iand, 1)) (hv : x &&& y = eI z) (kk : e_V K p l e d mc s m args below meth c nL post px (pc + 1) (L) (.int (eI z) :: st) (w) (n) (k)) : e_V K p l e d mc s m args below meth c nL post px (pc) (L) (.int y :: .int x :: st) (w) (n) (k) := fun H locs ls hl hR hz => lv_iand F.1 F.2.1 hd (by rw [hv]; exact kk H locs ls hl hR hz)
theorem e_ior (F : e_F K p l s m args meth c cc nL ret own) {x y : Int32} {z : Int} (hd : decode cc pc = .ok (.ior, 1)) (hv : x ||| y = eI z) (kk : e_V K p l e d mc s m args below meth c nL post px (pc + 1) (L) (.int (eI z) :: st) (w) (n) (k)) : e_V K p l e d mc s m args below meth c nL post px (pc) (L) (.int y :: .int x :: st) (w) (n) (k) := fun H locs ls hl hR hz => lv_ior F.1 F.2.1 hd (by rw [hv]; exact kk H locs ls hl hR hz)
theorem e_ixor (F : e_F K p l s m args meth c cc nL ret own) {x y : Int32} {z : Int} (hd : decode cc pc = .ok (.ixor, 1)) (hv : x ^^^ y = eI z) (kk : e_V K p l e d mc s m args below meth c nL post px (pc + 1) (L) (.int (eI z) :: st) (w) (n) (k)) : e_V K p l e d mc s m args below meth c nL post px (pc) (L) (.int y :: .int x :: st) (w) (n) (k) := fun H locs ls hl hR hz => lv_ixor F.1 F.2.1 hd (by rw [hv]; exact kk H locs ls hl hR hz)
theorem e_ishl (F : e_F K p l s m args meth c cc nL ret own) {x y : Int32} {z : Int} (hd : decode cc pc = .ok (.ishl, 1)) (hv : x <<< (y &&& 31) = eI z) (kk : e_V K p l e d mc s m args below meth c nL post px (pc + 1) (L) (.int (eI z) :: st) (w) (n) (k)) : e_V K p l e d mc s m args below meth c nL post px (pc) (L) (.int y :: .int x :: st) (w) (n) (k) := fun H locs ls hl hR hz => lv_ishl F.1 F.2.1 hd (by rw [hv]; exact kk H locs ls hl hR hz)
theorem e_ishr (F : e_F K p l s m args meth c cc nL ret own) {x y : Int32} {z : Int} (hd : decode cc pc = .ok (.ishr, 1)) (hv : x >>> (y &&& 31) = eI z) (kk : e_V K p l e d mc s m args below meth c nL post px (pc + 1) (L) (.int (eI z) :: st) (w) (n) (k)) : e_V K p l e d mc s m args below meth c nL post px (pc) (L) (.int y :: .int x :: st) (w) (n) (k) := fun H locs ls hl hR hz => lv_ishr F.1 F.2.1 hd (by rw [hv]; exact kk H locs ls hl hR hz)
theorem e_land (F : e_F K p l s m args meth c cc nL ret own) {x y : Int64} {z : Int} (hd : decode cc pc = .ok (.land, 1)) (hv : x &&& y = eJ z) (kk : e_V K p l e d mc s m args below meth c nL post px (pc + 1) (L) (.long (eJ z) :: st) (w) (n) (k)) : e_V K p l e d mc s m args below meth c nL post px (pc) (L) (.long y :: .long x :: st) (w) (n) (k) := fun H locs ls hl hR hz => lv_land F.1 F.2.1 hd (by rw [hv]; exact kk H locs ls hl hR hz)
theorem e_lshr (F : e_F K p l s m args meth c cc nL ret own) {x : Int64} {y : Int32} {z : Int} (hd : decode cc pc = .ok (.lshr, 1)) (hv : x >>> (y.toInt64 &&& 63) = eJ z) (kk : e_V K p l e d mc s m args below meth c nL post px (pc + 1) (L) (.long (eJ z) :: st) (w) (n) (k)) : e_V K p l e d mc s m args below meth c nL post px (pc) (L) (.int y :: .long x :: st) (w) (n) (k) := fun H locs ls hl hR hz => lv_lshr F.1 F.2.1 hd hv (kk H locs ls hl hR hz)
theorem e_idiv (F : e_F K p l s m args meth c cc nL ret own) {a b : Int} (hd : decode cc pc = .ok (.idiv, 1)) (ha : e_r a) (hb : e_r b) (h0 : b ≠ 0) (kk : e_V K p l e d mc s m args below meth c nL post px (pc + 1) (L) (.int (eI (a.tdiv b)) :: st) (w) (n) (k)) : e_V K p l e d mc s m args below meth c nL post px (pc) (L) (.int (eI b) :: .int (eI a) :: st) (w) (n) (k) := fun H locs ls hl hR hz => lv_idiv F.1 F.2.1 hd (fun h => h0 ((eI_eq hb (by decide)).mp h)) (by rw [eI_div ha hb]; exact kk H locs ls hl hR hz)
theorem e_irem (F : e_F K p l s m args meth c cc nL ret own) {a b : Int} (hd : decode cc pc = .ok (.irem, 1)) (ha : e_r a) (hb : e_r b) (h0 : b ≠ 0) (kk : e_V K p l e d mc s m args below meth c nL post px (pc + 1) (L) (.int (eI (a.tmod b)) :: st) (w) (n) (k)) : e_V K p l e d mc s m args below meth c nL post px (pc) (L) (.int (eI b) :: .int (eI a) :: st) (w) (n) (k) := fun H locs ls hl hR hz => lv_irem F.1 F.2.1 hd (fun h => h0 ((eI_eq hb (by decide)).mp h)) (by rw [eI_rem ha hb]; exact kk H locs ls hl hR hz)
theorem e_lrem (F : e_F K p l s m args meth c cc nL ret own) {a b : Int} (hd : decode cc pc = .ok (.lrem, 1)) (ha : e_r8 a) (hb : e_r8 b) (h0 : b ≠ 0) (kk : e_V K p l e d mc s m args below meth c nL post px (pc + 1) (L) (.long (eJ (a.tmod b)) :: st) (w) (n) (k)) : e_V K p l e d mc s m args below meth c nL post px (pc) (L) (.long (eJ b) :: .long (eJ a) :: st) (w) (n) (k) := fun H locs ls hl hR hz => lv_lrem F.1 F.2.1 hd (fun h => h0 ((eJ_eq hb (by decide)).mp h)) (by rw [eJ_rem ha hb]; exact kk H locs ls hl hR hz)
theorem e_i2l (F : e_F K p l s m args meth c cc nL ret own) {a : Int} (hd : decode cc pc = .ok (.i2l, 1)) (ha : e_r a) (kk : e_V K p l e d mc s m args below meth c nL post px (pc + 1) (L) (.long (eJ a) :: st) (w) (n) (k)) : e_V K p l e d mc s m args below meth c nL post px (pc) (L) (.int (eI a) :: st) (w) (n) (k) := fun H locs ls hl hR hz => lv_i2l F.1 F.2.1 hd (eI_l ha) (kk H locs ls hl hR hz)
theorem e_l2i (F : e_F K p l s m args meth c cc nL ret own) {a : Int} (hd : decode cc pc = .ok (.l2i, 1)) (kk : e_V K p l e d mc s m args below meth c nL post px (pc + 1) (L) (.int (eI a) :: st) (w) (n) (k)) : e_V K p l e d mc s m args below meth c nL post px (pc) (L) (.long (eJ a) :: st) (w) (n) (k) := fun H locs ls hl hR hz => lv_l2i F.1 F.2.1 hd eJ_i (kk H locs ls hl hR hz)
theorem e_lcmp (F : e_F K p l s m args meth c cc nL ret own) {a b : Int} (hd : decode cc pc = .ok (.lcmp, 1)) (ha : e_r8 a) (hb : e_r8 b) (kk : e_V K p l e d mc s m args below meth c nL post px (pc + 1) (L) (.int (eI (e_cmp a b)) :: st) (w) (n) (k)) : e_V K p l e d mc s m args below meth c nL post px (pc) (L) (.long (eJ b) :: .long (eJ a) :: st) (w) (n) (k) := fun H locs ls hl hR hz => W.lcmp F.1 F.2.1 hd (by rw [eJ_cmp ha hb]; exact kk H locs ls hl hR hz)
theorem e_dup (F : e_F K p l s m args meth c cc nL ret own) {v : Value} (hd : decode cc pc = .ok (.dup, 1)) (hv : v.category = 1) (kk : e_V K p l e d mc s m args below meth c nL post px (pc + 1) (L) (v :: v :: st) (w) (n) (k)) : e_V K p l e d mc s m args below meth c nL post px (pc) (L) (v :: st) (w) (n) (k) := fun H locs ls hl hR hz => lv_dup F.1 F.2.1 hd hv (kk H locs ls hl hR hz)
theorem e_pop (F : e_F K p l s m args meth c cc nL ret own) {v : Value} (hd : decode cc pc = .ok (.pop, 1)) (hv : v.category = 1) (kk : e_V K p l e d mc s m args below meth c nL post px (pc + 1) (L) (st) (w) (n) (k)) : e_V K p l e d mc s m args below meth c nL post px (pc) (L) (v :: st) (w) (n) (k) := fun H locs ls hl hR hz => lv_pop F.1 F.2.1 hd hv (kk H locs ls hl hR hz)
theorem e_icmp_eq (F : e_F K p l s m args meth c cc nL ret own) {a b : Int} {off : Int} (tgt : Nat) (hd : decode cc pc = .ok (.if_icmp .eq off, 3)) (ht : (pc : Int) + off = (tgt : Int)) (ha : e_r a) (hb : e_r b) (kt : a = b → e_V K p l e d mc s m args below meth c nL post px (tgt) (L) (st) (w) (n) (k)) (kf : ¬ (a = b) → e_V K p l e d mc s m args below meth c nL post px (pc + 3) (L) (st) (w) (n) (k)) : e_V K p l e d mc s m args below meth c nL post px (pc) (L) (.int (eI b) :: .int (eI a) :: st) (w) (n) (k) := by
  have hi := eI_eq ha hb
  exact fun H locs ls hl hR hz => lv_icmp_eq F.1 F.2.1 hd ht (fun h => kt (hi.mp h) H locs ls hl hR hz) (fun h => kf (fun q => h (hi.mpr q)) H locs ls hl hR hz)
theorem e_if_eq (F : e_F K p l s m args meth c cc nL ret own) {a : Int} {off : Int} (tgt : Nat) (hd : decode cc pc = .ok (.ifCond .eq off, 3)) (ht : (pc : Int) + off = (tgt : Int)) (ha : e_r a) (kt : a = 0 → e_V K p l e d mc s m args below meth c nL post px (tgt) (L) (st) (w) (n) (k)) (kf : ¬ (a = 0) → e_V K p l e d mc s m args below meth c nL post px (pc + 3) (L) (st) (w) (n) (k)) : e_V K p l e d mc s m args below meth c nL post px (pc) (L) (.int (eI a) :: st) (w) (n) (k) := by
  have hi := eI_eq ha (show e_r 0 by decide)
  exact fun H locs ls hl hR hz => lv_if_eq F.1 F.2.1 hd ht (fun h => kt (hi.mp h) H locs ls hl hR hz) (fun h => kf (fun q => h (hi.mpr q)) H locs ls hl hR hz)
theorem e_icmp_ne (F : e_F K p l s m args meth c cc nL ret own) {a b : Int} {off : Int} (tgt : Nat) (hd : decode cc pc = .ok (.if_icmp .ne off, 3)) (ht : (pc : Int) + off = (tgt : Int)) (ha : e_r a) (hb : e_r b) (kt : a ≠ b → e_V K p l e d mc s m args below meth c nL post px (tgt) (L) (st) (w) (n) (k)) (kf : a = b → e_V K p l e d mc s m args below meth c nL post px (pc + 3) (L) (st) (w) (n) (k)) : e_V K p l e d mc s m args below meth c nL post px (pc) (L) (.int (eI b) :: .int (eI a) :: st) (w) (n) (k) := by
  have hi := not_congr (eI_eq ha hb)
  exact fun H locs ls hl hR hz => lv_icmp_ne F.1 F.2.1 hd ht (fun h => kt (hi.mp h) H locs ls hl hR hz) (fun h => kf (Classical.not_not.mp (fun q => (hi.mpr q) h)) H locs ls hl hR hz)
theorem e_if_ne (F : e_F K p l s m args meth c cc nL ret own) {a : Int} {off : Int} (tgt : Nat) (hd : decode cc pc = .ok (.ifCond .ne off, 3)) (ht : (pc : Int) + off = (tgt : Int)) (ha : e_r a) (kt : a ≠ 0 → e_V K p l e d mc s m args below meth c nL post px (tgt) (L) (st) (w) (n) (k)) (kf : a = 0 → e_V K p l e d mc s m args below meth c nL post px (pc + 3) (L) (st) (w) (n) (k)) : e_V K p l e d mc s m args below meth c nL post px (pc) (L) (.int (eI a) :: st) (w) (n) (k) := by
  have hi := not_congr (eI_eq ha (show e_r 0 by decide))
  exact fun H locs ls hl hR hz => lv_if_ne F.1 F.2.1 hd ht (fun h => kt (hi.mp h) H locs ls hl hR hz) (fun h => kf (Classical.not_not.mp (fun q => (hi.mpr q) h)) H locs ls hl hR hz)
theorem e_icmp_lt (F : e_F K p l s m args meth c cc nL ret own) {a b : Int} {off : Int} (tgt : Nat) (hd : decode cc pc = .ok (.if_icmp .lt off, 3)) (ht : (pc : Int) + off = (tgt : Int)) (ha : e_r a) (hb : e_r b) (kt : a < b → e_V K p l e d mc s m args below meth c nL post px (tgt) (L) (st) (w) (n) (k)) (kf : ¬ (a < b) → e_V K p l e d mc s m args below meth c nL post px (pc + 3) (L) (st) (w) (n) (k)) : e_V K p l e d mc s m args below meth c nL post px (pc) (L) (.int (eI b) :: .int (eI a) :: st) (w) (n) (k) := by
  have hi := eI_lt ha hb
  exact fun H locs ls hl hR hz => lv_icmp_lt F.1 F.2.1 hd ht (fun h => kt (hi.mp h) H locs ls hl hR hz) (fun h => kf (fun q => h (hi.mpr q)) H locs ls hl hR hz)
theorem e_if_lt (F : e_F K p l s m args meth c cc nL ret own) {a : Int} {off : Int} (tgt : Nat) (hd : decode cc pc = .ok (.ifCond .lt off, 3)) (ht : (pc : Int) + off = (tgt : Int)) (ha : e_r a) (kt : a < 0 → e_V K p l e d mc s m args below meth c nL post px (tgt) (L) (st) (w) (n) (k)) (kf : ¬ (a < 0) → e_V K p l e d mc s m args below meth c nL post px (pc + 3) (L) (st) (w) (n) (k)) : e_V K p l e d mc s m args below meth c nL post px (pc) (L) (.int (eI a) :: st) (w) (n) (k) := by
  have hi := eI_lt ha (show e_r 0 by decide)
  exact fun H locs ls hl hR hz => lv_if_lt F.1 F.2.1 hd ht (fun h => kt (hi.mp h) H locs ls hl hR hz) (fun h => kf (fun q => h (hi.mpr q)) H locs ls hl hR hz)
theorem e_icmp_ge (F : e_F K p l s m args meth c cc nL ret own) {a b : Int} {off : Int} (tgt : Nat) (hd : decode cc pc = .ok (.if_icmp .ge off, 3)) (ht : (pc : Int) + off = (tgt : Int)) (ha : e_r a) (hb : e_r b) (kt : b ≤ a → e_V K p l e d mc s m args below meth c nL post px (tgt) (L) (st) (w) (n) (k)) (kf : ¬ (b ≤ a) → e_V K p l e d mc s m args below meth c nL post px (pc + 3) (L) (st) (w) (n) (k)) : e_V K p l e d mc s m args below meth c nL post px (pc) (L) (.int (eI b) :: .int (eI a) :: st) (w) (n) (k) := by
  have hi := eI_le hb ha
  exact fun H locs ls hl hR hz => lv_icmp_ge F.1 F.2.1 hd ht (fun h => kt (hi.mp h) H locs ls hl hR hz) (fun h => kf (fun q => h (hi.mpr q)) H locs ls hl hR hz)
theorem e_if_ge (F : e_F K p l s m args meth c cc nL ret own) {a : Int} {off : Int} (tgt : Nat) (hd : decode cc pc = .ok (.ifCond .ge off, 3)) (ht : (pc : Int) + off = (tgt : Int)) (ha : e_r a) (kt : 0 ≤ a → e_V K p l e d mc s m args below meth c nL post px (tgt) (L) (st) (w) (n) (k)) (kf : ¬ (0 ≤ a) → e_V K p l e d mc s m args below meth c nL post px (pc + 3) (L) (st) (w) (n) (k)) : e_V K p l e d mc s m args below meth c nL post px (pc) (L) (.int (eI a) :: st) (w) (n) (k) := by
  have hi := eI_le (show e_r 0 by decide) ha
  exact fun H locs ls hl hR hz => lv_if_ge F.1 F.2.1 hd ht (fun h => kt (hi.mp h) H locs ls hl hR hz) (fun h => kf (fun q => h (hi.mpr q)) H locs ls hl hR hz)
theorem e_icmp_gt (F : e_F K p l s m args meth c cc nL ret own) {a b : Int} {off : Int} (tgt : Nat) (hd : decode cc pc = .ok (.if_icmp .gt off, 3)) (ht : (pc : Int) + off = (tgt : Int)) (ha : e_r a) (hb : e_r b) (kt : b < a → e_V K p l e d mc s m args below meth c nL post px (tgt) (L) (st) (w) (n) (k)) (kf : ¬ (b < a) → e_V K p l e d mc s m args below meth c nL post px (pc + 3) (L) (st) (w) (n) (k)) : e_V K p l e d mc s m args below meth c nL post px (pc) (L) (.int (eI b) :: .int (eI a) :: st) (w) (n) (k) := by
  have hi := eI_lt hb ha
  exact fun H locs ls hl hR hz => lv_icmp_gt F.1 F.2.1 hd ht (fun h => kt (hi.mp h) H locs ls hl hR hz) (fun h => kf (fun q => h (hi.mpr q)) H locs ls hl hR hz)
theorem e_if_gt (F : e_F K p l s m args meth c cc nL ret own) {a : Int} {off : Int} (tgt : Nat) (hd : decode cc pc = .ok (.ifCond .gt off, 3)) (ht : (pc : Int) + off = (tgt : Int)) (ha : e_r a) (kt : 0 < a → e_V K p l e d mc s m args below meth c nL post px (tgt) (L) (st) (w) (n) (k)) (kf : ¬ (0 < a) → e_V K p l e d mc s m args below meth c nL post px (pc + 3) (L) (st) (w) (n) (k)) : e_V K p l e d mc s m args below meth c nL post px (pc) (L) (.int (eI a) :: st) (w) (n) (k) := by
  have hi := eI_lt (show e_r 0 by decide) ha
  exact fun H locs ls hl hR hz => lv_if_gt F.1 F.2.1 hd ht (fun h => kt (hi.mp h) H locs ls hl hR hz) (fun h => kf (fun q => h (hi.mpr q)) H locs ls hl hR hz)
theorem e_icmp_le (F : e_F K p l s m args meth c cc nL ret own) {a b : Int} {off : Int} (tgt : Nat) (hd : decode cc pc = .ok (.if_icmp .le off, 3)) (ht : (pc : Int) + off = (tgt : Int)) (ha : e_r a) (hb : e_r b) (kt : a ≤ b → e_V K p l e d mc s m args below meth c nL post px (tgt) (L) (st) (w) (n) (k)) (kf : ¬ (a ≤ b) → e_V K p l e d mc s m args below meth c nL post px (pc + 3) (L) (st) (w) (n) (k)) : e_V K p l e d mc s m args below meth c nL post px (pc) (L) (.int (eI b) :: .int (eI a) :: st) (w) (n) (k) := by
  have hi := eI_le ha hb
  exact fun H locs ls hl hR hz => lv_icmp_le F.1 F.2.1 hd ht (fun h => kt (hi.mp h) H locs ls hl hR hz) (fun h => kf (fun q => h (hi.mpr q)) H locs ls hl hR hz)
theorem e_if_le (F : e_F K p l s m args meth c cc nL ret own) {a : Int} {off : Int} (tgt : Nat) (hd : decode cc pc = .ok (.ifCond .le off, 3)) (ht : (pc : Int) + off = (tgt : Int)) (ha : e_r a) (kt : a ≤ 0 → e_V K p l e d mc s m args below meth c nL post px (tgt) (L) (st) (w) (n) (k)) (kf : ¬ (a ≤ 0) → e_V K p l e d mc s m args below meth c nL post px (pc + 3) (L) (st) (w) (n) (k)) : e_V K p l e d mc s m args below meth c nL post px (pc) (L) (.int (eI a) :: st) (w) (n) (k) := by
  have hi := eI_le ha (show e_r 0 by decide)
  exact fun H locs ls hl hR hz => lv_if_le F.1 F.2.1 hd ht (fun h => kt (hi.mp h) H locs ls hl hR hz) (fun h => kf (fun q => h (hi.mpr q)) H locs ls hl hR hz)
theorem e_goto (F : e_F K p l s m args meth c cc nL ret own) {off : Int} (tgt : Nat) (hd : decode cc pc = .ok (.goto off, 3)) (ht : (pc : Int) + off = (tgt : Int)) (kk : e_V K p l e d mc s m args below meth c nL post px (tgt) (L) (st) (w) (n) (k)) : e_V K p l e d mc s m args below meth c nL post px (pc) (L) (st) (w) (n) (k) := fun H locs ls hl hR hz => lv_goto F.1 F.2.1 hd ht (kk H locs ls hl hR hz)
theorem e_ifnonnull (F : e_F K p l s m args meth c cc nL ret own) {off : Int} {x : Nat} (tgt : Nat) (hd : decode cc pc = .ok (.ifnonnull off, 3)) (ht : (pc : Int) + off = (tgt : Int)) (kk : e_V K p l e d mc s m args below meth c nL post px (tgt) (L) (st) (w) (n) (k)) : e_V K p l e d mc s m args below meth c nL post px (pc) (L) (.ref x :: st) (w) (n) (k) := fun H locs ls hl hR hz => lv_ifnonnull F.1 F.2.1 hd ht (kk H locs ls hl hR hz)
theorem e_ifnonnullN (F : e_F K p l s m args meth c cc nL ret own) {off : Int} (hd : decode cc pc = .ok (.ifnonnull off, 3)) (kk : e_V K p l e d mc s m args below meth c nL post px (pc + 3) (L) (st) (w) (n) (k)) : e_V K p l e d mc s m args below meth c nL post px (pc) (L) (.null :: st) (w) (n) (k) := fun H locs ls hl hR hz => lv_ifnonnullN F.1 F.2.1 hd (kk H locs ls hl hR hz)
theorem e_ifnull (F : e_F K p l s m args meth c cc nL ret own) {off : Int} {x : Nat} (hd : decode cc pc = .ok (.ifnull off, 3)) (kk : e_V K p l e d mc s m args below meth c nL post px (pc + 3) (L) (st) (w) (n) (k)) : e_V K p l e d mc s m args below meth c nL post px (pc) (L) (.ref x :: st) (w) (n) (k) := fun H locs ls hl hR hz => lv_ifnull F.1 F.2.1 hd (kk H locs ls hl hR hz)
theorem e_ifnullN (F : e_F K p l s m args meth c cc nL ret own) {off : Int} (tgt : Nat) (hd : decode cc pc = .ok (.ifnull off, 3)) (ht : (pc : Int) + off = (tgt : Int)) (kk : e_V K p l e d mc s m args below meth c nL post px (tgt) (L) (st) (w) (n) (k)) : e_V K p l e d mc s m args below meth c nL post px (pc) (L) (.null :: st) (w) (n) (k) := fun H locs ls hl hR hz => lv_ifnullN F.1 F.2.1 hd ht (kk H locs ls hl hR hz)
theorem e_tabIn (F : e_F K p l s m args meth c cc nL ret own) {dflt lo hi : Int} {offs : Array Int} {len : Nat} {a off : Int} (tgt : Nat) (hd : decode cc pc = .ok (.tableswitch dflt lo hi offs, len)) (ha : e_r a) (h1 : lo ≤ a) (h2 : a ≤ hi) (ho : offs[(a - lo).toNat]? = some off) (ht : (pc : Int) + off = (tgt : Int)) (kk : e_V K p l e d mc s m args below meth c nL post px (tgt) (L) (st) (w) (n) (k)) : e_V K p l e d mc s m args below meth c nL post px (pc) (L) (.int (eI a) :: st) (w) (n) (k) := fun H locs ls hl hR hz => lv_tableIn F.1 F.2.1 hd (by rw [eI_toInt ha.1 ha.2]; omega) (by rw [eI_toInt ha.1 ha.2]; omega) (by rw [eI_toInt ha.1 ha.2]; exact ho) ht (kk H locs ls hl hR hz)
theorem e_tabOut (F : e_F K p l s m args meth c cc nL ret own) {dflt lo hi : Int} {offs : Array Int} {len : Nat} {a : Int} (tgt : Nat) (hd : decode cc pc = .ok (.tableswitch dflt lo hi offs, len)) (ha : e_r a) (h : a < lo ∨ hi < a) (ht : (pc : Int) + dflt = (tgt : Int)) (kk : e_V K p l e d mc s m args below meth c nL post px (tgt) (L) (st) (w) (n) (k)) : e_V K p l e d mc s m args below meth c nL post px (pc) (L) (.int (eI a) :: st) (w) (n) (k) := fun H locs ls hl hR hz => lv_tableOut F.1 F.2.1 hd (by rw [eI_toInt ha.1 ha.2]; exact h) ht (kk H locs ls hl hR hz)
theorem e_sub {L' : List (Nat × Value)} (hs : e_subs L' L) (kk : e_V K p l e d mc s m args below meth c nL post px (pc) (L') (st) (w) (n) (k)) : e_V K p l e d mc s m args below meth c nL post px (pc) (L) (st) (w) (n) (k) := fun H locs ls hl hR hz => kk H locs ls (e_subs_has hl hs) hR hz
theorem e_go {L' : List (Nat × Value)} (kk : e_V K p l e d mc s m args below meth c nL post px (pc) (L') (st) (w) (n) (k)) (hs : e_subs L' L) : e_V K p l e d mc s m args below meth c nL post px (pc) (L) (st) (w) (n) (k) := fun H locs ls hl hR hz => kk H locs ls (e_subs_has hl hs) hR hz
theorem e_wid {k' : Nat} (hk : k ≤ k') (kk : e_V K p l e d mc s m args below meth c nL post px (pc) (L) (st) (w) (n) (k')) : e_V K p l e d mc s m args below meth c nL post px (pc) (L) (st) (w) (n) (k) := fun H locs ls hl hR hz => W.widen hk (Nat.mul_le_mul_left 256 hk) (kk H locs ls hl hR hz)
theorem e_wld {w' : e_W} (hw : ∀ q e, w' q = some e → w q = some e) (kk : e_V K p l e d mc s m args below meth c nL post px (pc) (L) (st) (w') (n) (k)) : e_V K p l e d mc s m args below meth c nL post px (pc) (L) (st) (w) (n) (k) := fun H locs ls hl hR hz => kk H locs ls hl ⟨hR.1, hR.2.1, fun q e he => hR.2.2.1 q e (hw q e he), hR.2.2.2⟩ hz
theorem e_get (F : e_F K p l s m args meth c cc nL ret own) {a ci fi idx : Nat} {fs : List Value} {q : vw_C} {v : Value} (hw : w a = some (.inl (ci, fs))) (hc : e_cl[ci]? = some q) (hi : fi < q.2.2) (hm : Cond.fieldLink own idx (q.2.1 fi).1 (q.2.1 fi).2.1 (q.2.1 fi).2.2.1 ∈ e_TB) (hv : fs[fi]? = some v) (hd : decode cc pc = .ok (.getfield idx, 3)) (kk : e_V K p l e d mc s m args below meth c nL post px (pc + 3) (L) (v :: st) (w) (n) (k)) : e_V K p l e d mc s m args below meth c nL post px (pc) (L) (.ref a :: st) (w) (n) (k) := by
  obtain ⟨C, T, N⟩ := q
  exact fun H locs ls hl hR hz => va_get (D := K.2.1) (cl := e_cl) (tys := e_tys K) (ws := [(a, .inr (ci, fs))]) F.1 F.2.1 F.2.2.2.2.2.1 (e_clTB ci _ hc) F.2.2.2.2.1 F.2.2.2.2.2.2.2.2.1.1 (fun j x hx => by
    have hj : j < 1 := (List.getElem?_eq_some_iff.mp hx).1
    obtain rfl : j = 0 := by omega
    cases hx
    exact (hR.2.2.1 a _ hw).2) 0 rfl hc fi hi (F.2.2.2.2.2.1 _ hm) (fun _ h9 => h9) hv hd (kk H locs ls hl hR hz)
theorem e_getN (F : e_F K p l s m args meth c cc nL ret own) {a ci fi idx : Nat} {fs : List Value} {q : vw_C} {v : Value} {host : String} (hw : w a = some (.inl (ci, fs))) (hc : e_cl[ci]? = some q) (hi : fi < q.2.2) (hm : Cond.fieldLinkNest own idx (q.2.1 fi).1 (q.2.1 fi).2.1 (q.2.1 fi).2.2.1 host ∈ e_NW) (hv : fs[fi]? = some v) (hd : decode cc pc = .ok (.getfield idx, 3)) (kk : e_V K p l e d mc s m args below meth c nL post px (pc + 3) (L) (v :: st) (w) (n) (k)) : e_V K p l e d mc s m args below meth c nL post px (pc) (L) (.ref a :: st) (w) (n) (k) := by
  obtain ⟨C, T, N⟩ := q
  exact fun H locs ls hl hR hz => va_getN (D := K.2.1) (cl := e_cl) (tys := e_tys K) (ws := [(a, .inr (ci, fs))]) F.1 F.2.1 F.2.2.2.2.2.1 (e_clTB ci _ hc) F.2.2.2.2.1 F.2.2.2.2.2.2.2.2.1.1 (fun j x hx => by
    have hj : j < 1 := (List.getElem?_eq_some_iff.mp hx).1
    obtain rfl : j = 0 := by omega
    cases hx
    exact (hR.2.2.1 a _ hw).2) 0 rfl hc fi hi (va_Nw.use rfl (F.2.2.2.2.2.2.2.2.1.2.1 _ hm)) (fun _ h9 => h9) hv hd (kk H locs ls hl hR hz)
theorem e_set (F : e_F K p l s m args meth c cc nL ret own) {a ci fi idx : Nat} {fs : List Value} {q : vw_C} {v : Value} {host : String} (hw : w a = some (.inl (ci, fs))) (hc : e_cl[ci]? = some q) (hi : fi < q.2.2) (hm : Cond.fieldLink own idx (q.2.1 fi).1 (q.2.1 fi).2.1 (q.2.1 fi).2.2.1 ∈ e_TB) (hfin : (q.2.1 fi).2.2.2 = false) (hn : narrow (e_ty ci fi) v = v) (hfit : fits (e_ty ci fi) v = true) (hlen : fi < fs.length) (hd : decode cc pc = .ok (.putfield idx, 3)) (kk : e_V K p l e d mc s m args below meth c nL post px (pc + 3) (L) (st) (e_up w a (.inl (ci, fs.set fi v))) (n) (k)) : e_V K p l e d mc s m args below meth c nL post px (pc) (L) (v :: .ref a :: st) (w) (n) (k) := by
  intro H locs ls hl hR hz
  have hA := (hR.2.2.1 a _ hw)
  have hK := F.2.2.2.2.2.2.2.2.1.1
  have hts := F.2.2.2.2.2.1
  obtain ⟨r, h1, cell, q1, q2, q3, q4⟩ := hA.2
  have hr : r = q := Option.some.inj (h1.symm.trans hc)
  subst hr
  have hap := va_apart (own := own) (s := s) hts (e_clTB ci _ hc) (e_ty ci) (e_ty_ok ci _ hc) (e_nm ci _ hc) hK hc
  obtain ⟨hS, hfc, kC, hkC, hkind⟩ := hK.1 ci _ hc
  obtain ⟨cf, kf, fj, f, hif, hsl⟩ := hS fi hi
  have hlay := hts _ (e_clTB ci _ hc _ (u_in_lay hi))
  unfold u_lay at hlay
  have hst := (u_facts hfc hkC (u_lays hts (e_clTB ci _ hc) hi) hif).1
  rw [if_neg (by rw [hfin]; decide)] at hlay
  have h6 := u_store hfc hkC hkind hlay hif (e_ty_ok ci _ hc fi hi) hn hfit
  refine W.putK F.1 F.2.1 (f := f) ⟨F.2.2.2.2.1, hts _ hm, ⟨_, _, _, hif⟩, hst⟩ (by rw [q2]; exact h6) q1 q3 (by rw [hsl]; exact k2_hasslot (q4 fi hi)) rfl rfl hd fun H' e1 e2 e3 => ?_
  rw [hsl] at e1 ⊢
  refine kk H' _ ls hl (hR.up hw ⟨_, hc, t_OB.to (V := updV (vp_V fs) fi v) ⟨_, e1, q2, q3, t_set q4 hap hi v⟩ (fun j _ => vp_updV_set hlen v j)⟩ e2 e3) (fun z hz' => ?_)
  rcases List.mem_append.mp hz' with h | h
  · exact hz z h
  · rw [List.mem_singleton.mp h]; exact hA.1
theorem e_setN (F : e_F K p l s m args meth c cc nL ret own) {a ci fi idx : Nat} {fs : List Value} {q : vw_C} {v : Value} {host : String} (hw : w a = some (.inl (ci, fs))) (hc : e_cl[ci]? = some q) (hi : fi < q.2.2) (hm : Cond.fieldLinkNest own idx (q.2.1 fi).1 (q.2.1 fi).2.1 (q.2.1 fi).2.2.1 host ∈ e_NW) (hfin : (q.2.1 fi).2.2.2 = false) (hn : narrow (e_ty ci fi) v = v) (hfit : fits (e_ty ci fi) v = true) (hlen : fi < fs.length) (hd : decode cc pc = .ok (.putfield idx, 3)) (kk : e_V K p l e d mc s m args below meth c nL post px (pc + 3) (L) (st) (e_up w a (.inl (ci, fs.set fi v))) (n) (k)) : e_V K p l e d mc s m args below meth c nL post px (pc) (L) (v :: .ref a :: st) (w) (n) (k) := by
  intro H locs ls hl hR hz
  have hA := (hR.2.2.1 a _ hw)
  have hK := F.2.2.2.2.2.2.2.2.1.1
  have hts := F.2.2.2.2.2.1
  obtain ⟨r, h1, cell, q1, q2, q3, q4⟩ := hA.2
  have hr : r = q := Option.some.inj (h1.symm.trans hc)
  subst hr
  have hap := va_apart (own := own) (s := s) hts (e_clTB ci _ hc) (e_ty ci) (e_ty_ok ci _ hc) (e_nm ci _ hc) hK hc
  obtain ⟨hS, hfc, kC, hkC, hkind⟩ := hK.1 ci _ hc
  obtain ⟨cf, kf, fj, f, hif, hsl⟩ := hS fi hi
  have hlay := hts _ (e_clTB ci _ hc _ (u_in_lay hi))
  unfold u_lay at hlay
  have hst := (u_facts hfc hkC (u_lays hts (e_clTB ci _ hc) hi) hif).1
  rw [if_neg (by rw [hfin]; decide)] at hlay
  have h6 := u_store hfc hkC hkind hlay hif (e_ty_ok ci _ hc fi hi) hn hfit
  refine va_WputK F.1 F.2.1 F.2.2.2.2.1 (va_Nw.use rfl (F.2.2.2.2.2.2.2.2.1.2.1 _ hm)) hif hst (by rw [q2]; exact h6) q1 q3 (by rw [hsl]; exact k2_hasslot (q4 fi hi)) rfl rfl hd fun H' e1 e2 e3 => ?_
  rw [hsl] at e1 ⊢
  refine kk H' _ ls hl (hR.up hw ⟨_, hc, t_OB.to (V := updV (vp_V fs) fi v) ⟨_, e1, q2, q3, t_set q4 hap hi v⟩ (fun j _ => vp_updV_set hlen v j)⟩ e2 e3) (fun z hz' => ?_)
  rcases List.mem_append.mp hz' with h | h
  · exact hz z h
  · rw [List.mem_singleton.mp h]; exact hA.1
theorem e_setF (F : e_F K p l s m args meth c cc nL ret own) {a ci fi idx : Nat} {fs : List Value} {q : vw_C} {v : Value} {host : String} (hw : w a = some (.inl (ci, fs))) (hc : e_cl[ci]? = some q) (hi : fi < q.2.2) (hm : Cond.fieldLink own idx (q.2.1 fi).1 (q.2.1 fi).2.1 (q.2.1 fi).2.2.1 ∈ e_TB) (hin2 : meth.name = "<init>") (hdecl : (q.2.1 fi).1 = own) (hfin : (q.2.1 fi).2.2.2 = true) (hn : narrow (e_ty ci fi) v = v) (hfit : fits (e_ty ci fi) v = true) (hlen : fi < fs.length) (hd : decode cc pc = .ok (.putfield idx, 3)) (kk : e_V K p l e d mc s m args below meth c nL post px (pc + 3) (L) (st) (e_up w a (.inl (ci, fs.set fi v))) (n) (k)) : e_V K p l e d mc s m args below meth c nL post px (pc) (L) (v :: .ref a :: st) (w) (n) (k) := by
  intro H locs ls hl hR hz
  have hA := (hR.2.2.1 a _ hw)
  have hK := F.2.2.2.2.2.2.2.2.1.1
  have hts := F.2.2.2.2.2.1
  obtain ⟨r, h1, cell, q1, q2, q3, q4⟩ := hA.2
  have hr : r = q := Option.some.inj (h1.symm.trans hc)
  subst hr
  have hap := va_apart (own := own) (s := s) hts (e_clTB ci _ hc) (e_ty ci) (e_ty_ok ci _ hc) (e_nm ci _ hc) hK hc
  obtain ⟨hS, hfc, kC, hkC, hkind⟩ := hK.1 ci _ hc
  obtain ⟨cf, kf, fj, f, hif, hsl⟩ := hS fi hi
  have hlay := hts _ (e_clTB ci _ hc _ (u_in_lay hi))
  unfold u_lay at hlay
  have hst := (u_facts hfc hkC (u_lays hts (e_clTB ci _ hc) hi) hif).1
  rw [if_pos hfin] at hlay
  have hcf : m.cls = cf := by
    obtain ⟨_, _, c', _, _, _, -, -, hf', -, -, -, hown2, -⟩ := Cond.laysFinal_spec hlay
    have e1 : c' = cf := by have := hif.symm.trans hf'; simp at this; exact this.1.symm
    rw [hdecl] at hown2
    rw [← e1]; exact Option.some.inj (F.2.2.2.2.1.symm.trans hown2)
  have h6 := u_fits hfc hkC hkind (Or.inr hlay) hif (e_ty_ok ci _ hc fi hi) hn hfit
  refine W.putFinK F.1 F.2.1 F.2.2.2.2.1 (hts _ hm) hif hst hcf hin2 (by rw [q2]; exact h6) q1 q3 (by rw [hsl]; exact k2_hasslot (q4 fi hi)) rfl rfl hd fun H' e1 e2 e3 => ?_
  rw [hsl] at e1 ⊢
  refine kk H' _ ls hl (hR.up hw ⟨_, hc, t_OB.to (V := updV (vp_V fs) fi v) ⟨_, e1, q2, q3, t_set q4 hap hi v⟩ (fun j _ => vp_updV_set hlen v j)⟩ e2 e3) (fun z hz' => ?_)
  rcases List.mem_append.mp hz' with h | h
  · exact hz z h
  · rw [List.mem_singleton.mp h]; exact hA.1
theorem e_arrI (F : e_F K p l s m args meth c cc nL ret own) : ArrOfT s (K.2.1.1 8) .int := (F.2.2.2.2.2.2.2.2.1.1.2 0 _ rfl).1
theorem e_arrD (F : e_F K p l s m args meth c cc nL ret own) : ArrOfT s (K.2.1.1 9) (.object "Secretshares$Deal") := (F.2.2.2.2.2.2.2.2.1.1.2 1 _ rfl).1
theorem e_arrR (F : e_F K p l s m args meth c cc nL ret own) : ArrOfT s (K.2.1.1 10) (.array .int) := (F.2.2.2.2.2.2.2.2.1.1.2 2 _ rfl).1
theorem e_iald (F : e_F K p l s m args meth c cc nL ret own) {a N : Nat} {f : Int → Int} {i : Int} (hw : w a = some (e_ia N f)) (h0 : 0 ≤ i) (hN : i < N) (hb : N < 2147483648) (hd : decode cc pc = .ok (.iaload, 1)) (kk : e_V K p l e d mc s m args below meth c nL post px (pc + 1) (L) (.int (eI (f i)) :: st) (w) (n) (k)) : e_V K p l e d mc s m args below meth c nL post px (pc) (L) (.int (eI i) :: .ref a :: st) (w) (n) (k) := by
  obtain ⟨x1, x2⟩ := e_ix h0 hN hb
  have x3 : i.toNat < N := by omega
  exact fun H locs ls hl hR hz => W.iald (v := .int (eI (f i))) F.1 F.2.1 (hR.2.2.1 a _ hw).2 (e_arrI F N _) (fun h => by cases h) (by rw [arrV_size]; exact x1) (by rw [x2, arrV_read _ _ x3]; dsimp only; rw [Int.toNat_of_nonneg h0]) rfl rfl hd (kk H locs ls hl hR hz)
theorem e_alenI (F : e_F K p l s m args meth c cc nL ret own) {a N : Nat} {f : Int → Int} (hw : w a = some (e_ia N f)) (hd : decode cc pc = .ok (.arraylength, 1)) (kk : e_V K p l e d mc s m args below meth c nL post px (pc + 1) (L) (.int (eI (N : Int)) :: st) (w) (n) (k)) : e_V K p l e d mc s m args below meth c nL post px (pc) (L) (.ref a :: st) (w) (n) (k) :=
  fun H locs ls hl hR hz => W.alen (n := eI (N : Int)) F.1 F.2.1 (hR.2.2.1 a _ hw).2 (e_arrI F N _) (by rw [arrV_size]; rfl) rfl rfl hd (kk H locs ls hl hR hz)
theorem e_alenD (F : e_F K p l s m args meth c cc nL ret own) {a N : Nat} {f : Int → Nat} (hw : w a = some (e_da N f)) (hd : decode cc pc = .ok (.arraylength, 1)) (kk : e_V K p l e d mc s m args below meth c nL post px (pc + 1) (L) (.int (eI (N : Int)) :: st) (w) (n) (k)) : e_V K p l e d mc s m args below meth c nL post px (pc) (L) (.ref a :: st) (w) (n) (k) :=
  fun H locs ls hl hR hz => W.alen (n := eI (N : Int)) F.1 F.2.1 (hR.2.2.1 a _ hw).2 (e_arrD F N _) (by rw [arrV_size]; rfl) rfl rfl hd (kk H locs ls hl hR hz)
theorem e_aaldD (F : e_F K p l s m args meth c cc nL ret own) {a N : Nat} {f : Int → Nat} {i : Int} (hw : w a = some (e_da N f)) (h0 : 0 ≤ i) (hN : i < N) (hb : N < 2147483648) (hd : decode cc pc = .ok (.aaload, 1)) (kk : e_V K p l e d mc s m args below meth c nL post px (pc + 1) (L) (.ref (f i) :: st) (w) (n) (k)) : e_V K p l e d mc s m args below meth c nL post px (pc) (L) (.int (eI i) :: .ref a :: st) (w) (n) (k) := by
  obtain ⟨x1, x2⟩ := e_ix h0 hN hb
  have x3 : i.toNat < N := by omega
  exact fun H locs ls hl hR hz => W.aald (v := .ref (f i)) (ty := .object "Secretshares$Deal") F.1 F.2.1 (hR.2.2.1 a _ hw).2 (e_arrD F N _) rfl (fun h => by cases h) (by rw [arrV_size]; exact x1) (by rw [x2, arrV_read _ _ x3]; dsimp only; rw [Int.toNat_of_nonneg h0]) rfl rfl hd (kk H locs ls hl hR hz)
theorem e_aaldR (F : e_F K p l s m args meth c cc nL ret own) {a N : Nat} {f : Int → Option Nat} {i : Int} (hw : w a = some (e_ra N f)) (h0 : 0 ≤ i) (hN : i < N) (hb : N < 2147483648) (hd : decode cc pc = .ok (.aaload, 1)) (kk : e_V K p l e d mc s m args below meth c nL post px (pc + 1) (L) (va_rf (f i) :: st) (w) (n) (k)) : e_V K p l e d mc s m args below meth c nL post px (pc) (L) (.int (eI i) :: .ref a :: st) (w) (n) (k) := by
  obtain ⟨x1, x2⟩ := e_ix h0 hN hb
  have x3 : i.toNat < N := by omega
  exact fun H locs ls hl hR hz => W.aald (v := va_rf (f i)) (ty := .array .int) F.1 F.2.1 (hR.2.2.1 a _ hw).2 (e_arrR F N _) rfl (fun h => by cases h) (by rw [arrV_size]; exact x1) (by rw [x2, arrV_read _ _ x3]; dsimp only; rw [Int.toNat_of_nonneg h0]) rfl rfl hd (kk H locs ls hl hR hz)
theorem e_iast (F : e_F K p l s m args meth c cc nL ret own) {a N : Nat} {f : Int → Int} {i x : Int} (hw : w a = some (e_ia N f)) (h0 : 0 ≤ i) (hN : i < N) (hb : N < 2147483648) (hd : decode cc pc = .ok (.iastore, 1)) (kk : e_V K p l e d mc s m args below meth c nL post px (pc + 1) (L) (st) (e_up w a (e_ia N (e_fu f i x))) (n) (k)) : e_V K p l e d mc s m args below meth c nL post px (pc) (L) (.int (eI x) :: .int (eI i) :: .ref a :: st) (w) (n) (k) := by
  obtain ⟨x1, x2⟩ := e_ix h0 hN hb
  intro H locs ls hl hR hz
  have hA := (hR.2.2.1 a _ hw)
  refine W.iast F.1 F.2.1 hA.2 (e_arrI F N _) (fun h => by cases h) (by rw [arrV_size]; exact x1) rfl rfl hd fun H' e1 e2 e3 => ?_
  refine kk H' _ ls hl (hR.up hw ?_ e2 e3) (fun z hz' => ?_)
  · show H'[a]? = some (arrV _ _ _)
    rw [e1, arrV_store, x2]
    congr 2
    funext j
    unfold updV e_fu
    dsimp only
    by_cases hj : j = i.toNat
    · subst hj; rw [if_pos rfl, if_pos (by omega)]
    · rw [if_neg hj, if_neg (by omega)]
  · rcases List.mem_append.mp hz' with h | h
    · exact hz z h
    · rw [List.mem_singleton.mp h]; exact hA.1
theorem e_newI (F : e_F K p l s m args meth c cc nL ret own) {N : Nat} {z : Int} (hz0 : z = (N : Int)) (hN : N ≤ 256) (hk : k + 1 ≤ mc) (hm : Cond.arrayClass .int ∈ e_TB) (hd : decode cc pc = .ok (.newarray .int, 2)) (kk : e_V K p l e d mc s m args below meth c nL post px (pc + 2) (L) (.ref n :: st) (e_up w n (e_ia N (fun _ => 0))) (n + 1) (k + 1)) : e_V K p l e d mc s m args below meth c nL post px (pc) (L) (.int (eI z) :: st) (w) (n) (k) := by
  subst hz0
  intro H locs ls hl hR hz
  have hc : (eI (N : Int)).toNatClampNeg = N := by
    show (eI (N : Int)).toInt.toNat = N
    rw [eI_toInt (by omega) (by omega)]; omega
  have h0 : ¬ eI (N : Int) < 0 := by
    rw [Int32.lt_iff_toInt_lt, eI_toInt (by omega) (by omega)]
    have : (0 : Int32).toInt = 0 := by decide
    omega
  have hlt : k < mc := hk
  refine W.newa (atype := .int) F.1 F.2.1 (F.2.2.2.2.2.1 _ hm) rfl hd rfl h0 (by rw [hc]; show N * 4 ≤ 536870912; omega) hk (by rw [hc]; show 256 * k + N ≤ 256 * mc; omega) fun cA kA comp f1 f2 f3 => ?_
  have hcA : cA = K.2.1.1 8 := Option.some.inj (f1.symm.trans (F.2.2.2.2.2.2.2.2.1.1.2 0 _ rfl).2)
  subst hcA
  refine W.widen (k := k + 1) (n := 256 * (k + 1)) (Nat.le_refl _) (by rw [hc]; omega) ?_
  rw [hR.1]
  refine kk _ locs ls hl (hR.push ?_ (by rw [Array.size_push, hR.1]) (fun q hq => by rw [Array.getElem?_push, if_neg (by rw [hR.1]; omega)])) hz
  show _ = some (arrV _ _ _)
  rw [arrV_new, ← hR.1, Array.getElem?_push_size, hc]
  rfl
theorem e_newA9 (F : e_F K p l s m args meth c cc nL ret own) {N idx : Nat} {z : Int} (hz0 : z = (N : Int)) (hN : N ≤ 256) (hk : k + 1 ≤ mc) (hm : Cond.classLink own idx "Secretshares$Deal" ∈ e_TB) (hm2 : Cond.arrayOver (.object "Secretshares$Deal") ∈ e_NW) (hd : decode cc pc = .ok (.anewarray idx, 3)) (kk : e_V K p l e d mc s m args below meth c nL post px (pc + 3) (L) (.ref n :: st) (e_up w n (.inr (9, N, fun _ => .null))) (n + 1) (k + 1)) : e_V K p l e d mc s m args below meth c nL post px (pc) (L) (.int (eI z) :: st) (w) (n) (k) := by
  subst hz0
  intro H locs ls hl hR hz
  have hc : (eI (N : Int)).toNatClampNeg = N := by
    show (eI (N : Int)).toInt.toNat = N
    rw [eI_toInt (by omega) (by omega)]; omega
  have h0 : ¬ eI (N : Int) < 0 := by
    rw [Int32.lt_iff_toInt_lt, eI_toInt (by omega) (by omega)]
    have : (0 : Int32).toInt = 0 := by decide
    omega
  have hlt : k < mc := hk
  refine W.anew F.1 F.2.1 F.2.2.2.2.1 (F.2.2.2.2.2.1 _ hm) (F.2.2.2.2.2.2.2.2.1.2.1 _ hm2) rfl hd rfl h0 (by rw [hc]; omega) hk (by rw [hc]; show 256 * k + N ≤ 256 * mc; omega) fun cA kA comp f1 f2 f3 f4 => ?_
  obtain ⟨kA9, comp9, g1, g2, g3, g4⟩ := (F.2.2.2.2.2.2.2.2.1.1.2 1 _ rfl).2
  have hcA : cA = K.2.1.1 9 := Option.some.inj (f1.symm.trans g4)
  subst hcA
  refine W.widen (k := k + 1) (n := 256 * (k + 1)) (Nat.le_refl _) (by rw [hc]; omega) ?_
  rw [hR.1]
  refine kk _ locs ls hl (hR.push ?_ (by rw [Array.size_push, hR.1]) (fun q hq => by rw [Array.getElem?_push, if_neg (by rw [hR.1]; omega)])) hz
  show _ = some (arrV _ _ _)
  rw [arrV_new, ← hR.1, Array.getElem?_push_size, hc]
theorem e_newA10 (F : e_F K p l s m args meth c cc nL ret own) {N idx : Nat} {z : Int} (hz0 : z = (N : Int)) (hN : N ≤ 256) (hk : k + 1 ≤ mc) (hm : Cond.classLink own idx (FieldType.array .int).toString ∈ e_TB) (hm2 : Cond.arrayOver (.array .int) ∈ e_NW) (hd : decode cc pc = .ok (.anewarray idx, 3)) (kk : e_V K p l e d mc s m args below meth c nL post px (pc + 3) (L) (.ref n :: st) (e_up w n (e_ra N (fun _ => none))) (n + 1) (k + 1)) : e_V K p l e d mc s m args below meth c nL post px (pc) (L) (.int (eI z) :: st) (w) (n) (k) := by
  subst hz0
  intro H locs ls hl hR hz
  have hc : (eI (N : Int)).toNatClampNeg = N := by
    show (eI (N : Int)).toInt.toNat = N
    rw [eI_toInt (by omega) (by omega)]; omega
  have h0 : ¬ eI (N : Int) < 0 := by
    rw [Int32.lt_iff_toInt_lt, eI_toInt (by omega) (by omega)]
    have : (0 : Int32).toInt = 0 := by decide
    omega
  have hlt : k < mc := hk
  refine W.anewA F.1 F.2.1 F.2.2.2.2.1 (F.2.2.2.2.2.1 _ hm) (F.2.2.2.2.2.2.2.2.1.2.1 _ hm2) rfl hd rfl h0 (by rw [hc]; omega) hk (by rw [hc]; show 256 * k + N ≤ 256 * mc; omega) fun cA kA comp f1 f2 f3 f4 => ?_
  have hcA : cA = K.2.1.1 10 := Option.some.inj (f1.symm.trans (F.2.2.2.2.2.2.2.2.1.1.2 2 _ rfl).2)
  subst hcA
  refine W.widen (k := k + 1) (n := 256 * (k + 1)) (Nat.le_refl _) (by rw [hc]; omega) ?_
  rw [hR.1]
  refine kk _ locs ls hl (hR.push ?_ (by rw [Array.size_push, hR.1]) (fun q hq => by rw [Array.getElem?_push, if_neg (by rw [hR.1]; omega)])) hz
  show _ = some (arrV _ _ _)
  rw [arrV_new, ← hR.1, Array.getElem?_push_size, hc]
  rfl
theorem e_newO (F : e_F K p l s m args meth c cc nL ret own) {ci idx : Nat} {q : vw_C} {fs : List Value} (hc : e_cl[ci]? = some q) (hk : k + 1 ≤ mc) (hm1 : Cond.classLink own idx q.1 ∈ e_TB) (hm2 : Cond.instantiable q.1 q.2.2 ∈ e_TB) (hm3 : Cond.initialized q.1 ∈ e_TB) (hN : q.2.2 ≤ 256) (hfs : ∀ j, j < q.2.2 → defaultValue (e_ty ci j) = vp_V fs j) (hd : decode cc pc = .ok (.new idx, 3)) (kk : e_V K p l e d mc s m args below meth c nL post px (pc + 3) (L) (.ref n :: st) (e_up w n (.inl (ci, fs))) (n + 1) (k + 1)) : e_V K p l e d mc s m args below meth c nL post px (pc) (L) (st) (w) (n) (k) := by
  intro H locs ls hl hR hz
  have hts := F.2.2.2.2.2.1
  have hKn := F.2.2.2.2.2.2.2.2.1.1.1 ci _ hc
  refine W.newcK F.1 F.2.1 F.2.2.2.2.1 (hts _ hm1) (hts _ hm2) (hts _ hm3) rfl hd hk (by show 256 * k + _ ≤ 256 * mc; omega) hKn.2.1 hR.1 fun H1 kC hkC e1 z1 o1 => ?_
  refine W.widen (k := k + 1) (n := 256 * (k + 1)) (Nat.le_refl _) (by omega) ?_
  exact kk _ locs ls hl (hR.push ⟨_, hc, (u_born (e_ty ci) hts (e_clTB ci _ hc) hKn hkC e1 (e_ty_ok ci _ hc)).to hfs⟩ z1 o1) hz
theorem e_aastD (F : e_F K p l s m args meth c cc nL ret own) {a v N : Nat} {g : Nat → Value} {fs : List Value} {i : Int} (hw : w a = some (.inr (9, N, g))) (hv : w v = some (.inl (0, fs))) (h0 : 0 ≤ i) (hN : i < N) (hb : N < 2147483648) (hd : decode cc pc = .ok (.aastore, 1)) (kk : e_V K p l e d mc s m args below meth c nL post px (pc + 1) (L) (st) (e_up w a (.inr (9, N, fun j => if (j : Int) = i then .ref v else g j))) (n) (k)) : e_V K p l e d mc s m args below meth c nL post px (pc) (L) (.ref v :: .int (eI i) :: .ref a :: st) (w) (n) (k) := by
  obtain ⟨x1, x2⟩ := e_ix h0 hN hb
  intro H locs ls hl hR hz
  have hA := (hR.2.2.1 a _ hw)
  obtain ⟨r', hr', cellV, g1, g2, g3, -⟩ := (hR.2.2.1 v _ hv).2
  have hcls := (F.2.2.2.2.2.2.2.2.1.1.1 0 _ rfl).2
  obtain ⟨kA, comp, k1, k2, k3, -⟩ := (F.2.2.2.2.2.2.2.2.1.1.2 1 _ rfl).2
  have hcomp : comp = K.2.1.1 0 := Option.some.inj (k3.symm.trans hcls.1)
  subst hcomp
  obtain ⟨kC, hkC, -⟩ := hcls.2
  refine W.aast F.1 F.2.1 hA.2 (fun q h => by cases h) (fun h => by cases h) k1 k2 rfl hkC ⟨fun q => x1 (Or.inl q), by rw [arrV_size]; exact Nat.not_le.mp fun q => x1 (Or.inr q)⟩ g1 (fun q h => by rw [g3] at h; cases h) (by rw [g2]; exact hkC) (by rw [g2]; exact va_assign hcls) rfl rfl hd fun H' e1 e2 e3 => ?_
  refine kk H' _ ls hl (hR.up hw ?_ e2 e3) (fun z hz' => ?_)
  · show H'[a]? = some (arrV _ _ _)
    rw [e1, arrV_store, x2]
    congr 2
    funext j
    unfold updV
    dsimp only
    by_cases hj : j = i.toNat
    · subst hj; rw [if_pos rfl, if_pos (by omega)]
    · rw [if_neg hj, if_neg (by omega)]
  · rcases List.mem_append.mp hz' with h | h
    · exact hz z h
    · rw [List.mem_singleton.mp h]; exact hA.1
theorem e_gets (F : e_F K p l s m args meth c cc nL ret own) {i idx : Nat} {z : String × String × String × Value} (hz0 : (e_zs K)[i]? = some z) (hm : Cond.fieldLink own idx z.1 z.2.1 z.2.2.1 ∈ e_TB) (hd : decode cc pc = .ok (.getstatic idx, 3)) (kk : e_V K p l e d mc s m args below meth c nL post px (pc + 3) (L) (z.2.2.2 :: st) (w) (n) (k)) : e_V K p l e d mc s m args below meth c nL post px (pc) (L) (st) (w) (n) (k) := by
  intro H locs ls hl hR hz
  obtain ⟨cf, kf, fi, f, a, cell, h1, h2, h3, h4, h5, h6, h7, h8⟩ := F.2.2.2.2.2.2.2.2.1.2.2.1 z (List.mem_of_getElem? hz0)
  exact W.gets F.1 F.2.1 F.2.2.2.2.1 (F.2.2.2.2.2.1 _ hm) h1 h2 h3 h4 (by rw [hR.2.2.2.1 a (Nat.not_le.mp h8)]; exact h5) (fun e => by rw [e] at h6; cases h6) h7 rfl hd (kk H locs ls hl hR hz)
theorem e_getsN (F : e_F K p l s m args meth c cc nL ret own) {i idx : Nat} {host : String} {z : String × String × String × Value} (hz0 : (e_zs K)[i]? = some z) (hm : Cond.fieldLinkNest own idx z.1 z.2.1 z.2.2.1 host ∈ e_NW) (hd : decode cc pc = .ok (.getstatic idx, 3)) (kk : e_V K p l e d mc s m args below meth c nL post px (pc + 3) (L) (z.2.2.2 :: st) (w) (n) (k)) : e_V K p l e d mc s m args below meth c nL post px (pc) (L) (st) (w) (n) (k) := by
  intro H locs ls hl hR hz
  obtain ⟨cf, kf, fi, f, a, cell, h1, h2, h3, h4, h5, h6, h7, h8⟩ := F.2.2.2.2.2.2.2.2.1.2.2.1 z (List.mem_of_getElem? hz0)
  exact va_WgetsN F.1 F.2.1 F.2.2.2.2.1 (va_Nw.use rfl (F.2.2.2.2.2.2.2.2.1.2.1 _ hm)) h1 h2 h3 h4 (by rw [hR.2.2.2.1 a (Nat.not_le.mp h8)]; exact h5) (fun e => by rw [e] at h6; cases h6) h7 rfl hd (kk H locs ls hl hR hz)
theorem e_iushr (F : e_F K p l s m args meth c cc nL ret own) {x y : Int32} {z : Int} (hd : decode cc pc = .ok (.iushr, 1)) (hv : (x.toUInt32 >>> (y.toUInt32 &&& Int32.toUInt32 31)).toInt32 = eI z) (kk : e_V K p l e d mc s m args below meth c nL post px (pc + 1) (L) (.int (eI z) :: st) (w) (n) (k)) : e_V K p l e d mc s m args below meth c nL post px (pc) (L) (.int y :: .int x :: st) (w) (n) (k) :=
  fun H locs ls hl hR hz => lv_iushr F.1 F.2.1 hd hv (kk H locs ls hl hR hz)
theorem e_mmin (F : e_F K p l s m args meth c cc nL ret own) {a b : Int} {idx : Nat} (ha : e_r a) (hb : e_r b) (m1 : Cond.methodLink own idx Lib.Math.min.name ∈ e_TB) (m2 : Cond.static Lib.Math.min.name ∈ e_TB) (m3 : Cond.initialized "java/lang/Math" ∈ e_TB) (m4 : Cond.code Lib.Math.min.name Lib.Math.min.code 2 (some .int) ∈ e_TB) (hd : decode cc pc = .ok (.invokestatic idx, 3)) (hroom : (st.map fun v => v.category).sum ≤ 8) (hdd : 1 ≤ d) (hk : k ≤ mc) (kk : e_V K p l e d mc s m args below meth c nL post px (pc + 3) (L) (.int (eI (if b < a then b else a)) :: st) (w) (n) (k)) : e_V K p l e d mc s m args below meth c nL post px (pc) (L) (.int (eI b) :: .int (eI a) :: st) (w) (n) (k) := by
  intro H locs ls hl hR hz
  have hts := F.2.2.2.2.2.1
  refine va_mmin F.1 F.2.1 (by rw [F.2.2.1]; exact hl.1.symm) F.2.2.2.2.1 (hts _ m1) (hts _ m2) (hts _ m3) (hts _ m4) hdd (by show _ ≤ 64 * d; omega) hk (Nat.mul_le_mul_left 256 hk) hd ?_
  have h := eI_lt hb ha
  have e9 : (if eI b < eI a then eI b else eI a) = eI (if b < a then b else a) := by
    split
    · rename_i q; rw [if_pos (h.mp q)]
    · rename_i q; rw [if_neg (fun z => q (h.mpr z))]
  rw [e9]
  exact kk H locs ls hl hR hz
theorem e_mmax (F : e_F K p l s m args meth c cc nL ret own) {a b : Int} {idx : Nat} (ha : e_r a) (hb : e_r b) (m1 : Cond.methodLink own idx Lib.Math.max.name ∈ e_TB) (m2 : Cond.static Lib.Math.max.name ∈ e_TB) (m3 : Cond.initialized "java/lang/Math" ∈ e_TB) (m4 : Cond.code Lib.Math.max.name Lib.Math.max.code 2 (some .int) ∈ e_TB) (hd : decode cc pc = .ok (.invokestatic idx, 3)) (hroom : (st.map fun v => v.category).sum ≤ 8) (hdd : 1 ≤ d) (hk : k ≤ mc) (kk : e_V K p l e d mc s m args below meth c nL post px (pc + 3) (L) (.int (eI (if a < b then b else a)) :: st) (w) (n) (k)) : e_V K p l e d mc s m args below meth c nL post px (pc) (L) (.int (eI b) :: .int (eI a) :: st) (w) (n) (k) := by
  intro H locs ls hl hR hz
  have hts := F.2.2.2.2.2.1
  refine va_mmax F.1 F.2.1 (by rw [F.2.2.1]; exact hl.1.symm) F.2.2.2.2.1 (hts _ m1) (hts _ m2) (hts _ m3) (hts _ m4) hdd (by show _ ≤ 64 * d; omega) hk (Nat.mul_le_mul_left 256 hk) hd ?_
  have h := eI_lt ha hb
  have e9 : (if eI a < eI b then eI b else eI a) = eI (if a < b then b else a) := by
    split
    · rename_i q; rw [if_pos (h.mp q)]
    · rename_i q; rw [if_neg (fun z => q (h.mpr z))]
  rw [e9]
  exact kk H locs ls hl hR hz
theorem e_ialdS (F : e_F K p l s m args meth c cc nL ret own) {i : Nat} {j : Int} (hi : i < 6) (h0 : 0 ≤ j) (hN : j < 7) (hd : decode cc pc = .ok (.iaload, 1)) (kk : e_V K p l e d mc s m args below meth c nL post px (pc + 1) (L) (.int (eI ((e_row i).getD j.toNat 0)) :: st) (w) (n) (k)) : e_V K p l e d mc s m args below meth c nL post px (pc) (L) (.int (eI j) :: .ref (K.2.2 i) :: st) (w) (n) (k) := by
  obtain ⟨x1, x2⟩ := e_ix (N := 7) h0 hN (by decide)
  intro H locs ls hl hR hz
  obtain ⟨cell, h1, h2, h3, h4, h5, h6, h7⟩ := F.2.2.2.2.2.2.2.2.1.2.2.2.1 i hi
  exact W.iald (v := .int (eI ((e_row i).getD j.toNat 0))) F.1 F.2.1 (by rw [hR.2.2.2.1 _ (Nat.not_le.mp h7)]; exact h1) h2 h3 (fun q => x1 (q.imp id (fun q => Nat.le_trans h4 q))) (by rw [x2, h6 _ (by omega)]; rfl) rfl rfl hd (kk H locs ls hl hR hz)
theorem e_alenS (F : e_F K p l s m args meth c cc nL ret own) {i : Nat} (hi : i < 6) (hd : decode cc pc = .ok (.arraylength, 1)) (kk : e_V K p l e d mc s m args below meth c nL post px (pc + 1) (L) (.int (eI 7) :: st) (w) (n) (k)) : e_V K p l e d mc s m args below meth c nL post px (pc) (L) (.ref (K.2.2 i) :: st) (w) (n) (k) := by
  intro H locs ls hl hR hz
  obtain ⟨cell, h1, h2, h3, h4, h5, h6, h7⟩ := F.2.2.2.2.2.2.2.2.1.2.2.2.1 i hi
  exact W.alen (n := eI 7) F.1 F.2.1 (by rw [hR.2.2.2.1 _ (Nat.not_le.mp h7)]; exact h1) h2 (by rw [h5]; rfl) rfl rfl hd (kk H locs ls hl hR hz)
theorem e_oinit (F : e_F K p l s m args meth c cc nL ret own) {idx a : Nat} (hm1 : Cond.methodLink own idx Lib.objectInit ∈ e_TB) (hm2 : Cond.instanceMethod Lib.objectInit ∈ e_TB) (hm3 : Cond.code Lib.objectInit ⟨#[0xb1]⟩ 1 none ∈ e_TB) (hroom : (st.map fun v => v.category).sum ≤ 8) (hdd : 1 ≤ d) (hd : decode cc pc = .ok (.invokespecial idx, 3)) (kk : e_V K p l e d mc s m args below meth c nL post px (pc + 3) (L) (st) (w) (n) (k)) : e_V K p l e d mc s m args below meth c nL post px (pc) (L) (.ref a :: st) (w) (n) (k) := by
  intro H locs ls hl hR hz
  have hts := F.2.2.2.2.2.1
  exact W.objInit F.1 F.2.1 F.2.2.2.2.1 (hts _ hm1) (hts _ hm2) (hts _ hm3) rfl (by rw [F.2.2.1]; exact hl.1) rfl hd hdd (by show _ ≤ 64 * d; have := lv_room (m := m) (pc := pc) (ls := ls) (rest := .ref a :: st) hroom; omega) (kk H locs ls hl hR hz)
theorem e_iret (F : e_F K p l s m args meth c cc nL ret own) {x : Int32} (hr : ret = some .int) (hk : k ≤ mc) (hp : post (some (.int x)) w n) (hd : decode cc pc = .ok (.ireturn, 1)) : e_V K p l e d mc s m args below meth c nL post px (pc) (L) ([.int x]) (w) (n) (k) := by
  intro H locs ls hl hR hz
  refine vx_ret (W.widen hk (Nat.mul_le_mul_left 256 hk) ?_)
  exact W.iret F.1 F.2.1 (by rw [F.2.2.2.1]; exact hr) (fun t ht hW => ⟨_, w, n, rfl, hp, by rw [ht]; exact hR⟩) hz hd (hlocks := F.2.2.2.2.2.2.1)
theorem e_zret (F : e_F K p l s m args meth c cc nL ret own) {z : Int} (hr : ret = some .boolean) (hk : k ≤ mc) (h01 : z = 0 ∨ z = 1) (hp : post (some (.int (eI z))) w n) (hd : decode cc pc = .ok (.ireturn, 1)) : e_V K p l e d mc s m args below meth c nL post px (pc) (L) ([.int (eI z)]) (w) (n) (k) := by
  intro H locs ls hl hR hz
  refine vx_ret (W.widen hk (Nat.mul_le_mul_left 256 hk) ?_)
  exact W.zret (ty := .boolean) F.1 F.2.1 (by rw [F.2.2.2.1]; exact hr) (by rcases h01 with rfl | rfl <;> rfl) (fun t ht hW => ⟨_, w, n, rfl, hp, by rw [ht]; exact hR⟩) hz hd (hlocks := F.2.2.2.2.2.2.1)
theorem e_lret (F : e_F K p l s m args meth c cc nL ret own) {x : Int64} (hr : ret = some .long) (hk : k ≤ mc) (hp : post (some (.long x)) w n) (hd : decode cc pc = .ok (.lreturn, 1)) : e_V K p l e d mc s m args below meth c nL post px (pc) (L) ([.long x]) (w) (n) (k) := by
  intro H locs ls hl hR hz
  refine vx_ret (W.widen hk (Nat.mul_le_mul_left 256 hk) ?_)
  exact W.lret F.1 F.2.1 (by rw [F.2.2.2.1]; exact hr) (fun t ht hW => ⟨_, w, n, rfl, hp, by rw [ht]; exact hR⟩) hz hd (hlocks := F.2.2.2.2.2.2.1)
theorem e_vret (F : e_F K p l s m args meth c cc nL ret own) (hr : ret = none) (hk : k ≤ mc) (hp : post none w n) (hd : decode cc pc = .ok (.return_, 1)) : e_V K p l e d mc s m args below meth c nL post px (pc) (L) ([]) (w) (n) (k) := by
  intro H locs ls hl hR hz
  refine vx_ret (W.widen hk (Nat.mul_le_mul_left 256 hk) ?_)
  exact W.vret F.1 F.2.1 (by rw [F.2.2.2.1]; exact hr) (fun t ht hW => ⟨_, w, n, rfl, hp, by rw [ht]; exact hR⟩) hz hd (hlocks := F.2.2.2.2.2.2.1)
theorem e_aret (F : e_F K p l s m args meth c cc nL ret own) {v : Value} {rt : FieldType} (hr : ret = some rt) (hrt : (∃ n, rt = .object n) ∨ ∃ t, rt = .array t) (hv : v = .null ∨ ∃ a, v = .ref a) (hk : k ≤ mc) (hp : post (some v) w n) (hd : decode cc pc = .ok (.areturn, 1)) : e_V K p l e d mc s m args below meth c nL post px (pc) (L) ([v]) (w) (n) (k) := by
  intro H locs ls hl hR hz
  refine vx_ret (W.widen hk (Nat.mul_le_mul_left 256 hk) ?_)
  exact W.aret F.1 F.2.1 (by rw [F.2.2.2.1]; exact hr) hrt hv (fun t ht hW => ⟨_, w, n, rfl, hp, by rw [ht]; exact hR⟩) hz hd (hlocks := F.2.2.2.2.2.2.1)
theorem e_weak {st' : List Value} (h : st = st') (kk : e_V K p l e d mc s m args below meth c nL post px (pc) (L) (st') (w) (n) (k)) : e_V K p l e d mc s m args below meth c nL post px (pc) (L) (st) (w) (n) (k) := by rw [h]; exact kk
theorem e_after (F : e_F K p l s m args meth c cc nL ret own) {mc2 : Nat} {post2 : Option Value → e_W → Nat → Prop} {px2 : String → e_W → Nat → Prop} {H : Heap} {locs : List Loc} {ls : Array Slot} {st0 : List Value} {a : Array Value} (hl : lv_has ls nL L) (hR : e_R K w n s H) (hz : ∀ z ∈ locs, K.1 ≤ z.base)
    (hr : vx_Run p l e (e_rm d mc) s m args below meth c H locs k (256 * k) mc2 (256 * mc2) (F0 m pc ls st0) st (e_Qc K post2 a) (e_XC K px2) (e_fr K)) (hk : k + mc2 ≤ mc)
    (kx : ∀ E w' n', px2 E w' n' → n ≤ n' → px E w' n') (kk : ∀ r w' n', post2 r w' n' → n ≤ n' → e_V K p l e d mc s m args below meth c nL post px (pc + 3) (L) (r.toList ++ st) (w') (n') (k + mc2)) :
    W p l e (e_rm d mc) s m args below meth c H locs k (256 * k) (vx_MQ below (e_Qc K post) (e_XC K px) args s mc (256 * mc) (e_fr K)) (F0 m pc ls st0) := by
  have hre : ∀ (w' : e_W) (n' : Nat) (st₀ : State) (H2 : Heap), st₀.heap = H → e_R K w' n' st₀ H2 → n ≤ n' ∧ e_R K w' n' s H2 := by
    intro w' n' st₀ H2 h0 h
    obtain ⟨g1, g2, g3, g4, g5⟩ := h
    have hn : n ≤ n' := by rw [← hR.1, ← h0]; exact g5
    exact ⟨hn, g1, g2, g3, fun q hq => by rw [g4 q hq, h0]; exact hR.2.2.2.1 q hq, Nat.le_trans hR.2.2.2.2 hn⟩
  intro T hT X
  rcases hr T hT X with ⟨v, st₀, t, T', L2, h0, X', hL2, e1, e2, ⟨r, w', n', hv, hp, hRR⟩, stp⟩ | ⟨q, st₀, t, T', L2, E, ce, h0, X', hL2, e1, e2, ⟨w', n', hp, hRR⟩, hce, hcv, hcl, stp⟩
  · cases hv
    obtain ⟨hn, hR2⟩ := hre w' n' st₀ t.heap h0 hRR
    obtain ⟨t2, a1, b1⟩ := kk v w' n' hp hn T'.heap (locs ++ L2) ls hl (by rw [e1]; exact hR2) (fun z hz' => (List.mem_append.mp hz').elim (hz z) (fun h => hL2 z h)) T' rfl (by rw [Nat.mul_add]; exact X')
    exact ⟨t2, stp t2 a1, b1⟩
  · obtain ⟨hn, hR2⟩ := hre w' n' st₀ t.heap h0 hRR
    have hlt : 256 * k + 256 * mc2 ≤ 256 * mc := by omega
    obtain ⟨t2, a1, b1⟩ := vx_out (pc := pc) (ls := ls) (rest := st) (E := E) (ce := ce) (q := q) (Qc := e_Qc K post) (XC := e_XC K px) (mc := mc) (ms := 256 * mc) (free := e_fr K) (H := T'.heap) (locs := locs ++ L2) (cells := k + mc2) (slots := 256 * k + 256 * mc2) (fun x hx => (F.2.2.2.2.2.2.2.1 x hx).elim) F.2.2.2.2.2.2.1 (by rw [e1]; exact hce) hcv hcl
      (fun t3 ht3 _ => ⟨w', n', kx E w' n' hp hn, by rw [ht3, e1]; exact hR2⟩) (fun z hz' => (List.mem_append.mp hz').elim (hz z) (fun h => hL2 z h)) hk hlt T' rfl X'
    exact ⟨t2, stp.trans a1, b1⟩
/-- what a call asks of the callee's name -/
def e_Y (y : MethodName) (bytes : ByteArray) (maxL : Nat) (rt : Option FieldType) (na : Nat) : Prop :=
  (y.cls ≠ "java/lang/invoke/MethodHandle" ∧ y.cls ≠ "java/lang/invoke/VarHandle") ∧ (parseMethodDescriptor y.desc).map (fun d => d.parameters.length) = some na ∧ maxL ≤ 45 ∧ Cond.code y bytes maxL rt ∈ e_TB ∧ Cond.initialized y.cls ∈ e_TB
def e_YV (y : MethodName) (bytes : ByteArray) (maxL : Nat) (rt : Option FieldType) (na : Nat) : Prop := e_Y y bytes maxL rt na ∧ Cond.instanceMethod y ∈ e_TB ∧ Cond.selects y.cls y y ∈ e_TB
def e_YS (y : MethodName) (bytes : ByteArray) (maxL : Nat) (rt : Option FieldType) (na : Nat) : Prop := e_Y y bytes maxL rt na ∧ Cond.static y ∈ e_TB
def e_YI (y : MethodName) (bytes : ByteArray) (maxL : Nat) (na : Nat) : Prop := e_Y y bytes maxL none na ∧ y.name = "<init>" ∧ Cond.instanceMethod y ∈ e_TB
theorem e_ws {y : MethodName} {bytes : ByteArray} {maxL : Nat} {rt : Option FieldType} {na : Nat} (Y : e_Y y bytes maxL rt na) : ∀ w ∈ Cond.code y bytes maxL rt :: e_TB, w ∈ e_TB := fun w h => (List.mem_cons.mp h).elim (fun h => by rw [h]; exact Y.2.2.2.1) id
theorem e_callB (F : e_F K p l s m args meth c cc nL ret own) {y : MethodName} {bytes : ByteArray} {maxL idx d2 mc2 : Nat} {rt : Option FieldType} {na : Nat} (Y : e_Y y bytes maxL rt na) (hm : Cond.methodLink own idx y ∈ e_TB) (hdd : d2 + 1 ≤ d) : CallB (e_rm d mc) s args own idx y bytes maxL rt (Cond.code y bytes maxL rt :: e_TB) (e_rm d2 mc2) mc2 (256 * mc2) na :=
  callB_of (ws' := e_TB) na F.2.2.2.2.2.1 (e_goodIn (e_ws Y)) rfl rfl rfl (F.2.2.2.2.2.1 _ Y.2.2.2.2) (F.2.2.2.2.2.1 _ hm) ⟨Y.1.1, Y.1.2, Y.2.1⟩ ⟨hdd, by have := Y.2.2.1; show 8 + (maxL + 11) + 64 * d2 ≤ 64 * d; omega⟩
theorem e_callN (F : e_F K p l s m args meth c cc nL ret own) {y : MethodName} {bytes : ByteArray} {maxL idx d2 mc2 : Nat} {rt : Option FieldType} {na : Nat} {host : String} (Y : e_Y y bytes maxL rt na) (hm : Cond.methodLinkNest own idx y host ∈ e_NW) (hdd : d2 + 1 ≤ d) : va_CN (e_rm d mc) s args own idx y host bytes maxL rt (Cond.code y bytes maxL rt :: e_TB) (e_rm d2 mc2) mc2 (256 * mc2) na :=
  va_cnB (ws' := e_TB) na F.2.2.2.2.2.1 (e_goodIn (e_ws Y)) rfl rfl rfl (F.2.2.2.2.2.2.2.2.1.2.1 _ hm) (F.2.2.2.2.2.1 _ Y.2.2.2.2) ⟨Y.1.1, Y.1.2, Y.2.1⟩ ⟨hdd, by have := Y.2.2.1; show 8 + (maxL + 11) + 64 * d2 ≤ 64 * d; omega⟩
theorem e_fix (F : e_F K p l s m args meth c cc nL ret own) : CallFix p m c cc nL s args e_TB own := ⟨F.1, F.2.1, F.2.2.1, F.2.2.2.2.1, F.2.2.2.2.2.1⟩
theorem e_pre (F : e_F K p l s m args meth c cc nL ret own) {as2 : List Value} {H : Heap} (hR : e_R K w n s H) : PreS s H (e_Pc K as2 w n) as2 := ⟨e_blind, fun U hU hW => ⟨rfl, F.2.2.2.2.2.2.2.2.1.go hW (fun q hq => by rw [hU]; exact hR.2.2.2.1 q hq), hR.re hU⟩⟩
theorem e_preV (F : e_F K p l s m args meth c cc nL ret own) {as2 : List Value} {H : Heap} {b ci : Nat} {fs : List Value} {q : vw_C} {C : String} (hR : e_R K w n s H) (hw : w b = some (.inl (ci, fs))) (hc : e_cl[ci]? = some q) (hC : q.1 = C) : PreV s H C b (e_Pc K (.ref b :: as2) w n) as2 := ⟨e_blind, by
    obtain ⟨r, h1, cell, q1, q2, q3, q4⟩ := (hR.2.2.1 b _ hw).2
    have hr : r = q := Option.some.inj (h1.symm.trans hc)
    subst hr
    subst hC
    exact ⟨cell, q1, by rw [q3]; rfl, by rw [q2]; exact (F.2.2.2.2.2.2.2.2.1.1.1 ci _ hc).2.1⟩, (e_pre F hR).2⟩
theorem e_callVV (F : e_F K p l s m args meth c cc nL ret own) {y : MethodName} {bytes : ByteArray} {maxL idx d2 mc2 na : Nat} {rt : Option FieldType} {as2 st0 : List Value} {post2 : Option Value → e_W → Nat → Prop} {px2 : String → e_W → Nat → Prop} {b ci : Nat} {fs : List Value} {q : vw_C} (Y : e_YV y bytes maxL rt na) (hst : st0 = as2.reverse ++ .ref b :: st) (hM : e_Met K l y (Cond.code y bytes maxL rt :: e_TB) d2 mc2 (.ref b :: as2) w n post2 px2) (hw : w b = some (.inl (ci, fs))) (hc : e_cl[ci]? = some q) (hC : q.1 = y.cls) (hm : Cond.methodLink own idx y ∈ e_TB) (hd : decode cc pc = .ok (.invokevirtual idx, 3)) (hn : as2.length = na) (hroom : (st.map fun v => v.category).sum ≤ 8) (hdd : d2 + 1 ≤ d) (hk : k + mc2 ≤ mc) (kx : ∀ E w' n', px2 E w' n' → n ≤ n' → px E w' n') (kk : ∀ r w' n', post2 r w' n' → n ≤ n' → e_V K p l e d mc s m args below meth c nL post px (pc + 3) (L) (r.toList ++ st) (w') (n') (k + mc2)) : e_V K p l e d mc s m args below meth c nL post px (pc) (L) (st0) (w) (n) (k) :=
  fun H locs ls hl hR hz => e_after F hl hR hz (vx_runV (e_fix F) (hM F.2.2.2.2.2.2.2.2.2) ⟨e_callB F Y.1 hm hdd, F.2.2.2.2.2.1 _ Y.2.1, F.2.2.2.2.2.1 _ Y.2.2⟩ (e_preV F hR hw hc hC) rfl hn hl.1 hst (lv_room hroom) hd ⟨hk, by show 256 * k + 256 * mc2 ≤ 256 * mc; omega⟩) hk kx kk
theorem e_callVN (F : e_F K p l s m args meth c cc nL ret own) {y : MethodName} {bytes : ByteArray} {maxL idx d2 mc2 na : Nat} {rt : Option FieldType} {as2 st0 : List Value} {post2 : Option Value → e_W → Nat → Prop} {px2 : String → e_W → Nat → Prop} {host : String} {b ci : Nat} {fs : List Value} {q : vw_C} (Y : e_YV y bytes maxL rt na) (hst : st0 = as2.reverse ++ .ref b :: st) (hM : e_Met K l y (Cond.code y bytes maxL rt :: e_TB) d2 mc2 (.ref b :: as2) w n post2 px2) (hw : w b = some (.inl (ci, fs))) (hc : e_cl[ci]? = some q) (hC : q.1 = y.cls) (hm : Cond.methodLinkNest own idx y host ∈ e_NW) (hd : decode cc pc = .ok (.invokevirtual idx, 3)) (hn : as2.length = na) (hroom : (st.map fun v => v.category).sum ≤ 8) (hdd : d2 + 1 ≤ d) (hk : k + mc2 ≤ mc) (kx : ∀ E w' n', px2 E w' n' → n ≤ n' → px E w' n') (kk : ∀ r w' n', post2 r w' n' → n ≤ n' → e_V K p l e d mc s m args below meth c nL post px (pc + 3) (L) (r.toList ++ st) (w') (n') (k + mc2)) : e_V K p l e d mc s m args below meth c nL post px (pc) (L) (st0) (w) (n) (k) :=
  fun H locs ls hl hR hz => e_after F hl hR hz (vx_runVN (e_fix F) (hM F.2.2.2.2.2.2.2.2.2) ⟨e_callN F Y.1 hm hdd, F.2.2.2.2.2.1 _ Y.2.1, F.2.2.2.2.2.1 _ Y.2.2⟩ (e_preV F hR hw hc hC) rfl hn hl.1 hst (lv_room hroom) hd ⟨hk, by show 256 * k + 256 * mc2 ≤ 256 * mc; omega⟩) hk kx kk
theorem e_callSS (F : e_F K p l s m args meth c cc nL ret own) {y : MethodName} {bytes : ByteArray} {maxL idx d2 mc2 na : Nat} {rt : Option FieldType} {as2 st0 : List Value} {post2 : Option Value → e_W → Nat → Prop} {px2 : String → e_W → Nat → Prop} (Y : e_YS y bytes maxL rt na) (hst : st0 = as2.reverse ++ st) (hM : e_Met K l y (Cond.code y bytes maxL rt :: e_TB) d2 mc2 as2 w n post2 px2) (hm : Cond.methodLink own idx y ∈ e_TB) (hd : decode cc pc = .ok (.invokestatic idx, 3)) (hn : as2.length = na) (hroom : (st.map fun v => v.category).sum ≤ 8) (hdd : d2 + 1 ≤ d) (hk : k + mc2 ≤ mc) (kx : ∀ E w' n', px2 E w' n' → n ≤ n' → px E w' n') (kk : ∀ r w' n', post2 r w' n' → n ≤ n' → e_V K p l e d mc s m args below meth c nL post px (pc + 3) (L) (r.toList ++ st) (w') (n') (k + mc2)) : e_V K p l e d mc s m args below meth c nL post px (pc) (L) (st0) (w) (n) (k) :=
  fun H locs ls hl hR hz => e_after F hl hR hz (vx_runS (e_fix F) (hM F.2.2.2.2.2.2.2.2.2) ⟨e_callB F Y.1 hm hdd, F.2.2.2.2.2.1 _ Y.2⟩ (e_pre F hR) rfl hn hl.1 hst (lv_room hroom) hd ⟨hk, by show 256 * k + 256 * mc2 ≤ 256 * mc; omega⟩) hk kx kk
theorem e_callSN (F : e_F K p l s m args meth c cc nL ret own) {y : MethodName} {bytes : ByteArray} {maxL idx d2 mc2 na : Nat} {rt : Option FieldType} {as2 st0 : List Value} {post2 : Option Value → e_W → Nat → Prop} {px2 : String → e_W → Nat → Prop} {host : String} (Y : e_YS y bytes maxL rt na) (hst : st0 = as2.reverse ++ st) (hM : e_Met K l y (Cond.code y bytes maxL rt :: e_TB) d2 mc2 as2 w n post2 px2) (hm : Cond.methodLinkNest own idx y host ∈ e_NW) (hd : decode cc pc = .ok (.invokestatic idx, 3)) (hn : as2.length = na) (hroom : (st.map fun v => v.category).sum ≤ 8) (hdd : d2 + 1 ≤ d) (hk : k + mc2 ≤ mc) (kx : ∀ E w' n', px2 E w' n' → n ≤ n' → px E w' n') (kk : ∀ r w' n', post2 r w' n' → n ≤ n' → e_V K p l e d mc s m args below meth c nL post px (pc + 3) (L) (r.toList ++ st) (w') (n') (k + mc2)) : e_V K p l e d mc s m args below meth c nL post px (pc) (L) (st0) (w) (n) (k) :=
  fun H locs ls hl hR hz => e_after F hl hR hz (vx_runSN (e_fix F) (hM F.2.2.2.2.2.2.2.2.2) ⟨e_callN F Y.1 hm hdd, F.2.2.2.2.2.1 _ Y.2, trivial⟩ (e_pre F hR) rfl hn hl.1 hst (lv_room hroom) hd ⟨hk, by show 256 * k + 256 * mc2 ≤ 256 * mc; omega⟩) hk kx kk
theorem e_callII (F : e_F K p l s m args meth c cc nL ret own) {y : MethodName} {bytes : ByteArray} {maxL idx d2 mc2 na : Nat} {as2 st0 : List Value} {post2 : Option Value → e_W → Nat → Prop} {px2 : String → e_W → Nat → Prop} {b : Nat} (Y : e_YI y bytes maxL na) (hst : st0 = as2.reverse ++ .ref b :: st) (hM : e_Met K l y (Cond.code y bytes maxL none :: e_TB) d2 mc2 (.ref b :: as2) w n post2 px2) (hm : Cond.methodLink own idx y ∈ e_TB) (hd : decode cc pc = .ok (.invokespecial idx, 3)) (hn : as2.length = na) (hroom : (st.map fun v => v.category).sum ≤ 8) (hdd : d2 + 1 ≤ d) (hk : k + mc2 ≤ mc) (kx : ∀ E w' n', px2 E w' n' → n ≤ n' → px E w' n') (kk : ∀ r w' n', post2 r w' n' → n ≤ n' → e_V K p l e d mc s m args below meth c nL post px (pc + 3) (L) (r.toList ++ st) (w') (n') (k + mc2)) : e_V K p l e d mc s m args below meth c nL post px (pc) (L) (st0) (w) (n) (k) :=
  fun H locs ls hl hR hz => e_after F hl hR hz (vx_runI (e_fix F) (hM F.2.2.2.2.2.2.2.2.2) ⟨e_callB F Y.1 hm hdd, Y.2.1, F.2.2.2.2.2.1 _ Y.2.2⟩ (e_pre F hR) rfl hn hl.1 hst (lv_room hroom) hd ⟨hk, by show 256 * k + 256 * mc2 ≤ 256 * mc; omega⟩) hk kx kk
theorem e_callIN (F : e_F K p l s m args meth c cc nL ret own) {y : MethodName} {bytes : ByteArray} {maxL idx d2 mc2 na : Nat} {as2 st0 : List Value} {post2 : Option Value → e_W → Nat → Prop} {px2 : String → e_W → Nat → Prop} {host : String} {b : Nat} (Y : e_YI y bytes maxL na) (hst : st0 = as2.reverse ++ .ref b :: st) (hM : e_Met K l y (Cond.code y bytes maxL none :: e_TB) d2 mc2 (.ref b :: as2) w n post2 px2) (hm : Cond.methodLinkNest own idx y host ∈ e_NW) (hd : decode cc pc = .ok (.invokespecial idx, 3)) (hn : as2.length = na) (hroom : (st.map fun v => v.category).sum ≤ 8) (hdd : d2 + 1 ≤ d) (hk : k + mc2 ≤ mc) (kx : ∀ E w' n', px2 E w' n' → n ≤ n' → px E w' n') (kk : ∀ r w' n', post2 r w' n' → n ≤ n' → e_V K p l e d mc s m args below meth c nL post px (pc + 3) (L) (r.toList ++ st) (w') (n') (k + mc2)) : e_V K p l e d mc s m args below meth c nL post px (pc) (L) (st0) (w) (n) (k) :=
  fun H locs ls hl hR hz => e_after F hl hR hz (vx_runIN (e_fix F) (hM F.2.2.2.2.2.2.2.2.2) ⟨e_callN F Y.1 hm hdd, Y.2.1, F.2.2.2.2.2.1 _ Y.2.2⟩ (e_pre F hR) rfl hn hl.1 hst (lv_room hroom) hd ⟨hk, by show 256 * k + 256 * mc2 ≤ 256 * mc; omega⟩) hk kx kk

theorem e_throwS (F : e_F K p l s m args meth c cc nL ret own) {cls text : String} {ik is ic : Nat} (hcls : Bundle.fit cls = true) (hk1 : Cond.classLink own ik cls ∈ e_TB) (hini : Cond.initialized cls ∈ e_TB) (hstr : (own, is, text) ∈ e_ST) (hat : ∀ w ∈ vx_atS own ic cls ["java/lang/RuntimeException", "java/lang/Exception"], w ∈ e_TB ∨ (w ∈ e_NW ∧ w.onTables = true)) (hgood : ∀ w ∈ Cond.classLink own ik cls :: Cond.initialized cls :: vx_atS own ic cls ["java/lang/RuntimeException", "java/lang/Exception"], vx_ot w = true)
    (d0 : decode cc pc = .ok (.new ik, 3)) (d3 : decode cc (pc + 3) = .ok (.dup, 1)) (d4 : decode cc (pc + 4) = .ok (.ldc is, 2)) (d6 : decode cc (pc + 6) = .ok (.invokespecial ic, 3)) (d9 : decode cc (pc + 9) = .ok (.athrow, 1)) (hroom : (st.map fun v => v.category).sum ≤ 8) (hdd : 6 ≤ d) (hk : k + 1 ≤ mc) (hpx : ∀ n', n ≤ n' → px cls w n') : e_V K p l e d mc s m args below meth c nL post px (pc) (L) (st) (w) (n) (k) := by
  intro H locs ls hl hR hz
  have hts := F.2.2.2.2.2.1
  have hG := F.2.2.2.2.2.2.2.2.1
  obtain ⟨sa, hsa⟩ := hG.2.2.2.2.2.2 _ hstr
  exact vx_throwS (names := ["java/lang/RuntimeException", "java/lang/Exception"]) (A := e_fr K) F.1 F.2.1 F.2.2.2.2.2.2.2.2.2 F.2.2.2.2.1 hcls (by decide +kernel) (hts _ hk1) (hts _ hini) hsa (fun w hw => (hat w hw).elim (hts w) (fun h => va_Nw.use h.2 (hG.2.1 w h.1))) hgood hG.2.2.2.2.1 hG.2.2.2.2.2.1 ⟨by rw [hR.1]; exact hR.2.2.2.2, fun q _ hn => hR.2.2.2.1 q (Nat.not_le.mp hn), hz⟩ (by rw [F.2.2.1]; exact hl.1) d0 d3 d4 d6 d9 (fun x hx => (F.2.2.2.2.2.2.2.1 x hx).elim) (by show 5 < d; omega) (by show (st.map fun v => v.category).sum + (13 * 3 + 43) ≤ 64 * d; omega) hk (by show 256 * k + 6 ≤ 256 * mc; omega) F.2.2.2.2.2.2.1
    (fun t _ h1 h2 => ⟨w, t.heap.size, hpx _ (by rw [← hR.1]; exact h1), rfl, Nat.le_trans hR.2.1 (by rw [← hR.1]; exact h1), fun q e he => ⟨(hR.2.2.1 q e he).1, (hR.2.2.1 q e he).2.kept (h2 q (by rw [hR.1]; exact hR.lt he))⟩, fun q hq => by rw [h2 q (by rw [hR.1]; exact Nat.lt_of_lt_of_le hq hR.2.1)]; exact hR.2.2.2.1 q hq, Nat.le_trans hR.2.2.2.2 (by rw [← hR.1]; exact h1)⟩) hz hk (by omega)
theorem e_throwSW (F : e_F K p l s m args meth c cc nL ret own) {cls text : String} {ik is ic : Nat} (hcls : Bundle.fit cls = true) (hk1 : Cond.classLink own ik cls ∈ e_TB) (hini : Cond.initialized cls ∈ e_TB) (hstr : (own, is, text) ∈ e_ST) (hat : ∀ w ∈ vx_atS own ic cls ["java/lang/RuntimeException", "java/lang/Exception"], w ∈ e_TB ∨ (w ∈ e_NW ∧ w.onTables = true)) (hgood : ∀ w ∈ Cond.classLink own ik cls :: Cond.initialized cls :: vx_atS own ic cls ["java/lang/RuntimeException", "java/lang/Exception"], vx_ot w = true)
    (d0 : decode cc pc = .ok (.new ik, 3)) (d3 : decode cc (pc + 3) = .ok (.dup, 1)) (d4 : decode cc (pc + 4) = .ok (.ldc_w is, 3)) (d6 : decode cc (pc + 7) = .ok (.invokespecial ic, 3)) (d9 : decode cc (pc + 10) = .ok (.athrow, 1)) (hroom : (st.map fun v => v.category).sum ≤ 8) (hdd : 6 ≤ d) (hk : k + 1 ≤ mc) (hpx : ∀ n', n ≤ n' → px cls w n') : e_V K p l e d mc s m args below meth c nL post px (pc) (L) (st) (w) (n) (k) := by
  intro H locs ls hl hR hz
  have hts := F.2.2.2.2.2.1
  have hG := F.2.2.2.2.2.2.2.2.1
  obtain ⟨sa, hsa⟩ := hG.2.2.2.2.2.2 _ hstr
  exact vx_throwSW (names := ["java/lang/RuntimeException", "java/lang/Exception"]) (A := e_fr K) F.1 F.2.1 F.2.2.2.2.2.2.2.2.2 F.2.2.2.2.1 hcls (by decide +kernel) (hts _ hk1) (hts _ hini) hsa (fun w hw => (hat w hw).elim (hts w) (fun h => va_Nw.use h.2 (hG.2.1 w h.1))) hgood hG.2.2.2.2.1 hG.2.2.2.2.2.1 ⟨by rw [hR.1]; exact hR.2.2.2.2, fun q _ hn => hR.2.2.2.1 q (Nat.not_le.mp hn), hz⟩ (by rw [F.2.2.1]; exact hl.1) d0 d3 d4 d6 d9 (fun x hx => (F.2.2.2.2.2.2.2.1 x hx).elim) (by show 5 < d; omega) (by show (st.map fun v => v.category).sum + (13 * 3 + 43) ≤ 64 * d; omega) hk (by show 256 * k + 6 ≤ 256 * mc; omega) F.2.2.2.2.2.2.1
    (fun t _ h1 h2 => ⟨w, t.heap.size, hpx _ (by rw [← hR.1]; exact h1), rfl, Nat.le_trans hR.2.1 (by rw [← hR.1]; exact h1), fun q e he => ⟨(hR.2.2.1 q e he).1, (hR.2.2.1 q e he).2.kept (h2 q (by rw [hR.1]; exact hR.lt he))⟩, fun q hq => by rw [h2 q (by rw [hR.1]; exact Nat.lt_of_lt_of_le hq hR.2.1)]; exact hR.2.2.2.1 q hq, Nat.le_trans hR.2.2.2.2 (by rw [← hR.1]; exact h1)⟩) hz hk (by omega)
end EV
theorem e_ofV {K : e_K} {l : Launch} {y : MethodName} {cc : ByteArray} {nL : Nat} {rt : Option FieldType} {d mc : Nat} {as : List Value} {w : e_W} {n : Nat} {post : Option Value → e_W → Nat → Prop} {px : String → e_W → Nat → Prop} (hy : plainName y.cls = true) (hsl : (lg_sl as).length ≤ nL)
    (body : ∀ p e s m args below meth c, e_F K p l s m args meth c cc nL rt y.cls → (meth.name = y.name) → e_V K p l e d mc s m args below meth c nL post px 0 (lv_args 0 as) [] w n 0) : e_Met K l y (Cond.code y cc nL rt :: e_TB) d mc as w n post px := by
  intro hst
  refine vx_ofW (cc := cc) (maxL := nL) (ret := rt) hy rfl ?_
  intro p e s m args below meth c s₁ B hml ht hv
  obtain ⟨rfl, hG, hR⟩ := hv
  have hts := atoms_spec B.pre
  have hb := body p e s m as.toArray below meth c ⟨B.exec, B.bytes, hml, B.returns, findClass_of_methodNamed B.named, fun w hw => hts w (List.mem_cons_of_mem _ hw), B.notSynchronized, ht, hG, hst⟩ (name_of_methodNamed B.named B.method).1
  rw [lg_entry_eq]
  exact hb s.heap [] _ (lv_entry as hsl) hR (fun z h => by cases h)
end
section
/-! what calls ask of the methods -/
theorem u_X0_init : e_YI yX0_init cX0_init 1 0 := ⟨⟨⟨by decide +kernel, by decide +kernel⟩, by decide +kernel, by decide, w_co_X0_init, w_in_RX0⟩, rfl, w_im_X0_init⟩
theorem u_X0_clear : e_YV yX0_clear cX0_clear 2 none 0 := ⟨⟨⟨by decide +kernel, by decide +kernel⟩, by decide +kernel, by decide, w_co_X0_clear, w_in_RX0⟩, w_im_X0_clear, w_se_X0_clear⟩
theorem u_X0_start : e_YV yX0_start cX0_start 2 none 1 := ⟨⟨⟨by decide +kernel, by decide +kernel⟩, by decide +kernel, by decide, w_co_X0_start, w_in_RX0⟩, w_im_X0_start, w_se_X0_start⟩
theorem u_X0_take : e_YV yX0_take cX0_take 3 none 1 := ⟨⟨⟨by decide +kernel, by decide +kernel⟩, by decide +kernel, by decide, w_co_X0_take, w_in_RX0⟩, w_im_X0_take, w_se_X0_take⟩
theorem u_X0_isEmpty : e_YV yX0_isEmpty cX0_isEmpty 1 (Option.some .boolean) 0 := ⟨⟨⟨by decide +kernel, by decide +kernel⟩, by decide +kernel, by decide, w_co_X0_isEmpty, w_in_RX0⟩, w_im_X0_isEmpty, w_se_X0_isEmpty⟩
theorem u_X0_shareAt : e_YV yX0_shareAt cX0_shareAt 2 (Option.some .int) 1 := ⟨⟨⟨by decide +kernel, by decide +kernel⟩, by decide +kernel, by decide, w_co_X0_shareAt, w_in_RX0⟩, w_im_X0_shareAt, w_se_X0_shareAt⟩
theorem u_X0_hasShare : e_YV yX0_hasShare cX0_hasShare 2 (Option.some .boolean) 1 := ⟨⟨⟨by decide +kernel, by decide +kernel⟩, by decide +kernel, by decide, w_co_X0_hasShare, w_in_RX0⟩, w_im_X0_hasShare, w_se_X0_hasShare⟩
theorem u_X0_setShare : e_YV yX0_setShare cX0_setShare 3 none 2 := ⟨⟨⟨by decide +kernel, by decide +kernel⟩, by decide +kernel, by decide, w_co_X0_setShare, w_in_RX0⟩, w_im_X0_setShare, w_se_X0_setShare⟩
theorem u_X0_holderSet : e_YV yX0_holderSet cX0_holderSet 3 (Option.some .int) 0 := ⟨⟨⟨by decide +kernel, by decide +kernel⟩, by decide +kernel, by decide, w_co_X0_holderSet, w_in_RX0⟩, w_im_X0_holderSet, w_se_X0_holderSet⟩
theorem u_X0_shareCount : e_YV yX0_shareCount cX0_shareCount 1 (Option.some .int) 0 := ⟨⟨⟨by decide +kernel, by decide +kernel⟩, by decide +kernel, by decide, w_co_X0_shareCount, w_in_RX0⟩, w_im_X0_shareCount, w_se_X0_shareCount⟩
theorem u_X0_firstSet : e_YV yX0_firstSet cX0_firstSet 4 (Option.some .int) 0 := ⟨⟨⟨by decide +kernel, by decide +kernel⟩, by decide +kernel, by decide, w_co_X0_firstSet, w_in_RX0⟩, w_im_X0_firstSet, w_se_X0_firstSet⟩
theorem u_X0_isThere : e_YV yX0_isThere cX0_isThere 2 (Option.some .boolean) 1 := ⟨⟨⟨by decide +kernel, by decide +kernel⟩, by decide +kernel, by decide, w_co_X0_isThere, w_in_RX0⟩, w_im_X0_isThere, w_se_X0_isThere⟩
theorem u_X0_isEnough : e_YV yX0_isEnough cX0_isEnough 2 (Option.some .boolean) 1 := ⟨⟨⟨by decide +kernel, by decide +kernel⟩, by decide +kernel, by decide, w_co_X0_isEnough, w_in_RX0⟩, w_im_X0_isEnough, w_se_X0_isEnough⟩
theorem u_X0_hasSeals : e_YV yX0_hasSeals cX0_hasSeals 1 (Option.some .boolean) 0 := ⟨⟨⟨by decide +kernel, by decide +kernel⟩, by decide +kernel, by decide, w_co_X0_hasSeals, w_in_RX0⟩, w_im_X0_hasSeals, w_se_X0_hasSeals⟩
theorem u_X0_sealAt : e_YV yX0_sealAt cX0_sealAt 2 (Option.some .int) 1 := ⟨⟨⟨by decide +kernel, by decide +kernel⟩, by decide +kernel, by decide, w_co_X0_sealAt, w_in_RX0⟩, w_im_X0_sealAt, w_se_X0_sealAt⟩
theorem u_X0_setSeal : e_YV yX0_setSeal cX0_setSeal 3 none 2 := ⟨⟨⟨by decide +kernel, by decide +kernel⟩, by decide +kernel, by decide, w_co_X0_setSeal, w_in_RX0⟩, w_im_X0_setSeal, w_se_X0_setSeal⟩
theorem u_X0_addSeal : e_YV yX0_addSeal cX0_addSeal 2 none 1 := ⟨⟨⟨by decide +kernel, by decide +kernel⟩, by decide +kernel, by decide, w_co_X0_addSeal, w_in_RX0⟩, w_im_X0_addSeal, w_se_X0_addSeal⟩
theorem u_X1_init : e_YI yX1_init cX1_init 1 0 := ⟨⟨⟨by decide +kernel, by decide +kernel⟩, by decide +kernel, by decide, w_co_X1_init, w_in_RX1⟩, rfl, w_im_X1_init⟩
theorem u_X1_choose : e_YV yX1_choose cX1_choose 2 none 1 := ⟨⟨⟨by decide +kernel, by decide +kernel⟩, by decide +kernel, by decide, w_co_X1_choose, w_in_RX1⟩, w_im_X1_choose, w_se_X1_choose⟩
theorem u_X1_raise : e_YS yX1_raise cX1_raise 11 (Option.some .int) 3 := ⟨⟨⟨by decide +kernel, by decide +kernel⟩, by decide +kernel, by decide, w_co_X1_raise, w_in_RX1⟩, w_sm_X1_raise⟩
theorem u_X1_modPrime : e_YV yX1_modPrime cX1_modPrime 5 (Option.some .int) 1 := ⟨⟨⟨by decide +kernel, by decide +kernel⟩, by decide +kernel, by decide, w_co_X1_modPrime, w_in_RX1⟩, w_im_X1_modPrime, w_se_X1_modPrime⟩
theorem u_X1_inverse : e_YV yX1_inverse cX1_inverse 2 (Option.some .int) 1 := ⟨⟨⟨by decide +kernel, by decide +kernel⟩, by decide +kernel, by decide, w_co_X1_inverse, w_in_RX1⟩, w_im_X1_inverse, w_se_X1_inverse⟩
theorem u_X1_inverseSeal : e_YV yX1_inverseSeal cX1_inverseSeal 2 (Option.some .int) 1 := ⟨⟨⟨by decide +kernel, by decide +kernel⟩, by decide +kernel, by decide, w_co_X1_inverseSeal, w_in_RX1⟩, w_im_X1_inverseSeal, w_se_X1_inverseSeal⟩
theorem u_X1_sealProduct : e_YV yX1_sealProduct cX1_sealProduct 3 (Option.some .int) 2 := ⟨⟨⟨by decide +kernel, by decide +kernel⟩, by decide +kernel, by decide, w_co_X1_sealProduct, w_in_RX1⟩, w_im_X1_sealProduct, w_se_X1_sealProduct⟩
theorem u_X1_sealFor : e_YV yX1_sealFor cX1_sealFor 2 (Option.some .int) 1 := ⟨⟨⟨by decide +kernel, by decide +kernel⟩, by decide +kernel, by decide, w_co_X1_sealFor, w_in_RX1⟩, w_im_X1_sealFor, w_se_X1_sealFor⟩
theorem u_X1_weightAt : e_YV yX1_weightAt cX1_weightAt 8 (Option.some .int) 3 := ⟨⟨⟨by decide +kernel, by decide +kernel⟩, by decide +kernel, by decide, w_co_X1_weightAt, w_in_RX1⟩, w_im_X1_weightAt, w_se_X1_weightAt⟩
theorem u_X2_init : e_YI yX2_init cX2_init 1 0 := ⟨⟨⟨by decide +kernel, by decide +kernel⟩, by decide +kernel, by decide, w_co_X2_init, w_in_RX2⟩, rfl, w_im_X2_init⟩
theorem u_X2_clear : e_YV yX2_clear cX2_clear 2 none 0 := ⟨⟨⟨by decide +kernel, by decide +kernel⟩, by decide +kernel, by decide, w_co_X2_clear, w_in_RX2⟩, w_im_X2_clear, w_se_X2_clear⟩
theorem u_X2_at : e_YV yX2_at cX2_at 2 (Option.some .int) 1 := ⟨⟨⟨by decide +kernel, by decide +kernel⟩, by decide +kernel, by decide, w_co_X2_at, w_in_RX2⟩, w_im_X2_at, w_se_X2_at⟩
theorem u_X2_addTo : e_YV yX2_addTo cX2_addTo 5 none 4 := ⟨⟨⟨by decide +kernel, by decide +kernel⟩, by decide +kernel, by decide, w_co_X2_addTo, w_in_RX2⟩, w_im_X2_addTo, w_se_X2_addTo⟩
theorem u_X2_become : e_YV yX2_become cX2_become 7 none 6 := ⟨⟨⟨by decide +kernel, by decide +kernel⟩, by decide +kernel, by decide, w_co_X2_become, w_in_RX2⟩, w_im_X2_become, w_se_X2_become⟩
theorem u_X2_valueAt : e_YV yX2_valueAt cX2_valueAt 5 (Option.some .int) 2 := ⟨⟨⟨by decide +kernel, by decide +kernel⟩, by decide +kernel, by decide, w_co_X2_valueAt, w_in_RX2⟩, w_im_X2_valueAt, w_se_X2_valueAt⟩
theorem u_X2_highest : e_YV yX2_highest cX2_highest 2 (Option.some .int) 0 := ⟨⟨⟨by decide +kernel, by decide +kernel⟩, by decide +kernel, by decide, w_co_X2_highest, w_in_RX2⟩, w_im_X2_highest, w_se_X2_highest⟩
theorem u_X2_goThrough : e_YV yX2_goThrough cX2_goThrough 7 none 3 := ⟨⟨⟨by decide +kernel, by decide +kernel⟩, by decide +kernel, by decide, w_co_X2_goThrough, w_in_RX2⟩, w_im_X2_goThrough, w_se_X2_goThrough⟩
theorem u_X2_makeTerm : e_YV yX2_makeTerm cX2_makeTerm 8 (Option.some .int) 3 := ⟨⟨⟨by decide +kernel, by decide +kernel⟩, by decide +kernel, by decide, w_co_X2_makeTerm, w_in_RX2⟩, w_im_X2_makeTerm, w_se_X2_makeTerm⟩
theorem u_X2_addTerm : e_YV yX2_addTerm cX2_addTerm 4 none 2 := ⟨⟨⟨by decide +kernel, by decide +kernel⟩, by decide +kernel, by decide, w_co_X2_addTerm, w_in_RX2⟩, w_im_X2_addTerm, w_se_X2_addTerm⟩
theorem u_X3_init : e_YI yX3_init cX3_init 2 0 := ⟨⟨⟨by decide +kernel, by decide +kernel⟩, by decide +kernel, by decide, w_co_X3_init, w_in_RX3⟩, rfl, w_im_X3_init⟩
theorem u_X3_prime : e_YV yX3_prime cX3_prime 4 (Option.some .int) 1 := ⟨⟨⟨by decide +kernel, by decide +kernel⟩, by decide +kernel, by decide, w_co_X3_prime, w_in_RX3⟩, w_im_X3_prime, w_se_X3_prime⟩
theorem u_X3_rest : e_YV yX3_rest cX3_rest 2 (Option.some .int) 1 := ⟨⟨⟨by decide +kernel, by decide +kernel⟩, by decide +kernel, by decide, w_co_X3_rest, w_in_RX3⟩, w_im_X3_rest, w_se_X3_rest⟩
theorem u_X3_reckon : e_YV yX3_reckon cX3_reckon 4 (Option.some .int) 3 := ⟨⟨⟨by decide +kernel, by decide +kernel⟩, by decide +kernel, by decide, w_co_X3_reckon, w_in_RX3⟩, w_im_X3_reckon, w_se_X3_reckon⟩
theorem u_X3_reciprocal : e_YV yX3_reciprocal cX3_reciprocal 2 (Option.some .int) 1 := ⟨⟨⟨by decide +kernel, by decide +kernel⟩, by decide +kernel, by decide, w_co_X3_reciprocal, w_in_RX3⟩, w_im_X3_reciprocal, w_se_X3_reciprocal⟩
theorem u_X3_power : e_YV yX3_power cX3_power 5 (Option.some .int) 2 := ⟨⟨⟨by decide +kernel, by decide +kernel⟩, by decide +kernel, by decide, w_co_X3_power, w_in_RX3⟩, w_im_X3_power, w_se_X3_power⟩
theorem u_X3_sealOf : e_YV yX3_sealOf cX3_sealOf 2 (Option.some .int) 1 := ⟨⟨⟨by decide +kernel, by decide +kernel⟩, by decide +kernel, by decide, w_co_X3_sealOf, w_in_RX3⟩, w_im_X3_sealOf, w_se_X3_sealOf⟩
theorem u_X3_weight : e_YV yX3_weight cX3_weight 4 (Option.some .int) 3 := ⟨⟨⟨by decide +kernel, by decide +kernel⟩, by decide +kernel, by decide, w_co_X3_weight, w_in_RX3⟩, w_im_X3_weight, w_se_X3_weight⟩
theorem u_X3_weights : e_YV yX3_weights cX3_weights 3 (Option.some .int) 2 := ⟨⟨⟨by decide +kernel, by decide +kernel⟩, by decide +kernel, by decide, w_co_X3_weights, w_in_RX3⟩, w_im_X3_weights, w_se_X3_weights⟩
theorem u_X3_hide : e_YV yX3_hide cX3_hide 8 (Option.some .int) 6 := ⟨⟨⟨by decide +kernel, by decide +kernel⟩, by decide +kernel, by decide, w_co_X3_hide, w_in_RX3⟩, w_im_X3_hide, w_se_X3_hide⟩
theorem u_X3_pour : e_YV yX3_pour cX3_pour 10 (Option.some .int) 5 := ⟨⟨⟨by decide +kernel, by decide +kernel⟩, by decide +kernel, by decide, w_co_X3_pour, w_in_RX3⟩, w_im_X3_pour, w_se_X3_pour⟩
theorem u_X3_plus : e_YV yX3_plus cX3_plus 4 (Option.some .int) 3 := ⟨⟨⟨by decide +kernel, by decide +kernel⟩, by decide +kernel, by decide, w_co_X3_plus, w_in_RX3⟩, w_im_X3_plus, w_se_X3_plus⟩
theorem u_X3_less : e_YV yX3_less cX3_less 4 (Option.some .int) 3 := ⟨⟨⟨by decide +kernel, by decide +kernel⟩, by decide +kernel, by decide, w_co_X3_less, w_in_RX3⟩, w_im_X3_less, w_se_X3_less⟩
theorem u_X3_times : e_YV yX3_times cX3_times 10 (Option.some .int) 3 := ⟨⟨⟨by decide +kernel, by decide +kernel⟩, by decide +kernel, by decide, w_co_X3_times, w_in_RX3⟩, w_im_X3_times, w_se_X3_times⟩
theorem u_X3_scale : e_YV yX3_scale cX3_scale 8 (Option.some .int) 3 := ⟨⟨⟨by decide +kernel, by decide +kernel⟩, by decide +kernel, by decide, w_co_X3_scale, w_in_RX3⟩, w_im_X3_scale, w_se_X3_scale⟩
theorem u_X3_handOn : e_YV yX3_handOn cX3_handOn 12 (Option.some .int) 6 := ⟨⟨⟨by decide +kernel, by decide +kernel⟩, by decide +kernel, by decide, w_co_X3_handOn, w_in_RX3⟩, w_im_X3_handOn, w_se_X3_handOn⟩
theorem u_X3_lose : e_YV yX3_lose cX3_lose 5 (Option.some .int) 2 := ⟨⟨⟨by decide +kernel, by decide +kernel⟩, by decide +kernel, by decide, w_co_X3_lose, w_in_RX3⟩, w_im_X3_lose, w_se_X3_lose⟩
theorem u_X3_give : e_YV yX3_give cX3_give 6 (Option.some .int) 3 := ⟨⟨⟨by decide +kernel, by decide +kernel⟩, by decide +kernel, by decide, w_co_X3_give, w_in_RX3⟩, w_im_X3_give, w_se_X3_give⟩
theorem u_X3_regain : e_YV yX3_regain cX3_regain 6 (Option.some .int) 3 := ⟨⟨⟨by decide +kernel, by decide +kernel⟩, by decide +kernel, by decide, w_co_X3_regain, w_in_RX3⟩, w_im_X3_regain, w_se_X3_regain⟩
theorem u_X3_mend : e_YV yX3_mend cX3_mend 5 (Option.some .int) 1 := ⟨⟨⟨by decide +kernel, by decide +kernel⟩, by decide +kernel, by decide, w_co_X3_mend, w_in_RX3⟩, w_im_X3_mend, w_se_X3_mend⟩
theorem u_X3_copy : e_YV yX3_copy cX3_copy 5 (Option.some .int) 2 := ⟨⟨⟨by decide +kernel, by decide +kernel⟩, by decide +kernel, by decide, w_co_X3_copy, w_in_RX3⟩, w_im_X3_copy, w_se_X3_copy⟩
theorem u_X3_drop : e_YV yX3_drop cX3_drop 4 (Option.some .int) 1 := ⟨⟨⟨by decide +kernel, by decide +kernel⟩, by decide +kernel, by decide, w_co_X3_drop, w_in_RX3⟩, w_im_X3_drop, w_se_X3_drop⟩
theorem u_X3_knock : e_YV yX3_knock cX3_knock 1 (Option.some .int) 0 := ⟨⟨⟨by decide +kernel, by decide +kernel⟩, by decide +kernel, by decide, w_co_X3_knock, w_in_RX3⟩, w_im_X3_knock, w_se_X3_knock⟩
theorem u_X3_share : e_YV yX3_share cX3_share 4 (Option.some .int) 2 := ⟨⟨⟨by decide +kernel, by decide +kernel⟩, by decide +kernel, by decide, w_co_X3_share, w_in_RX3⟩, w_im_X3_share, w_se_X3_share⟩
theorem u_X3_ofDeal : e_YV yX3_ofDeal cX3_ofDeal 5 (Option.some .int) 2 := ⟨⟨⟨by decide +kernel, by decide +kernel⟩, by decide +kernel, by decide, w_co_X3_ofDeal, w_in_RX3⟩, w_im_X3_ofDeal, w_se_X3_ofDeal⟩
theorem u_X3_told : e_YV yX3_told cX3_told 5 (Option.some .int) 3 := ⟨⟨⟨by decide +kernel, by decide +kernel⟩, by decide +kernel, by decide, w_co_X3_told, w_in_RX3⟩, w_im_X3_told, w_se_X3_told⟩
theorem u_X3_open : e_YV yX3_open cX3_open 4 (Option.some .int) 2 := ⟨⟨⟨by decide +kernel, by decide +kernel⟩, by decide +kernel, by decide, w_co_X3_open, w_in_RX3⟩, w_im_X3_open, w_se_X3_open⟩
theorem u_X3_coefficient : e_YV yX3_coefficient cX3_coefficient 5 (Option.some .int) 3 := ⟨⟨⟨by decide +kernel, by decide +kernel⟩, by decide +kernel, by decide, w_co_X3_coefficient, w_in_RX3⟩, w_im_X3_coefficient, w_se_X3_coefficient⟩
theorem u_X3_degreeBy : e_YV yX3_degreeBy cX3_degreeBy 4 (Option.some .int) 2 := ⟨⟨⟨by decide +kernel, by decide +kernel⟩, by decide +kernel, by decide, w_co_X3_degreeBy, w_in_RX3⟩, w_im_X3_degreeBy, w_se_X3_degreeBy⟩
theorem u_X3_agrees : e_YV yX3_agrees cX3_agrees 4 (Option.some .int) 2 := ⟨⟨⟨by decide +kernel, by decide +kernel⟩, by decide +kernel, by decide, w_co_X3_agrees, w_in_RX3⟩, w_im_X3_agrees, w_se_X3_agrees⟩
theorem u_X3_suspects : e_YV yX3_suspects cX3_suspects 3 (Option.some .int) 1 := ⟨⟨⟨by decide +kernel, by decide +kernel⟩, by decide +kernel, by decide, w_co_X3_suspects, w_in_RX3⟩, w_im_X3_suspects, w_se_X3_suspects⟩
theorem u_X3_wrong : e_YV yX3_wrong cX3_wrong 2 (Option.some .int) 1 := ⟨⟨⟨by decide +kernel, by decide +kernel⟩, by decide +kernel, by decide, w_co_X3_wrong, w_in_RX3⟩, w_im_X3_wrong, w_se_X3_wrong⟩
theorem u_X3_ways : e_YV yX3_ways cX3_ways 6 (Option.some .int) 3 := ⟨⟨⟨by decide +kernel, by decide +kernel⟩, by decide +kernel, by decide, w_co_X3_ways, w_in_RX3⟩, w_im_X3_ways, w_se_X3_ways⟩
theorem u_X3_total : e_YV yX3_total cX3_total 6 (Option.some .int) 2 := ⟨⟨⟨by decide +kernel, by decide +kernel⟩, by decide +kernel, by decide, w_co_X3_total, w_in_RX3⟩, w_im_X3_total, w_se_X3_total⟩
theorem u_X3_seal : e_YV yX3_seal cX3_seal 4 (Option.some .int) 2 := ⟨⟨⟨by decide +kernel, by decide +kernel⟩, by decide +kernel, by decide, w_co_X3_seal, w_in_RX3⟩, w_im_X3_seal, w_se_X3_seal⟩
theorem u_X3_fits : e_YV yX3_fits cX3_fits 4 (Option.some .int) 2 := ⟨⟨⟨by decide +kernel, by decide +kernel⟩, by decide +kernel, by decide, w_co_X3_fits, w_in_RX3⟩, w_im_X3_fits, w_se_X3_fits⟩
theorem u_X3_order : e_YV yX3_order cX3_order 8 (Option.some .int) 3 := ⟨⟨⟨by decide +kernel, by decide +kernel⟩, by decide +kernel, by decide, w_co_X3_order, w_in_RX3⟩, w_im_X3_order, w_se_X3_order⟩
theorem u_X3_most : e_YV yX3_most cX3_most 9 (Option.some .int) 2 := ⟨⟨⟨by decide +kernel, by decide +kernel⟩, by decide +kernel, by decide, w_co_X3_most, w_in_RX3⟩, w_im_X3_most, w_se_X3_most⟩
theorem u_X3_text : e_YV yX3_text cX3_text 5 (Option.some (.object "java/lang/String")) 1 := ⟨⟨⟨by decide +kernel, by decide +kernel⟩, by decide +kernel, by decide, w_co_X3_text, w_in_RX3⟩, w_im_X3_text, w_se_X3_text⟩
theorem u_X3_seals : e_YV yX3_seals cX3_seals 5 (Option.some (.object "java/lang/String")) 1 := ⟨⟨⟨by decide +kernel, by decide +kernel⟩, by decide +kernel, by decide, w_co_X3_seals, w_in_RX3⟩, w_im_X3_seals, w_se_X3_seals⟩
theorem u_X3_isSame : e_YV yX3_isSame cX3_isSame 7 (Option.some .boolean) 2 := ⟨⟨⟨by decide +kernel, by decide +kernel⟩, by decide +kernel, by decide, w_co_X3_isSame, w_in_RX3⟩, w_im_X3_isSame, w_se_X3_isSame⟩
theorem u_X3_house : e_YV yX3_house cX3_house 2 (Option.some .int) 1 := ⟨⟨⟨by decide +kernel, by decide +kernel⟩, by decide +kernel, by decide, w_co_X3_house, w_in_RX3⟩, w_im_X3_house, w_se_X3_house⟩
theorem u_X3_isSound : e_YV yX3_isSound cX3_isSound 2 (Option.some .boolean) 0 := ⟨⟨⟨by decide +kernel, by decide +kernel⟩, by decide +kernel, by decide, w_co_X3_isSound, w_in_RX3⟩, w_im_X3_isSound, w_se_X3_isSound⟩
theorem u_X3_digest : e_YV yX3_digest cX3_digest 5 (Option.some .long) 0 := ⟨⟨⟨by decide +kernel, by decide +kernel⟩, by decide +kernel, by decide, w_co_X3_digest, w_in_RX3⟩, w_im_X3_digest, w_se_X3_digest⟩
theorem u_X3_dealAt : e_YV yX3_dealAt cX3_dealAt 2 (Option.some (.object "Secretshares$Deal")) 1 := ⟨⟨⟨by decide +kernel, by decide +kernel⟩, by decide +kernel, by decide, w_co_X3_dealAt, w_in_RX3⟩, w_im_X3_dealAt, w_se_X3_dealAt⟩
theorem u_X3_requireHolder : e_YV yX3_requireHolder cX3_requireHolder 2 none 1 := ⟨⟨⟨by decide +kernel, by decide +kernel⟩, by decide +kernel, by decide, w_co_X3_requireHolder, w_in_RX3⟩, w_im_X3_requireHolder, w_se_X3_requireHolder⟩
theorem u_X3_requireSet : e_YV yX3_requireSet cX3_requireSet 2 none 1 := ⟨⟨⟨by decide +kernel, by decide +kernel⟩, by decide +kernel, by decide, w_co_X3_requireSet, w_in_RX3⟩, w_im_X3_requireSet, w_se_X3_requireSet⟩
theorem u_X3_requireToldDegree : e_YS yX3_requireToldDegree cX3_requireToldDegree 1 none 1 := ⟨⟨⟨by decide +kernel, by decide +kernel⟩, by decide +kernel, by decide, w_co_X3_requireToldDegree, w_in_RX3⟩, w_sm_X3_requireToldDegree⟩
theorem u_X3_requireCoefficient : e_YS yX3_requireCoefficient cX3_requireCoefficient 1 none 1 := ⟨⟨⟨by decide +kernel, by decide +kernel⟩, by decide +kernel, by decide, w_co_X3_requireCoefficient, w_in_RX3⟩, w_sm_X3_requireCoefficient⟩
theorem u_X3_bitOf : e_YS yX3_bitOf cX3_bitOf 1 (Option.some .int) 1 := ⟨⟨⟨by decide +kernel, by decide +kernel⟩, by decide +kernel, by decide, w_co_X3_bitOf, w_in_RX3⟩, w_sm_X3_bitOf⟩
theorem u_X3_isIn : e_YS yX3_isIn cX3_isIn 2 (Option.some .boolean) 2 := ⟨⟨⟨by decide +kernel, by decide +kernel⟩, by decide +kernel, by decide, w_co_X3_isIn, w_in_RX3⟩, w_sm_X3_isIn⟩
theorem u_X3_allHolders : e_YV yX3_allHolders cX3_allHolders 1 (Option.some .int) 0 := ⟨⟨⟨by decide +kernel, by decide +kernel⟩, by decide +kernel, by decide, w_co_X3_allHolders, w_in_RX3⟩, w_im_X3_allHolders, w_se_X3_allHolders⟩
theorem u_X3_quotient : e_YV yX3_quotient cX3_quotient 3 (Option.some .int) 2 := ⟨⟨⟨by decide +kernel, by decide +kernel⟩, by decide +kernel, by decide, w_co_X3_quotient, w_in_RX3⟩, w_im_X3_quotient, w_se_X3_quotient⟩
theorem u_X3_weightSum : e_YV yX3_weightSum cX3_weightSum 6 (Option.some .int) 2 := ⟨⟨⟨by decide +kernel, by decide +kernel⟩, by decide +kernel, by decide, w_co_X3_weightSum, w_in_RX3⟩, w_im_X3_weightSum, w_se_X3_weightSum⟩
theorem u_X3_tell : e_YV yX3_tell cX3_tell 7 (Option.some .int) 3 := ⟨⟨⟨by decide +kernel, by decide +kernel⟩, by decide +kernel, by decide, w_co_X3_tell, w_in_RX3⟩, w_im_X3_tell, w_se_X3_tell⟩
theorem u_X3_layPoly : e_YV yX3_layPoly cX3_layPoly 4 (Option.some .int) 2 := ⟨⟨⟨by decide +kernel, by decide +kernel⟩, by decide +kernel, by decide, w_co_X3_layPoly, w_in_RX3⟩, w_im_X3_layPoly, w_se_X3_layPoly⟩
theorem u_X3_laySpare : e_YV yX3_laySpare cX3_laySpare 2 (Option.some .int) 1 := ⟨⟨⟨by decide +kernel, by decide +kernel⟩, by decide +kernel, by decide, w_co_X3_laySpare, w_in_RX3⟩, w_im_X3_laySpare, w_se_X3_laySpare⟩
theorem u_X3_addUp : e_YV yX3_addUp cX3_addUp 8 (Option.some .int) 4 := ⟨⟨⟨by decide +kernel, by decide +kernel⟩, by decide +kernel, by decide, w_co_X3_addUp, w_in_RX3⟩, w_im_X3_addUp, w_se_X3_addUp⟩
theorem u_X3_addUpSeals : e_YV yX3_addUpSeals cX3_addUpSeals 7 none 3 := ⟨⟨⟨by decide +kernel, by decide +kernel⟩, by decide +kernel, by decide, w_co_X3_addUpSeals, w_in_RX3⟩, w_im_X3_addUpSeals, w_se_X3_addUpSeals⟩
theorem u_X3_isInLine : e_YV yX3_isInLine cX3_isInLine 3 (Option.some .boolean) 2 := ⟨⟨⟨by decide +kernel, by decide +kernel⟩, by decide +kernel, by decide, w_co_X3_isInLine, w_in_RX3⟩, w_im_X3_isInLine, w_se_X3_isInLine⟩
theorem u_X3_suspectSet : e_YV yX3_suspectSet cX3_suspectSet 5 (Option.some .int) 1 := ⟨⟨⟨by decide +kernel, by decide +kernel⟩, by decide +kernel, by decide, w_co_X3_suspectSet, w_in_RX3⟩, w_im_X3_suspectSet, w_se_X3_suspectSet⟩
theorem u_X3_wrongHolder : e_YV yX3_wrongHolder cX3_wrongHolder 4 (Option.some .int) 1 := ⟨⟨⟨by decide +kernel, by decide +kernel⟩, by decide +kernel, by decide, w_co_X3_wrongHolder, w_in_RX3⟩, w_im_X3_wrongHolder, w_se_X3_wrongHolder⟩
theorem u_X3_polysBeyond : e_YV yX3_polysBeyond cX3_polysBeyond 4 (Option.some .int) 1 := ⟨⟨⟨by decide +kernel, by decide +kernel⟩, by decide +kernel, by decide, w_co_X3_polysBeyond, w_in_RX3⟩, w_im_X3_polysBeyond, w_se_X3_polysBeyond⟩
theorem u_X3_doesFit : e_YV yX3_doesFit cX3_doesFit 7 (Option.some .boolean) 2 := ⟨⟨⟨by decide +kernel, by decide +kernel⟩, by decide +kernel, by decide, w_co_X3_doesFit, w_in_RX3⟩, w_im_X3_doesFit, w_se_X3_doesFit⟩
theorem u_X3_filledDeals : e_YV yX3_filledDeals cX3_filledDeals 3 (Option.some .int) 0 := ⟨⟨⟨by decide +kernel, by decide +kernel⟩, by decide +kernel, by decide, w_co_X3_filledDeals, w_in_RX3⟩, w_im_X3_filledDeals, w_se_X3_filledDeals⟩
theorem u_X3_areSharesSound : e_YV yX3_areSharesSound cX3_areSharesSound 4 (Option.some .boolean) 1 := ⟨⟨⟨by decide +kernel, by decide +kernel⟩, by decide +kernel, by decide, w_co_X3_areSharesSound, w_in_RX3⟩, w_im_X3_areSharesSound, w_se_X3_areSharesSound⟩
theorem u_X3_areSealsSound : e_YV yX3_areSealsSound cX3_areSealsSound 3 (Option.some .boolean) 1 := ⟨⟨⟨by decide +kernel, by decide +kernel⟩, by decide +kernel, by decide, w_co_X3_areSealsSound, w_in_RX3⟩, w_im_X3_areSealsSound, w_se_X3_areSealsSound⟩
theorem u_X3_isFirstSealSound : e_YV yX3_isFirstSealSound cX3_isFirstSealSound 3 (Option.some .boolean) 0 := ⟨⟨⟨by decide +kernel, by decide +kernel⟩, by decide +kernel, by decide, w_co_X3_isFirstSealSound, w_in_RX3⟩, w_im_X3_isFirstSealSound, w_se_X3_isFirstSealSound⟩
theorem u_X3_doAllFit : e_YV yX3_doAllFit cX3_doAllFit 4 (Option.some .boolean) 2 := ⟨⟨⟨by decide +kernel, by decide +kernel⟩, by decide +kernel, by decide, w_co_X3_doAllFit, w_in_RX3⟩, w_im_X3_doAllFit, w_se_X3_doAllFit⟩
theorem u_X4_init : e_YI yX4_init cX4_init 1 0 := ⟨⟨⟨by decide +kernel, by decide +kernel⟩, by decide +kernel, by decide, w_co_X4_init, w_in_RX4⟩, rfl, w_im_X4_init⟩
theorem u_X5_init : e_YI yX5_init cX5_init 1 0 := ⟨⟨⟨by decide +kernel, by decide +kernel⟩, by decide +kernel, by decide, w_co_X5_init, w_in_RX5⟩, rfl, w_im_X5_init⟩
theorem u_X5_thrown : e_YV yX5_thrown cX5_thrown 1 (Option.some .int) 0 := ⟨⟨⟨by decide +kernel, by decide +kernel⟩, by decide +kernel, by decide, w_co_X5_thrown, w_in_RX5⟩, w_im_X5_thrown, w_se_X5_thrown⟩
theorem u_X5_isIn : e_YS yX5_isIn cX5_isIn 3 (Option.some .boolean) 3 := ⟨⟨⟨by decide +kernel, by decide +kernel⟩, by decide +kernel, by decide, w_co_X5_isIn, w_in_RX5⟩, w_sm_X5_isIn⟩
theorem u_X5_one : e_YS yX5_one cX5_one 1 (Option.some .int) 1 := ⟨⟨⟨by decide +kernel, by decide +kernel⟩, by decide +kernel, by decide, w_co_X5_one, w_in_RX5⟩, w_sm_X5_one⟩
theorem u_X5_refuse : e_YV yX5_refuse cX5_refuse 3 (Option.some .boolean) 2 := ⟨⟨⟨by decide +kernel, by decide +kernel⟩, by decide +kernel, by decide, w_co_X5_refuse, w_in_RX5⟩, w_im_X5_refuse, w_se_X5_refuse⟩
theorem u_X5_start : e_YV yX5_start cX5_start 3 (Option.some .boolean) 2 := ⟨⟨⟨by decide +kernel, by decide +kernel⟩, by decide +kernel, by decide, w_co_X5_start, w_in_RX5⟩, w_im_X5_start, w_se_X5_start⟩
theorem u_X5_p : e_YV yX5_p cX5_p 1 (Option.some .int) 0 := ⟨⟨⟨by decide +kernel, by decide +kernel⟩, by decide +kernel, by decide, w_co_X5_p, w_in_RX5⟩, w_im_X5_p, w_se_X5_p⟩
theorem u_X5_q : e_YV yX5_q cX5_q 1 (Option.some .int) 0 := ⟨⟨⟨by decide +kernel, by decide +kernel⟩, by decide +kernel, by decide, w_co_X5_q, w_in_RX5⟩, w_im_X5_q, w_se_X5_q⟩
theorem u_X5_holders : e_YV yX5_holders cX5_holders 1 (Option.some .int) 0 := ⟨⟨⟨by decide +kernel, by decide +kernel⟩, by decide +kernel, by decide, w_co_X5_holders, w_in_RX5⟩, w_im_X5_holders, w_se_X5_holders⟩
theorem u_X5_isNoDeal : e_YS yX5_isNoDeal cX5_isNoDeal 1 (Option.some .boolean) 1 := ⟨⟨⟨by decide +kernel, by decide +kernel⟩, by decide +kernel, by decide, w_co_X5_isNoDeal, w_in_RX5⟩, w_sm_X5_isNoDeal⟩
theorem u_X5_isNoHolder : e_YV yX5_isNoHolder cX5_isNoHolder 2 (Option.some .boolean) 1 := ⟨⟨⟨by decide +kernel, by decide +kernel⟩, by decide +kernel, by decide, w_co_X5_isNoHolder, w_in_RX5⟩, w_im_X5_isNoHolder, w_se_X5_isNoHolder⟩
theorem u_X5_isNoSet : e_YV yX5_isNoSet cX5_isNoSet 2 (Option.some .boolean) 1 := ⟨⟨⟨by decide +kernel, by decide +kernel⟩, by decide +kernel, by decide, w_co_X5_isNoSet, w_in_RX5⟩, w_im_X5_isNoSet, w_se_X5_isNoSet⟩
theorem u_X5_has : e_YS yX5_has cX5_has 2 (Option.some .boolean) 2 := ⟨⟨⟨by decide +kernel, by decide +kernel⟩, by decide +kernel, by decide, w_co_X5_has, w_in_RX5⟩, w_sm_X5_has⟩
theorem u_X5_many : e_YS yX5_many cX5_many 3 (Option.some .int) 1 := ⟨⟨⟨by decide +kernel, by decide +kernel⟩, by decide +kernel, by decide, w_co_X5_many, w_in_RX5⟩, w_sm_X5_many⟩
theorem u_X5_mod : e_YV yX5_mod cX5_mod 5 (Option.some .int) 1 := ⟨⟨⟨by decide +kernel, by decide +kernel⟩, by decide +kernel, by decide, w_co_X5_mod, w_in_RX5⟩, w_im_X5_mod, w_se_X5_mod⟩
theorem u_X5_inverse : e_YV yX5_inverse cX5_inverse 12 (Option.some .int) 1 := ⟨⟨⟨by decide +kernel, by decide +kernel⟩, by decide +kernel, by decide, w_co_X5_inverse, w_in_RX5⟩, w_im_X5_inverse, w_se_X5_inverse⟩
theorem u_X5_raised : e_YS yX5_raised cX5_raised 8 (Option.some .int) 3 := ⟨⟨⟨by decide +kernel, by decide +kernel⟩, by decide +kernel, by decide, w_co_X5_raised, w_in_RX5⟩, w_sm_X5_raised⟩
theorem u_X5_sealBy : e_YV yX5_sealBy cX5_sealBy 2 (Option.some .int) 1 := ⟨⟨⟨by decide +kernel, by decide +kernel⟩, by decide +kernel, by decide, w_co_X5_sealBy, w_in_RX5⟩, w_im_X5_sealBy, w_se_X5_sealBy⟩
theorem u_X5_prime : e_YV yX5_prime cX5_prime 4 (Option.some .int) 1 := ⟨⟨⟨by decide +kernel, by decide +kernel⟩, by decide +kernel, by decide, w_co_X5_prime, w_in_RX5⟩, w_im_X5_prime, w_se_X5_prime⟩
theorem u_X5_rest : e_YV yX5_rest cX5_rest 2 (Option.some .int) 1 := ⟨⟨⟨by decide +kernel, by decide +kernel⟩, by decide +kernel, by decide, w_co_X5_rest, w_in_RX5⟩, w_im_X5_rest, w_se_X5_rest⟩
theorem u_X5_reckon : e_YV yX5_reckon cX5_reckon 4 (Option.some .int) 3 := ⟨⟨⟨by decide +kernel, by decide +kernel⟩, by decide +kernel, by decide, w_co_X5_reckon, w_in_RX5⟩, w_im_X5_reckon, w_se_X5_reckon⟩
theorem u_X5_reciprocal : e_YV yX5_reciprocal cX5_reciprocal 2 (Option.some .int) 1 := ⟨⟨⟨by decide +kernel, by decide +kernel⟩, by decide +kernel, by decide, w_co_X5_reciprocal, w_in_RX5⟩, w_im_X5_reciprocal, w_se_X5_reciprocal⟩
theorem u_X5_power : e_YV yX5_power cX5_power 5 (Option.some .int) 2 := ⟨⟨⟨by decide +kernel, by decide +kernel⟩, by decide +kernel, by decide, w_co_X5_power, w_in_RX5⟩, w_im_X5_power, w_se_X5_power⟩
theorem u_X5_sealOf : e_YV yX5_sealOf cX5_sealOf 2 (Option.some .int) 1 := ⟨⟨⟨by decide +kernel, by decide +kernel⟩, by decide +kernel, by decide, w_co_X5_sealOf, w_in_RX5⟩, w_im_X5_sealOf, w_se_X5_sealOf⟩
theorem u_X5_value : e_YV yX5_value cX5_value 6 (Option.some .int) 2 := ⟨⟨⟨by decide +kernel, by decide +kernel⟩, by decide +kernel, by decide, w_co_X5_value, w_in_RX5⟩, w_im_X5_value, w_se_X5_value⟩
theorem u_X5_through : e_YV yX5_through cX5_through 8 (Option.some (.array .int)) 2 := ⟨⟨⟨by decide +kernel, by decide +kernel⟩, by decide +kernel, by decide, w_co_X5_through, w_in_RX5⟩, w_im_X5_through, w_se_X5_through⟩
theorem u_X5_at : e_YV yX5_at cX5_at 4 (Option.some .int) 3 := ⟨⟨⟨by decide +kernel, by decide +kernel⟩, by decide +kernel, by decide, w_co_X5_at, w_in_RX5⟩, w_im_X5_at, w_se_X5_at⟩
theorem u_X5_degreeOf : e_YS yX5_degreeOf cX5_degreeOf 2 (Option.some .int) 1 := ⟨⟨⟨by decide +kernel, by decide +kernel⟩, by decide +kernel, by decide, w_co_X5_degreeOf, w_in_RX5⟩, w_sm_X5_degreeOf⟩
theorem u_X5_poly : e_YV yX5_poly cX5_poly 9 (Option.some (.array .int)) 5 := ⟨⟨⟨by decide +kernel, by decide +kernel⟩, by decide +kernel, by decide, w_co_X5_poly, w_in_RX5⟩, w_im_X5_poly, w_se_X5_poly⟩
theorem u_X5_values : e_YV yX5_values cX5_values 4 (Option.some (.array .int)) 1 := ⟨⟨⟨by decide +kernel, by decide +kernel⟩, by decide +kernel, by decide, w_co_X5_values, w_in_RX5⟩, w_im_X5_values, w_se_X5_values⟩
theorem u_X5_weight : e_YV yX5_weight cX5_weight 5 (Option.some .int) 3 := ⟨⟨⟨by decide +kernel, by decide +kernel⟩, by decide +kernel, by decide, w_co_X5_weight, w_in_RX5⟩, w_im_X5_weight, w_se_X5_weight⟩
theorem u_X5_weightsAt : e_YV yX5_weightsAt cX5_weightsAt 5 (Option.some .int) 2 := ⟨⟨⟨by decide +kernel, by decide +kernel⟩, by decide +kernel, by decide, w_co_X5_weightsAt, w_in_RX5⟩, w_im_X5_weightsAt, w_se_X5_weightsAt⟩
theorem u_X5_weights : e_YV yX5_weights cX5_weights 3 (Option.some .int) 2 := ⟨⟨⟨by decide +kernel, by decide +kernel⟩, by decide +kernel, by decide, w_co_X5_weights, w_in_RX5⟩, w_im_X5_weights, w_se_X5_weights⟩
theorem u_X5_isEmpty : e_YV yX5_isEmpty cX5_isEmpty 2 (Option.some .boolean) 1 := ⟨⟨⟨by decide +kernel, by decide +kernel⟩, by decide +kernel, by decide, w_co_X5_isEmpty, w_in_RX5⟩, w_im_X5_isEmpty, w_se_X5_isEmpty⟩
theorem u_X5_empty : e_YV yX5_empty cX5_empty 2 none 1 := ⟨⟨⟨by decide +kernel, by decide +kernel⟩, by decide +kernel, by decide, w_co_X5_empty, w_in_RX5⟩, w_im_X5_empty, w_se_X5_empty⟩
theorem u_X5_setOf : e_YV yX5_setOf cX5_setOf 4 (Option.some .int) 1 := ⟨⟨⟨by decide +kernel, by decide +kernel⟩, by decide +kernel, by decide, w_co_X5_setOf, w_in_RX5⟩, w_im_X5_setOf, w_se_X5_setOf⟩
theorem u_X5_lay : e_YV yX5_lay cX5_lay 5 (Option.some .int) 4 := ⟨⟨⟨by decide +kernel, by decide +kernel⟩, by decide +kernel, by decide, w_co_X5_lay, w_in_RX5⟩, w_im_X5_lay, w_se_X5_lay⟩
theorem u_X5_isThere : e_YV yX5_isThere cX5_isThere 4 (Option.some .boolean) 2 := ⟨⟨⟨by decide +kernel, by decide +kernel⟩, by decide +kernel, by decide, w_co_X5_isThere, w_in_RX5⟩, w_im_X5_isThere, w_se_X5_isThere⟩
theorem u_X5_isEnough : e_YV yX5_isEnough cX5_isEnough 3 (Option.some .boolean) 2 := ⟨⟨⟨by decide +kernel, by decide +kernel⟩, by decide +kernel, by decide, w_co_X5_isEnough, w_in_RX5⟩, w_im_X5_isEnough, w_se_X5_isEnough⟩
theorem u_X5_isAgreed : e_YV yX5_isAgreed cX5_isAgreed 3 (Option.some .boolean) 2 := ⟨⟨⟨by decide +kernel, by decide +kernel⟩, by decide +kernel, by decide, w_co_X5_isAgreed, w_in_RX5⟩, w_im_X5_isAgreed, w_se_X5_isAgreed⟩
theorem u_X5_hide : e_YV yX5_hide cX5_hide 8 (Option.some .int) 6 := ⟨⟨⟨by decide +kernel, by decide +kernel⟩, by decide +kernel, by decide, w_co_X5_hide, w_in_RX5⟩, w_im_X5_hide, w_se_X5_hide⟩
theorem u_X5_pour : e_YV yX5_pour cX5_pour 10 (Option.some .int) 5 := ⟨⟨⟨by decide +kernel, by decide +kernel⟩, by decide +kernel, by decide, w_co_X5_pour, w_in_RX5⟩, w_im_X5_pour, w_se_X5_pour⟩
theorem u_X5_areNoDeals : e_YV yX5_areNoDeals cX5_areNoDeals 4 (Option.some .boolean) 3 := ⟨⟨⟨by decide +kernel, by decide +kernel⟩, by decide +kernel, by decide, w_co_X5_areNoDeals, w_in_RX5⟩, w_im_X5_areNoDeals, w_se_X5_areNoDeals⟩
theorem u_X5_of : e_YS yX5_of cX5_of 2 (Option.some .int) 2 := ⟨⟨⟨by decide +kernel, by decide +kernel⟩, by decide +kernel, by decide, w_co_X5_of, w_in_RX5⟩, w_sm_X5_of⟩
theorem u_X5_joined : e_YV yX5_joined cX5_joined 9 (Option.some .int) 4 := ⟨⟨⟨by decide +kernel, by decide +kernel⟩, by decide +kernel, by decide, w_co_X5_joined, w_in_RX5⟩, w_im_X5_joined, w_se_X5_joined⟩
theorem u_X5_plus : e_YV yX5_plus cX5_plus 4 (Option.some .int) 3 := ⟨⟨⟨by decide +kernel, by decide +kernel⟩, by decide +kernel, by decide, w_co_X5_plus, w_in_RX5⟩, w_im_X5_plus, w_se_X5_plus⟩
theorem u_X5_less : e_YV yX5_less cX5_less 4 (Option.some .int) 3 := ⟨⟨⟨by decide +kernel, by decide +kernel⟩, by decide +kernel, by decide, w_co_X5_less, w_in_RX5⟩, w_im_X5_less, w_se_X5_less⟩
theorem u_X5_times : e_YV yX5_times cX5_times 6 (Option.some .int) 3 := ⟨⟨⟨by decide +kernel, by decide +kernel⟩, by decide +kernel, by decide, w_co_X5_times, w_in_RX5⟩, w_im_X5_times, w_se_X5_times⟩
theorem u_X5_scale : e_YV yX5_scale cX5_scale 7 (Option.some .int) 3 := ⟨⟨⟨by decide +kernel, by decide +kernel⟩, by decide +kernel, by decide, w_co_X5_scale, w_in_RX5⟩, w_im_X5_scale, w_se_X5_scale⟩
theorem u_X5_handOn : e_YV yX5_handOn cX5_handOn 11 (Option.some .int) 6 := ⟨⟨⟨by decide +kernel, by decide +kernel⟩, by decide +kernel, by decide, w_co_X5_handOn, w_in_RX5⟩, w_im_X5_handOn, w_se_X5_handOn⟩
theorem u_X5_put : e_YV yX5_put cX5_put 5 none 3 := ⟨⟨⟨by decide +kernel, by decide +kernel⟩, by decide +kernel, by decide, w_co_X5_put, w_in_RX5⟩, w_im_X5_put, w_se_X5_put⟩
theorem u_X5_lose : e_YV yX5_lose cX5_lose 4 (Option.some .int) 2 := ⟨⟨⟨by decide +kernel, by decide +kernel⟩, by decide +kernel, by decide, w_co_X5_lose, w_in_RX5⟩, w_im_X5_lose, w_se_X5_lose⟩
theorem u_X5_give : e_YV yX5_give cX5_give 5 (Option.some .int) 3 := ⟨⟨⟨by decide +kernel, by decide +kernel⟩, by decide +kernel, by decide, w_co_X5_give, w_in_RX5⟩, w_im_X5_give, w_se_X5_give⟩
theorem u_X5_regain : e_YV yX5_regain cX5_regain 4 (Option.some .int) 3 := ⟨⟨⟨by decide +kernel, by decide +kernel⟩, by decide +kernel, by decide, w_co_X5_regain, w_in_RX5⟩, w_im_X5_regain, w_se_X5_regain⟩
theorem u_X5_suspectsOf : e_YV yX5_suspectsOf cX5_suspectsOf 5 (Option.some .int) 1 := ⟨⟨⟨by decide +kernel, by decide +kernel⟩, by decide +kernel, by decide, w_co_X5_suspectsOf, w_in_RX5⟩, w_im_X5_suspectsOf, w_se_X5_suspectsOf⟩
theorem u_X5_wrongOf : e_YV yX5_wrongOf cX5_wrongOf 4 (Option.some .int) 1 := ⟨⟨⟨by decide +kernel, by decide +kernel⟩, by decide +kernel, by decide, w_co_X5_wrongOf, w_in_RX5⟩, w_im_X5_wrongOf, w_se_X5_wrongOf⟩
theorem u_X5_mend : e_YV yX5_mend cX5_mend 3 (Option.some .int) 1 := ⟨⟨⟨by decide +kernel, by decide +kernel⟩, by decide +kernel, by decide, w_co_X5_mend, w_in_RX5⟩, w_im_X5_mend, w_se_X5_mend⟩
theorem u_X5_copy : e_YV yX5_copy cX5_copy 3 (Option.some .int) 2 := ⟨⟨⟨by decide +kernel, by decide +kernel⟩, by decide +kernel, by decide, w_co_X5_copy, w_in_RX5⟩, w_im_X5_copy, w_se_X5_copy⟩
theorem u_X5_drop : e_YV yX5_drop cX5_drop 3 (Option.some .int) 1 := ⟨⟨⟨by decide +kernel, by decide +kernel⟩, by decide +kernel, by decide, w_co_X5_drop, w_in_RX5⟩, w_im_X5_drop, w_se_X5_drop⟩
theorem u_X5_knock : e_YV yX5_knock cX5_knock 1 (Option.some .int) 0 := ⟨⟨⟨by decide +kernel, by decide +kernel⟩, by decide +kernel, by decide, w_co_X5_knock, w_in_RX5⟩, w_im_X5_knock, w_se_X5_knock⟩
theorem u_X5_shareOf : e_YV yX5_shareOf cX5_shareOf 3 (Option.some .int) 2 := ⟨⟨⟨by decide +kernel, by decide +kernel⟩, by decide +kernel, by decide, w_co_X5_shareOf, w_in_RX5⟩, w_im_X5_shareOf, w_se_X5_shareOf⟩
theorem u_X5_share : e_YV yX5_share cX5_share 3 (Option.some .int) 2 := ⟨⟨⟨by decide +kernel, by decide +kernel⟩, by decide +kernel, by decide, w_co_X5_share, w_in_RX5⟩, w_im_X5_share, w_se_X5_share⟩
theorem u_X5_firstOf : e_YV yX5_firstOf cX5_firstOf 4 (Option.some .int) 1 := ⟨⟨⟨by decide +kernel, by decide +kernel⟩, by decide +kernel, by decide, w_co_X5_firstOf, w_in_RX5⟩, w_im_X5_firstOf, w_se_X5_firstOf⟩
theorem u_X5_dealTold : e_YV yX5_dealTold cX5_dealTold 3 (Option.some .int) 2 := ⟨⟨⟨by decide +kernel, by decide +kernel⟩, by decide +kernel, by decide, w_co_X5_dealTold, w_in_RX5⟩, w_im_X5_dealTold, w_se_X5_dealTold⟩
theorem u_X5_ofDeal : e_YV yX5_ofDeal cX5_ofDeal 3 (Option.some .int) 2 := ⟨⟨⟨by decide +kernel, by decide +kernel⟩, by decide +kernel, by decide, w_co_X5_ofDeal, w_in_RX5⟩, w_im_X5_ofDeal, w_se_X5_ofDeal⟩
theorem u_X5_isNo : e_YV yX5_isNo cX5_isNo 3 (Option.some .boolean) 2 := ⟨⟨⟨by decide +kernel, by decide +kernel⟩, by decide +kernel, by decide, w_co_X5_isNo, w_in_RX5⟩, w_im_X5_isNo, w_se_X5_isNo⟩
theorem u_X5_told : e_YV yX5_told cX5_told 4 (Option.some .int) 3 := ⟨⟨⟨by decide +kernel, by decide +kernel⟩, by decide +kernel, by decide, w_co_X5_told, w_in_RX5⟩, w_im_X5_told, w_se_X5_told⟩
theorem u_X5_open : e_YV yX5_open cX5_open 3 (Option.some .int) 2 := ⟨⟨⟨by decide +kernel, by decide +kernel⟩, by decide +kernel, by decide, w_co_X5_open, w_in_RX5⟩, w_im_X5_open, w_se_X5_open⟩
theorem u_X5_coefficient : e_YV yX5_coefficient cX5_coefficient 4 (Option.some .int) 3 := ⟨⟨⟨by decide +kernel, by decide +kernel⟩, by decide +kernel, by decide, w_co_X5_coefficient, w_in_RX5⟩, w_im_X5_coefficient, w_se_X5_coefficient⟩
theorem u_X5_degreeBy : e_YV yX5_degreeBy cX5_degreeBy 3 (Option.some .int) 2 := ⟨⟨⟨by decide +kernel, by decide +kernel⟩, by decide +kernel, by decide, w_co_X5_degreeBy, w_in_RX5⟩, w_im_X5_degreeBy, w_se_X5_degreeBy⟩
theorem u_X5_agrees : e_YV yX5_agrees cX5_agrees 3 (Option.some .int) 2 := ⟨⟨⟨by decide +kernel, by decide +kernel⟩, by decide +kernel, by decide, w_co_X5_agrees, w_in_RX5⟩, w_im_X5_agrees, w_se_X5_agrees⟩
theorem u_X5_suspects : e_YV yX5_suspects cX5_suspects 2 (Option.some .int) 1 := ⟨⟨⟨by decide +kernel, by decide +kernel⟩, by decide +kernel, by decide, w_co_X5_suspects, w_in_RX5⟩, w_im_X5_suspects, w_se_X5_suspects⟩
theorem u_X5_wrong : e_YV yX5_wrong cX5_wrong 2 (Option.some .int) 1 := ⟨⟨⟨by decide +kernel, by decide +kernel⟩, by decide +kernel, by decide, w_co_X5_wrong, w_in_RX5⟩, w_im_X5_wrong, w_se_X5_wrong⟩
theorem u_X5_ways : e_YV yX5_ways cX5_ways 12 (Option.some .int) 3 := ⟨⟨⟨by decide +kernel, by decide +kernel⟩, by decide +kernel, by decide, w_co_X5_ways, w_in_RX5⟩, w_im_X5_ways, w_se_X5_ways⟩
theorem u_X5_total : e_YV yX5_total cX5_total 5 (Option.some .int) 2 := ⟨⟨⟨by decide +kernel, by decide +kernel⟩, by decide +kernel, by decide, w_co_X5_total, w_in_RX5⟩, w_im_X5_total, w_se_X5_total⟩
theorem u_X5_sealTold : e_YV yX5_sealTold cX5_sealTold 3 (Option.some .int) 2 := ⟨⟨⟨by decide +kernel, by decide +kernel⟩, by decide +kernel, by decide, w_co_X5_sealTold, w_in_RX5⟩, w_im_X5_sealTold, w_se_X5_sealTold⟩
theorem u_X5_seal : e_YV yX5_seal cX5_seal 3 (Option.some .int) 2 := ⟨⟨⟨by decide +kernel, by decide +kernel⟩, by decide +kernel, by decide, w_co_X5_seal, w_in_RX5⟩, w_im_X5_seal, w_se_X5_seal⟩
theorem u_X5_isFit : e_YV yX5_isFit cX5_isFit 3 (Option.some .boolean) 2 := ⟨⟨⟨by decide +kernel, by decide +kernel⟩, by decide +kernel, by decide, w_co_X5_isFit, w_in_RX5⟩, w_im_X5_isFit, w_se_X5_isFit⟩
theorem u_X5_fits : e_YV yX5_fits cX5_fits 3 (Option.some .int) 2 := ⟨⟨⟨by decide +kernel, by decide +kernel⟩, by decide +kernel, by decide, w_co_X5_fits, w_in_RX5⟩, w_im_X5_fits, w_se_X5_fits⟩
theorem u_X5_order : e_YV yX5_order cX5_order 6 (Option.some .int) 3 := ⟨⟨⟨by decide +kernel, by decide +kernel⟩, by decide +kernel, by decide, w_co_X5_order, w_in_RX5⟩, w_im_X5_order, w_se_X5_order⟩
theorem u_X5_most : e_YV yX5_most cX5_most 6 (Option.some .int) 2 := ⟨⟨⟨by decide +kernel, by decide +kernel⟩, by decide +kernel, by decide, w_co_X5_most, w_in_RX5⟩, w_im_X5_most, w_se_X5_most⟩
theorem u_X5_text : e_YV yX5_text cX5_text 4 (Option.some (.object "java/lang/String")) 1 := ⟨⟨⟨by decide +kernel, by decide +kernel⟩, by decide +kernel, by decide, w_co_X5_text, w_in_RX5⟩, w_im_X5_text, w_se_X5_text⟩
theorem u_X5_seals : e_YV yX5_seals cX5_seals 4 (Option.some (.object "java/lang/String")) 1 := ⟨⟨⟨by decide +kernel, by decide +kernel⟩, by decide +kernel, by decide, w_co_X5_seals, w_in_RX5⟩, w_im_X5_seals, w_se_X5_seals⟩
theorem u_X5_isSame : e_YV yX5_isSame cX5_isSame 5 (Option.some .boolean) 2 := ⟨⟨⟨by decide +kernel, by decide +kernel⟩, by decide +kernel, by decide, w_co_X5_isSame, w_in_RX5⟩, w_im_X5_isSame, w_se_X5_isSame⟩
theorem u_X5_houseTold : e_YV yX5_houseTold cX5_houseTold 4 (Option.some .int) 1 := ⟨⟨⟨by decide +kernel, by decide +kernel⟩, by decide +kernel, by decide, w_co_X5_houseTold, w_in_RX5⟩, w_im_X5_houseTold, w_se_X5_houseTold⟩
theorem u_X5_house : e_YV yX5_house cX5_house 2 (Option.some .int) 1 := ⟨⟨⟨by decide +kernel, by decide +kernel⟩, by decide +kernel, by decide, w_co_X5_house, w_in_RX5⟩, w_im_X5_house, w_se_X5_house⟩
theorem u_X5_isFirstSealed : e_YV yX5_isFirstSealed cX5_isFirstSealed 4 (Option.some .boolean) 1 := ⟨⟨⟨by decide +kernel, by decide +kernel⟩, by decide +kernel, by decide, w_co_X5_isFirstSealed, w_in_RX5⟩, w_im_X5_isFirstSealed, w_se_X5_isFirstSealed⟩
theorem u_X5_isWhole : e_YV yX5_isWhole cX5_isWhole 4 (Option.some .boolean) 0 := ⟨⟨⟨by decide +kernel, by decide +kernel⟩, by decide +kernel, by decide, w_co_X5_isWhole, w_in_RX5⟩, w_im_X5_isWhole, w_se_X5_isWhole⟩
theorem u_X5_isSound : e_YV yX5_isSound cX5_isSound 1 (Option.some .boolean) 0 := ⟨⟨⟨by decide +kernel, by decide +kernel⟩, by decide +kernel, by decide, w_co_X5_isSound, w_in_RX5⟩, w_im_X5_isSound, w_se_X5_isSound⟩
theorem u_X5_add : e_YS yX5_add cX5_add 4 (Option.some .long) 2 := ⟨⟨⟨by decide +kernel, by decide +kernel⟩, by decide +kernel, by decide, w_co_X5_add, w_in_RX5⟩, w_sm_X5_add⟩
theorem u_X5_digest : e_YV yX5_digest cX5_digest 5 (Option.some .long) 0 := ⟨⟨⟨by decide +kernel, by decide +kernel⟩, by decide +kernel, by decide, w_co_X5_digest, w_in_RX5⟩, w_im_X5_digest, w_se_X5_digest⟩
theorem u_J6_bitCount_0f7a4 : e_YS yJ6_bitCount_0f7a4 cJ6_bitCount_0f7a4 1 (Option.some .int) 1 := ⟨⟨⟨by decide +kernel, by decide +kernel⟩, by decide +kernel, by decide, w_co_J6_bitCount_0f7a4, w_in_RJ6⟩, w_sm_J6_bitCount_0f7a4⟩
theorem u_J9_max_7cf53 : e_YS yJ9_max_7cf53 cJ9_max_7cf53 2 (Option.some .int) 2 := ⟨⟨⟨by decide +kernel, by decide +kernel⟩, by decide +kernel, by decide, w_co_J9_max_7cf53, w_in_RJ9⟩, w_sm_J9_max_7cf53⟩
theorem u_J9_min_7cf53 : e_YS yJ9_min_7cf53 cJ9_min_7cf53 2 (Option.some .int) 2 := ⟨⟨⟨by decide +kernel, by decide +kernel⟩, by decide +kernel, by decide, w_co_J9_min_7cf53, w_in_RJ9⟩, w_sm_J9_min_7cf53⟩
end
section
/-! Field: numbers MOD the prime, seals MOD the great prime -/
def pr (wh : Nat) : Int := (e_row 0).getD wh 0
def gr (wh : Nat) : Int := (e_row 1).getD wh 0
def bs (wh : Nat) : Int := (e_row 2).getD wh 0
def ho (wh : Nat) : Int := if pr wh - 1 < 7 then pr wh - 1 else 7
theorem wh_cases {P : Nat → Prop} (h0 : P 0) (h1 : P 1) (h2 : P 2) (h3 : P 3) (h4 : P 4) (h5 : P 5) (h6 : P 6) : ∀ wh, wh < 7 → P wh := by
  intro wh h
  match wh, h with
  | 0, _ => exact h0
  | 1, _ => exact h1
  | 2, _ => exact h2
  | 3, _ => exact h3
  | 4, _ => exact h4
  | 5, _ => exact h5
  | 6, _ => exact h6
theorem pr_rg : ∀ wh, wh < 7 → 5 ≤ pr wh ∧ pr wh ≤ 1000003 := wh_cases (by decide) (by decide) (by decide) (by decide) (by decide) (by decide) (by decide)
theorem gr_rg : ∀ wh, wh < 7 → 11 ≤ gr wh ∧ gr wh ≤ 36000109 := wh_cases (by decide) (by decide) (by decide) (by decide) (by decide) (by decide) (by decide)
theorem bs_rg : ∀ wh, wh < 7 → 2 ≤ bs wh ∧ bs wh ≤ 76 := wh_cases (by decide) (by decide) (by decide) (by decide) (by decide) (by decide) (by decide)
theorem bs_gr : ∀ wh, wh < 7 → bs wh < gr wh := wh_cases (by decide) (by decide) (by decide) (by decide) (by decide) (by decide) (by decide)
theorem ho_rg : ∀ wh, wh < 7 → 4 ≤ ho wh ∧ ho wh ≤ 7 ∧ ho wh < pr wh := wh_cases (by decide) (by decide) (by decide) (by decide) (by decide) (by decide) (by decide)
/-- the object: which, p, q, g, M -/
abbrev FO (wh : Nat) : e_C := .inl (1, [.int (eI (wh : Int)), .int (eI (pr wh)), .int (eI (gr wh)), .int (eI (bs wh)), .int (eI (ho wh))])
theorem emod_of_tmod {a b : Int} (hb : 0 < b) : a % b = if a.tmod b < 0 then a.tmod b + b else a.tmod b := by
  have h1 := tmod_bounds (a := a) hb
  have h2 : a.tmod b = a - b * a.tdiv b := Int.tmod_def a b
  split
  · have h3 : a.tmod b + b = a + b * (1 - a.tdiv b) := by rw [h2, Int.mul_sub]; omega
    have h4 : (a.tmod b + b) % b = a % b := by rw [h3, Int.add_mul_emod_self_left]
    rw [← h4]; exact (Int.emod_eq_of_lt (by omega) (by omega))
  · have h3 : a.tmod b = a + b * (- a.tdiv b) := by rw [h2, Int.mul_neg]; omega
    have h4 : (a.tmod b) % b = a % b := by conv => lhs; rw [h3, Int.add_mul_emod_self_left]
    rw [← h4]; exact (Int.emod_eq_of_lt (by omega) (by omega))
theorem e_cmp_ge (a b : Int) : (0 ≤ e_cmp a b) ↔ b ≤ a := by unfold e_cmp; split <;> (try split) <;> omega
theorem e_cmp_le (a b : Int) : (e_cmp a b ≤ 0) ↔ a ≤ b := by unfold e_cmp; split <;> (try split) <;> omega
theorem e_cmp_ne (a b : Int) : (e_cmp a b ≠ 0) ↔ a ≠ b := by unfold e_cmp; split <;> (try split) <;> omega
theorem e_cmp_r (a b : Int) : e_r (e_cmp a b) := by unfold e_cmp; split <;> (try split) <;> decide
set_option maxHeartbeats 4000000 in
set_option maxRecDepth 100000 in
/-- v MOD p -/
theorem c_X1_modPrime {K : e_K} {l : Launch} {w : e_W} {n : Nat} {f wh : Nat} {v : Int} (hF : w f = some (FO wh)) (hwh : wh < 7) (hv : e_r8 v) : e_Met K l yX1_modPrime (Cond.code yX1_modPrime cX1_modPrime 5 (Option.some .int) :: e_TB) (0) (0) [.ref f, .long (eJ v)] w n (fun r w' n' => r = some (.int (eI (v % pr wh))) ∧ w' = w ∧ n' = n) (e_px0) := by
  refine e_ofV rfl (Nat.le_of_ble_eq_true rfl) ?_
  intro P9 E9 S9 M9 A9 B9 T9 C9 F hnm
  have hp := pr_rg wh hwh
  have hb := tmod_bounds (a := v) (show 0 < pr wh by omega)
  have hm := emod_of_tmod (a := v) (show 0 < pr wh by omega)
  refine e_aload_n F dX1_modPrime_0 rfl ?_
  refine e_get (ci := 1) (fi := 1) (q := (RX1, TX1, 5)) F (by first | assumption | exact e_up_s | (rw [e_up_n (by first | assumption | omega)]; first | assumption | exact e_up_s | (rw [e_up_n (by first | assumption | omega)]; first | assumption | exact e_up_s | (rw [e_up_n (by first | assumption | omega)]; first | assumption | exact e_up_s)))) rfl (by decide) w_fl_RX1_29 (by rfl) dX1_modPrime_1 ?_
  refine e_if_gt F 9 dX1_modPrime_4 (by decide) (⟨by omega, by omega⟩) (fun c_4 => ?_) (fun c_4 => ?_)
  · refine e_lload_n F dX1_modPrime_9 rfl ?_
    refine e_aload_n F dX1_modPrime_10 rfl ?_
    refine e_get (ci := 1) (fi := 1) (q := (RX1, TX1, 5)) F (by first | assumption | exact e_up_s | (rw [e_up_n (by first | assumption | omega)]; first | assumption | exact e_up_s | (rw [e_up_n (by first | assumption | omega)]; first | assumption | exact e_up_s | (rw [e_up_n (by first | assumption | omega)]; first | assumption | exact e_up_s)))) rfl (by decide) w_fl_RX1_29 (by rfl) dX1_modPrime_11 ?_
    refine e_i2l F dX1_modPrime_14 (⟨by omega, by omega⟩) ?_
    refine e_lrem F dX1_modPrime_15 (hv) (⟨by omega, by omega⟩) (by omega) ?_
    refine e_lstore_n F dX1_modPrime_16 (by decide) ?_
    refine e_lload_n F dX1_modPrime_17 rfl ?_
    refine e_lconst F dX1_modPrime_18 (y := 0) (by decide) ?_
    refine e_lcmp F dX1_modPrime_19 (⟨by omega, by omega⟩) (⟨by omega, by omega⟩) ?_
    refine e_if_ge F 33 dX1_modPrime_20 (by decide) (e_cmp_r _ _) (fun c_20 => ?_) (fun c_20 => ?_)
    ·
      rw [e_cmp_ge] at c_20
      refine e_lload_n F dX1_modPrime_33 rfl ?_
      refine e_l2i F dX1_modPrime_34 ?_
      refine e_iret F rfl (by omega) ?_ dX1_modPrime_35
      refine ⟨?_, rfl, rfl⟩
      rw [hm]
      first | rw [if_neg (by omega)] | rw [if_pos (by omega)]
    ·
      rw [e_cmp_ge] at c_20
      refine e_lload_n F dX1_modPrime_23 rfl ?_
      refine e_aload_n F dX1_modPrime_24 rfl ?_
      refine e_get (ci := 1) (fi := 1) (q := (RX1, TX1, 5)) F (by first | assumption | exact e_up_s | (rw [e_up_n (by first | assumption | omega)]; first | assumption | exact e_up_s | (rw [e_up_n (by first | assumption | omega)]; first | assumption | exact e_up_s | (rw [e_up_n (by first | assumption | omega)]; first | assumption | exact e_up_s)))) rfl (by decide) w_fl_RX1_29 (by rfl) dX1_modPrime_25 ?_
      refine e_i2l F dX1_modPrime_28 (⟨by omega, by omega⟩) ?_
      refine e_ladd F dX1_modPrime_29 ?_
      refine e_goto F 34 dX1_modPrime_30 (by decide) ?_
      refine e_l2i F dX1_modPrime_34 ?_
      refine e_iret F rfl (by omega) ?_ dX1_modPrime_35
      refine ⟨?_, rfl, rfl⟩
      rw [hm]
      first | rw [if_neg (by omega)] | rw [if_pos (by omega)]
  · exact absurd c_4 (by omega)
def e_pw (b : Int) (k : Nat) (m : Int) : Int := b ^ k % m
theorem e_pw_rg {b m : Int} {k : Nat} (hm : 0 < m) : 0 ≤ e_pw b k m ∧ e_pw b k m < m := ⟨Int.emod_nonneg _ (by omega), Int.emod_lt_of_pos _ hm⟩
theorem emod_mul_l (a b m : Int) : (a % m * b) % m = a * b % m := by rw [Int.mul_emod, Int.emod_emod_of_dvd _ (Int.dvd_refl m), ← Int.mul_emod]
theorem emod_mul_r (a b m : Int) : (a * (b % m)) % m = a * b % m := by rw [Int.mul_emod, Int.emod_emod_of_dvd _ (Int.dvd_refl m), ← Int.mul_emod]
theorem emod_pow (a m : Int) (k : Nat) : (a % m) ^ k % m = a ^ k % m := by
  induction k with
  | zero => rw [Int.pow_zero, Int.pow_zero]
  | succ k ih => rw [Int.pow_succ, Int.pow_succ, emod_mul_r, ← emod_mul_l, ih, emod_mul_l]
theorem pow_bit (x : Int) (k : Nat) : x ^ k = x ^ (k % 2) * (x * x) ^ (k / 2) := by
  have h : x * x = x ^ 2 := by rw [Int.pow_succ, Int.pow_succ, Int.pow_zero, Int.one_mul]
  rw [h, ← Int.pow_mul, ← Int.pow_add]
  congr 1
  omega
/-- one step of the power by bits -/
theorem raise_step {r x m : Int} {k : Nat} : (if k % 2 = 1 then r * x % m else r) * (x * x % m) ^ (k / 2) % m = r * x ^ k % m := by
  have h1 : ∀ y : Int, y * (x * x % m) ^ (k / 2) % m = y * (x * x) ^ (k / 2) % m := fun y => by
    rw [← emod_mul_r, emod_pow, emod_mul_r]
  rw [h1]
  conv => rhs; rw [pow_bit x k]
  split
  · rename_i hk
    rw [hk, emod_mul_l, Int.pow_succ, Int.pow_zero, Int.one_mul, Int.mul_assoc]
  · have hk : k % 2 = 0 := by omega
    rw [hk, Int.pow_zero, Int.one_mul]
theorem eJ_and1 {a : Int} (h0 : 0 ≤ a) (h1 : a < 9223372036854775808) : eJ a &&& eJ 1 = eJ (a % 2) := by
  obtain ⟨k, rfl⟩ : ∃ k : Nat, (k : Int) = a := ⟨a.toNat, by omega⟩
  apply Int64.toBitVec_inj.mp
  rw [Int64.toBitVec_and]
  show BitVec.ofInt 64 _ &&& BitVec.ofInt 64 1 = BitVec.ofInt 64 _
  rw [show ((k : Int) % 2) = ((k % 2 : Nat) : Int) from rfl, show (1 : Int) = ((1 : Nat) : Int) from rfl, BitVec.ofInt_natCast, BitVec.ofInt_natCast, BitVec.ofInt_natCast]
  apply BitVec.eq_of_toNat_eq
  rw [BitVec.toNat_and, BitVec.toNat_ofNat, BitVec.toNat_ofNat, BitVec.toNat_ofNat]
  rw [show 1 % 2 ^ 64 = 1 from rfl, Nat.and_one_is_mod]
  omega
theorem eJ_shr1 {a : Int} (h0 : 0 ≤ a) (h1 : a < 9223372036854775808) : eJ a >>> ((eI 1).toInt64 &&& 63) = eJ (a / 2) := by
  rw [← Int64.toInt_inj, eJ_toInt (by omega) (by omega)]
  have e1 : (eI 1).toInt64 &&& 63 = 1 := by decide
  rw [e1]
  show (BitVec.sshiftRight (eJ a).toBitVec ((1 : Int64).toBitVec.smod 64).toNat).toInt = _
  have e2 : ((1 : Int64).toBitVec.smod 64).toNat = 1 := by decide
  rw [e2, BitVec.toInt_sshiftRight]
  show (eJ a).toInt >>> 1 = _
  rw [eJ_toInt (by omega) h1, Int.shiftRight_eq_div_pow]
  rfl
theorem mul_rg {a b m : Int} (ha : 0 ≤ a) (ha2 : a < m) (hb : 0 ≤ b) (hb2 : b < m) (hm : m ≤ 36000109) : 0 ≤ a * b ∧ e_r8 (a * b) := by
  have h0 : 0 ≤ a * b := Int.mul_nonneg ha hb
  have h1 : a * b ≤ 36000109 * 36000109 := Int.mul_le_mul (by omega) (by omega) hb (by omega)
  exact ⟨h0, by omega, by omega⟩
theorem pow2_le {bit : Int} (h : 0 ≤ bit) : (2 : Int) ^ (63 - bit).toNat ≤ 9223372036854775808 := by
  have h1 : (2 : Nat) ^ (63 - bit).toNat ≤ 2 ^ 63 := Nat.pow_le_pow_right (by omega) (by omega)
  have h2 : (((2 : Nat) ^ (63 - bit).toNat : Nat) : Int) ≤ ((2 ^ 63 : Nat) : Int) := by exact_mod_cast h1
  rw [Int.natCast_pow] at h2
  exact h2
theorem pow2_half {bit op : Int} (h : 0 ≤ bit) (h2 : bit < 63) (h3 : op < 2 ^ (63 - bit).toNat) : op / 2 < 2 ^ (63 - (bit + 1)).toNat := by
  have e : (63 - bit).toNat = (63 - (bit + 1)).toNat + 1 := by omega
  rw [e, Int.pow_succ] at h3
  omega
set_option maxHeartbeats 4000000 in
set_option maxRecDepth 100000 in
/-- the power by bits -/
theorem c_X1_raise {K : e_K} {l : Launch} {w : e_W} {n : Nat} {b k m : Int} (hb1 : 0 ≤ b) (hb2 : b < m) (hm1 : 2 ≤ m) (hm2 : m ≤ 36000109) (hk1 : 0 ≤ k) (hk2 : k < 9223372036854775808) : e_Met K l yX1_raise (Cond.code yX1_raise cX1_raise 11 (Option.some .int) :: e_TB) (0) (0) [.int (eI b), .long (eJ k), .int (eI m)] w n (fun r w' n' => r = some (.int (eI (e_pw b k.toNat m))) ∧ w' = w ∧ n' = n) (e_px0) := by
  refine e_ofV rfl (Nat.le_of_ble_eq_true rfl) ?_
  intro P9 E9 S9 M9 A9 B9 T9 C9 F hnm
  have lp : ∀ (N : Nat) (bit res fac op : Int), (63 - bit).toNat < N → (0 ≤ bit ∧ bit ≤ 63 ∧ 0 ≤ res ∧ res < m ∧ 0 ≤ fac ∧ fac < m ∧ 0 ≤ op ∧ op < 2 ^ (63 - bit).toNat ∧ res * fac ^ op.toNat % m = e_pw b k.toNat m) → e_V K P9 l E9 (0) (0) S9 M9 A9 B9 T9 C9 11 (fun r w' n' => r = some (.int (eI (e_pw b k.toNat m))) ∧ w' = w ∧ n' = n) (e_px0) 19 [(0, .int (eI b)), (3, .int (eI m)), (4, .long (eJ res)), (6, .long (eJ fac)), (8, .long (eJ op)), (10, .int (eI bit))] [] w n (0) := by
    intro N
    induction N with
    | zero => intro bit res fac op hN; exact absurd hN (Nat.not_lt_zero _)
    | succ N ih =>
      intro bit res fac op hN ⟨h1, h2, h3, h4, h5, h6, h7, h8, h9⟩
      have hop : op < 9223372036854775808 := Int.lt_of_lt_of_le h8 (pow2_le h1)
      refine e_iload F dX1_raise_19 rfl ?_
      refine e_bipush F dX1_raise_21 (by decide) ?_
      refine e_icmp_ge F 74 dX1_raise_23 (by decide) (⟨by omega, by omega⟩) (⟨by omega, by omega⟩) (fun c_23 => ?_) (fun c_23 => ?_)
      · refine e_lload F dX1_raise_74 rfl ?_
        refine e_l2i F dX1_raise_76 ?_
        refine e_iret F rfl (by omega) ?_ dX1_raise_77
        refine ⟨?_, rfl, rfl⟩
        have ho : op.toNat = 0 := by
          rcases (show bit = 63 ∨ op ≤ 0 by omega) with q | q
          · subst q
            have h88 : op < 1 := h8
            omega
          · omega
        rw [ho, Int.pow_zero, Int.mul_one, Int.emod_eq_of_lt h3 h4] at h9
        rw [h9]
      · refine e_lload F dX1_raise_26 rfl ?_
        refine e_lconst F dX1_raise_28 (y := 0) (by decide) ?_
        refine e_lcmp F dX1_raise_29 (⟨by omega, by omega⟩) (⟨by omega, by omega⟩) ?_
        refine e_if_le F 74 dX1_raise_30 (by decide) (e_cmp_r _ _) (fun c_30 => ?_) (fun c_30 => ?_)
        ·
          rw [e_cmp_le] at c_30
          refine e_lload F dX1_raise_74 rfl ?_
          refine e_l2i F dX1_raise_76 ?_
          refine e_iret F rfl (by omega) ?_ dX1_raise_77
          refine ⟨?_, rfl, rfl⟩
          have ho : op.toNat = 0 := by
            rcases (show bit = 63 ∨ op ≤ 0 by omega) with q | q
            · subst q
              have h88 : op < 1 := h8
              omega
            · omega
          rw [ho, Int.pow_zero, Int.mul_one, Int.emod_eq_of_lt h3 h4] at h9
          rw [h9]
        ·
          rw [e_cmp_le] at c_30
          refine e_lload F dX1_raise_33 rfl ?_
          refine e_lconst F dX1_raise_35 (y := 1) (by decide) ?_
          refine e_land F dX1_raise_36 (eJ_and1 h7 hop) ?_
          refine e_lconst F dX1_raise_37 (y := 1) (by decide) ?_
          refine e_lcmp F dX1_raise_38 (⟨by omega, by omega⟩) (⟨by omega, by omega⟩) ?_
          refine e_if_ne F 52 dX1_raise_39 (by decide) (e_cmp_r _ _) (fun c_39 => ?_) (fun c_39 => ?_)
          ·
            rw [e_cmp_ne] at c_39
            have g1 := h3
            have g2 := h4
            refine e_lload F dX1_raise_52 rfl ?_
            refine e_lload F dX1_raise_54 rfl ?_
            refine e_lmul F dX1_raise_56 ?_
            refine e_iload_n F dX1_raise_57 rfl ?_
            refine e_i2l F dX1_raise_58 (⟨by omega, by omega⟩) ?_
            refine e_lrem F dX1_raise_59 ((mul_rg h5 h6 h5 h6 hm2).2) (⟨by omega, by omega⟩) (by omega) ?_
            rw [Int.tmod_eq_emod_of_nonneg (mul_rg h5 h6 h5 h6 hm2).1]
            have g3 : 0 ≤ fac * fac % m := Int.emod_nonneg _ (by omega)
            have g4 : fac * fac % m < m := Int.emod_lt_of_pos _ (by omega)
            refine e_lstore F dX1_raise_60 (by decide) ?_
            refine e_lload F dX1_raise_62 rfl ?_
            refine e_iconst F dX1_raise_64 ?_
            refine e_lshr F dX1_raise_65 (eJ_shr1 h7 hop) ?_
            have g5 := raise_step (r := res) (x := fac) (m := m) (k := op.toNat)
            first | rw [if_pos (by omega), h9] at g5 | rw [if_neg (by omega), h9] at g5
            rw [show op.toNat / 2 = (op / 2).toNat by omega] at g5
            have g6 : op / 2 < 2 ^ (63 - (bit + 1)).toNat := pow2_half h1 (by omega) h8
            refine e_lstore F dX1_raise_66 (by decide) ?_
            refine e_iinc F dX1_raise_68 rfl (by decide) ?_
            refine e_goto F 19 dX1_raise_71 (by decide) ?_
            exact e_go (ih _ _ _ _ (by omega) ⟨by omega, by omega, g1, g2, g3, g4, by omega, g6, g5⟩) (And.intro rfl (And.intro rfl (And.intro rfl (And.intro rfl (And.intro rfl (And.intro rfl (trivial)))))))
          ·
            rw [← Classical.not_not (a := e_cmp (op % 2) 1 = 0)] at c_39
            rw [show ¬ e_cmp (op % 2) 1 = 0 ↔ e_cmp (op % 2) 1 ≠ 0 from Iff.rfl, e_cmp_ne] at c_39
            have g1 : 0 ≤ res * fac % m := Int.emod_nonneg _ (by omega)
            have g2 : res * fac % m < m := Int.emod_lt_of_pos _ (by omega)
            refine e_lload F dX1_raise_42 rfl ?_
            refine e_lload F dX1_raise_44 rfl ?_
            refine e_lmul F dX1_raise_46 ?_
            refine e_iload_n F dX1_raise_47 rfl ?_
            refine e_i2l F dX1_raise_48 (⟨by omega, by omega⟩) ?_
            refine e_lrem F dX1_raise_49 ((mul_rg h3 h4 h5 h6 hm2).2) (⟨by omega, by omega⟩) (by omega) ?_
            rw [Int.tmod_eq_emod_of_nonneg (mul_rg h3 h4 h5 h6 hm2).1]
            refine e_lstore F dX1_raise_50 (by decide) ?_
            refine e_lload F dX1_raise_52 rfl ?_
            refine e_lload F dX1_raise_54 rfl ?_
            refine e_lmul F dX1_raise_56 ?_
            refine e_iload_n F dX1_raise_57 rfl ?_
            refine e_i2l F dX1_raise_58 (⟨by omega, by omega⟩) ?_
            refine e_lrem F dX1_raise_59 ((mul_rg h5 h6 h5 h6 hm2).2) (⟨by omega, by omega⟩) (by omega) ?_
            rw [Int.tmod_eq_emod_of_nonneg (mul_rg h5 h6 h5 h6 hm2).1]
            have g3 : 0 ≤ fac * fac % m := Int.emod_nonneg _ (by omega)
            have g4 : fac * fac % m < m := Int.emod_lt_of_pos _ (by omega)
            refine e_lstore F dX1_raise_60 (by decide) ?_
            refine e_lload F dX1_raise_62 rfl ?_
            refine e_iconst F dX1_raise_64 ?_
            refine e_lshr F dX1_raise_65 (eJ_shr1 h7 hop) ?_
            have g5 := raise_step (r := res) (x := fac) (m := m) (k := op.toNat)
            first | rw [if_pos (by omega), h9] at g5 | rw [if_neg (by omega), h9] at g5
            rw [show op.toNat / 2 = (op / 2).toNat by omega] at g5
            have g6 : op / 2 < 2 ^ (63 - (bit + 1)).toNat := pow2_half h1 (by omega) h8
            refine e_lstore F dX1_raise_66 (by decide) ?_
            refine e_iinc F dX1_raise_68 rfl (by decide) ?_
            refine e_goto F 19 dX1_raise_71 (by decide) ?_
            exact e_go (ih _ _ _ _ (by omega) ⟨by omega, by omega, g1, g2, g3, g4, by omega, g6, g5⟩) (And.intro rfl (And.intro rfl (And.intro rfl (And.intro rfl (And.intro rfl (And.intro rfl (trivial)))))))
  refine e_iload_n F dX1_raise_0 rfl ?_
  refine e_if_gt F 6 dX1_raise_1 (by decide) (⟨by omega, by omega⟩) (fun c_1 => ?_) (fun c_1 => ?_)
  · refine e_lconst F dX1_raise_6 (y := 1) (by decide) ?_
    refine e_lstore F dX1_raise_7 (by decide) ?_
    refine e_iload_n F dX1_raise_9 rfl ?_
    refine e_i2l F dX1_raise_10 (⟨by omega, by omega⟩) ?_
    refine e_lstore F dX1_raise_11 (by decide) ?_
    refine e_lload_n F dX1_raise_13 rfl ?_
    refine e_lstore F dX1_raise_14 (by decide) ?_
    refine e_iconst F dX1_raise_16 ?_
    refine e_istore F dX1_raise_17 (by decide) ?_
    exact e_go (lp 64 0 1 b k (by omega) ⟨by omega, by omega, by omega, by omega, hb1, hb2, hk1, hk2, by rw [Int.one_mul]; rfl⟩) (And.intro rfl (And.intro rfl (And.intro rfl (And.intro rfl (And.intro rfl (And.intro rfl (trivial)))))))
  · exact absurd c_1 (by omega)
end
section
/-! bits of sets, and Math.min, Math.max, Integer.bitCount -/
abbrev hs (set h : Int) : Prop := set / 2 ^ (h - 1).toNat % 2 = 1
def b01 (c : Prop) [Decidable c] : Int := if c then 1 else 0
theorem b01_or (c : Prop) [Decidable c] : b01 c = 0 ∨ b01 c = 1 := by unfold b01; split <;> omega
theorem b01_r (c : Prop) [Decidable c] : e_r (b01 c) := by unfold b01; split <;> decide
theorem b01_t {c : Prop} [Decidable c] (h : c) : b01 c = 1 := if_pos h
theorem b01_f {c : Prop} [Decidable c] (h : ¬ c) : b01 c = 0 := if_neg h
theorem b01_0 {c : Prop} [Decidable c] : b01 c = 0 ↔ ¬ c := by unfold b01; split <;> simp_all
theorem b01_1 {c : Prop} [Decidable c] : b01 c = 1 ↔ c := by unfold b01; split <;> simp_all
theorem eI_sh_k : ∀ k : Nat, k < 31 → ((eI (k : Int) &&& 31).toBitVec.smod 32).toNat = k := by decide +kernel
theorem div_rg {a : Int} (k : Nat) (h0 : 0 ≤ a) (h1 : a < 2147483648) : 0 ≤ a / 2 ^ k ∧ a / 2 ^ k < 2147483648 := by
  have hp : (0 : Int) < 2 ^ k := Int.pow_pos (by omega)
  exact ⟨Int.ediv_nonneg h0 (by omega), Int.lt_of_le_of_lt (Int.ediv_le_self _ h0) h1⟩
theorem eI_shr {a i : Int} (h2 : 0 ≤ a) (h3 : a < 2147483648) (h0 : 0 ≤ i) (h1 : i < 31) : eI a >>> (eI i &&& 31) = eI (a / 2 ^ i.toNat) := by
  have hk := eI_sh_k i.toNat (by omega)
  rw [Int.toNat_of_nonneg h0] at hk
  have hd := div_rg i.toNat h2 h3
  rw [← Int32.toInt_inj, pk_shr _ _ i.toNat hk, eI_toInt (by omega) h3, eI_toInt (by omega) hd.2, Int.shiftRight_eq_div_pow]
  norm_cast
theorem eI_and1 {a : Int} (h0 : 0 ≤ a) (h1 : a < 2147483648) : eI a &&& eI 1 = eI (a % 2) := by
  obtain ⟨k, rfl⟩ : ∃ k : Nat, (k : Int) = a := ⟨a.toNat, by omega⟩
  exact pk_andN (n := k) (by omega) (m := eI 1) 1 (by decide)
theorem eI_shl1 : ∀ k : Nat, k < 8 → eI 1 <<< (eI (k : Int) &&& 31) = eI (2 ^ k) := by decide +kernel
set_option maxHeartbeats 4000000 in
set_option maxRecDepth 100000 in
/-- is the holder in the set -/
theorem c_X3_isIn {K : e_K} {l : Launch} {w : e_W} {n : Nat} {set h : Int} (h0 : 0 ≤ set) (h1 : set < 2147483648) (h2 : 1 ≤ h) (h3 : h ≤ 7) : e_Met K l yX3_isIn (Cond.code yX3_isIn cX3_isIn 2 (Option.some .boolean) :: e_TB) (0) (0) [.int (eI set), .int (eI h)] w n (fun r w' n' => r = some (.int (eI (b01 (hs set h)))) ∧ w' = w ∧ n' = n) (e_px0) := by
  refine e_ofV rfl (Nat.le_of_ble_eq_true rfl) ?_
  intro P9 E9 S9 M9 A9 B9 T9 C9 F hnm
  refine e_iload_n F dX3_isIn_0 rfl ?_
  refine e_iload_n F dX3_isIn_1 rfl ?_
  refine e_iconst F dX3_isIn_2 ?_
  refine e_isub F dX3_isIn_3 ?_
  refine e_ishr F dX3_isIn_4 (eI_shr h0 h1 (by omega) (by omega)) ?_
  have hd := div_rg (h - 1).toNat h0 h1
  refine e_iconst F dX3_isIn_5 ?_
  refine e_iand F dX3_isIn_6 (eI_and1 hd.1 hd.2) ?_
  refine e_iconst F dX3_isIn_7 ?_
  refine e_icmp_ne F 15 dX3_isIn_8 (by decide) (⟨by omega, by omega⟩) (⟨by omega, by omega⟩) (fun c_8 => ?_) (fun c_8 => ?_)
  · refine e_iconst F dX3_isIn_15 ?_
    refine e_zret F rfl (by omega) (by omega) ?_ dX3_isIn_16
    refine ⟨?_, rfl, rfl⟩
    first | rw [b01_f (by unfold hs; omega)] | rw [b01_t (by unfold hs; omega)]
  · refine e_iconst F dX3_isIn_11 ?_
    refine e_goto F 16 dX3_isIn_12 (by decide) ?_
    refine e_zret F rfl (by omega) (by omega) ?_ dX3_isIn_16
    refine ⟨?_, rfl, rfl⟩
    first | rw [b01_f (by unfold hs; omega)] | rw [b01_t (by unfold hs; omega)]
set_option maxHeartbeats 4000000 in
set_option maxRecDepth 100000 in
theorem c_X3_bitOf {K : e_K} {l : Launch} {w : e_W} {n : Nat} {h : Int} (h2 : 1 ≤ h) (h3 : h ≤ 8) : e_Met K l yX3_bitOf (Cond.code yX3_bitOf cX3_bitOf 1 (Option.some .int) :: e_TB) (0) (0) [.int (eI h)] w n (fun r w' n' => r = some (.int (eI (2 ^ (h - 1).toNat))) ∧ w' = w ∧ n' = n) (e_px0) := by
  refine e_ofV rfl (Nat.le_of_ble_eq_true rfl) ?_
  intro P9 E9 S9 M9 A9 B9 T9 C9 F hnm
  refine e_iconst F dX3_bitOf_0 ?_
  refine e_iload_n F dX3_bitOf_1 rfl ?_
  refine e_iconst F dX3_bitOf_2 ?_
  refine e_isub F dX3_bitOf_3 ?_
  refine e_ishl F dX3_bitOf_4 (by have := eI_shl1 (h - 1).toNat (by omega); rwa [Int.toNat_of_nonneg (by omega)] at this) ?_
  refine e_iret F rfl (by omega) ?_ dX3_bitOf_5
  exact ⟨rfl, rfl, rfl⟩
/-- how many are in a set -/
def bc (s : Int) : Int := s % 2 + s / 2 % 2 + s / 4 % 2 + s / 8 % 2 + s / 16 % 2 + s / 32 % 2 + s / 64 % 2
set_option maxHeartbeats 4000000 in
set_option maxRecDepth 100000 in
theorem c_J6_bitCount_0f7a4 {K : e_K} {l : Launch} {w : e_W} {n : Nat} {k : Nat} (hk : k < 128) : e_Met K l yJ6_bitCount_0f7a4 (Cond.code yJ6_bitCount_0f7a4 cJ6_bitCount_0f7a4 1 (Option.some .int) :: e_TB) (0) (0) [.int (eI (k : Int))] w n (fun r w' n' => r = some (.int (eI (bc (k : Int)))) ∧ w' = w ∧ n' = n) (e_px0) := by
  refine e_ofV rfl (Nat.le_of_ble_eq_true rfl) ?_
  intro P9 E9 S9 M9 A9 B9 T9 C9 F hnm
  refine e_iload_n F dJ6_bitCount_0f7a4_0 rfl ?_
  refine e_iload_n F dJ6_bitCount_0f7a4_1 rfl ?_
  refine e_iconst F dJ6_bitCount_0f7a4_2 ?_
  refine e_iushr F dJ6_bitCount_0f7a4_3 ((eI_self _).symm) ?_
  refine e_ldcw F dJ6_bitCount_0f7a4_4 w_k_RJ6_265 ?_
  refine e_iand F dJ6_bitCount_0f7a4_7 ((eI_self _).symm) ?_
  refine e_isub F dJ6_bitCount_0f7a4_8 ?_
  refine e_istore_n F dJ6_bitCount_0f7a4_9 (by decide) ?_
  refine e_iload_n F dJ6_bitCount_0f7a4_10 rfl ?_
  refine e_ldcw F dJ6_bitCount_0f7a4_11 w_k_RJ6_266 ?_
  refine e_iand F dJ6_bitCount_0f7a4_14 ((eI_self _).symm) ?_
  refine e_iload_n F dJ6_bitCount_0f7a4_15 rfl ?_
  refine e_iconst F dJ6_bitCount_0f7a4_16 ?_
  refine e_iushr F dJ6_bitCount_0f7a4_17 ((eI_self _).symm) ?_
  refine e_ldcw F dJ6_bitCount_0f7a4_18 w_k_RJ6_266 ?_
  refine e_iand F dJ6_bitCount_0f7a4_21 ((eI_self _).symm) ?_
  refine e_iadd F dJ6_bitCount_0f7a4_22 ?_
  refine e_istore_n F dJ6_bitCount_0f7a4_23 (by decide) ?_
  refine e_iload_n F dJ6_bitCount_0f7a4_24 rfl ?_
  refine e_iload_n F dJ6_bitCount_0f7a4_25 rfl ?_
  refine e_iconst F dJ6_bitCount_0f7a4_26 ?_
  refine e_iushr F dJ6_bitCount_0f7a4_27 ((eI_self _).symm) ?_
  refine e_iadd F dJ6_bitCount_0f7a4_28 ?_
  refine e_ldcw F dJ6_bitCount_0f7a4_29 w_k_RJ6_267 ?_
  refine e_iand F dJ6_bitCount_0f7a4_32 ((eI_self _).symm) ?_
  refine e_istore_n F dJ6_bitCount_0f7a4_33 (by decide) ?_
  refine e_iload_n F dJ6_bitCount_0f7a4_34 rfl ?_
  refine e_iload_n F dJ6_bitCount_0f7a4_35 rfl ?_
  refine e_bipush F dJ6_bitCount_0f7a4_36 (by decide) ?_
  refine e_iushr F dJ6_bitCount_0f7a4_38 ((eI_self _).symm) ?_
  refine e_iadd F dJ6_bitCount_0f7a4_39 ?_
  refine e_istore_n F dJ6_bitCount_0f7a4_40 (by decide) ?_
  refine e_iload_n F dJ6_bitCount_0f7a4_41 rfl ?_
  refine e_iload_n F dJ6_bitCount_0f7a4_42 rfl ?_
  refine e_bipush F dJ6_bitCount_0f7a4_43 (by decide) ?_
  refine e_iushr F dJ6_bitCount_0f7a4_45 ((eI_self _).symm) ?_
  refine e_iadd F dJ6_bitCount_0f7a4_46 ?_
  refine e_istore_n F dJ6_bitCount_0f7a4_47 (by decide) ?_
  refine e_iload_n F dJ6_bitCount_0f7a4_48 rfl ?_
  refine e_bipush F dJ6_bitCount_0f7a4_49 (by decide) ?_
  refine e_iand F dJ6_bitCount_0f7a4_51 ((eI_self _).symm) ?_
  refine e_iret F rfl (by omega) ?_ dJ6_bitCount_0f7a4_52
  refine ⟨?_, rfl, rfl⟩
  revert k
  decide +kernel
end
section
/-! Field: the rest -/
def iv (wh : Nat) (v : Int) : Int := e_pw v (pr wh - 2).toNat (pr wh)
def ivq (wh : Nat) (v : Int) : Int := e_pw v (gr wh - 2).toNat (gr wh)
def sl (wh : Nat) (v : Int) : Int := e_pw (bs wh) (v % pr wh).toNat (gr wh)
theorem iv_rg {wh : Nat} {v : Int} (h : wh < 7) : 0 ≤ iv wh v ∧ iv wh v < pr wh := e_pw_rg (by have := pr_rg wh h; omega)
theorem ivq_rg {wh : Nat} {v : Int} (h : wh < 7) : 0 ≤ ivq wh v ∧ ivq wh v < gr wh := e_pw_rg (by have := gr_rg wh h; omega)
theorem sl_rg {wh : Nat} {v : Int} (h : wh < 7) : 0 ≤ sl wh v ∧ sl wh v < gr wh := e_pw_rg (by have := gr_rg wh h; omega)
theorem emod_rg {wh : Nat} (v : Int) (h : wh < 7) : 0 ≤ v % pr wh ∧ v % pr wh < pr wh := by
  have := pr_rg wh h
  exact ⟨Int.emod_nonneg _ (by omega), Int.emod_lt_of_pos _ (by omega)⟩
/-- product of (x - j), j the others of the set, up to the holder k -/
def wpr (p x h set : Int) : Nat → Int
  | 0 => 1
  | k + 1 => if ((k : Int) + 1 ≠ h ∧ hs set ((k : Int) + 1)) then (wpr p x h set k * (x - ((k : Int) + 1))) % p else wpr p x h set k
def wgt (wh : Nat) (set h x : Int) : Int := wpr (pr wh) (x % pr wh) h set (ho wh).toNat * iv wh (wpr (pr wh) h h set (ho wh).toNat) % pr wh
theorem wpr_rg {p x h set : Int} (hp : 2 ≤ p) (k : Nat) : 0 ≤ wpr p x h set k ∧ wpr p x h set k < p := by
  induction k with
  | zero => unfold wpr; omega
  | succ k ih =>
    unfold wpr
    split
    · exact ⟨Int.emod_nonneg _ (by omega), Int.emod_lt_of_pos _ (by omega)⟩
    · exact ih
theorem mul_rg2 {a b : Int} (ha : 0 ≤ a) (ha2 : a ≤ 36000109) (hb : -2147483700 ≤ b) (hb2 : b ≤ 2147483700) : e_r8 (a * b) := by
  have h1 : a * b ≤ a * 2147483700 := Int.mul_le_mul_of_nonneg_left hb2 ha
  have h2 : a * (-2147483700) ≤ a * b := Int.mul_le_mul_of_nonneg_left hb ha
  constructor <;> omega
set_option maxHeartbeats 4000000 in
set_option maxRecDepth 100000 in
theorem c_X1_inverse {K : e_K} {l : Launch} {w : e_W} {n : Nat} {v : Int} {f wh : Nat} (hF : w f = some (FO wh)) (hwh : wh < 7) (hv1 : 0 ≤ v) (hv2 : v < pr wh) : e_Met K l yX1_inverse (Cond.code yX1_inverse cX1_inverse 2 (Option.some .int) :: e_TB) (1) (0) [.ref f, .int (eI v)] w n (fun r w' n' => r = some (.int (eI (iv wh v))) ∧ w' = w ∧ n' = n) (e_px0) := by
  refine e_ofV rfl (Nat.le_of_ble_eq_true rfl) ?_
  intro P9 E9 S9 M9 A9 B9 T9 C9 F hnm
  have hp := pr_rg wh hwh
  have hg := gr_rg wh hwh
  have hb := bs_rg wh hwh
  have hbg := bs_gr wh hwh
  have ho9 := ho_rg wh hwh
  refine e_iload_n F dX1_inverse_0 rfl ?_
  refine e_aload_n F dX1_inverse_1 rfl ?_
  refine e_get (ci := 1) (fi := 1) (q := (RX1, TX1, 5)) F (by first | assumption | exact e_up_s | (rw [e_up_n (by first | assumption | omega)]; first | assumption | exact e_up_s | (rw [e_up_n (by first | assumption | omega)]; first | assumption | exact e_up_s | (rw [e_up_n (by first | assumption | omega)]; first | assumption | exact e_up_s)))) rfl (by decide) w_fl_RX1_29 (by rfl) dX1_inverse_2 ?_
  refine e_iconst F dX1_inverse_5 ?_
  refine e_isub F dX1_inverse_6 ?_
  refine e_i2l F dX1_inverse_7 (⟨by omega, by omega⟩) ?_
  refine e_aload_n F dX1_inverse_8 rfl ?_
  refine e_get (ci := 1) (fi := 1) (q := (RX1, TX1, 5)) F (by first | assumption | exact e_up_s | (rw [e_up_n (by first | assumption | omega)]; first | assumption | exact e_up_s | (rw [e_up_n (by first | assumption | omega)]; first | assumption | exact e_up_s | (rw [e_up_n (by first | assumption | omega)]; first | assumption | exact e_up_s)))) rfl (by decide) w_fl_RX1_29 (by rfl) dX1_inverse_9 ?_
  refine e_callSS F u_X1_raise (by rfl) (c_X1_raise hv1 hv2 (by omega) (by omega) (by omega) (by omega)) w_ml_RX1_47 dX1_inverse_12 (by rfl) (Nat.le_of_ble_eq_true rfl) (by decide) (by omega) (fun _ _ _ h _ => h.elim) (fun r_12 w_12 n_12 h_12 hn_12 => ?_)
  obtain ⟨rfl, rfl, rfl⟩ := h_12
  refine e_iret F rfl (by omega) ?_ dX1_inverse_15
  exact ⟨rfl, rfl, rfl⟩
set_option maxHeartbeats 4000000 in
set_option maxRecDepth 100000 in
theorem c_X1_inverseSeal {K : e_K} {l : Launch} {w : e_W} {n : Nat} {v : Int} {f wh : Nat} (hF : w f = some (FO wh)) (hwh : wh < 7) (hv1 : 0 ≤ v) (hv2 : v < gr wh) : e_Met K l yX1_inverseSeal (Cond.code yX1_inverseSeal cX1_inverseSeal 2 (Option.some .int) :: e_TB) (1) (0) [.ref f, .int (eI v)] w n (fun r w' n' => r = some (.int (eI (ivq wh v))) ∧ w' = w ∧ n' = n) (e_px0) := by
  refine e_ofV rfl (Nat.le_of_ble_eq_true rfl) ?_
  intro P9 E9 S9 M9 A9 B9 T9 C9 F hnm
  have hp := pr_rg wh hwh
  have hg := gr_rg wh hwh
  have hb := bs_rg wh hwh
  have hbg := bs_gr wh hwh
  have ho9 := ho_rg wh hwh
  refine e_iload_n F dX1_inverseSeal_0 rfl ?_
  refine e_aload_n F dX1_inverseSeal_1 rfl ?_
  refine e_get (ci := 1) (fi := 2) (q := (RX1, TX1, 5)) F (by first | assumption | exact e_up_s | (rw [e_up_n (by first | assumption | omega)]; first | assumption | exact e_up_s | (rw [e_up_n (by first | assumption | omega)]; first | assumption | exact e_up_s | (rw [e_up_n (by first | assumption | omega)]; first | assumption | exact e_up_s)))) rfl (by decide) w_fl_RX1_32 (by rfl) dX1_inverseSeal_2 ?_
  refine e_iconst F dX1_inverseSeal_5 ?_
  refine e_isub F dX1_inverseSeal_6 ?_
  refine e_i2l F dX1_inverseSeal_7 (⟨by omega, by omega⟩) ?_
  refine e_aload_n F dX1_inverseSeal_8 rfl ?_
  refine e_get (ci := 1) (fi := 2) (q := (RX1, TX1, 5)) F (by first | assumption | exact e_up_s | (rw [e_up_n (by first | assumption | omega)]; first | assumption | exact e_up_s | (rw [e_up_n (by first | assumption | omega)]; first | assumption | exact e_up_s | (rw [e_up_n (by first | assumption | omega)]; first | assumption | exact e_up_s)))) rfl (by decide) w_fl_RX1_32 (by rfl) dX1_inverseSeal_9 ?_
  refine e_callSS F u_X1_raise (by rfl) (c_X1_raise hv1 hv2 (by omega) (by omega) (by omega) (by omega)) w_ml_RX1_47 dX1_inverseSeal_12 (by rfl) (Nat.le_of_ble_eq_true rfl) (by decide) (by omega) (fun _ _ _ h _ => h.elim) (fun r_12 w_12 n_12 h_12 hn_12 => ?_)
  obtain ⟨rfl, rfl, rfl⟩ := h_12
  refine e_iret F rfl (by omega) ?_ dX1_inverseSeal_15
  exact ⟨rfl, rfl, rfl⟩
set_option maxHeartbeats 4000000 in
set_option maxRecDepth 100000 in
theorem c_X1_sealProduct {K : e_K} {l : Launch} {w : e_W} {n : Nat} {a b : Int} {f wh : Nat} (hF : w f = some (FO wh)) (hwh : wh < 7) (ha1 : 0 ≤ a) (ha2 : a < gr wh) (hb1 : 0 ≤ b) (hb2 : b < gr wh) : e_Met K l yX1_sealProduct (Cond.code yX1_sealProduct cX1_sealProduct 3 (Option.some .int) :: e_TB) (0) (0) [.ref f, .int (eI a), .int (eI b)] w n (fun r w' n' => r = some (.int (eI (a * b % gr wh))) ∧ w' = w ∧ n' = n) (e_px0) := by
  refine e_ofV rfl (Nat.le_of_ble_eq_true rfl) ?_
  intro P9 E9 S9 M9 A9 B9 T9 C9 F hnm
  have hp := pr_rg wh hwh
  have hg := gr_rg wh hwh
  have hb := bs_rg wh hwh
  have hbg := bs_gr wh hwh
  have ho9 := ho_rg wh hwh
  have hm := mul_rg ha1 ha2 hb1 hb2 hg.2
  refine e_aload_n F dX1_sealProduct_0 rfl ?_
  refine e_get (ci := 1) (fi := 2) (q := (RX1, TX1, 5)) F (by first | assumption | exact e_up_s | (rw [e_up_n (by first | assumption | omega)]; first | assumption | exact e_up_s | (rw [e_up_n (by first | assumption | omega)]; first | assumption | exact e_up_s | (rw [e_up_n (by first | assumption | omega)]; first | assumption | exact e_up_s)))) rfl (by decide) w_fl_RX1_32 (by rfl) dX1_sealProduct_1 ?_
  refine e_if_gt F 11 dX1_sealProduct_4 (by decide) (⟨by omega, by omega⟩) (fun c_4 => ?_) (fun c_4 => ?_)
  · refine e_iload_n F dX1_sealProduct_11 rfl ?_
    refine e_i2l F dX1_sealProduct_12 (⟨by omega, by omega⟩) ?_
    refine e_iload_n F dX1_sealProduct_13 rfl ?_
    refine e_i2l F dX1_sealProduct_14 (⟨by omega, by omega⟩) ?_
    refine e_lmul F dX1_sealProduct_15 ?_
    refine e_aload_n F dX1_sealProduct_16 rfl ?_
    refine e_get (ci := 1) (fi := 2) (q := (RX1, TX1, 5)) F (by first | assumption | exact e_up_s | (rw [e_up_n (by first | assumption | omega)]; first | assumption | exact e_up_s | (rw [e_up_n (by first | assumption | omega)]; first | assumption | exact e_up_s | (rw [e_up_n (by first | assumption | omega)]; first | assumption | exact e_up_s)))) rfl (by decide) w_fl_RX1_32 (by rfl) dX1_sealProduct_17 ?_
    refine e_i2l F dX1_sealProduct_20 (⟨by omega, by omega⟩) ?_
    refine e_lrem F dX1_sealProduct_21 (hm.2) (⟨by omega, by omega⟩) (by omega) ?_
    rw [Int.tmod_eq_emod_of_nonneg hm.1]
    refine e_l2i F dX1_sealProduct_22 ?_
    refine e_iret F rfl (by omega) ?_ dX1_sealProduct_23
    exact ⟨rfl, rfl, rfl⟩
  · exact absurd c_4 (by omega)
set_option maxHeartbeats 4000000 in
set_option maxRecDepth 100000 in
theorem c_X1_sealFor {K : e_K} {l : Launch} {w : e_W} {n : Nat} {v : Int} {f wh : Nat} (hF : w f = some (FO wh)) (hwh : wh < 7) (hv : e_r v) : e_Met K l yX1_sealFor (Cond.code yX1_sealFor cX1_sealFor 2 (Option.some .int) :: e_TB) (1) (0) [.ref f, .int (eI v)] w n (fun r w' n' => r = some (.int (eI (sl wh v))) ∧ w' = w ∧ n' = n) (e_px0) := by
  refine e_ofV rfl (Nat.le_of_ble_eq_true rfl) ?_
  intro P9 E9 S9 M9 A9 B9 T9 C9 F hnm
  have hp := pr_rg wh hwh
  have hg := gr_rg wh hwh
  have hb := bs_rg wh hwh
  have hbg := bs_gr wh hwh
  have ho9 := ho_rg wh hwh
  have hm := emod_rg v hwh
  refine e_aload_n F dX1_sealFor_0 rfl ?_
  refine e_get (ci := 1) (fi := 3) (q := (RX1, TX1, 5)) F (by first | assumption | exact e_up_s | (rw [e_up_n (by first | assumption | omega)]; first | assumption | exact e_up_s | (rw [e_up_n (by first | assumption | omega)]; first | assumption | exact e_up_s | (rw [e_up_n (by first | assumption | omega)]; first | assumption | exact e_up_s)))) rfl (by decide) w_fl_RX1_35 (by rfl) dX1_sealFor_1 ?_
  refine e_aload_n F dX1_sealFor_4 rfl ?_
  refine e_iload_n F dX1_sealFor_5 rfl ?_
  refine e_i2l F dX1_sealFor_6 (hv) ?_
  refine e_callVV F u_X1_modPrime (by rfl) (c_X1_modPrime hF hwh ⟨by omega, by omega⟩) (by first | assumption | exact e_up_s | (rw [e_up_n (by first | assumption | omega)]; first | assumption | exact e_up_s | (rw [e_up_n (by first | assumption | omega)]; first | assumption | exact e_up_s | (rw [e_up_n (by first | assumption | omega)]; first | assumption | exact e_up_s)))) rfl rfl w_ml_RX1_51 dX1_sealFor_7 (by rfl) (Nat.le_of_ble_eq_true rfl) (by decide) (by omega) (fun _ _ _ h _ => h.elim) (fun r_7 w_7 n_7 h_7 hn_7 => ?_)
  obtain ⟨rfl, rfl, rfl⟩ := h_7
  refine e_i2l F dX1_sealFor_10 (⟨by omega, by omega⟩) ?_
  refine e_aload_n F dX1_sealFor_11 rfl ?_
  refine e_get (ci := 1) (fi := 2) (q := (RX1, TX1, 5)) F (by first | assumption | exact e_up_s | (rw [e_up_n (by first | assumption | omega)]; first | assumption | exact e_up_s | (rw [e_up_n (by first | assumption | omega)]; first | assumption | exact e_up_s | (rw [e_up_n (by first | assumption | omega)]; first | assumption | exact e_up_s)))) rfl (by decide) w_fl_RX1_32 (by rfl) dX1_sealFor_12 ?_
  refine e_callSS F u_X1_raise (by rfl) (c_X1_raise (by omega) hbg (by omega) hg.2 (by omega) (by omega)) w_ml_RX1_47 dX1_sealFor_15 (by rfl) (Nat.le_of_ble_eq_true rfl) (by decide) (by omega) (fun _ _ _ h _ => h.elim) (fun r_15 w_15 n_15 h_15 hn_15 => ?_)
  obtain ⟨rfl, rfl, rfl⟩ := h_15
  refine e_iret F rfl (by omega) ?_ dX1_sealFor_18
  exact ⟨rfl, rfl, rfl⟩
set_option maxHeartbeats 4000000 in
set_option maxRecDepth 100000 in
theorem c_X1_weightAt {K : e_K} {l : Launch} {w : e_W} {n : Nat} {set h x : Int} {f wh : Nat} (hF : w f = some (FO wh)) (hwh : wh < 7) (h1 : 0 ≤ set) (h2 : set < 2147483648) (h3 : 1 ≤ h) (h4 : h ≤ 7) (hx : e_r x) : e_Met K l yX1_weightAt (Cond.code yX1_weightAt cX1_weightAt 8 (Option.some .int) :: e_TB) (2) (0) [.ref f, .int (eI set), .int (eI h), .int (eI x)] w n (fun r w' n' => r = some (.int (eI (wgt wh set h x))) ∧ w' = w ∧ n' = n) (e_px0) := by
  refine e_ofV rfl (Nat.le_of_ble_eq_true rfl) ?_
  intro P9 E9 S9 M9 A9 B9 T9 C9 F hnm
  have hp := pr_rg wh hwh
  have hg := gr_rg wh hwh
  have hb := bs_rg wh hwh
  have hbg := bs_gr wh hwh
  have ho9 := ho_rg wh hwh
  have hxm := emod_rg x hwh
  have lp : ∀ (N : Nat) (j : Nat), ((ho wh).toNat - j) < N → (j : Int) ≤ ho wh → e_V K P9 l E9 (2) (0) S9 M9 A9 B9 T9 C9 8 (fun r w' n' => r = some (.int (eI (wgt wh set h x))) ∧ w' = w ∧ n' = n) (e_px0) 17 [(0, .ref f), (1, .int (eI set)), (2, .int (eI h)), (4, .int (eI (x % pr wh))), (5, .int (eI (wpr (pr wh) (x % pr wh) h set j))), (6, .int (eI (wpr (pr wh) h h set j))), (7, .int (eI ((j : Int) + 1)))] [] w n (0) := by
    intro N
    induction N with
    | zero => intro j hN; exact absurd hN (Nat.not_lt_zero _)
    | succ N ih =>
      intro j hN hj
      have ha := wpr_rg (x := x % pr wh) (h := h) (set := set) (show 2 ≤ pr wh by omega) j
      have hb9 := wpr_rg (x := h) (h := h) (set := set) (show 2 ≤ pr wh by omega) j
      refine e_iload F dX1_weightAt_17 rfl ?_
      refine e_aload_n F dX1_weightAt_19 rfl ?_
      refine e_get (ci := 1) (fi := 4) (q := (RX1, TX1, 5)) F (by first | assumption | exact e_up_s | (rw [e_up_n (by first | assumption | omega)]; first | assumption | exact e_up_s | (rw [e_up_n (by first | assumption | omega)]; first | assumption | exact e_up_s | (rw [e_up_n (by first | assumption | omega)]; first | assumption | exact e_up_s)))) rfl (by decide) w_fl_RX1_44 (by rfl) dX1_weightAt_20 ?_
      refine e_icmp_gt F 78 dX1_weightAt_23 (by decide) (⟨by omega, by omega⟩) (⟨by omega, by omega⟩) (fun c_23 => ?_) (fun c_23 => ?_)
      ·
        obtain rfl : j = (ho wh).toNat := by omega
        refine e_aload_n F dX1_weightAt_78 rfl ?_
        refine e_iload F dX1_weightAt_79 rfl ?_
        refine e_i2l F dX1_weightAt_81 (⟨by omega, by omega⟩) ?_
        refine e_aload_n F dX1_weightAt_82 rfl ?_
        refine e_iload F dX1_weightAt_83 rfl ?_
        refine e_callVV F u_X1_inverse (by rfl) (c_X1_inverse hF hwh (by omega) (by omega)) (by first | assumption | exact e_up_s | (rw [e_up_n (by first | assumption | omega)]; first | assumption | exact e_up_s | (rw [e_up_n (by first | assumption | omega)]; first | assumption | exact e_up_s | (rw [e_up_n (by first | assumption | omega)]; first | assumption | exact e_up_s)))) rfl rfl w_ml_RX1_59 dX1_weightAt_85 (by rfl) (Nat.le_of_ble_eq_true rfl) (by decide) (by omega) (fun _ _ _ h _ => h.elim) (fun r_85 w_85 n_85 h_85 hn_85 => ?_)
        obtain ⟨rfl, rfl, rfl⟩ := h_85
        have hiv := iv_rg (v := wpr (pr wh) h h set (ho wh).toNat) hwh
        refine e_i2l F dX1_weightAt_88 (⟨by omega, by omega⟩) ?_
        refine e_lmul F dX1_weightAt_89 ?_
        refine e_callVV F u_X1_modPrime (by rfl) (c_X1_modPrime hF hwh (mul_rg2 (by omega) (by omega) (by omega) (by omega))) (by first | assumption | exact e_up_s | (rw [e_up_n (by first | assumption | omega)]; first | assumption | exact e_up_s | (rw [e_up_n (by first | assumption | omega)]; first | assumption | exact e_up_s | (rw [e_up_n (by first | assumption | omega)]; first | assumption | exact e_up_s)))) rfl rfl w_ml_RX1_51 dX1_weightAt_90 (by rfl) (Nat.le_of_ble_eq_true rfl) (by decide) (by omega) (fun _ _ _ h _ => h.elim) (fun r_90 w_90 n_90 h_90 hn_90 => ?_)
        obtain ⟨rfl, rfl, rfl⟩ := h_90
        refine e_iret F rfl (by omega) ?_ dX1_weightAt_93
        exact ⟨rfl, rfl, rfl⟩
      · refine e_iload F dX1_weightAt_26 rfl ?_
        refine e_iload_n F dX1_weightAt_28 rfl ?_
        refine e_icmp_eq F 72 dX1_weightAt_29 (by decide) (⟨by omega, by omega⟩) (⟨by omega, by omega⟩) (fun c_29 => ?_) (fun c_29 => ?_)
        ·
          have q1 : wpr (pr wh) (x % pr wh) h set (j + 1) = wpr (pr wh) (x % pr wh) h set j := if_neg (fun q => q.1 c_29)
          have q2 : wpr (pr wh) h h set (j + 1) = wpr (pr wh) h h set j := if_neg (fun q => q.1 c_29)
          refine e_iinc F dX1_weightAt_72 rfl (by decide) ?_
          refine e_goto F 17 dX1_weightAt_75 (by decide) ?_
          refine e_go (ih (j + 1) (by omega) (by omega)) ?_
          rw [q1, q2]
          exact And.intro rfl (And.intro rfl (And.intro rfl (And.intro rfl (And.intro rfl (And.intro rfl (And.intro rfl (trivial)))))))
        · refine e_iload_n F dX1_weightAt_32 rfl ?_
          refine e_iload F dX1_weightAt_33 rfl ?_
          refine e_callSN F u_X3_isIn (by rfl) (c_X3_isIn h1 h2 (h := (j : Int) + 1) (by omega) (by omega)) w_mn_RX1_55 dX1_weightAt_35 (by rfl) (Nat.le_of_ble_eq_true rfl) (by decide) (by omega) (fun _ _ _ h _ => h.elim) (fun r_35 w_35 n_35 h_35 hn_35 => ?_)
          obtain ⟨rfl, rfl, rfl⟩ := h_35
          refine e_if_eq F 72 dX1_weightAt_38 (by decide) (b01_r _) (fun c_38 => ?_) (fun c_38 => ?_)
          ·
            rw [b01_0] at c_38
            have q1 : wpr (pr wh) (x % pr wh) h set (j + 1) = wpr (pr wh) (x % pr wh) h set j := if_neg (fun q => c_38 q.2)
            have q2 : wpr (pr wh) h h set (j + 1) = wpr (pr wh) h h set j := if_neg (fun q => c_38 q.2)
            refine e_iinc F dX1_weightAt_72 rfl (by decide) ?_
            refine e_goto F 17 dX1_weightAt_75 (by decide) ?_
            refine e_go (ih (j + 1) (by omega) (by omega)) ?_
            rw [q1, q2]
            exact And.intro rfl (And.intro rfl (And.intro rfl (And.intro rfl (And.intro rfl (And.intro rfl (And.intro rfl (trivial)))))))
          ·
            rw [b01_0, Classical.not_not] at c_38
            have q1 : wpr (pr wh) (x % pr wh) h set (j + 1) = (wpr (pr wh) (x % pr wh) h set j * (x % pr wh - ((j : Int) + 1))) % pr wh := if_pos ⟨c_29, c_38⟩
            have q2 : wpr (pr wh) h h set (j + 1) = (wpr (pr wh) h h set j * (h - ((j : Int) + 1))) % pr wh := if_pos ⟨c_29, c_38⟩
            refine e_aload_n F dX1_weightAt_41 rfl ?_
            refine e_iload F dX1_weightAt_42 rfl ?_
            refine e_i2l F dX1_weightAt_44 (⟨by omega, by omega⟩) ?_
            refine e_iload F dX1_weightAt_45 rfl ?_
            refine e_iload F dX1_weightAt_47 rfl ?_
            refine e_isub F dX1_weightAt_49 ?_
            refine e_i2l F dX1_weightAt_50 (⟨by omega, by omega⟩) ?_
            refine e_lmul F dX1_weightAt_51 ?_
            refine e_callVV F u_X1_modPrime (by rfl) (c_X1_modPrime hF hwh (mul_rg2 (by omega) (by omega) (by omega) (by omega))) (by first | assumption | exact e_up_s | (rw [e_up_n (by first | assumption | omega)]; first | assumption | exact e_up_s | (rw [e_up_n (by first | assumption | omega)]; first | assumption | exact e_up_s | (rw [e_up_n (by first | assumption | omega)]; first | assumption | exact e_up_s)))) rfl rfl w_ml_RX1_51 dX1_weightAt_52 (by rfl) (Nat.le_of_ble_eq_true rfl) (by decide) (by omega) (fun _ _ _ h _ => h.elim) (fun r_52 w_52 n_52 h_52 hn_52 => ?_)
            obtain ⟨rfl, rfl, rfl⟩ := h_52
            refine e_istore F dX1_weightAt_55 (by decide) ?_
            refine e_aload_n F dX1_weightAt_57 rfl ?_
            refine e_iload F dX1_weightAt_58 rfl ?_
            refine e_i2l F dX1_weightAt_60 (⟨by omega, by omega⟩) ?_
            refine e_iload_n F dX1_weightAt_61 rfl ?_
            refine e_iload F dX1_weightAt_62 rfl ?_
            refine e_isub F dX1_weightAt_64 ?_
            refine e_i2l F dX1_weightAt_65 (⟨by omega, by omega⟩) ?_
            refine e_lmul F dX1_weightAt_66 ?_
            refine e_callVV F u_X1_modPrime (by rfl) (c_X1_modPrime hF hwh (mul_rg2 (by omega) (by omega) (by omega) (by omega))) (by first | assumption | exact e_up_s | (rw [e_up_n (by first | assumption | omega)]; first | assumption | exact e_up_s | (rw [e_up_n (by first | assumption | omega)]; first | assumption | exact e_up_s | (rw [e_up_n (by first | assumption | omega)]; first | assumption | exact e_up_s)))) rfl rfl w_ml_RX1_51 dX1_weightAt_67 (by rfl) (Nat.le_of_ble_eq_true rfl) (by decide) (by omega) (fun _ _ _ h _ => h.elim) (fun r_67 w_67 n_67 h_67 hn_67 => ?_)
            obtain ⟨rfl, rfl, rfl⟩ := h_67
            refine e_istore F dX1_weightAt_70 (by decide) ?_
            refine e_iinc F dX1_weightAt_72 rfl (by decide) ?_
            refine e_goto F 17 dX1_weightAt_75 (by decide) ?_
            refine e_go (ih (j + 1) (by omega) (by omega)) ?_
            rw [q1, q2]
            exact And.intro rfl (And.intro rfl (And.intro rfl (And.intro rfl (And.intro rfl (And.intro rfl (And.intro rfl (trivial)))))))
  refine e_aload_n F dX1_weightAt_0 rfl ?_
  refine e_iload_n F dX1_weightAt_1 rfl ?_
  refine e_i2l F dX1_weightAt_2 (hx) ?_
  refine e_callVV F u_X1_modPrime (by rfl) (c_X1_modPrime hF hwh ⟨by omega, by omega⟩) (by first | assumption | exact e_up_s | (rw [e_up_n (by first | assumption | omega)]; first | assumption | exact e_up_s | (rw [e_up_n (by first | assumption | omega)]; first | assumption | exact e_up_s | (rw [e_up_n (by first | assumption | omega)]; first | assumption | exact e_up_s)))) rfl rfl w_ml_RX1_51 dX1_weightAt_3 (by rfl) (Nat.le_of_ble_eq_true rfl) (by decide) (by omega) (fun _ _ _ h _ => h.elim) (fun r_3 w_3 n_3 h_3 hn_3 => ?_)
  obtain ⟨rfl, rfl, rfl⟩ := h_3
  refine e_istore F dX1_weightAt_6 (by decide) ?_
  refine e_iconst F dX1_weightAt_8 ?_
  refine e_istore F dX1_weightAt_9 (by decide) ?_
  refine e_iconst F dX1_weightAt_11 ?_
  refine e_istore F dX1_weightAt_12 (by decide) ?_
  refine e_iconst F dX1_weightAt_14 ?_
  refine e_istore F dX1_weightAt_15 (by decide) ?_
  exact e_go (lp ((ho wh).toNat + 1) 0 (by omega) (by omega)) (And.intro rfl (And.intro rfl (And.intro rfl (And.intro rfl (And.intro rfl (And.intro rfl (And.intro rfl (trivial))))))))
set_option maxHeartbeats 4000000 in
set_option maxRecDepth 100000 in
theorem c_X1_choose {K : e_K} {l : Launch} {w : e_W} {n : Nat} {f wh : Nat} {x0 x1 x2 x3 x4 : Int} (hF : w f = some (.inl (1, [.int (eI x0), .int (eI x1), .int (eI x2), .int (eI x3), .int (eI x4)]))) (hwh : wh < 7) : e_Met K l yX1_choose (Cond.code yX1_choose cX1_choose 2 none :: e_TB) (1) (0) [.ref f, .int (eI (wh : Int))] w n (fun r w' n' => r = none ∧ w' f = some (FO wh) ∧ (∀ q, q ≠ f → w' q = w q) ∧ n' = n) (e_px0) := by
  refine e_ofV rfl (Nat.le_of_ble_eq_true rfl) ?_
  intro P9 E9 S9 M9 A9 B9 T9 C9 F hnm
  have hp := pr_rg wh hwh
  have hg := gr_rg wh hwh
  have hb := bs_rg wh hwh
  have hbg := bs_gr wh hwh
  have ho9 := ho_rg wh hwh
  refine e_iload_n F dX1_choose_0 rfl ?_
  refine e_if_lt F 28 dX1_choose_1 (by decide) (⟨by omega, by omega⟩) (fun c_1 => ?_) (fun c_1 => ?_)
  · exact absurd c_1 (by omega)
  · refine e_iload_n F dX1_choose_4 rfl ?_
    refine e_getsN F (i := 0) rfl w_fn_RX1_15 dX1_choose_5 ?_
    refine e_alenS F (i := 0) (by decide) dX1_choose_8 ?_
    refine e_icmp_ge F 28 dX1_choose_9 (by decide) (⟨by omega, by omega⟩) (⟨by omega, by omega⟩) (fun c_9 => ?_) (fun c_9 => ?_)
    · exact absurd c_9 (by omega)
    · refine e_iload_n F dX1_choose_12 rfl ?_
      refine e_getsN F (i := 1) rfl w_fn_RX1_19 dX1_choose_13 ?_
      refine e_alenS F (i := 1) (by decide) dX1_choose_16 ?_
      refine e_icmp_ge F 28 dX1_choose_17 (by decide) (⟨by omega, by omega⟩) (⟨by omega, by omega⟩) (fun c_17 => ?_) (fun c_17 => ?_)
      · exact absurd c_17 (by omega)
      · refine e_iload_n F dX1_choose_20 rfl ?_
        refine e_getsN F (i := 2) rfl w_fn_RX1_22 dX1_choose_21 ?_
        refine e_alenS F (i := 2) (by decide) dX1_choose_24 ?_
        refine e_icmp_lt F 29 dX1_choose_25 (by decide) (⟨by omega, by omega⟩) (⟨by omega, by omega⟩) (fun c_25 => ?_) (fun c_25 => ?_)
        · refine e_aload_n F dX1_choose_29 rfl ?_
          refine e_iload_n F dX1_choose_30 rfl ?_
          refine e_set (host := "") (ci := 1) (fi := 0) (q := (RX1, TX1, 5)) F (by first | assumption | exact e_up_s | (rw [e_up_n (by first | assumption | omega)]; first | assumption | exact e_up_s | (rw [e_up_n (by first | assumption | omega)]; first | assumption | exact e_up_s | (rw [e_up_n (by first | assumption | omega)]; first | assumption | exact e_up_s)))) rfl (by decide) w_fl_RX1_25 rfl (by rfl) (by rfl) (Nat.le_of_ble_eq_true rfl) dX1_choose_31 ?_
          refine e_aload_n F dX1_choose_34 rfl ?_
          refine e_getsN F (i := 0) rfl w_fn_RX1_15 dX1_choose_35 ?_
          refine e_iload_n F dX1_choose_38 rfl ?_
          refine e_ialdS F (i := 0) (by decide) (by omega) (by omega) dX1_choose_39 ?_
          refine e_set (host := "") (ci := 1) (fi := 1) (q := (RX1, TX1, 5)) F (by first | assumption | exact e_up_s | (rw [e_up_n (by first | assumption | omega)]; first | assumption | exact e_up_s | (rw [e_up_n (by first | assumption | omega)]; first | assumption | exact e_up_s | (rw [e_up_n (by first | assumption | omega)]; first | assumption | exact e_up_s)))) rfl (by decide) w_fl_RX1_29 rfl (by rfl) (by rfl) (Nat.le_of_ble_eq_true rfl) dX1_choose_40 ?_
          refine e_aload_n F dX1_choose_43 rfl ?_
          refine e_getsN F (i := 1) rfl w_fn_RX1_19 dX1_choose_44 ?_
          refine e_iload_n F dX1_choose_47 rfl ?_
          refine e_ialdS F (i := 1) (by decide) (by omega) (by omega) dX1_choose_48 ?_
          refine e_set (host := "") (ci := 1) (fi := 2) (q := (RX1, TX1, 5)) F (by first | assumption | exact e_up_s | (rw [e_up_n (by first | assumption | omega)]; first | assumption | exact e_up_s | (rw [e_up_n (by first | assumption | omega)]; first | assumption | exact e_up_s | (rw [e_up_n (by first | assumption | omega)]; first | assumption | exact e_up_s)))) rfl (by decide) w_fl_RX1_32 rfl (by rfl) (by rfl) (Nat.le_of_ble_eq_true rfl) dX1_choose_49 ?_
          refine e_aload_n F dX1_choose_52 rfl ?_
          refine e_getsN F (i := 2) rfl w_fn_RX1_22 dX1_choose_53 ?_
          refine e_iload_n F dX1_choose_56 rfl ?_
          refine e_ialdS F (i := 2) (by decide) (by omega) (by omega) dX1_choose_57 ?_
          refine e_set (host := "") (ci := 1) (fi := 3) (q := (RX1, TX1, 5)) F (by first | assumption | exact e_up_s | (rw [e_up_n (by first | assumption | omega)]; first | assumption | exact e_up_s | (rw [e_up_n (by first | assumption | omega)]; first | assumption | exact e_up_s | (rw [e_up_n (by first | assumption | omega)]; first | assumption | exact e_up_s)))) rfl (by decide) w_fl_RX1_35 rfl (by rfl) (by rfl) (Nat.le_of_ble_eq_true rfl) dX1_choose_58 ?_
          refine e_aload_n F dX1_choose_61 rfl ?_
          refine e_bipush F dX1_choose_62 (by decide) ?_
          refine e_aload_n F dX1_choose_64 rfl ?_
          refine e_get (ci := 1) (fi := 1) (q := (RX1, TX1, 5)) F (by first | assumption | exact e_up_s | (rw [e_up_n (by first | assumption | omega)]; first | assumption | exact e_up_s | (rw [e_up_n (by first | assumption | omega)]; first | assumption | exact e_up_s | (rw [e_up_n (by first | assumption | omega)]; first | assumption | exact e_up_s)))) rfl (by decide) w_fl_RX1_29 (by rfl) dX1_choose_65 ?_
          refine e_iconst F dX1_choose_68 ?_
          refine e_isub F dX1_choose_69 ?_
          have hpp : (e_row 0).getD ((wh : Int)).toNat 0 = pr wh := rfl
          refine e_mmin F (by decide) ⟨by omega, by omega⟩ w_ml_RX1_38 w_sm_J9_min_7cf53 w_in_RJ9 w_co_J9_min_7cf53 dX1_choose_70 (Nat.le_of_ble_eq_true rfl) (by decide) (by omega) ?_
          refine e_set (host := "") (ci := 1) (fi := 4) (q := (RX1, TX1, 5)) F (by first | assumption | exact e_up_s | (rw [e_up_n (by first | assumption | omega)]; first | assumption | exact e_up_s | (rw [e_up_n (by first | assumption | omega)]; first | assumption | exact e_up_s | (rw [e_up_n (by first | assumption | omega)]; first | assumption | exact e_up_s)))) rfl (by decide) w_fl_RX1_44 rfl (by rfl) (by rfl) (Nat.le_of_ble_eq_true rfl) dX1_choose_73 ?_
          refine e_vret F rfl (by omega) ?_ dX1_choose_76
          refine ⟨rfl, e_up_s, fun q hq => ?_, rfl⟩
          simp only [e_up, if_neg hq]
        · exact absurd c_25 (by omega)
set_option maxHeartbeats 4000000 in
set_option maxRecDepth 100000 in
theorem c_X1_init {K : e_K} {l : Launch} {w : e_W} {n : Nat} {f : Nat} {x0 x1 x2 x3 x4 : Int} (hF : w f = some (.inl (1, [.int (eI x0), .int (eI x1), .int (eI x2), .int (eI x3), .int (eI x4)]))) : e_Met K l yX1_init (Cond.code yX1_init cX1_init 1 none :: e_TB) (2) (0) [.ref f] w n (fun r w' n' => r = none ∧ w' f = some (FO 3) ∧ (∀ q, q ≠ f → w' q = w q) ∧ n' = n) (e_px0) := by
  refine e_ofV rfl (Nat.le_of_ble_eq_true rfl) ?_
  intro P9 E9 S9 M9 A9 B9 T9 C9 F hnm
  refine e_aload_n F dX1_init_0 rfl ?_
  refine e_oinit F w_ml_RX1_3 w_im_java_lang_Object__init____V w_co_oinit (Nat.le_of_ble_eq_true rfl) (by decide) dX1_init_1 ?_
  refine e_aload_n F dX1_init_4 rfl ?_
  refine e_iconst F dX1_init_5 ?_
  refine e_callVV F u_X1_choose (by rfl) (c_X1_choose (wh := 3) hF (by decide)) (by first | assumption | exact e_up_s | (rw [e_up_n (by first | assumption | omega)]; first | assumption | exact e_up_s | (rw [e_up_n (by first | assumption | omega)]; first | assumption | exact e_up_s | (rw [e_up_n (by first | assumption | omega)]; first | assumption | exact e_up_s)))) rfl rfl w_ml_RX1_9 dX1_init_6 (by rfl) (Nat.le_of_ble_eq_true rfl) (by decide) (by omega) (fun _ _ _ h _ => h.elim) (fun r_6 w_6 n_6 h_6 hn_6 => ?_)
  obtain ⟨rfl, h1, h2, rfl⟩ := h_6
  refine e_vret F rfl (by omega) ?_ dX1_init_9
  exact ⟨rfl, h1, h2, rfl⟩
end
