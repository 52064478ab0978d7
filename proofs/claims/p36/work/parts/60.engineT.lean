/-! ===== bodies with an exception table; calls that are caught ===== -/
def g_N (s : State) : Prop := va_Nc "java/lang/IllegalArgumentException" "java/lang/IndexOutOfBoundsException" s
def g_F (K : e_K) (p : Program) (l : Launch) (s : State) (m : MethodId) (args : Array Value) (meth : Method) (c : Code) (cc : ByteArray) (nL : Nat) (ret : Option FieldType) (own : String) (tb : List ExceptionTableEntry) : Prop :=
  p.tables.exec = Jvm.exec ∧ c.code = cc ∧ c.maxLocals = nL ∧ meth.sig.returnType = ret ∧ s.vm.findClass own = some m.cls ∧ (∀ w ∈ e_TB, w.before args s = true) ∧ meth.locks = false ∧ (c.exceptionTable.toList = tb ∧ g_N s) ∧ e_G K s ∧ l.stackTraces = false
def g_Pc (K : e_K) (as : List Value) (w : e_W) (n : Nat) : Array Value → State → Prop := va_Pc as (fun U => (e_G K U ∧ g_N U) ∧ e_R K w n U U.heap)
def g_Met (K : e_K) (l : Launch) (y : MethodName) (ws : List Cond) (d mc : Nat) (as : List Value) (w : e_W) (n : Nat) (post : Option Value → e_W → Nat → Prop) (px : String → e_W → Nat → Prop) : Prop :=
  l.stackTraces = false → vx_Met l y ws (e_rm d mc) (g_Pc K as w n) (e_Qc K post) (e_XC K px) mc (256 * mc) (e_fr K)
theorem g_blind {K : e_K} {as : List Value} {w : e_W} {n : Nat} : FrameBlind (g_Pc K as w n) := by
  intro a U g mk h
  obtain ⟨h0, ⟨hG, hN⟩, hR⟩ := h
  have h1 : e_Pc K as w n a U := ⟨h0, hG, hR⟩
  obtain ⟨k0, kG, kR⟩ := e_blind a U g mk h1
  exact ⟨k0, ⟨kG, va_Nc.moved (u := U) (U := U.calling g mk a) (Vm.Alike.refl U.vm) hN⟩, kR⟩
def g_YS (y : MethodName) (bytes : ByteArray) (maxL : Nat) (rt : Option FieldType) (hh : List (Nat × Nat × Nat × Nat)) (na : Nat) : Prop :=
  (y.cls ≠ "java/lang/invoke/MethodHandle" ∧ y.cls ≠ "java/lang/invoke/VarHandle") ∧ (parseMethodDescriptor y.desc).map (fun d => d.parameters.length) = some na ∧ maxL ≤ 45 ∧ Cond.codeWith y bytes maxL rt hh ∈ e_TB ∧ Cond.initialized y.cls ∈ e_TB ∧ Cond.static y ∈ e_TB
theorem u_L_prime : g_YS yL_prime cL_prime 4 (some .int) [(0, 10, 13, 19)] 3 := ⟨⟨by decide +kernel, by decide +kernel⟩, by decide +kernel, by decide, w_cw_L_prime, w_in_RL, w_sm_L_prime⟩
theorem u_L_reckon : g_YS yL_reckon cL_reckon 6 (some .int) [(0, 13, 16, 19)] 5 := ⟨⟨by decide +kernel, by decide +kernel⟩, by decide +kernel, by decide, w_cw_L_reckon, w_in_RL, w_sm_L_reckon⟩
theorem u_L_weight : g_YS yL_weight cL_weight 6 (some .int) [(0, 13, 16, 28), (0, 13, 20, 19)] 5 := ⟨⟨by decide +kernel, by decide +kernel⟩, by decide +kernel, by decide, w_cw_L_weight, w_in_RL, w_sm_L_weight⟩
theorem u_L_weights : g_YS yL_weights cL_weights 5 (some .int) [(0, 11, 14, 19)] 4 := ⟨⟨by decide +kernel, by decide +kernel⟩, by decide +kernel, by decide, w_cw_L_weights, w_in_RL, w_sm_L_weights⟩
theorem u_L_hide : g_YS yL_hide cL_hide 9 (some .int) [(0, 19, 22, 28), (0, 19, 26, 19)] 8 := ⟨⟨by decide +kernel, by decide +kernel⟩, by decide +kernel, by decide, w_cw_L_hide, w_in_RL, w_sm_L_hide⟩
theorem u_L_pour : g_YS yL_pour cL_pour 8 (some .int) [(0, 17, 20, 28)] 7 := ⟨⟨by decide +kernel, by decide +kernel⟩, by decide +kernel, by decide, w_cw_L_pour, w_in_RL, w_sm_L_pour⟩
theorem u_L_plus : g_YS yL_plus cL_plus 6 (some .int) [(0, 13, 16, 28)] 5 := ⟨⟨by decide +kernel, by decide +kernel⟩, by decide +kernel, by decide, w_cw_L_plus, w_in_RL, w_sm_L_plus⟩
theorem u_L_less : g_YS yL_less cL_less 6 (some .int) [(0, 13, 16, 28)] 5 := ⟨⟨by decide +kernel, by decide +kernel⟩, by decide +kernel, by decide, w_cw_L_less, w_in_RL, w_sm_L_less⟩
theorem u_L_times : g_YS yL_times cL_times 6 (some .int) [(0, 13, 16, 28)] 5 := ⟨⟨by decide +kernel, by decide +kernel⟩, by decide +kernel, by decide, w_cw_L_times, w_in_RL, w_sm_L_times⟩
theorem u_L_scale : g_YS yL_scale cL_scale 6 (some .int) [(0, 13, 16, 28)] 5 := ⟨⟨by decide +kernel, by decide +kernel⟩, by decide +kernel, by decide, w_cw_L_scale, w_in_RL, w_sm_L_scale⟩
theorem u_L_handOn : g_YS yL_handOn cL_handOn 9 (some .int) [(0, 19, 22, 28), (0, 19, 26, 19)] 8 := ⟨⟨by decide +kernel, by decide +kernel⟩, by decide +kernel, by decide, w_cw_L_handOn, w_in_RL, w_sm_L_handOn⟩
theorem u_L_lose : g_YS yL_lose cL_lose 5 (some .int) [(0, 11, 14, 28)] 4 := ⟨⟨by decide +kernel, by decide +kernel⟩, by decide +kernel, by decide, w_cw_L_lose, w_in_RL, w_sm_L_lose⟩
theorem u_L_give : g_YS yL_give cL_give 6 (some .int) [(0, 13, 16, 28)] 5 := ⟨⟨by decide +kernel, by decide +kernel⟩, by decide +kernel, by decide, w_cw_L_give, w_in_RL, w_sm_L_give⟩
theorem u_L_regain : g_YS yL_regain cL_regain 6 (some .int) [(0, 13, 16, 28), (0, 13, 20, 19)] 5 := ⟨⟨by decide +kernel, by decide +kernel⟩, by decide +kernel, by decide, w_cw_L_regain, w_in_RL, w_sm_L_regain⟩
theorem u_L_mend : g_YS yL_mend cL_mend 4 (some .int) [(0, 10, 13, 28)] 3 := ⟨⟨by decide +kernel, by decide +kernel⟩, by decide +kernel, by decide, w_cw_L_mend, w_in_RL, w_sm_L_mend⟩
theorem u_L_copy : g_YS yL_copy cL_copy 5 (some .int) [(0, 11, 14, 28)] 4 := ⟨⟨by decide +kernel, by decide +kernel⟩, by decide +kernel, by decide, w_cw_L_copy, w_in_RL, w_sm_L_copy⟩
theorem u_L_drop : g_YS yL_drop cL_drop 4 (some .int) [(0, 10, 13, 28)] 3 := ⟨⟨by decide +kernel, by decide +kernel⟩, by decide +kernel, by decide, w_cw_L_drop, w_in_RL, w_sm_L_drop⟩
theorem u_L_share : g_YS yL_share cL_share 5 (some .int) [(0, 11, 14, 28)] 4 := ⟨⟨by decide +kernel, by decide +kernel⟩, by decide +kernel, by decide, w_cw_L_share, w_in_RL, w_sm_L_share⟩
theorem u_L_ofDeal : g_YS yL_ofDeal cL_ofDeal 5 (some .int) [(0, 11, 14, 28), (0, 11, 18, 19)] 4 := ⟨⟨by decide +kernel, by decide +kernel⟩, by decide +kernel, by decide, w_cw_L_ofDeal, w_in_RL, w_sm_L_ofDeal⟩
theorem u_L_told : g_YS yL_told cL_told 6 (some .int) [(0, 13, 16, 28), (0, 13, 20, 19)] 5 := ⟨⟨by decide +kernel, by decide +kernel⟩, by decide +kernel, by decide, w_cw_L_told, w_in_RL, w_sm_L_told⟩
theorem u_L_open : g_YS yL_open cL_open 5 (some .int) [(0, 11, 14, 28), (0, 11, 18, 19)] 4 := ⟨⟨by decide +kernel, by decide +kernel⟩, by decide +kernel, by decide, w_cw_L_open, w_in_RL, w_sm_L_open⟩
theorem u_L_coefficient : g_YS yL_coefficient cL_coefficient 6 (some .int) [(0, 13, 16, 28), (0, 13, 20, 19)] 5 := ⟨⟨by decide +kernel, by decide +kernel⟩, by decide +kernel, by decide, w_cw_L_coefficient, w_in_RL, w_sm_L_coefficient⟩
theorem u_L_degreeBy : g_YS yL_degreeBy cL_degreeBy 5 (some .int) [(0, 11, 14, 28), (0, 11, 18, 19)] 4 := ⟨⟨by decide +kernel, by decide +kernel⟩, by decide +kernel, by decide, w_cw_L_degreeBy, w_in_RL, w_sm_L_degreeBy⟩
theorem u_L_agrees : g_YS yL_agrees cL_agrees 5 (some .int) [(0, 11, 14, 28), (0, 11, 18, 19)] 4 := ⟨⟨by decide +kernel, by decide +kernel⟩, by decide +kernel, by decide, w_cw_L_agrees, w_in_RL, w_sm_L_agrees⟩
theorem u_L_suspects : g_YS yL_suspects cL_suspects 4 (some .int) [(0, 10, 13, 28)] 3 := ⟨⟨by decide +kernel, by decide +kernel⟩, by decide +kernel, by decide, w_cw_L_suspects, w_in_RL, w_sm_L_suspects⟩
theorem u_L_wrong : g_YS yL_wrong cL_wrong 4 (some .int) [(0, 10, 13, 28)] 3 := ⟨⟨by decide +kernel, by decide +kernel⟩, by decide +kernel, by decide, w_cw_L_wrong, w_in_RL, w_sm_L_wrong⟩
theorem u_L_ways : g_YS yL_ways cL_ways 6 (some .int) [(0, 13, 16, 28), (0, 13, 20, 19)] 5 := ⟨⟨by decide +kernel, by decide +kernel⟩, by decide +kernel, by decide, w_cw_L_ways, w_in_RL, w_sm_L_ways⟩
theorem u_L_total : g_YS yL_total cL_total 5 (some .int) [(0, 11, 14, 28), (0, 11, 18, 19)] 4 := ⟨⟨by decide +kernel, by decide +kernel⟩, by decide +kernel, by decide, w_cw_L_total, w_in_RL, w_sm_L_total⟩
theorem u_L_seal : g_YS yL_seal cL_seal 5 (some .int) [(0, 11, 14, 28), (0, 11, 18, 19)] 4 := ⟨⟨by decide +kernel, by decide +kernel⟩, by decide +kernel, by decide, w_cw_L_seal, w_in_RL, w_sm_L_seal⟩
theorem u_L_fits : g_YS yL_fits cL_fits 5 (some .int) [(0, 11, 14, 28)] 4 := ⟨⟨by decide +kernel, by decide +kernel⟩, by decide +kernel, by decide, w_cw_L_fits, w_in_RL, w_sm_L_fits⟩
theorem u_L_order : g_YS yL_order cL_order 6 (some .int) [(0, 13, 16, 28)] 5 := ⟨⟨by decide +kernel, by decide +kernel⟩, by decide +kernel, by decide, w_cw_L_order, w_in_RL, w_sm_L_order⟩
theorem u_L_most : g_YS yL_most cL_most 5 (some .int) [(0, 11, 14, 28)] 4 := ⟨⟨by decide +kernel, by decide +kernel⟩, by decide +kernel, by decide, w_cw_L_most, w_in_RL, w_sm_L_most⟩
theorem u_L_text : g_YS yL_text cL_text 4 (some .int) [(0, 9, 12, 28)] 3 := ⟨⟨by decide +kernel, by decide +kernel⟩, by decide +kernel, by decide, w_cw_L_text, w_in_RL, w_sm_L_text⟩
theorem u_L_seals : g_YS yL_seals cL_seals 4 (some .int) [(0, 9, 12, 28)] 3 := ⟨⟨by decide +kernel, by decide +kernel⟩, by decide +kernel, by decide, w_cw_L_seals, w_in_RL, w_sm_L_seals⟩
theorem u_L_isSame : g_YS yL_isSame cL_isSame 5 (some .int) [(0, 18, 21, 28)] 4 := ⟨⟨by decide +kernel, by decide +kernel⟩, by decide +kernel, by decide, w_cw_L_isSame, w_in_RL, w_sm_L_isSame⟩
theorem u_L_house : g_YS yL_house cL_house 4 (some .int) [(0, 10, 13, 19)] 3 := ⟨⟨by decide +kernel, by decide +kernel⟩, by decide +kernel, by decide, w_cw_L_house, w_in_RL, w_sm_L_house⟩
section GV
variable {K : e_K} {p : Program} {l : Launch} {e : Env} {d mc : Nat} {s : State} {m : MethodId} {args : Array Value} {below : List Frame} {meth : Method} {c : Code} {cc : ByteArray} {nL : Nat} {ret : Option FieldType} {own : String} {post : Option Value → e_W → Nat → Prop} {px : String → e_W → Nat → Prop} {pc : Nat} {L : List (Nat × Value)} {st : List Value} {w : e_W} {n k : Nat} {tb : List ExceptionTableEntry}
theorem g_iconst (F : g_F K p l s m args meth c cc nL ret own tb) {z : Int} (hd : decode cc pc = .ok (.iconst z, 1)) (kk : e_V K p l e d mc s m args below meth c nL post px (pc + 1) (L) (.int (eI z) :: st) (w) (n) (k)) : e_V K p l e d mc s m args below meth c nL post px (pc) (L) (st) (w) (n) (k) := fun H locs ls hl hR hz => lv_iconst F.1 F.2.1 hd rfl (kk H locs ls hl hR hz)
theorem g_lconst (F : g_F K p l s m args meth c cc nL ret own tb) {z : Fin 2} {y : Int} (hd : decode cc pc = .ok (.lconst z, 1)) (hv : ((z : Nat) : Int) = y) (kk : e_V K p l e d mc s m args below meth c nL post px (pc + 1) (L) (.long (eJ y) :: st) (w) (n) (k)) : e_V K p l e d mc s m args below meth c nL post px (pc) (L) (st) (w) (n) (k) := fun H locs ls hl hR hz => lv_lconst F.1 F.2.1 hd (by rw [← hv]; rfl) (kk H locs ls hl hR hz)
theorem g_iload_n (F : g_F K p l s m args meth c cc nL ret own tb) {i : Fin 4} {x : Int32} (hd : decode cc pc = .ok (.iload_n i, 1)) (hk : e_look L (i : Nat) = some (.int x)) (kk : e_V K p l e d mc s m args below meth c nL post px (pc + 1) (L) (.int x :: st) (w) (n) (k)) : e_V K p l e d mc s m args below meth c nL post px (pc) (L) (st) (w) (n) (k) := fun H locs ls hl hR hz => lv_iload_n F.1 F.2.1 hd rfl (e_look_has hl hk) (kk H locs ls hl hR hz)
theorem g_iload (F : g_F K p l s m args meth c cc nL ret own tb) {i : Nat} {x : Int32} (hd : decode cc pc = .ok (.iload i, 2)) (hk : e_look L i = some (.int x)) (kk : e_V K p l e d mc s m args below meth c nL post px (pc + 2) (L) (.int x :: st) (w) (n) (k)) : e_V K p l e d mc s m args below meth c nL post px (pc) (L) (st) (w) (n) (k) := fun H locs ls hl hR hz => lv_iload F.1 F.2.1 hd (e_look_has hl hk) (kk H locs ls hl hR hz)
theorem g_aload_n (F : g_F K p l s m args meth c cc nL ret own tb) {i : Fin 4} {x : Nat} (hd : decode cc pc = .ok (.aload_n i, 1)) (hk : e_look L (i : Nat) = some (.ref x)) (kk : e_V K p l e d mc s m args below meth c nL post px (pc + 1) (L) (.ref x :: st) (w) (n) (k)) : e_V K p l e d mc s m args below meth c nL post px (pc) (L) (st) (w) (n) (k) := fun H locs ls hl hR hz => lv_aload_n F.1 F.2.1 hd rfl (e_look_has hl hk) (kk H locs ls hl hR hz)
theorem g_aload (F : g_F K p l s m args meth c cc nL ret own tb) {i : Nat} {x : Nat} (hd : decode cc pc = .ok (.aload i, 2)) (hk : e_look L i = some (.ref x)) (kk : e_V K p l e d mc s m args below meth c nL post px (pc + 2) (L) (.ref x :: st) (w) (n) (k)) : e_V K p l e d mc s m args below meth c nL post px (pc) (L) (st) (w) (n) (k) := fun H locs ls hl hR hz => lv_aload F.1 F.2.1 hd (e_look_has hl hk) (kk H locs ls hl hR hz)
theorem g_astore_n (F : g_F K p l s m args meth c cc nL ret own tb) {i : Fin 4} {x : Nat} (hd : decode cc pc = .ok (.astore_n i, 1)) (hb : (i : Nat) < nL) (kk : e_V K p l e d mc s m args below meth c nL post px (pc + 1) (e_put L (i : Nat) (.ref x)) (st) (w) (n) (k)) : e_V K p l e d mc s m args below meth c nL post px (pc) (L) (.ref x :: st) (w) (n) (k) := fun H locs ls hl hR hz => lv_astore_n F.1 F.2.1 hd rfl hl hb rfl (fun ls hl => kk H locs ls hl hR hz)
theorem g_astore (F : g_F K p l s m args meth c cc nL ret own tb) {i : Nat} {x : Nat} (hd : decode cc pc = .ok (.astore i, 2)) (hb : i < nL) (kk : e_V K p l e d mc s m args below meth c nL post px (pc + 2) (e_put L i (.ref x)) (st) (w) (n) (k)) : e_V K p l e d mc s m args below meth c nL post px (pc) (L) (.ref x :: st) (w) (n) (k) := fun H locs ls hl hR hz => lv_astore F.1 F.2.1 hd hl hb rfl (fun ls hl => kk H locs ls hl hR hz)
theorem g_goto (F : g_F K p l s m args meth c cc nL ret own tb) {off : Int} (tgt : Nat) (hd : decode cc pc = .ok (.goto off, 3)) (ht : (pc : Int) + off = (tgt : Int)) (kk : e_V K p l e d mc s m args below meth c nL post px (tgt) (L) (st) (w) (n) (k)) : e_V K p l e d mc s m args below meth c nL post px (pc) (L) (st) (w) (n) (k) := fun H locs ls hl hR hz => lv_goto F.1 F.2.1 hd ht (kk H locs ls hl hR hz)
theorem g_setN (F : g_F K p l s m args meth c cc nL ret own tb) {a ci fi idx : Nat} {fs : List Value} {q : vw_C} {v : Value} {host : String} (hw : w a = some (.inl (ci, fs))) (hc : e_cl[ci]? = some q) (hi : fi < q.2.2) (hm : Cond.fieldLinkNest own idx (q.2.1 fi).1 (q.2.1 fi).2.1 (q.2.1 fi).2.2.1 host ∈ e_NW) (hfin : (q.2.1 fi).2.2.2 = false) (hn : narrow (e_ty ci fi) v = v) (hfit : fits (e_ty ci fi) v = true) (hlen : fi < fs.length) (hd : decode cc pc = .ok (.putfield idx, 3)) (kk : e_V K p l e d mc s m args below meth c nL post px (pc + 3) (L) (st) (e_up w a (.inl (ci, fs.set fi v))) (n) (k)) : e_V K p l e d mc s m args below meth c nL post px (pc) (L) (v :: .ref a :: st) (w) (n) (k) := by
  intro H locs ls hl hR hz
  have hA := (hR.2.2.1 a _ hw)
  have hK := F.2.2.2.2.2.2.2.2.1.1
  have hts := F.2.2.2.2.2.1
  obtain ⟨r, h1, cell, q1, q2, q3, q4⟩ := hA.2
  have hr : r = q := Option.some.inj (h1.symm.trans hc)
  subst hr
  have hap := va_apart (own := own) (s := s) hts (e_clTB ci _ hc) (e_ty ci) (e_ty_ok ci _ hc) (e_nm ci _ hc) hK hc
  obtain ⟨hS, hfc, kC, hkC, hkind⟩ := hK.1 ci _ hc
  obtain ⟨cf, kf, fj, f, hif, hsl⟩ := hS fi hi
  have hlay := hts _ (e_clTB ci _ hc _ (u_in_lay hi))
  unfold u_lay at hlay
  have hst := (u_facts hfc hkC (u_lays hts (e_clTB ci _ hc) hi) hif).1
  rw [if_neg (by rw [hfin]; decide)] at hlay
  have h6 := u_store hfc hkC hkind hlay hif (e_ty_ok ci _ hc fi hi) hn hfit
  refine va_WputK F.1 F.2.1 F.2.2.2.2.1 (va_Nw.use rfl (F.2.2.2.2.2.2.2.2.1.2.1 _ hm)) hif hst (by rw [q2]; exact h6) q1 q3 (by rw [hsl]; exact k2_hasslot (q4 fi hi)) rfl rfl hd fun H' e1 e2 e3 => ?_
  rw [hsl] at e1 ⊢
  refine kk H' _ ls hl (hR.up hw ⟨_, hc, t_OB.to (V := updV (vp_V fs) fi v) ⟨_, e1, q2, q3, t_set q4 hap hi v⟩ (fun j _ => vp_updV_set hlen v j)⟩ e2 e3) (fun z hz' => ?_)
  rcases List.mem_append.mp hz' with h | h
  · exact hz z h
  · rw [List.mem_singleton.mp h]; exact hA.1
theorem g_iret (F : g_F K p l s m args meth c cc nL ret own tb) {x : Int32} (hr : ret = some .int) (hk : k ≤ mc) (hp : post (some (.int x)) w n) (hd : decode cc pc = .ok (.ireturn, 1)) : e_V K p l e d mc s m args below meth c nL post px (pc) (L) ([.int x]) (w) (n) (k) := by
  intro H locs ls hl hR hz
  refine vx_ret (W.widen hk (Nat.mul_le_mul_left 256 hk) ?_)
  exact W.iret F.1 F.2.1 (by rw [F.2.2.2.1]; exact hr) (fun t ht hW => ⟨_, w, n, rfl, hp, by rw [ht]; exact hR⟩) hz hd (hlocks := F.2.2.2.2.2.2.1)
theorem g_i2l (F : g_F K p l s m args meth c cc nL ret own tb) {a : Int} (hd : decode cc pc = .ok (.i2l, 1)) (kk : e_V K p l e d mc s m args below meth c nL post px (pc + 1) (L) (.long (eJ ((eI a).toInt)) :: st) (w) (n) (k)) : e_V K p l e d mc s m args below meth c nL post px (pc) (L) (.int (eI a) :: st) (w) (n) (k) := fun H locs ls hl hR hz => lv_i2l F.1 F.2.1 hd (by have h := eI_l (eI_rg (eI a)); rw [eI_self] at h; exact h) (kk H locs ls hl hR hz)
theorem g_ifz (F : g_F K p l s m args meth c cc nL ret own tb) {v : Int32} {off : Int} (tgt : Nat) (hd : decode cc pc = .ok (.ifCond .eq off, 3)) (ht : (pc : Int) + off = (tgt : Int)) (kt : v = eI 0 → e_V K p l e d mc s m args below meth c nL post px (tgt) (L) (st) (w) (n) (k)) (kf : ¬ (v = eI 0) → e_V K p l e d mc s m args below meth c nL post px (pc + 3) (L) (st) (w) (n) (k)) : e_V K p l e d mc s m args below meth c nL post px (pc) (L) (.int v :: st) (w) (n) (k) :=
  fun H locs ls hl hR hz => lv_if_eq F.1 F.2.1 hd ht (fun h => kt h H locs ls hl hR hz) (fun h => kf h H locs ls hl hR hz)
theorem g_fix (F : g_F K p l s m args meth c cc nL ret own tb) : CallFix p m c cc nL s args e_TB own := ⟨F.1, F.2.1, F.2.2.1, F.2.2.2.2.1, F.2.2.2.2.2.1⟩
theorem g_pre (F : g_F K p l s m args meth c cc nL ret own tb) {as2 : List Value} {H : Heap} (hR : e_R K w n s H) : PreS s H (e_Pc K as2 w n) as2 := ⟨e_blind, fun U hU hW => ⟨rfl, F.2.2.2.2.2.2.2.2.1.go hW (fun q hq => by rw [hU]; exact hR.2.2.2.1 q hq), hR.re hU⟩⟩
theorem g_preV (F : g_F K p l s m args meth c cc nL ret own tb) {as2 : List Value} {H : Heap} {b ci : Nat} {fs : List Value} {q : vw_C} {C : String} (hR : e_R K w n s H) (hw : w b = some (.inl (ci, fs))) (hc : e_cl[ci]? = some q) (hC : q.1 = C) : PreV s H C b (e_Pc K (.ref b :: as2) w n) as2 := ⟨e_blind, by
    obtain ⟨r, h1, cell, q1, q2, q3, q4⟩ := (hR.2.2.1 b _ hw).2
    have hr : r = q := Option.some.inj (h1.symm.trans hc)
    subst hr
    subst hC
    exact ⟨cell, q1, by rw [q3]; rfl, by rw [q2]; exact (F.2.2.2.2.2.2.2.2.1.1.1 ci _ hc).2.1⟩, (g_pre F hR).2⟩
theorem g_callB (F : g_F K p l s m args meth c cc nL ret own tb) {y : MethodName} {bytes : ByteArray} {maxL idx d2 mc2 : Nat} {rt : Option FieldType} {na : Nat} (Y : e_Y y bytes maxL rt na) (hm : Cond.methodLink own idx y ∈ e_TB) (hdd : d2 + 1 ≤ d) : CallB (e_rm d mc) s args own idx y bytes maxL rt (Cond.code y bytes maxL rt :: e_TB) (e_rm d2 mc2) mc2 (256 * mc2) na :=
  callB_of (ws' := e_TB) na F.2.2.2.2.2.1 (e_goodIn (e_ws Y)) rfl rfl rfl (F.2.2.2.2.2.1 _ Y.2.2.2.2) (F.2.2.2.2.2.1 _ hm) ⟨Y.1.1, Y.1.2, Y.2.1⟩ ⟨hdd, by have := Y.2.2.1; show 8 + (maxL + 11) + 64 * d2 ≤ 64 * d; omega⟩
/-- an exception of class E thrown at pc is taken by a row of the table, and then all goes on at its handler -/
def g_H (K : e_K) (p : Program) (l : Launch) (e : Env) (d mc : Nat) (s : State) (m : MethodId) (args : Array Value) (below : List Frame) (meth : Method) (c : Code) (nL : Nat) (post : Option Value → e_W → Nat → Prop) (px : String → e_W → Nat → Prop) (tb : List ExceptionTableEntry) (own : String) (E : String) (pc : Nat) (L : List (Nat × Value)) (w : e_W) (n k : Nat) : Prop :=
  ∃ (pre : List ExceptionTableEntry) (x : ExceptionTableEntry) (suf : List ExceptionTableEntry) (name : String), tb = pre ++ x :: suf ∧ (∀ z ∈ pre, covers z pc = false ∨ (z.catchType ≠ 0 ∧ ∃ nm : String, Cond.classLink own z.catchType nm ∈ e_TB ∧ va_Nc E nm s)) ∧ covers x pc = true ∧ x.catchType ≠ 0 ∧ Cond.classLink own x.catchType name ∈ e_TB ∧ Cond.castable E name ∈ e_NW ∧ ∀ q : Nat, e_V K p l e d mc s m args below meth c nL post px x.handlerPc L [.ref q] w n k
theorem g_after (F : g_F K p l s m args meth c cc nL ret own tb) {mc2 : Nat} {post2 : Option Value → e_W → Nat → Prop} {px2 : String → e_W → Nat → Prop} {H : Heap} {locs : List Loc} {ls : Array Slot} {st0 : List Value} {a : Array Value} (hl : lv_has ls nL L) (hR : e_R K w n s H) (hz : ∀ z ∈ locs, K.1 ≤ z.base)
    (hr : vx_Run p l e (e_rm d mc) s m args below meth c H locs k (256 * k) mc2 (256 * mc2) (F0 m pc ls st0) st (e_Qc K post2 a) (e_XC K px2) (e_fr K)) (hk : k + mc2 ≤ mc)
    (kx : ∀ E w' n', px2 E w' n' → n ≤ n' → g_H K p l e d mc s m args below meth c nL post px tb own E pc L w' n' (k + mc2)) (kk : ∀ r w' n', post2 r w' n' → n ≤ n' → e_V K p l e d mc s m args below meth c nL post px (pc + 3) (L) (r.toList ++ st) (w') (n') (k + mc2)) :
    W p l e (e_rm d mc) s m args below meth c H locs k (256 * k) (vx_MQ below (e_Qc K post) (e_XC K px) args s mc (256 * mc) (e_fr K)) (F0 m pc ls st0) := by
  have hre : ∀ (w' : e_W) (n' : Nat) (st₀ : State) (H2 : Heap), st₀.heap = H → e_R K w' n' st₀ H2 → n ≤ n' ∧ e_R K w' n' s H2 := by
    intro w' n' st₀ H2 h0 h
    obtain ⟨g1, g2, g3, g4, g5⟩ := h
    have hn : n ≤ n' := by rw [← hR.1, ← h0]; exact g5
    exact ⟨hn, g1, g2, g3, fun q hq => by rw [g4 q hq, h0]; exact hR.2.2.2.1 q hq, Nat.le_trans hR.2.2.2.2 hn⟩
  intro T hT X
  rcases hr T hT X with ⟨v, st₀, t, T', L2, h0, X', hL2, e1, e2, ⟨r, w', n', hv, hp, hRR⟩, stp⟩ | ⟨q, st₀, t, T', L2, E, ce, h0, X', hL2, e1, e2, ⟨w', n', hp, hRR⟩, hce, hcv, hcl, stp⟩
  · cases hv
    obtain ⟨hn, hR2⟩ := hre w' n' st₀ t.heap h0 hRR
    obtain ⟨t2, a1, b1⟩ := kk v w' n' hp hn T'.heap (locs ++ L2) ls hl (by rw [e1]; exact hR2) (fun z hz' => (List.mem_append.mp hz').elim (hz z) (fun h => hL2 z h)) T' rfl (by rw [Nat.mul_add]; exact X')
    exact ⟨t2, stp t2 a1, b1⟩
  · obtain ⟨hn, hR2⟩ := hre w' n' st₀ t.heap h0 hRR
    obtain ⟨pre, x, suf, name, g1, g2, g3, g4, g5, g6, g7⟩ := kx E w' n' hp hn
    obtain ⟨t2, a1, b1⟩ := vx_catch (pc := pc) (ls := ls) (rest := st) (H := T'.heap) (locs := locs ++ L2) (cells := k + mc2) (slots := 256 * (k + mc2)) F.2.2.2.2.1 pre x suf (by rw [F.2.2.2.2.2.2.2.1.1]; exact g1) (fun z hz' => (g2 z hz').imp id (fun h => ⟨h.1, h.2.choose, F.2.2.2.2.2.1 _ h.2.choose_spec.1, h.2.choose_spec.2⟩)) g3 g4 (F.2.2.2.2.2.1 _ g5) (va_Nw.use rfl (F.2.2.2.2.2.2.2.2.1.2.1 _ g6)) (by rw [e1]; exact hce) hcv hcl
      (g7 q T'.heap (locs ++ L2) ls hl (by rw [e1]; exact hR2) (fun z hz' => (List.mem_append.mp hz').elim (hz z) (fun h => hL2 z h))) T' rfl (by rw [Nat.mul_add]; exact X')
    exact ⟨t2, stp.trans a1, b1⟩
theorem g_callVV (F : g_F K p l s m args meth c cc nL ret own tb) {y : MethodName} {bytes : ByteArray} {maxL idx d2 mc2 na : Nat} {rt : Option FieldType} {as2 st0 : List Value} {post2 : Option Value → e_W → Nat → Prop} {px2 : String → e_W → Nat → Prop} {b ci : Nat} {fs : List Value} {q : vw_C} (Y : e_YV y bytes maxL rt na) (hst : st0 = as2.reverse ++ .ref b :: st) (hM : e_Met K l y (Cond.code y bytes maxL rt :: e_TB) d2 mc2 (.ref b :: as2) w n post2 px2) (hw : w b = some (.inl (ci, fs))) (hc : e_cl[ci]? = some q) (hC : q.1 = y.cls) (hm : Cond.methodLink own idx y ∈ e_TB) (hd : decode cc pc = .ok (.invokevirtual idx, 3)) (hn : as2.length = na) (hroom : (st.map fun v => v.category).sum ≤ 8) (hdd : d2 + 1 ≤ d) (hk : k + mc2 ≤ mc) (kx : ∀ E w' n', px2 E w' n' → n ≤ n' → g_H K p l e d mc s m args below meth c nL post px tb own E pc L w' n' (k + mc2)) (kk : ∀ r w' n', post2 r w' n' → n ≤ n' → e_V K p l e d mc s m args below meth c nL post px (pc + 3) (L) (r.toList ++ st) (w') (n') (k + mc2)) : e_V K p l e d mc s m args below meth c nL post px (pc) (L) (st0) (w) (n) (k) :=
  fun H locs ls hl hR hz => g_after F hl hR hz (vx_runV (g_fix F) (hM F.2.2.2.2.2.2.2.2.2) ⟨g_callB F Y.1 hm hdd, F.2.2.2.2.2.1 _ Y.2.1, F.2.2.2.2.2.1 _ Y.2.2⟩ (g_preV F hR hw hc hC) rfl hn hl.1 hst (lv_room hroom) hd ⟨hk, by show 256 * k + 256 * mc2 ≤ 256 * mc; omega⟩) hk kx kk
/-- the law calls a method with a table -/
theorem e_callSX (F : e_F K p l s m args meth c cc nL ret own) (hN : g_N s) {y : MethodName} {bytes : ByteArray} {maxL idx d2 mc2 na : Nat} {rt : Option FieldType} {hh : List (Nat × Nat × Nat × Nat)} {as2 st0 : List Value} {post2 : Option Value → e_W → Nat → Prop} {px2 : String → e_W → Nat → Prop} (Y : g_YS y bytes maxL rt hh na) (hst : st0 = as2.reverse ++ st) (hM : g_Met K l y (Cond.codeWith y bytes maxL rt hh :: e_TB) d2 mc2 as2 w n post2 px2) (hm : Cond.methodLink own idx y ∈ e_TB) (hd : decode cc pc = .ok (.invokestatic idx, 3)) (hn : as2.length = na) (hroom : (st.map fun v => v.category).sum ≤ 8) (hdd : d2 + 1 ≤ d) (hk : k + mc2 ≤ mc) (kx : ∀ E w' n', px2 E w' n' → n ≤ n' → px E w' n') (kk : ∀ r w' n', post2 r w' n' → n ≤ n' → e_V K p l e d mc s m args below meth c nL post px (pc + 3) (L) (r.toList ++ st) (w') (n') (k + mc2)) : e_V K p l e d mc s m args below meth c nL post px (pc) (L) (st0) (w) (n) (k) := by
  have hts := F.2.2.2.2.2.1
  have hG : GoodIn e_TB (Cond.codeWith y bytes maxL rt hh :: e_TB) := e_goodIn (fun w h => (List.mem_cons.mp h).elim (fun h => by rw [h]; exact Y.2.2.2.1) id)
  have hcw : vx_CSW (e_rm d mc) s args own idx y bytes maxL rt hh (Cond.codeWith y bytes maxL rt hh :: e_TB) (e_rm d2 mc2) mc2 (256 * mc2) na := by
    refine ⟨⟨rfl, rfl, hdd, by have := Y.2.2.1; show 8 + (maxL + 11) + 64 * d2 ≤ 64 * d; omega, pay_in hts hG, List.mem_cons_self⟩, hts _ Y.2.2.2.1, hts _ Y.2.2.2.2.1, Y.1, fun sig h => ?_, hts _ hm, hts _ Y.2.2.2.2.2⟩
    have h2 := Y.2.1
    rw [h] at h2
    exact (Option.some.inj h2).symm
  intro H locs ls hl hR hz
  have hp : PreS s H (g_Pc K as2 w n) as2 := ⟨g_blind, fun U hU hW => ⟨rfl, ⟨F.2.2.2.2.2.2.2.2.1.go hW (fun q hq => by rw [hU]; exact hR.2.2.2.1 q hq), va_Nc.moved hW.alike hN⟩, hR.re hU⟩⟩
  exact e_after F hl hR hz (vx_runSX (e_fix F) (hM F.2.2.2.2.2.2.2.2.2) hcw hp rfl hn hl.1 hst (lv_room hroom) hd ⟨hk, by show 256 * k + 256 * mc2 ≤ 256 * mc; omega⟩) hk kx kk
/-- the script's length and ints -/
theorem e_slen (F : e_F K p l s m args meth c cc nL ret own) {b N : Nat} {xs : Nat → Int32} (hX : va_X b N xs s s.heap) (hb : b < K.1) (hN : N ≤ 448) (hd : decode cc pc = .ok (.arraylength, 1)) (kk : e_V K p l e d mc s m args below meth c nL post px (pc + 1) (L) (.int (eI (N : Int)) :: st) (w) (n) (k)) : e_V K p l e d mc s m args below meth c nL post px (pc) (L) (.ref b :: st) (w) (n) (k) := by
  intro H locs ls hl hR hz
  obtain ⟨scr, h1, h2, h3, h4, h5⟩ := hX
  exact W.alen (n := eI (N : Int)) F.1 F.2.1 (by rw [hR.2.2.2.1 _ hb]; exact h1) h2 (by rw [h4]; rfl) rfl rfl hd (kk H locs ls hl hR hz)
theorem e_sld (F : e_F K p l s m args meth c cc nL ret own) {b N : Nat} {xs : Nat → Int32} {j : Int} (hX : va_X b N xs s s.heap) (hb : b < K.1) (hN : N ≤ 448) (h0 : 0 ≤ j) (hj : j < N) (hd : decode cc pc = .ok (.iaload, 1)) (kk : e_V K p l e d mc s m args below meth c nL post px (pc + 1) (L) (.int (eI ((xs j.toNat).toInt)) :: st) (w) (n) (k)) : e_V K p l e d mc s m args below meth c nL post px (pc) (L) (.int (eI j) :: .ref b :: st) (w) (n) (k) := by
  obtain ⟨x1, x2⟩ := e_ix (N := N) h0 hj (by omega)
  intro H locs ls hl hR hz
  obtain ⟨scr, h1, h2, h3, h4, h5⟩ := hX
  exact W.iald (v := .int (eI ((xs j.toNat).toInt))) F.1 F.2.1 (by rw [hR.2.2.2.1 _ hb]; exact h1) h2 h3 (fun q => x1 (q.imp id (fun q => by rw [h4] at q; exact q))) (by rw [x2, h5 _ (by omega), eI_self]) rfl rfl hd (kk H locs ls hl hR hz)
end GV
theorem g_ofV {K : e_K} {l : Launch} {y : MethodName} {cc : ByteArray} {nL : Nat} {rt : Option FieldType} {hh : List (Nat × Nat × Nat × Nat)} {d mc : Nat} {as : List Value} {w : e_W} {n : Nat} {post : Option Value → e_W → Nat → Prop} {px : String → e_W → Nat → Prop} (hy : plainName y.cls = true) (hsl : (lg_sl as).length ≤ nL) (hcw : Cond.codeWith y cc nL rt hh ∈ e_TB)
    (body : ∀ p e s m args below meth c, g_F K p l s m args meth c cc nL rt y.cls (tableOf hh) → (meth.name = y.name) → e_V K p l e d mc s m args below meth c nL post px 0 (lv_args 0 as) [] w n 0) : g_Met K l y (Cond.codeWith y cc nL rt hh :: e_TB) d mc as w n post px := by
  intro hst
  refine vx_ofWH (cc := cc) (maxL := nL) (ret := rt) (hh := hh) hy rfl ?_
  intro p e s m args below meth c s₁ B hml hv
  obtain ⟨rfl, ⟨hG, hN⟩, hR⟩ := hv
  have hts := atoms_spec B.pre
  have ht := vx_table (x := y) B (hts _ (List.mem_cons_of_mem _ hcw))
  have hb := body p e s m as.toArray below meth c ⟨B.exec, B.bytes, hml, B.returns, findClass_of_methodNamed B.named, fun w hw => hts w (List.mem_cons_of_mem _ hw), B.notSynchronized, ⟨ht, hN⟩, hG, hst⟩ (name_of_methodNamed B.named B.method).1
  rw [lg_entry_eq]
  exact hb s.heap [] _ (lv_entry as hsl) hR (fun z h => by cases h)
