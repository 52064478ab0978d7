-- ===== PART A: goes FIRST, ahead of the names: the tables' words, and 'selects' of the private methods out of them =====
/-- a private method of a class that the tables say can be made, by its rows of tables_1 -/
def lw_okq (q : MethodName × Nat) : Prop := (q.1.cls ≠ "java/lang/invoke/MethodHandle" ∧ q.1.cls ≠ "java/lang/invoke/VarHandle") ∧ Cond.instantiable q.1.cls q.2 ∈ tables_1 ∧ Cond.privateMethod q.1 ∈ tables_1 ∧ Cond.instanceMethod q.1 ∈ tables_1
theorem lw_p0 : lw_okq (⟨"Secretshares$Field", "choose", "(I)V"⟩, 5) := ⟨⟨by decide +kernel, by decide +kernel⟩, List.mem_of_getElem? (i := 32) (by decide +kernel), List.mem_of_getElem? (i := 38) (by decide +kernel), List.mem_of_getElem? (i := 39) (by decide +kernel)⟩
theorem lw_p1 : lw_okq (⟨"Secretshares$Deal", "clear", "()V"⟩, 5) := ⟨⟨by decide +kernel, by decide +kernel⟩, List.mem_of_getElem? (i := 88) (by decide +kernel), List.mem_of_getElem? (i := 94) (by decide +kernel), List.mem_of_getElem? (i := 95) (by decide +kernel)⟩
theorem lw_p2 : lw_okq (⟨"Secretshares$Field", "modPrime", "(J)I"⟩, 5) := ⟨⟨by decide +kernel, by decide +kernel⟩, List.mem_of_getElem? (i := 32) (by decide +kernel), List.mem_of_getElem? (i := 136) (by decide +kernel), List.mem_of_getElem? (i := 137) (by decide +kernel)⟩
theorem lw_p3 : lw_okq (⟨"Secretshares", "quotient", "(II)I"⟩, 5) := ⟨⟨by decide +kernel, by decide +kernel⟩, List.mem_of_getElem? (i := 24) (by decide +kernel), List.mem_of_getElem? (i := 144) (by decide +kernel), List.mem_of_getElem? (i := 145) (by decide +kernel)⟩
theorem lw_p4 : lw_okq (⟨"Secretshares$Field", "inverse", "(I)I"⟩, 5) := ⟨⟨by decide +kernel, by decide +kernel⟩, List.mem_of_getElem? (i := 32) (by decide +kernel), List.mem_of_getElem? (i := 148) (by decide +kernel), List.mem_of_getElem? (i := 149) (by decide +kernel)⟩
theorem lw_p5 : lw_okq (⟨"Secretshares$Field", "sealFor", "(I)I"⟩, 5) := ⟨⟨by decide +kernel, by decide +kernel⟩, List.mem_of_getElem? (i := 32) (by decide +kernel), List.mem_of_getElem? (i := 164) (by decide +kernel), List.mem_of_getElem? (i := 165) (by decide +kernel)⟩
theorem lw_p6 : lw_okq (⟨"Secretshares", "areSharesSound", "(LSecretshares$Deal;)Z"⟩, 5) := ⟨⟨by decide +kernel, by decide +kernel⟩, List.mem_of_getElem? (i := 24) (by decide +kernel), List.mem_of_getElem? (i := 177) (by decide +kernel), List.mem_of_getElem? (i := 178) (by decide +kernel)⟩
theorem lw_p7 : lw_okq (⟨"Secretshares$Deal", "shareAt", "(I)I"⟩, 5) := ⟨⟨by decide +kernel, by decide +kernel⟩, List.mem_of_getElem? (i := 88) (by decide +kernel), List.mem_of_getElem? (i := 181) (by decide +kernel), List.mem_of_getElem? (i := 182) (by decide +kernel)⟩
theorem lw_p8 : lw_okq (⟨"Secretshares", "areSealsSound", "(LSecretshares$Deal;)Z"⟩, 5) := ⟨⟨by decide +kernel, by decide +kernel⟩, List.mem_of_getElem? (i := 24) (by decide +kernel), List.mem_of_getElem? (i := 185) (by decide +kernel), List.mem_of_getElem? (i := 186) (by decide +kernel)⟩
theorem lw_p9 : lw_okq (⟨"Secretshares$Deal", "sealAt", "(I)I"⟩, 5) := ⟨⟨by decide +kernel, by decide +kernel⟩, List.mem_of_getElem? (i := 88) (by decide +kernel), List.mem_of_getElem? (i := 189) (by decide +kernel), List.mem_of_getElem? (i := 190) (by decide +kernel)⟩
theorem lw_p10 : lw_okq (⟨"Secretshares$Deal", "hasSeals", "()Z"⟩, 5) := ⟨⟨by decide +kernel, by decide +kernel⟩, List.mem_of_getElem? (i := 88) (by decide +kernel), List.mem_of_getElem? (i := 193) (by decide +kernel), List.mem_of_getElem? (i := 194) (by decide +kernel)⟩
theorem lw_p11 : lw_okq (⟨"Secretshares", "allHolders", "()I"⟩, 5) := ⟨⟨by decide +kernel, by decide +kernel⟩, List.mem_of_getElem? (i := 24) (by decide +kernel), List.mem_of_getElem? (i := 197) (by decide +kernel), List.mem_of_getElem? (i := 198) (by decide +kernel)⟩
theorem lw_p12 : lw_okq (⟨"Secretshares", "weightSum", "(II)I"⟩, 5) := ⟨⟨by decide +kernel, by decide +kernel⟩, List.mem_of_getElem? (i := 24) (by decide +kernel), List.mem_of_getElem? (i := 201) (by decide +kernel), List.mem_of_getElem? (i := 202) (by decide +kernel)⟩
theorem lw_p13 : lw_okq (⟨"Secretshares$Field", "weightAt", "(III)I"⟩, 5) := ⟨⟨by decide +kernel, by decide +kernel⟩, List.mem_of_getElem? (i := 32) (by decide +kernel), List.mem_of_getElem? (i := 208) (by decide +kernel), List.mem_of_getElem? (i := 209) (by decide +kernel)⟩
theorem lw_p14 : lw_okq (⟨"Secretshares", "isFirstSealSound", "()Z"⟩, 5) := ⟨⟨by decide +kernel, by decide +kernel⟩, List.mem_of_getElem? (i := 24) (by decide +kernel), List.mem_of_getElem? (i := 214) (by decide +kernel), List.mem_of_getElem? (i := 215) (by decide +kernel)⟩
theorem lw_p15 : lw_okq (⟨"Secretshares$Deal", "firstSet", "()I"⟩, 5) := ⟨⟨by decide +kernel, by decide +kernel⟩, List.mem_of_getElem? (i := 88) (by decide +kernel), List.mem_of_getElem? (i := 218) (by decide +kernel), List.mem_of_getElem? (i := 219) (by decide +kernel)⟩
def lw_privs_1 : List (MethodName × Nat) := [(⟨"Secretshares$Field", "choose", "(I)V"⟩, 5), (⟨"Secretshares$Deal", "clear", "()V"⟩, 5), (⟨"Secretshares$Field", "modPrime", "(J)I"⟩, 5), (⟨"Secretshares", "quotient", "(II)I"⟩, 5), (⟨"Secretshares$Field", "inverse", "(I)I"⟩, 5), (⟨"Secretshares$Field", "sealFor", "(I)I"⟩, 5), (⟨"Secretshares", "areSharesSound", "(LSecretshares$Deal;)Z"⟩, 5), (⟨"Secretshares$Deal", "shareAt", "(I)I"⟩, 5), (⟨"Secretshares", "areSealsSound", "(LSecretshares$Deal;)Z"⟩, 5), (⟨"Secretshares$Deal", "sealAt", "(I)I"⟩, 5), (⟨"Secretshares$Deal", "hasSeals", "()Z"⟩, 5), (⟨"Secretshares", "allHolders", "()I"⟩, 5), (⟨"Secretshares", "weightSum", "(II)I"⟩, 5), (⟨"Secretshares$Field", "weightAt", "(III)I"⟩, 5), (⟨"Secretshares", "isFirstSealSound", "()Z"⟩, 5), (⟨"Secretshares$Deal", "firstSet", "()I"⟩, 5)]
theorem lw_r1 : ∀ q ∈ lw_privs_1, lw_okq q := List.forall_mem_cons.mpr ⟨lw_p0, List.forall_mem_cons.mpr ⟨lw_p1, List.forall_mem_cons.mpr ⟨lw_p2, List.forall_mem_cons.mpr ⟨lw_p3, List.forall_mem_cons.mpr ⟨lw_p4, List.forall_mem_cons.mpr ⟨lw_p5, List.forall_mem_cons.mpr ⟨lw_p6, List.forall_mem_cons.mpr ⟨lw_p7, List.forall_mem_cons.mpr ⟨lw_p8, List.forall_mem_cons.mpr ⟨lw_p9, List.forall_mem_cons.mpr ⟨lw_p10, List.forall_mem_cons.mpr ⟨lw_p11, List.forall_mem_cons.mpr ⟨lw_p12, List.forall_mem_cons.mpr ⟨lw_p13, List.forall_mem_cons.mpr ⟨lw_p14, List.forall_mem_cons.mpr ⟨lw_p15, fun _ h => absurd h List.not_mem_nil⟩⟩⟩⟩⟩⟩⟩⟩⟩⟩⟩⟩⟩⟩⟩⟩
theorem lw_p16 : lw_okq (⟨"Secretshares", "doAllFit", "(LSecretshares$Deal;I)Z"⟩, 5) := ⟨⟨by decide +kernel, by decide +kernel⟩, List.mem_of_getElem? (i := 24) (by decide +kernel), List.mem_of_getElem? (i := 225) (by decide +kernel), List.mem_of_getElem? (i := 226) (by decide +kernel)⟩
theorem lw_p17 : lw_okq (⟨"Secretshares", "doesFit", "(LSecretshares$Deal;I)Z"⟩, 5) := ⟨⟨by decide +kernel, by decide +kernel⟩, List.mem_of_getElem? (i := 24) (by decide +kernel), List.mem_of_getElem? (i := 229) (by decide +kernel), List.mem_of_getElem? (i := 230) (by decide +kernel)⟩
theorem lw_p18 : lw_okq (⟨"Secretshares$Field", "sealProduct", "(II)I"⟩, 5) := ⟨⟨by decide +kernel, by decide +kernel⟩, List.mem_of_getElem? (i := 32) (by decide +kernel), List.mem_of_getElem? (i := 233) (by decide +kernel), List.mem_of_getElem? (i := 234) (by decide +kernel)⟩
theorem lw_p19 : lw_okq (⟨"Secretshares", "tell", "(LSecretshares$Deal;II)I"⟩, 5) := ⟨⟨by decide +kernel, by decide +kernel⟩, List.mem_of_getElem? (i := 24) (by decide +kernel), List.mem_of_getElem? (i := 237) (by decide +kernel), List.mem_of_getElem? (i := 238) (by decide +kernel)⟩
theorem lw_p20 : lw_okq (⟨"Secretshares", "filledDeals", "()I"⟩, 5) := ⟨⟨by decide +kernel, by decide +kernel⟩, List.mem_of_getElem? (i := 24) (by decide +kernel), List.mem_of_getElem? (i := 251) (by decide +kernel), List.mem_of_getElem? (i := 252) (by decide +kernel)⟩
theorem lw_p21 : lw_okq (⟨"Secretshares$Deal", "isEmpty", "()Z"⟩, 5) := ⟨⟨by decide +kernel, by decide +kernel⟩, List.mem_of_getElem? (i := 88) (by decide +kernel), List.mem_of_getElem? (i := 255) (by decide +kernel), List.mem_of_getElem? (i := 256) (by decide +kernel)⟩
theorem lw_p22 : lw_okq (⟨"java/lang/Throwable", "fillInStackTrace", "(I)Ljava/lang/Throwable;"⟩, 6) := ⟨⟨by decide +kernel, by decide +kernel⟩, List.mem_of_getElem? (i := 296) (by decide +kernel), List.mem_of_getElem? (i := 294) (by decide +kernel), List.mem_of_getElem? (i := 295) (by decide +kernel)⟩
theorem lw_p23 : lw_okq (⟨"Secretshares", "dealAt", "(I)LSecretshares$Deal;"⟩, 5) := ⟨⟨by decide +kernel, by decide +kernel⟩, List.mem_of_getElem? (i := 24) (by decide +kernel), List.mem_of_getElem? (i := 330) (by decide +kernel), List.mem_of_getElem? (i := 331) (by decide +kernel)⟩
theorem lw_p24 : lw_okq (⟨"Secretshares$Deal", "shareCount", "()I"⟩, 5) := ⟨⟨by decide +kernel, by decide +kernel⟩, List.mem_of_getElem? (i := 88) (by decide +kernel), List.mem_of_getElem? (i := 350) (by decide +kernel), List.mem_of_getElem? (i := 351) (by decide +kernel)⟩
theorem lw_p25 : lw_okq (⟨"Secretshares$Deal", "holderSet", "()I"⟩, 5) := ⟨⟨by decide +kernel, by decide +kernel⟩, List.mem_of_getElem? (i := 88) (by decide +kernel), List.mem_of_getElem? (i := 354) (by decide +kernel), List.mem_of_getElem? (i := 355) (by decide +kernel)⟩
theorem lw_p26 : lw_okq (⟨"Secretshares", "isInLine", "(LSecretshares$Deal;I)Z"⟩, 5) := ⟨⟨by decide +kernel, by decide +kernel⟩, List.mem_of_getElem? (i := 24) (by decide +kernel), List.mem_of_getElem? (i := 365) (by decide +kernel), List.mem_of_getElem? (i := 366) (by decide +kernel)⟩
theorem lw_p27 : lw_okq (⟨"Secretshares$Poly", "goThrough", "(LSecretshares$Field;LSecretshares$Deal;I)V"⟩, 2) := ⟨⟨by decide +kernel, by decide +kernel⟩, List.mem_of_getElem? (i := 73) (by decide +kernel), List.mem_of_getElem? (i := 369) (by decide +kernel), List.mem_of_getElem? (i := 370) (by decide +kernel)⟩
theorem lw_p28 : lw_okq (⟨"Secretshares$Poly", "clear", "()V"⟩, 2) := ⟨⟨by decide +kernel, by decide +kernel⟩, List.mem_of_getElem? (i := 73) (by decide +kernel), List.mem_of_getElem? (i := 373) (by decide +kernel), List.mem_of_getElem? (i := 374) (by decide +kernel)⟩
theorem lw_p29 : lw_okq (⟨"Secretshares$Poly", "makeTerm", "(LSecretshares$Field;II)I"⟩, 2) := ⟨⟨by decide +kernel, by decide +kernel⟩, List.mem_of_getElem? (i := 73) (by decide +kernel), List.mem_of_getElem? (i := 378) (by decide +kernel), List.mem_of_getElem? (i := 379) (by decide +kernel)⟩
theorem lw_p30 : lw_okq (⟨"Secretshares$Poly", "addTerm", "(LSecretshares$Field;I)V"⟩, 2) := ⟨⟨by decide +kernel, by decide +kernel⟩, List.mem_of_getElem? (i := 73) (by decide +kernel), List.mem_of_getElem? (i := 385) (by decide +kernel), List.mem_of_getElem? (i := 386) (by decide +kernel)⟩
theorem lw_p31 : lw_okq (⟨"Secretshares$Poly", "highest", "()I"⟩, 2) := ⟨⟨by decide +kernel, by decide +kernel⟩, List.mem_of_getElem? (i := 73) (by decide +kernel), List.mem_of_getElem? (i := 389) (by decide +kernel), List.mem_of_getElem? (i := 390) (by decide +kernel)⟩
def lw_privs_2 : List (MethodName × Nat) := [(⟨"Secretshares", "doAllFit", "(LSecretshares$Deal;I)Z"⟩, 5), (⟨"Secretshares", "doesFit", "(LSecretshares$Deal;I)Z"⟩, 5), (⟨"Secretshares$Field", "sealProduct", "(II)I"⟩, 5), (⟨"Secretshares", "tell", "(LSecretshares$Deal;II)I"⟩, 5), (⟨"Secretshares", "filledDeals", "()I"⟩, 5), (⟨"Secretshares$Deal", "isEmpty", "()Z"⟩, 5), (⟨"java/lang/Throwable", "fillInStackTrace", "(I)Ljava/lang/Throwable;"⟩, 6), (⟨"Secretshares", "dealAt", "(I)LSecretshares$Deal;"⟩, 5), (⟨"Secretshares$Deal", "shareCount", "()I"⟩, 5), (⟨"Secretshares$Deal", "holderSet", "()I"⟩, 5), (⟨"Secretshares", "isInLine", "(LSecretshares$Deal;I)Z"⟩, 5), (⟨"Secretshares$Poly", "goThrough", "(LSecretshares$Field;LSecretshares$Deal;I)V"⟩, 2), (⟨"Secretshares$Poly", "clear", "()V"⟩, 2), (⟨"Secretshares$Poly", "makeTerm", "(LSecretshares$Field;II)I"⟩, 2), (⟨"Secretshares$Poly", "addTerm", "(LSecretshares$Field;I)V"⟩, 2), (⟨"Secretshares$Poly", "highest", "()I"⟩, 2)]
theorem lw_r2 : ∀ q ∈ lw_privs_2, lw_okq q := List.forall_mem_cons.mpr ⟨lw_p16, List.forall_mem_cons.mpr ⟨lw_p17, List.forall_mem_cons.mpr ⟨lw_p18, List.forall_mem_cons.mpr ⟨lw_p19, List.forall_mem_cons.mpr ⟨lw_p20, List.forall_mem_cons.mpr ⟨lw_p21, List.forall_mem_cons.mpr ⟨lw_p22, List.forall_mem_cons.mpr ⟨lw_p23, List.forall_mem_cons.mpr ⟨lw_p24, List.forall_mem_cons.mpr ⟨lw_p25, List.forall_mem_cons.mpr ⟨lw_p26, List.forall_mem_cons.mpr ⟨lw_p27, List.forall_mem_cons.mpr ⟨lw_p28, List.forall_mem_cons.mpr ⟨lw_p29, List.forall_mem_cons.mpr ⟨lw_p30, List.forall_mem_cons.mpr ⟨lw_p31, fun _ h => absurd h List.not_mem_nil⟩⟩⟩⟩⟩⟩⟩⟩⟩⟩⟩⟩⟩⟩⟩⟩
theorem lw_p32 : lw_okq (⟨"Secretshares", "requireHolder", "(I)V"⟩, 5) := ⟨⟨by decide +kernel, by decide +kernel⟩, List.mem_of_getElem? (i := 24) (by decide +kernel), List.mem_of_getElem? (i := 398) (by decide +kernel), List.mem_of_getElem? (i := 399) (by decide +kernel)⟩
theorem lw_p33 : lw_okq (⟨"Secretshares", "requireSet", "(I)V"⟩, 5) := ⟨⟨by decide +kernel, by decide +kernel⟩, List.mem_of_getElem? (i := 24) (by decide +kernel), List.mem_of_getElem? (i := 453) (by decide +kernel), List.mem_of_getElem? (i := 454) (by decide +kernel)⟩
theorem lw_p34 : lw_okq (⟨"Secretshares$Poly", "become", "(LSecretshares$Field;IIIII)V"⟩, 2) := ⟨⟨by decide +kernel, by decide +kernel⟩, List.mem_of_getElem? (i := 73) (by decide +kernel), List.mem_of_getElem? (i := 476) (by decide +kernel), List.mem_of_getElem? (i := 477) (by decide +kernel)⟩
theorem lw_p35 : lw_okq (⟨"Secretshares$Poly", "addTo", "(LSecretshares$Field;III)V"⟩, 2) := ⟨⟨by decide +kernel, by decide +kernel⟩, List.mem_of_getElem? (i := 73) (by decide +kernel), List.mem_of_getElem? (i := 480) (by decide +kernel), List.mem_of_getElem? (i := 481) (by decide +kernel)⟩
theorem lw_p36 : lw_okq (⟨"Secretshares", "layPoly", "(LSecretshares$Deal;I)I"⟩, 5) := ⟨⟨by decide +kernel, by decide +kernel⟩, List.mem_of_getElem? (i := 24) (by decide +kernel), List.mem_of_getElem? (i := 484) (by decide +kernel), List.mem_of_getElem? (i := 485) (by decide +kernel)⟩
theorem lw_p37 : lw_okq (⟨"Secretshares$Deal", "start", "(I)V"⟩, 5) := ⟨⟨by decide +kernel, by decide +kernel⟩, List.mem_of_getElem? (i := 88) (by decide +kernel), List.mem_of_getElem? (i := 488) (by decide +kernel), List.mem_of_getElem? (i := 489) (by decide +kernel)⟩
theorem lw_p38 : lw_okq (⟨"Secretshares$Poly", "valueAt", "(LSecretshares$Field;I)I"⟩, 2) := ⟨⟨by decide +kernel, by decide +kernel⟩, List.mem_of_getElem? (i := 73) (by decide +kernel), List.mem_of_getElem? (i := 492) (by decide +kernel), List.mem_of_getElem? (i := 493) (by decide +kernel)⟩
theorem lw_p39 : lw_okq (⟨"Secretshares$Deal", "setShare", "(II)V"⟩, 5) := ⟨⟨by decide +kernel, by decide +kernel⟩, List.mem_of_getElem? (i := 88) (by decide +kernel), List.mem_of_getElem? (i := 496) (by decide +kernel), List.mem_of_getElem? (i := 497) (by decide +kernel)⟩
theorem lw_p40 : lw_okq (⟨"Secretshares$Poly", "at", "(I)I"⟩, 2) := ⟨⟨by decide +kernel, by decide +kernel⟩, List.mem_of_getElem? (i := 73) (by decide +kernel), List.mem_of_getElem? (i := 500) (by decide +kernel), List.mem_of_getElem? (i := 501) (by decide +kernel)⟩
theorem lw_p41 : lw_okq (⟨"Secretshares$Deal", "addSeal", "(I)V"⟩, 5) := ⟨⟨by decide +kernel, by decide +kernel⟩, List.mem_of_getElem? (i := 88) (by decide +kernel), List.mem_of_getElem? (i := 504) (by decide +kernel), List.mem_of_getElem? (i := 505) (by decide +kernel)⟩
theorem lw_p42 : lw_okq (⟨"Secretshares$Deal", "hasShare", "(I)Z"⟩, 5) := ⟨⟨by decide +kernel, by decide +kernel⟩, List.mem_of_getElem? (i := 88) (by decide +kernel), List.mem_of_getElem? (i := 515) (by decide +kernel), List.mem_of_getElem? (i := 516) (by decide +kernel)⟩
theorem lw_p43 : lw_okq (⟨"Secretshares$Deal", "setSeal", "(II)V"⟩, 5) := ⟨⟨by decide +kernel, by decide +kernel⟩, List.mem_of_getElem? (i := 88) (by decide +kernel), List.mem_of_getElem? (i := 520) (by decide +kernel), List.mem_of_getElem? (i := 521) (by decide +kernel)⟩
theorem lw_p44 : lw_okq (⟨"Secretshares", "addUp", "(LSecretshares$Deal;LSecretshares$Deal;LSecretshares$Deal;Z)I"⟩, 5) := ⟨⟨by decide +kernel, by decide +kernel⟩, List.mem_of_getElem? (i := 24) (by decide +kernel), List.mem_of_getElem? (i := 531) (by decide +kernel), List.mem_of_getElem? (i := 532) (by decide +kernel)⟩
theorem lw_p45 : lw_okq (⟨"Secretshares", "addUpSeals", "(LSecretshares$Deal;LSecretshares$Deal;Z)V"⟩, 5) := ⟨⟨by decide +kernel, by decide +kernel⟩, List.mem_of_getElem? (i := 24) (by decide +kernel), List.mem_of_getElem? (i := 538) (by decide +kernel), List.mem_of_getElem? (i := 539) (by decide +kernel)⟩
theorem lw_p46 : lw_okq (⟨"Secretshares$Field", "inverseSeal", "(I)I"⟩, 5) := ⟨⟨by decide +kernel, by decide +kernel⟩, List.mem_of_getElem? (i := 32) (by decide +kernel), List.mem_of_getElem? (i := 542) (by decide +kernel), List.mem_of_getElem? (i := 543) (by decide +kernel)⟩
theorem lw_p47 : lw_okq (⟨"Secretshares", "laySpare", "(LSecretshares$Deal;)I"⟩, 5) := ⟨⟨by decide +kernel, by decide +kernel⟩, List.mem_of_getElem? (i := 24) (by decide +kernel), List.mem_of_getElem? (i := 546) (by decide +kernel), List.mem_of_getElem? (i := 547) (by decide +kernel)⟩
def lw_privs_3 : List (MethodName × Nat) := [(⟨"Secretshares", "requireHolder", "(I)V"⟩, 5), (⟨"Secretshares", "requireSet", "(I)V"⟩, 5), (⟨"Secretshares$Poly", "become", "(LSecretshares$Field;IIIII)V"⟩, 2), (⟨"Secretshares$Poly", "addTo", "(LSecretshares$Field;III)V"⟩, 2), (⟨"Secretshares", "layPoly", "(LSecretshares$Deal;I)I"⟩, 5), (⟨"Secretshares$Deal", "start", "(I)V"⟩, 5), (⟨"Secretshares$Poly", "valueAt", "(LSecretshares$Field;I)I"⟩, 2), (⟨"Secretshares$Deal", "setShare", "(II)V"⟩, 5), (⟨"Secretshares$Poly", "at", "(I)I"⟩, 2), (⟨"Secretshares$Deal", "addSeal", "(I)V"⟩, 5), (⟨"Secretshares$Deal", "hasShare", "(I)Z"⟩, 5), (⟨"Secretshares$Deal", "setSeal", "(II)V"⟩, 5), (⟨"Secretshares", "addUp", "(LSecretshares$Deal;LSecretshares$Deal;LSecretshares$Deal;Z)I"⟩, 5), (⟨"Secretshares", "addUpSeals", "(LSecretshares$Deal;LSecretshares$Deal;Z)V"⟩, 5), (⟨"Secretshares$Field", "inverseSeal", "(I)I"⟩, 5), (⟨"Secretshares", "laySpare", "(LSecretshares$Deal;)I"⟩, 5)]
theorem lw_r3 : ∀ q ∈ lw_privs_3, lw_okq q := List.forall_mem_cons.mpr ⟨lw_p32, List.forall_mem_cons.mpr ⟨lw_p33, List.forall_mem_cons.mpr ⟨lw_p34, List.forall_mem_cons.mpr ⟨lw_p35, List.forall_mem_cons.mpr ⟨lw_p36, List.forall_mem_cons.mpr ⟨lw_p37, List.forall_mem_cons.mpr ⟨lw_p38, List.forall_mem_cons.mpr ⟨lw_p39, List.forall_mem_cons.mpr ⟨lw_p40, List.forall_mem_cons.mpr ⟨lw_p41, List.forall_mem_cons.mpr ⟨lw_p42, List.forall_mem_cons.mpr ⟨lw_p43, List.forall_mem_cons.mpr ⟨lw_p44, List.forall_mem_cons.mpr ⟨lw_p45, List.forall_mem_cons.mpr ⟨lw_p46, List.forall_mem_cons.mpr ⟨lw_p47, fun _ h => absurd h List.not_mem_nil⟩⟩⟩⟩⟩⟩⟩⟩⟩⟩⟩⟩⟩⟩⟩⟩
theorem lw_p48 : lw_okq (⟨"Secretshares$Deal", "take", "(LSecretshares$Deal;)V"⟩, 5) := ⟨⟨by decide +kernel, by decide +kernel⟩, List.mem_of_getElem? (i := 88) (by decide +kernel), List.mem_of_getElem? (i := 550) (by decide +kernel), List.mem_of_getElem? (i := 551) (by decide +kernel)⟩
theorem lw_p49 : lw_okq (⟨"Secretshares$Deal", "isEnough", "(I)Z"⟩, 5) := ⟨⟨by decide +kernel, by decide +kernel⟩, List.mem_of_getElem? (i := 88) (by decide +kernel), List.mem_of_getElem? (i := 583) (by decide +kernel), List.mem_of_getElem? (i := 584) (by decide +kernel)⟩
theorem lw_p50 : lw_okq (⟨"Secretshares$Deal", "isThere", "(I)Z"⟩, 5) := ⟨⟨by decide +kernel, by decide +kernel⟩, List.mem_of_getElem? (i := 88) (by decide +kernel), List.mem_of_getElem? (i := 587) (by decide +kernel), List.mem_of_getElem? (i := 588) (by decide +kernel)⟩
theorem lw_p51 : lw_okq (⟨"Secretshares", "wrongHolder", "(LSecretshares$Deal;)I"⟩, 5) := ⟨⟨by decide +kernel, by decide +kernel⟩, List.mem_of_getElem? (i := 24) (by decide +kernel), List.mem_of_getElem? (i := 621) (by decide +kernel), List.mem_of_getElem? (i := 622) (by decide +kernel)⟩
theorem lw_p52 : lw_okq (⟨"Secretshares", "suspectSet", "(LSecretshares$Deal;)I"⟩, 5) := ⟨⟨by decide +kernel, by decide +kernel⟩, List.mem_of_getElem? (i := 24) (by decide +kernel), List.mem_of_getElem? (i := 625) (by decide +kernel), List.mem_of_getElem? (i := 626) (by decide +kernel)⟩
theorem lw_p53 : lw_okq (⟨"Secretshares", "polysBeyond", "(I)I"⟩, 5) := ⟨⟨by decide +kernel, by decide +kernel⟩, List.mem_of_getElem? (i := 24) (by decide +kernel), List.mem_of_getElem? (i := 709) (by decide +kernel), List.mem_of_getElem? (i := 710) (by decide +kernel)⟩
theorem lw_p54 : lw_okq (⟨"SecretsharesModel", "start", "(ZI)Z"⟩, 6) := ⟨⟨by decide +kernel, by decide +kernel⟩, List.mem_of_getElem? (i := 1032) (by decide +kernel), List.mem_of_getElem? (i := 1070) (by decide +kernel), List.mem_of_getElem? (i := 1071) (by decide +kernel)⟩
theorem lw_p55 : lw_okq (⟨"SecretsharesModel", "refuse", "(ZI)Z"⟩, 6) := ⟨⟨by decide +kernel, by decide +kernel⟩, List.mem_of_getElem? (i := 1032) (by decide +kernel), List.mem_of_getElem? (i := 1074) (by decide +kernel), List.mem_of_getElem? (i := 1075) (by decide +kernel)⟩
theorem lw_p56 : lw_okq (⟨"SecretsharesModel", "p", "()I"⟩, 6) := ⟨⟨by decide +kernel, by decide +kernel⟩, List.mem_of_getElem? (i := 1032) (by decide +kernel), List.mem_of_getElem? (i := 1078) (by decide +kernel), List.mem_of_getElem? (i := 1079) (by decide +kernel)⟩
theorem lw_p57 : lw_okq (⟨"SecretsharesModel", "empty", "(I)V"⟩, 6) := ⟨⟨by decide +kernel, by decide +kernel⟩, List.mem_of_getElem? (i := 1032) (by decide +kernel), List.mem_of_getElem? (i := 1084) (by decide +kernel), List.mem_of_getElem? (i := 1085) (by decide +kernel)⟩
theorem lw_p58 : lw_okq (⟨"SecretsharesModel", "mod", "(J)I"⟩, 6) := ⟨⟨by decide +kernel, by decide +kernel⟩, List.mem_of_getElem? (i := 1032) (by decide +kernel), List.mem_of_getElem? (i := 1092) (by decide +kernel), List.mem_of_getElem? (i := 1093) (by decide +kernel)⟩
theorem lw_p59 : lw_okq (⟨"SecretsharesModel", "inverse", "(I)I"⟩, 6) := ⟨⟨by decide +kernel, by decide +kernel⟩, List.mem_of_getElem? (i := 1032) (by decide +kernel), List.mem_of_getElem? (i := 1100) (by decide +kernel), List.mem_of_getElem? (i := 1101) (by decide +kernel)⟩
theorem lw_p60 : lw_okq (⟨"SecretsharesModel", "sealBy", "(I)I"⟩, 6) := ⟨⟨by decide +kernel, by decide +kernel⟩, List.mem_of_getElem? (i := 1032) (by decide +kernel), List.mem_of_getElem? (i := 1122) (by decide +kernel), List.mem_of_getElem? (i := 1123) (by decide +kernel)⟩
theorem lw_p61 : lw_okq (⟨"SecretsharesModel", "q", "()I"⟩, 6) := ⟨⟨by decide +kernel, by decide +kernel⟩, List.mem_of_getElem? (i := 1032) (by decide +kernel), List.mem_of_getElem? (i := 1128) (by decide +kernel), List.mem_of_getElem? (i := 1129) (by decide +kernel)⟩
theorem lw_p62 : lw_okq (⟨"SecretsharesModel", "isNoHolder", "(I)Z"⟩, 6) := ⟨⟨by decide +kernel, by decide +kernel⟩, List.mem_of_getElem? (i := 1032) (by decide +kernel), List.mem_of_getElem? (i := 1138) (by decide +kernel), List.mem_of_getElem? (i := 1139) (by decide +kernel)⟩
theorem lw_p63 : lw_okq (⟨"SecretsharesModel", "holders", "()I"⟩, 6) := ⟨⟨by decide +kernel, by decide +kernel⟩, List.mem_of_getElem? (i := 1032) (by decide +kernel), List.mem_of_getElem? (i := 1142) (by decide +kernel), List.mem_of_getElem? (i := 1143) (by decide +kernel)⟩
def lw_privs_4 : List (MethodName × Nat) := [(⟨"Secretshares$Deal", "take", "(LSecretshares$Deal;)V"⟩, 5), (⟨"Secretshares$Deal", "isEnough", "(I)Z"⟩, 5), (⟨"Secretshares$Deal", "isThere", "(I)Z"⟩, 5), (⟨"Secretshares", "wrongHolder", "(LSecretshares$Deal;)I"⟩, 5), (⟨"Secretshares", "suspectSet", "(LSecretshares$Deal;)I"⟩, 5), (⟨"Secretshares", "polysBeyond", "(I)I"⟩, 5), (⟨"SecretsharesModel", "start", "(ZI)Z"⟩, 6), (⟨"SecretsharesModel", "refuse", "(ZI)Z"⟩, 6), (⟨"SecretsharesModel", "p", "()I"⟩, 6), (⟨"SecretsharesModel", "empty", "(I)V"⟩, 6), (⟨"SecretsharesModel", "mod", "(J)I"⟩, 6), (⟨"SecretsharesModel", "inverse", "(I)I"⟩, 6), (⟨"SecretsharesModel", "sealBy", "(I)I"⟩, 6), (⟨"SecretsharesModel", "q", "()I"⟩, 6), (⟨"SecretsharesModel", "isNoHolder", "(I)Z"⟩, 6), (⟨"SecretsharesModel", "holders", "()I"⟩, 6)]
theorem lw_r4 : ∀ q ∈ lw_privs_4, lw_okq q := List.forall_mem_cons.mpr ⟨lw_p48, List.forall_mem_cons.mpr ⟨lw_p49, List.forall_mem_cons.mpr ⟨lw_p50, List.forall_mem_cons.mpr ⟨lw_p51, List.forall_mem_cons.mpr ⟨lw_p52, List.forall_mem_cons.mpr ⟨lw_p53, List.forall_mem_cons.mpr ⟨lw_p54, List.forall_mem_cons.mpr ⟨lw_p55, List.forall_mem_cons.mpr ⟨lw_p56, List.forall_mem_cons.mpr ⟨lw_p57, List.forall_mem_cons.mpr ⟨lw_p58, List.forall_mem_cons.mpr ⟨lw_p59, List.forall_mem_cons.mpr ⟨lw_p60, List.forall_mem_cons.mpr ⟨lw_p61, List.forall_mem_cons.mpr ⟨lw_p62, List.forall_mem_cons.mpr ⟨lw_p63, fun _ h => absurd h List.not_mem_nil⟩⟩⟩⟩⟩⟩⟩⟩⟩⟩⟩⟩⟩⟩⟩⟩
theorem lw_p64 : lw_okq (⟨"SecretsharesModel", "isNoSet", "(I)Z"⟩, 6) := ⟨⟨by decide +kernel, by decide +kernel⟩, List.mem_of_getElem? (i := 1032) (by decide +kernel), List.mem_of_getElem? (i := 1147) (by decide +kernel), List.mem_of_getElem? (i := 1148) (by decide +kernel)⟩
theorem lw_p65 : lw_okq (⟨"SecretsharesModel", "at", "([III)I"⟩, 6) := ⟨⟨by decide +kernel, by decide +kernel⟩, List.mem_of_getElem? (i := 1032) (by decide +kernel), List.mem_of_getElem? (i := 1154) (by decide +kernel), List.mem_of_getElem? (i := 1155) (by decide +kernel)⟩
theorem lw_p66 : lw_okq (⟨"SecretsharesModel", "through", "([II)[I"⟩, 6) := ⟨⟨by decide +kernel, by decide +kernel⟩, List.mem_of_getElem? (i := 1032) (by decide +kernel), List.mem_of_getElem? (i := 1158) (by decide +kernel), List.mem_of_getElem? (i := 1159) (by decide +kernel)⟩
theorem lw_p67 : lw_okq (⟨"SecretsharesModel", "value", "([II)I"⟩, 6) := ⟨⟨by decide +kernel, by decide +kernel⟩, List.mem_of_getElem? (i := 1032) (by decide +kernel), List.mem_of_getElem? (i := 1162) (by decide +kernel), List.mem_of_getElem? (i := 1163) (by decide +kernel)⟩
theorem lw_p68 : lw_okq (⟨"SecretsharesModel", "weightsAt", "(II)I"⟩, 6) := ⟨⟨by decide +kernel, by decide +kernel⟩, List.mem_of_getElem? (i := 1032) (by decide +kernel), List.mem_of_getElem? (i := 1170) (by decide +kernel), List.mem_of_getElem? (i := 1171) (by decide +kernel)⟩
theorem lw_p69 : lw_okq (⟨"SecretsharesModel", "poly", "(IIIII)[I"⟩, 6) := ⟨⟨by decide +kernel, by decide +kernel⟩, List.mem_of_getElem? (i := 1032) (by decide +kernel), List.mem_of_getElem? (i := 1181) (by decide +kernel), List.mem_of_getElem? (i := 1182) (by decide +kernel)⟩
theorem lw_p70 : lw_okq (⟨"SecretsharesModel", "values", "([I)[I"⟩, 6) := ⟨⟨by decide +kernel, by decide +kernel⟩, List.mem_of_getElem? (i := 1032) (by decide +kernel), List.mem_of_getElem? (i := 1185) (by decide +kernel), List.mem_of_getElem? (i := 1186) (by decide +kernel)⟩
theorem lw_p71 : lw_okq (⟨"SecretsharesModel", "lay", "(II[I[I)I"⟩, 6) := ⟨⟨by decide +kernel, by decide +kernel⟩, List.mem_of_getElem? (i := 1032) (by decide +kernel), List.mem_of_getElem? (i := 1189) (by decide +kernel), List.mem_of_getElem? (i := 1190) (by decide +kernel)⟩
theorem lw_p72 : lw_okq (⟨"SecretsharesModel", "setOf", "(I)I"⟩, 6) := ⟨⟨by decide +kernel, by decide +kernel⟩, List.mem_of_getElem? (i := 1032) (by decide +kernel), List.mem_of_getElem? (i := 1193) (by decide +kernel), List.mem_of_getElem? (i := 1194) (by decide +kernel)⟩
theorem lw_p73 : lw_okq (⟨"SecretsharesModel", "isEmpty", "(I)Z"⟩, 6) := ⟨⟨by decide +kernel, by decide +kernel⟩, List.mem_of_getElem? (i := 1032) (by decide +kernel), List.mem_of_getElem? (i := 1197) (by decide +kernel), List.mem_of_getElem? (i := 1198) (by decide +kernel)⟩
theorem lw_p74 : lw_okq (⟨"SecretsharesModel", "areNoDeals", "(III)Z"⟩, 6) := ⟨⟨by decide +kernel, by decide +kernel⟩, List.mem_of_getElem? (i := 1032) (by decide +kernel), List.mem_of_getElem? (i := 1216) (by decide +kernel), List.mem_of_getElem? (i := 1217) (by decide +kernel)⟩
theorem lw_p75 : lw_okq (⟨"SecretsharesModel", "joined", "(IIII)I"⟩, 6) := ⟨⟨by decide +kernel, by decide +kernel⟩, List.mem_of_getElem? (i := 1032) (by decide +kernel), List.mem_of_getElem? (i := 1220) (by decide +kernel), List.mem_of_getElem? (i := 1221) (by decide +kernel)⟩
theorem lw_p76 : lw_okq (⟨"SecretsharesModel", "isEnough", "(II)Z"⟩, 6) := ⟨⟨by decide +kernel, by decide +kernel⟩, List.mem_of_getElem? (i := 1032) (by decide +kernel), List.mem_of_getElem? (i := 1244) (by decide +kernel), List.mem_of_getElem? (i := 1245) (by decide +kernel)⟩
theorem lw_p77 : lw_okq (⟨"SecretsharesModel", "isThere", "(II)Z"⟩, 6) := ⟨⟨by decide +kernel, by decide +kernel⟩, List.mem_of_getElem? (i := 1032) (by decide +kernel), List.mem_of_getElem? (i := 1248) (by decide +kernel), List.mem_of_getElem? (i := 1249) (by decide +kernel)⟩
theorem lw_p78 : lw_okq (⟨"SecretsharesModel", "put", "(III)V"⟩, 6) := ⟨⟨by decide +kernel, by decide +kernel⟩, List.mem_of_getElem? (i := 1032) (by decide +kernel), List.mem_of_getElem? (i := 1256) (by decide +kernel), List.mem_of_getElem? (i := 1257) (by decide +kernel)⟩
theorem lw_p79 : lw_okq (⟨"SecretsharesModel", "wrongOf", "(I)I"⟩, 6) := ⟨⟨by decide +kernel, by decide +kernel⟩, List.mem_of_getElem? (i := 1032) (by decide +kernel), List.mem_of_getElem? (i := 1272) (by decide +kernel), List.mem_of_getElem? (i := 1273) (by decide +kernel)⟩
def lw_privs_5 : List (MethodName × Nat) := [(⟨"SecretsharesModel", "isNoSet", "(I)Z"⟩, 6), (⟨"SecretsharesModel", "at", "([III)I"⟩, 6), (⟨"SecretsharesModel", "through", "([II)[I"⟩, 6), (⟨"SecretsharesModel", "value", "([II)I"⟩, 6), (⟨"SecretsharesModel", "weightsAt", "(II)I"⟩, 6), (⟨"SecretsharesModel", "poly", "(IIIII)[I"⟩, 6), (⟨"SecretsharesModel", "values", "([I)[I"⟩, 6), (⟨"SecretsharesModel", "lay", "(II[I[I)I"⟩, 6), (⟨"SecretsharesModel", "setOf", "(I)I"⟩, 6), (⟨"SecretsharesModel", "isEmpty", "(I)Z"⟩, 6), (⟨"SecretsharesModel", "areNoDeals", "(III)Z"⟩, 6), (⟨"SecretsharesModel", "joined", "(IIII)I"⟩, 6), (⟨"SecretsharesModel", "isEnough", "(II)Z"⟩, 6), (⟨"SecretsharesModel", "isThere", "(II)Z"⟩, 6), (⟨"SecretsharesModel", "put", "(III)V"⟩, 6), (⟨"SecretsharesModel", "wrongOf", "(I)I"⟩, 6)]
theorem lw_r5 : ∀ q ∈ lw_privs_5, lw_okq q := List.forall_mem_cons.mpr ⟨lw_p64, List.forall_mem_cons.mpr ⟨lw_p65, List.forall_mem_cons.mpr ⟨lw_p66, List.forall_mem_cons.mpr ⟨lw_p67, List.forall_mem_cons.mpr ⟨lw_p68, List.forall_mem_cons.mpr ⟨lw_p69, List.forall_mem_cons.mpr ⟨lw_p70, List.forall_mem_cons.mpr ⟨lw_p71, List.forall_mem_cons.mpr ⟨lw_p72, List.forall_mem_cons.mpr ⟨lw_p73, List.forall_mem_cons.mpr ⟨lw_p74, List.forall_mem_cons.mpr ⟨lw_p75, List.forall_mem_cons.mpr ⟨lw_p76, List.forall_mem_cons.mpr ⟨lw_p77, List.forall_mem_cons.mpr ⟨lw_p78, List.forall_mem_cons.mpr ⟨lw_p79, fun _ h => absurd h List.not_mem_nil⟩⟩⟩⟩⟩⟩⟩⟩⟩⟩⟩⟩⟩⟩⟩⟩
theorem lw_p80 : lw_okq (⟨"SecretsharesModel", "isAgreed", "(II)Z"⟩, 6) := ⟨⟨by decide +kernel, by decide +kernel⟩, List.mem_of_getElem? (i := 1032) (by decide +kernel), List.mem_of_getElem? (i := 1276) (by decide +kernel), List.mem_of_getElem? (i := 1277) (by decide +kernel)⟩
theorem lw_p81 : lw_okq (⟨"SecretsharesModel", "suspectsOf", "(I)I"⟩, 6) := ⟨⟨by decide +kernel, by decide +kernel⟩, List.mem_of_getElem? (i := 1032) (by decide +kernel), List.mem_of_getElem? (i := 1283) (by decide +kernel), List.mem_of_getElem? (i := 1284) (by decide +kernel)⟩
theorem lw_p82 : lw_okq (⟨"SecretsharesModel", "shareOf", "(II)I"⟩, 6) := ⟨⟨by decide +kernel, by decide +kernel⟩, List.mem_of_getElem? (i := 1032) (by decide +kernel), List.mem_of_getElem? (i := 1303) (by decide +kernel), List.mem_of_getElem? (i := 1304) (by decide +kernel)⟩
theorem lw_p83 : lw_okq (⟨"SecretsharesModel", "dealTold", "(II)I"⟩, 6) := ⟨⟨by decide +kernel, by decide +kernel⟩, List.mem_of_getElem? (i := 1032) (by decide +kernel), List.mem_of_getElem? (i := 1311) (by decide +kernel), List.mem_of_getElem? (i := 1312) (by decide +kernel)⟩
theorem lw_p84 : lw_okq (⟨"SecretsharesModel", "firstOf", "(I)I"⟩, 6) := ⟨⟨by decide +kernel, by decide +kernel⟩, List.mem_of_getElem? (i := 1032) (by decide +kernel), List.mem_of_getElem? (i := 1315) (by decide +kernel), List.mem_of_getElem? (i := 1316) (by decide +kernel)⟩
theorem lw_p85 : lw_okq (⟨"SecretsharesModel", "isNo", "(II)Z"⟩, 6) := ⟨⟨by decide +kernel, by decide +kernel⟩, List.mem_of_getElem? (i := 1032) (by decide +kernel), List.mem_of_getElem? (i := 1323) (by decide +kernel), List.mem_of_getElem? (i := 1324) (by decide +kernel)⟩
theorem lw_p86 : lw_okq (⟨"SecretsharesModel", "sealTold", "(II)I"⟩, 6) := ⟨⟨by decide +kernel, by decide +kernel⟩, List.mem_of_getElem? (i := 1032) (by decide +kernel), List.mem_of_getElem? (i := 1364) (by decide +kernel), List.mem_of_getElem? (i := 1365) (by decide +kernel)⟩
theorem lw_p87 : lw_okq (⟨"SecretsharesModel", "isFit", "(II)Z"⟩, 6) := ⟨⟨by decide +kernel, by decide +kernel⟩, List.mem_of_getElem? (i := 1032) (by decide +kernel), List.mem_of_getElem? (i := 1372) (by decide +kernel), List.mem_of_getElem? (i := 1373) (by decide +kernel)⟩
theorem lw_p88 : lw_okq (⟨"SecretsharesModel", "houseTold", "(I)I"⟩, 6) := ⟨⟨by decide +kernel, by decide +kernel⟩, List.mem_of_getElem? (i := 1032) (by decide +kernel), List.mem_of_getElem? (i := 1406) (by decide +kernel), List.mem_of_getElem? (i := 1407) (by decide +kernel)⟩
theorem lw_p89 : lw_okq (⟨"SecretsharesModel", "isWhole", "()Z"⟩, 6) := ⟨⟨by decide +kernel, by decide +kernel⟩, List.mem_of_getElem? (i := 1032) (by decide +kernel), List.mem_of_getElem? (i := 1414) (by decide +kernel), List.mem_of_getElem? (i := 1415) (by decide +kernel)⟩
theorem lw_p90 : lw_okq (⟨"SecretsharesModel", "isFirstSealed", "(I)Z"⟩, 6) := ⟨⟨by decide +kernel, by decide +kernel⟩, List.mem_of_getElem? (i := 1032) (by decide +kernel), List.mem_of_getElem? (i := 1418) (by decide +kernel), List.mem_of_getElem? (i := 1419) (by decide +kernel)⟩
def lw_privs_6 : List (MethodName × Nat) := [(⟨"SecretsharesModel", "isAgreed", "(II)Z"⟩, 6), (⟨"SecretsharesModel", "suspectsOf", "(I)I"⟩, 6), (⟨"SecretsharesModel", "shareOf", "(II)I"⟩, 6), (⟨"SecretsharesModel", "dealTold", "(II)I"⟩, 6), (⟨"SecretsharesModel", "firstOf", "(I)I"⟩, 6), (⟨"SecretsharesModel", "isNo", "(II)Z"⟩, 6), (⟨"SecretsharesModel", "sealTold", "(II)I"⟩, 6), (⟨"SecretsharesModel", "isFit", "(II)Z"⟩, 6), (⟨"SecretsharesModel", "houseTold", "(I)I"⟩, 6), (⟨"SecretsharesModel", "isWhole", "()Z"⟩, 6), (⟨"SecretsharesModel", "isFirstSealed", "(I)Z"⟩, 6)]
theorem lw_r6 : ∀ q ∈ lw_privs_6, lw_okq q := List.forall_mem_cons.mpr ⟨lw_p80, List.forall_mem_cons.mpr ⟨lw_p81, List.forall_mem_cons.mpr ⟨lw_p82, List.forall_mem_cons.mpr ⟨lw_p83, List.forall_mem_cons.mpr ⟨lw_p84, List.forall_mem_cons.mpr ⟨lw_p85, List.forall_mem_cons.mpr ⟨lw_p86, List.forall_mem_cons.mpr ⟨lw_p87, List.forall_mem_cons.mpr ⟨lw_p88, List.forall_mem_cons.mpr ⟨lw_p89, List.forall_mem_cons.mpr ⟨lw_p90, fun _ h => absurd h List.not_mem_nil⟩⟩⟩⟩⟩⟩⟩⟩⟩⟩⟩
def lw_privs : List (MethodName × Nat) := lw_privs_1 ++ (lw_privs_2 ++ (lw_privs_3 ++ (lw_privs_4 ++ (lw_privs_5 ++ (lw_privs_6)))))
def lw_tbl : List Cond := k2_sels lw_privs ++ tables_1
theorem lw_privs_ok : ∀ q ∈ lw_privs, lw_okq q := by
  show ∀ q ∈ lw_privs_1 ++ (lw_privs_2 ++ (lw_privs_3 ++ (lw_privs_4 ++ (lw_privs_5 ++ (lw_privs_6))))), lw_okq q
  exact List.forall_mem_append.mpr ⟨lw_r1, List.forall_mem_append.mpr ⟨lw_r2, List.forall_mem_append.mpr ⟨lw_r3, List.forall_mem_append.mpr ⟨lw_r4, List.forall_mem_append.mpr ⟨lw_r5, lw_r6⟩⟩⟩⟩⟩
-- ===== end of PART A; then your names; then what follows =====
def RX0 : String := "Secretshares$Deal"
def TX0 : u_T := fun k => match k with
  | 0 => ("Secretshares$Deal", "isFilled", "Z", false)
  | 1 => ("Secretshares$Deal", "degree", "I", false)
  | 2 => ("Secretshares$Deal", "sealCount", "I", false)
  | 3 => ("Secretshares$Deal", "shareRow", "[I", true)
  | _ => ("Secretshares$Deal", "sealRow", "[I", true)
def tyX0 : Nat → FieldType := fun k => match k with
  | 0 => .boolean
  | 1 => .int
  | 2 => .int
  | 3 => .array .int
  | _ => .array .int
theorem nmX0 : ∀ a, a < 5 → ∀ b, b < 5 → a ≠ b → (TX0 a).2.1 ≠ (TX0 b).2.1 := by decide +kernel
theorem tyX0_ok : ∀ k, k < 5 → parseFieldDescriptor (TX0 k).2.2.1 = some (tyX0 k) := by decide +kernel
abbrev cX0_init : ByteArray := prog_2_method_1_code
def yX0_init : MethodName := ⟨RX0, "<init>", "()V"⟩
abbrev cX0_clear : ByteArray := prog_2_method_2_code
def yX0_clear : MethodName := ⟨RX0, "clear", "()V"⟩
abbrev cX0_start : ByteArray := prog_2_method_3_code
def yX0_start : MethodName := ⟨RX0, "start", "(I)V"⟩
abbrev cX0_take : ByteArray := prog_2_method_4_code
def yX0_take : MethodName := ⟨RX0, "take", "(LSecretshares$Deal;)V"⟩
abbrev cX0_isEmpty : ByteArray := prog_2_method_5_code
def yX0_isEmpty : MethodName := ⟨RX0, "isEmpty", "()Z"⟩
abbrev cX0_shareAt : ByteArray := prog_2_method_6_code
def yX0_shareAt : MethodName := ⟨RX0, "shareAt", "(I)I"⟩
abbrev cX0_hasShare : ByteArray := prog_2_method_7_code
def yX0_hasShare : MethodName := ⟨RX0, "hasShare", "(I)Z"⟩
abbrev cX0_setShare : ByteArray := prog_2_method_8_code
def yX0_setShare : MethodName := ⟨RX0, "setShare", "(II)V"⟩
abbrev cX0_holderSet : ByteArray := prog_2_method_9_code
def yX0_holderSet : MethodName := ⟨RX0, "holderSet", "()I"⟩
abbrev cX0_shareCount : ByteArray := prog_2_method_10_code
def yX0_shareCount : MethodName := ⟨RX0, "shareCount", "()I"⟩
abbrev cX0_firstSet : ByteArray := prog_2_method_11_code
def yX0_firstSet : MethodName := ⟨RX0, "firstSet", "()I"⟩
abbrev cX0_isThere : ByteArray := prog_2_method_12_code
def yX0_isThere : MethodName := ⟨RX0, "isThere", "(I)Z"⟩
abbrev cX0_isEnough : ByteArray := prog_2_method_13_code
def yX0_isEnough : MethodName := ⟨RX0, "isEnough", "(I)Z"⟩
abbrev cX0_hasSeals : ByteArray := prog_2_method_14_code
def yX0_hasSeals : MethodName := ⟨RX0, "hasSeals", "()Z"⟩
abbrev cX0_sealAt : ByteArray := prog_2_method_15_code
def yX0_sealAt : MethodName := ⟨RX0, "sealAt", "(I)I"⟩
abbrev cX0_setSeal : ByteArray := prog_2_method_16_code
def yX0_setSeal : MethodName := ⟨RX0, "setSeal", "(II)V"⟩
abbrev cX0_addSeal : ByteArray := prog_2_method_17_code
def yX0_addSeal : MethodName := ⟨RX0, "addSeal", "(I)V"⟩
def RX1 : String := "Secretshares$Field"
def TX1 : u_T := fun k => match k with
  | 0 => ("Secretshares$Field", "which", "I", false)
  | 1 => ("Secretshares$Field", "prime", "I", false)
  | 2 => ("Secretshares$Field", "great", "I", false)
  | 3 => ("Secretshares$Field", "base", "I", false)
  | _ => ("Secretshares$Field", "holders", "I", false)
def tyX1 : Nat → FieldType := fun k => match k with
  | 0 => .int
  | 1 => .int
  | 2 => .int
  | 3 => .int
  | _ => .int
theorem nmX1 : ∀ a, a < 5 → ∀ b, b < 5 → a ≠ b → (TX1 a).2.1 ≠ (TX1 b).2.1 := by decide +kernel
theorem tyX1_ok : ∀ k, k < 5 → parseFieldDescriptor (TX1 k).2.2.1 = some (tyX1 k) := by decide +kernel
abbrev cX1_init : ByteArray := prog_3_method_1_code
def yX1_init : MethodName := ⟨RX1, "<init>", "()V"⟩
abbrev cX1_choose : ByteArray := prog_3_method_2_code
def yX1_choose : MethodName := ⟨RX1, "choose", "(I)V"⟩
abbrev cX1_raise : ByteArray := prog_3_method_3_code
def yX1_raise : MethodName := ⟨RX1, "raise", "(IJI)I"⟩
abbrev cX1_modPrime : ByteArray := prog_3_method_4_code
def yX1_modPrime : MethodName := ⟨RX1, "modPrime", "(J)I"⟩
abbrev cX1_inverse : ByteArray := prog_3_method_5_code
def yX1_inverse : MethodName := ⟨RX1, "inverse", "(I)I"⟩
abbrev cX1_inverseSeal : ByteArray := prog_3_method_6_code
def yX1_inverseSeal : MethodName := ⟨RX1, "inverseSeal", "(I)I"⟩
abbrev cX1_sealProduct : ByteArray := prog_3_method_7_code
def yX1_sealProduct : MethodName := ⟨RX1, "sealProduct", "(II)I"⟩
abbrev cX1_sealFor : ByteArray := prog_3_method_8_code
def yX1_sealFor : MethodName := ⟨RX1, "sealFor", "(I)I"⟩
abbrev cX1_weightAt : ByteArray := prog_3_method_9_code
def yX1_weightAt : MethodName := ⟨RX1, "weightAt", "(III)I"⟩
def RX2 : String := "Secretshares$Poly"
def TX2 : u_T := fun k => match k with
  | 0 => ("Secretshares$Poly", "row", "[I", true)
  | _ => ("Secretshares$Poly", "term", "[I", true)
def tyX2 : Nat → FieldType := fun k => match k with
  | 0 => .array .int
  | _ => .array .int
theorem nmX2 : ∀ a, a < 2 → ∀ b, b < 2 → a ≠ b → (TX2 a).2.1 ≠ (TX2 b).2.1 := by decide +kernel
theorem tyX2_ok : ∀ k, k < 2 → parseFieldDescriptor (TX2 k).2.2.1 = some (tyX2 k) := by decide +kernel
abbrev cX2_init : ByteArray := prog_4_method_1_code
def yX2_init : MethodName := ⟨RX2, "<init>", "()V"⟩
abbrev cX2_clear : ByteArray := prog_4_method_2_code
def yX2_clear : MethodName := ⟨RX2, "clear", "()V"⟩
abbrev cX2_at : ByteArray := prog_4_method_3_code
def yX2_at : MethodName := ⟨RX2, "at", "(I)I"⟩
abbrev cX2_addTo : ByteArray := prog_4_method_4_code
def yX2_addTo : MethodName := ⟨RX2, "addTo", "(LSecretshares$Field;III)V"⟩
abbrev cX2_become : ByteArray := prog_4_method_5_code
def yX2_become : MethodName := ⟨RX2, "become", "(LSecretshares$Field;IIIII)V"⟩
abbrev cX2_valueAt : ByteArray := prog_4_method_6_code
def yX2_valueAt : MethodName := ⟨RX2, "valueAt", "(LSecretshares$Field;I)I"⟩
abbrev cX2_highest : ByteArray := prog_4_method_7_code
def yX2_highest : MethodName := ⟨RX2, "highest", "()I"⟩
abbrev cX2_goThrough : ByteArray := prog_4_method_8_code
def yX2_goThrough : MethodName := ⟨RX2, "goThrough", "(LSecretshares$Field;LSecretshares$Deal;I)V"⟩
abbrev cX2_makeTerm : ByteArray := prog_4_method_9_code
def yX2_makeTerm : MethodName := ⟨RX2, "makeTerm", "(LSecretshares$Field;II)I"⟩
abbrev cX2_addTerm : ByteArray := prog_4_method_10_code
def yX2_addTerm : MethodName := ⟨RX2, "addTerm", "(LSecretshares$Field;I)V"⟩
def RX3 : String := "Secretshares"
def TX3 : u_T := fun k => match k with
  | 0 => ("Secretshares", "field", "LSecretshares$Field;", true)
  | 1 => ("Secretshares", "poly", "LSecretshares$Poly;", true)
  | 2 => ("Secretshares", "deals", "[LSecretshares$Deal;", true)
  | 3 => ("Secretshares", "spare", "LSecretshares$Deal;", true)
  | _ => ("Secretshares", "knocks", "I", false)
def tyX3 : Nat → FieldType := fun k => match k with
  | 0 => .object "Secretshares$Field"
  | 1 => .object "Secretshares$Poly"
  | 2 => .array (.object "Secretshares$Deal")
  | 3 => .object "Secretshares$Deal"
  | _ => .int
theorem nmX3 : ∀ a, a < 5 → ∀ b, b < 5 → a ≠ b → (TX3 a).2.1 ≠ (TX3 b).2.1 := by decide +kernel
theorem tyX3_ok : ∀ k, k < 5 → parseFieldDescriptor (TX3 k).2.2.1 = some (tyX3 k) := by decide +kernel
abbrev cX3_init : ByteArray := prog_1_method_1_code
def yX3_init : MethodName := ⟨RX3, "<init>", "()V"⟩
abbrev cX3_prime : ByteArray := prog_1_method_2_code
def yX3_prime : MethodName := ⟨RX3, "prime", "(I)I"⟩
abbrev cX3_rest : ByteArray := prog_1_method_3_code
def yX3_rest : MethodName := ⟨RX3, "rest", "(I)I"⟩
abbrev cX3_reckon : ByteArray := prog_1_method_4_code
def yX3_reckon : MethodName := ⟨RX3, "reckon", "(III)I"⟩
abbrev cX3_reciprocal : ByteArray := prog_1_method_5_code
def yX3_reciprocal : MethodName := ⟨RX3, "reciprocal", "(I)I"⟩
abbrev cX3_power : ByteArray := prog_1_method_6_code
def yX3_power : MethodName := ⟨RX3, "power", "(II)I"⟩
abbrev cX3_sealOf : ByteArray := prog_1_method_7_code
def yX3_sealOf : MethodName := ⟨RX3, "sealOf", "(I)I"⟩
abbrev cX3_weight : ByteArray := prog_1_method_8_code
def yX3_weight : MethodName := ⟨RX3, "weight", "(III)I"⟩
abbrev cX3_weights : ByteArray := prog_1_method_9_code
def yX3_weights : MethodName := ⟨RX3, "weights", "(II)I"⟩
abbrev cX3_hide : ByteArray := prog_1_method_10_code
def yX3_hide : MethodName := ⟨RX3, "hide", "(IIIIII)I"⟩
abbrev cX3_pour : ByteArray := prog_1_method_11_code
def yX3_pour : MethodName := ⟨RX3, "pour", "(IIIII)I"⟩
abbrev cX3_plus : ByteArray := prog_1_method_12_code
def yX3_plus : MethodName := ⟨RX3, "plus", "(III)I"⟩
abbrev cX3_less : ByteArray := prog_1_method_13_code
def yX3_less : MethodName := ⟨RX3, "less", "(III)I"⟩
abbrev cX3_times : ByteArray := prog_1_method_14_code
def yX3_times : MethodName := ⟨RX3, "times", "(III)I"⟩
abbrev cX3_scale : ByteArray := prog_1_method_15_code
def yX3_scale : MethodName := ⟨RX3, "scale", "(III)I"⟩
abbrev cX3_handOn : ByteArray := prog_1_method_16_code
def yX3_handOn : MethodName := ⟨RX3, "handOn", "(IIIIII)I"⟩
abbrev cX3_lose : ByteArray := prog_1_method_17_code
def yX3_lose : MethodName := ⟨RX3, "lose", "(II)I"⟩
abbrev cX3_give : ByteArray := prog_1_method_18_code
def yX3_give : MethodName := ⟨RX3, "give", "(III)I"⟩
abbrev cX3_regain : ByteArray := prog_1_method_19_code
def yX3_regain : MethodName := ⟨RX3, "regain", "(III)I"⟩
abbrev cX3_mend : ByteArray := prog_1_method_20_code
def yX3_mend : MethodName := ⟨RX3, "mend", "(I)I"⟩
abbrev cX3_copy : ByteArray := prog_1_method_21_code
def yX3_copy : MethodName := ⟨RX3, "copy", "(II)I"⟩
abbrev cX3_drop : ByteArray := prog_1_method_22_code
def yX3_drop : MethodName := ⟨RX3, "drop", "(I)I"⟩
abbrev cX3_knock : ByteArray := prog_1_method_23_code
def yX3_knock : MethodName := ⟨RX3, "knock", "()I"⟩
abbrev cX3_share : ByteArray := prog_1_method_24_code
def yX3_share : MethodName := ⟨RX3, "share", "(II)I"⟩
abbrev cX3_ofDeal : ByteArray := prog_1_method_25_code
def yX3_ofDeal : MethodName := ⟨RX3, "ofDeal", "(II)I"⟩
abbrev cX3_told : ByteArray := prog_1_method_26_code
def yX3_told : MethodName := ⟨RX3, "told", "(III)I"⟩
abbrev cX3_open : ByteArray := prog_1_method_27_code
def yX3_open : MethodName := ⟨RX3, "open", "(II)I"⟩
abbrev cX3_coefficient : ByteArray := prog_1_method_28_code
def yX3_coefficient : MethodName := ⟨RX3, "coefficient", "(III)I"⟩
abbrev cX3_degreeBy : ByteArray := prog_1_method_29_code
def yX3_degreeBy : MethodName := ⟨RX3, "degreeBy", "(II)I"⟩
abbrev cX3_agrees : ByteArray := prog_1_method_30_code
def yX3_agrees : MethodName := ⟨RX3, "agrees", "(II)I"⟩
abbrev cX3_suspects : ByteArray := prog_1_method_31_code
def yX3_suspects : MethodName := ⟨RX3, "suspects", "(I)I"⟩
abbrev cX3_wrong : ByteArray := prog_1_method_32_code
def yX3_wrong : MethodName := ⟨RX3, "wrong", "(I)I"⟩
abbrev cX3_ways : ByteArray := prog_1_method_33_code
def yX3_ways : MethodName := ⟨RX3, "ways", "(III)I"⟩
abbrev cX3_total : ByteArray := prog_1_method_34_code
def yX3_total : MethodName := ⟨RX3, "total", "(II)I"⟩
abbrev cX3_seal : ByteArray := prog_1_method_35_code
def yX3_seal : MethodName := ⟨RX3, "seal", "(II)I"⟩
abbrev cX3_fits : ByteArray := prog_1_method_36_code
def yX3_fits : MethodName := ⟨RX3, "fits", "(II)I"⟩
abbrev cX3_order : ByteArray := prog_1_method_37_code
def yX3_order : MethodName := ⟨RX3, "order", "(III)I"⟩
abbrev cX3_most : ByteArray := prog_1_method_38_code
def yX3_most : MethodName := ⟨RX3, "most", "(IZ)I"⟩
abbrev cX3_text : ByteArray := prog_1_method_39_code
def yX3_text : MethodName := ⟨RX3, "text", "(I)Ljava/lang/String;"⟩
abbrev cX3_seals : ByteArray := prog_1_method_40_code
def yX3_seals : MethodName := ⟨RX3, "seals", "(I)Ljava/lang/String;"⟩
abbrev cX3_isSame : ByteArray := prog_1_method_41_code
def yX3_isSame : MethodName := ⟨RX3, "isSame", "(II)Z"⟩
abbrev cX3_house : ByteArray := prog_1_method_42_code
def yX3_house : MethodName := ⟨RX3, "house", "(I)I"⟩
abbrev cX3_isSound : ByteArray := prog_1_method_43_code
def yX3_isSound : MethodName := ⟨RX3, "isSound", "()Z"⟩
abbrev cX3_digest : ByteArray := prog_1_method_44_code
def yX3_digest : MethodName := ⟨RX3, "digest", "()J"⟩
abbrev cX3_dealAt : ByteArray := prog_1_method_45_code
def yX3_dealAt : MethodName := ⟨RX3, "dealAt", "(I)LSecretshares$Deal;"⟩
abbrev cX3_requireHolder : ByteArray := prog_1_method_46_code
def yX3_requireHolder : MethodName := ⟨RX3, "requireHolder", "(I)V"⟩
abbrev cX3_requireSet : ByteArray := prog_1_method_47_code
def yX3_requireSet : MethodName := ⟨RX3, "requireSet", "(I)V"⟩
abbrev cX3_requireToldDegree : ByteArray := prog_1_method_48_code
def yX3_requireToldDegree : MethodName := ⟨RX3, "requireToldDegree", "(I)V"⟩
abbrev cX3_requireCoefficient : ByteArray := prog_1_method_49_code
def yX3_requireCoefficient : MethodName := ⟨RX3, "requireCoefficient", "(I)V"⟩
abbrev cX3_bitOf : ByteArray := prog_1_method_50_code
def yX3_bitOf : MethodName := ⟨RX3, "bitOf", "(I)I"⟩
abbrev cX3_isIn : ByteArray := prog_1_method_51_code
def yX3_isIn : MethodName := ⟨RX3, "isIn", "(II)Z"⟩
abbrev cX3_allHolders : ByteArray := prog_1_method_52_code
def yX3_allHolders : MethodName := ⟨RX3, "allHolders", "()I"⟩
abbrev cX3_quotient : ByteArray := prog_1_method_53_code
def yX3_quotient : MethodName := ⟨RX3, "quotient", "(II)I"⟩
abbrev cX3_weightSum : ByteArray := prog_1_method_54_code
def yX3_weightSum : MethodName := ⟨RX3, "weightSum", "(II)I"⟩
abbrev cX3_tell : ByteArray := prog_1_method_55_code
def yX3_tell : MethodName := ⟨RX3, "tell", "(LSecretshares$Deal;II)I"⟩
abbrev cX3_layPoly : ByteArray := prog_1_method_56_code
def yX3_layPoly : MethodName := ⟨RX3, "layPoly", "(LSecretshares$Deal;I)I"⟩
abbrev cX3_laySpare : ByteArray := prog_1_method_57_code
def yX3_laySpare : MethodName := ⟨RX3, "laySpare", "(LSecretshares$Deal;)I"⟩
abbrev cX3_addUp : ByteArray := prog_1_method_58_code
def yX3_addUp : MethodName := ⟨RX3, "addUp", "(LSecretshares$Deal;LSecretshares$Deal;LSecretshares$Deal;Z)I"⟩
abbrev cX3_addUpSeals : ByteArray := prog_1_method_59_code
def yX3_addUpSeals : MethodName := ⟨RX3, "addUpSeals", "(LSecretshares$Deal;LSecretshares$Deal;Z)V"⟩
abbrev cX3_isInLine : ByteArray := prog_1_method_60_code
def yX3_isInLine : MethodName := ⟨RX3, "isInLine", "(LSecretshares$Deal;I)Z"⟩
abbrev cX3_suspectSet : ByteArray := prog_1_method_61_code
def yX3_suspectSet : MethodName := ⟨RX3, "suspectSet", "(LSecretshares$Deal;)I"⟩
abbrev cX3_wrongHolder : ByteArray := prog_1_method_62_code
def yX3_wrongHolder : MethodName := ⟨RX3, "wrongHolder", "(LSecretshares$Deal;)I"⟩
abbrev cX3_polysBeyond : ByteArray := prog_1_method_63_code
def yX3_polysBeyond : MethodName := ⟨RX3, "polysBeyond", "(I)I"⟩
abbrev cX3_doesFit : ByteArray := prog_1_method_64_code
def yX3_doesFit : MethodName := ⟨RX3, "doesFit", "(LSecretshares$Deal;I)Z"⟩
abbrev cX3_filledDeals : ByteArray := prog_1_method_65_code
def yX3_filledDeals : MethodName := ⟨RX3, "filledDeals", "()I"⟩
abbrev cX3_areSharesSound : ByteArray := prog_1_method_66_code
def yX3_areSharesSound : MethodName := ⟨RX3, "areSharesSound", "(LSecretshares$Deal;)Z"⟩
abbrev cX3_areSealsSound : ByteArray := prog_1_method_67_code
def yX3_areSealsSound : MethodName := ⟨RX3, "areSealsSound", "(LSecretshares$Deal;)Z"⟩
abbrev cX3_isFirstSealSound : ByteArray := prog_1_method_68_code
def yX3_isFirstSealSound : MethodName := ⟨RX3, "isFirstSealSound", "()Z"⟩
abbrev cX3_doAllFit : ByteArray := prog_1_method_69_code
def yX3_doAllFit : MethodName := ⟨RX3, "doAllFit", "(LSecretshares$Deal;I)Z"⟩
def RX4 : String := "SecretsharesLaw$Out"
def TX4 : u_T := fun k => match k with
  | 0 => ("SecretsharesLaw$Out", "n", "J", false)
  | _ => ("SecretsharesLaw$Out", "s", "Ljava/lang/String;", false)
def tyX4 : Nat → FieldType := fun k => match k with
  | 0 => .long
  | _ => .object "java/lang/String"
theorem nmX4 : ∀ a, a < 2 → ∀ b, b < 2 → a ≠ b → (TX4 a).2.1 ≠ (TX4 b).2.1 := by decide +kernel
theorem tyX4_ok : ∀ k, k < 2 → parseFieldDescriptor (TX4 k).2.2.1 = some (tyX4 k) := by decide +kernel
abbrev cX4_init : ByteArray := prog_6_method_1_code
def yX4_init : MethodName := ⟨RX4, "<init>", "()V"⟩
def RX5 : String := "SecretsharesModel"
def TX5 : u_T := fun k => match k with
  | 0 => ("SecretsharesModel", "thrown", "I", false)
  | 1 => ("SecretsharesModel", "which", "I", false)
  | 2 => ("SecretsharesModel", "knocks", "I", false)
  | 3 => ("SecretsharesModel", "degrees", "[I", true)
  | 4 => ("SecretsharesModel", "shares", "[[I", true)
  | _ => ("SecretsharesModel", "powers", "[[I", true)
def tyX5 : Nat → FieldType := fun k => match k with
  | 0 => .int
  | 1 => .int
  | 2 => .int
  | 3 => .array .int
  | 4 => .array (.array .int)
  | _ => .array (.array .int)
theorem nmX5 : ∀ a, a < 6 → ∀ b, b < 6 → a ≠ b → (TX5 a).2.1 ≠ (TX5 b).2.1 := by decide +kernel
theorem tyX5_ok : ∀ k, k < 6 → parseFieldDescriptor (TX5 k).2.2.1 = some (tyX5 k) := by decide +kernel
abbrev cX5_init : ByteArray := prog_7_method_1_code
def yX5_init : MethodName := ⟨RX5, "<init>", "()V"⟩
abbrev cX5_thrown : ByteArray := prog_7_method_2_code
def yX5_thrown : MethodName := ⟨RX5, "thrown", "()I"⟩
abbrev cX5_isIn : ByteArray := prog_7_method_3_code
def yX5_isIn : MethodName := ⟨RX5, "isIn", "(III)Z"⟩
abbrev cX5_one : ByteArray := prog_7_method_4_code
def yX5_one : MethodName := ⟨RX5, "one", "(Z)I"⟩
abbrev cX5_refuse : ByteArray := prog_7_method_5_code
def yX5_refuse : MethodName := ⟨RX5, "refuse", "(ZI)Z"⟩
abbrev cX5_start : ByteArray := prog_7_method_6_code
def yX5_start : MethodName := ⟨RX5, "start", "(ZI)Z"⟩
abbrev cX5_p : ByteArray := prog_7_method_7_code
def yX5_p : MethodName := ⟨RX5, "p", "()I"⟩
abbrev cX5_q : ByteArray := prog_7_method_8_code
def yX5_q : MethodName := ⟨RX5, "q", "()I"⟩
abbrev cX5_holders : ByteArray := prog_7_method_9_code
def yX5_holders : MethodName := ⟨RX5, "holders", "()I"⟩
abbrev cX5_isNoDeal : ByteArray := prog_7_method_10_code
def yX5_isNoDeal : MethodName := ⟨RX5, "isNoDeal", "(I)Z"⟩
abbrev cX5_isNoHolder : ByteArray := prog_7_method_11_code
def yX5_isNoHolder : MethodName := ⟨RX5, "isNoHolder", "(I)Z"⟩
abbrev cX5_isNoSet : ByteArray := prog_7_method_12_code
def yX5_isNoSet : MethodName := ⟨RX5, "isNoSet", "(I)Z"⟩
abbrev cX5_has : ByteArray := prog_7_method_13_code
def yX5_has : MethodName := ⟨RX5, "has", "(II)Z"⟩
abbrev cX5_many : ByteArray := prog_7_method_14_code
def yX5_many : MethodName := ⟨RX5, "many", "(I)I"⟩
abbrev cX5_mod : ByteArray := prog_7_method_15_code
def yX5_mod : MethodName := ⟨RX5, "mod", "(J)I"⟩
abbrev cX5_inverse : ByteArray := prog_7_method_16_code
def yX5_inverse : MethodName := ⟨RX5, "inverse", "(I)I"⟩
abbrev cX5_raised : ByteArray := prog_7_method_17_code
def yX5_raised : MethodName := ⟨RX5, "raised", "(III)I"⟩
abbrev cX5_sealBy : ByteArray := prog_7_method_18_code
def yX5_sealBy : MethodName := ⟨RX5, "sealBy", "(I)I"⟩
abbrev cX5_prime : ByteArray := prog_7_method_19_code
def yX5_prime : MethodName := ⟨RX5, "prime", "(I)I"⟩
abbrev cX5_rest : ByteArray := prog_7_method_20_code
def yX5_rest : MethodName := ⟨RX5, "rest", "(I)I"⟩
abbrev cX5_reckon : ByteArray := prog_7_method_21_code
def yX5_reckon : MethodName := ⟨RX5, "reckon", "(III)I"⟩
abbrev cX5_reciprocal : ByteArray := prog_7_method_22_code
def yX5_reciprocal : MethodName := ⟨RX5, "reciprocal", "(I)I"⟩
abbrev cX5_power : ByteArray := prog_7_method_23_code
def yX5_power : MethodName := ⟨RX5, "power", "(II)I"⟩
abbrev cX5_sealOf : ByteArray := prog_7_method_24_code
def yX5_sealOf : MethodName := ⟨RX5, "sealOf", "(I)I"⟩
abbrev cX5_value : ByteArray := prog_7_method_25_code
def yX5_value : MethodName := ⟨RX5, "value", "([II)I"⟩
abbrev cX5_through : ByteArray := prog_7_method_26_code
def yX5_through : MethodName := ⟨RX5, "through", "([II)[I"⟩
abbrev cX5_at : ByteArray := prog_7_method_27_code
def yX5_at : MethodName := ⟨RX5, "at", "([III)I"⟩
abbrev cX5_degreeOf : ByteArray := prog_7_method_28_code
def yX5_degreeOf : MethodName := ⟨RX5, "degreeOf", "([I)I"⟩
abbrev cX5_poly : ByteArray := prog_7_method_29_code
def yX5_poly : MethodName := ⟨RX5, "poly", "(IIIII)[I"⟩
abbrev cX5_values : ByteArray := prog_7_method_30_code
def yX5_values : MethodName := ⟨RX5, "values", "([I)[I"⟩
abbrev cX5_weight : ByteArray := prog_7_method_31_code
def yX5_weight : MethodName := ⟨RX5, "weight", "(III)I"⟩
abbrev cX5_weightsAt : ByteArray := prog_7_method_32_code
def yX5_weightsAt : MethodName := ⟨RX5, "weightsAt", "(II)I"⟩
abbrev cX5_weights : ByteArray := prog_7_method_33_code
def yX5_weights : MethodName := ⟨RX5, "weights", "(II)I"⟩
abbrev cX5_isEmpty : ByteArray := prog_7_method_34_code
def yX5_isEmpty : MethodName := ⟨RX5, "isEmpty", "(I)Z"⟩
abbrev cX5_empty : ByteArray := prog_7_method_35_code
def yX5_empty : MethodName := ⟨RX5, "empty", "(I)V"⟩
abbrev cX5_setOf : ByteArray := prog_7_method_36_code
def yX5_setOf : MethodName := ⟨RX5, "setOf", "(I)I"⟩
abbrev cX5_lay : ByteArray := prog_7_method_37_code
def yX5_lay : MethodName := ⟨RX5, "lay", "(II[I[I)I"⟩
abbrev cX5_isThere : ByteArray := prog_7_method_38_code
def yX5_isThere : MethodName := ⟨RX5, "isThere", "(II)Z"⟩
abbrev cX5_isEnough : ByteArray := prog_7_method_39_code
def yX5_isEnough : MethodName := ⟨RX5, "isEnough", "(II)Z"⟩
abbrev cX5_isAgreed : ByteArray := prog_7_method_40_code
def yX5_isAgreed : MethodName := ⟨RX5, "isAgreed", "(II)Z"⟩
abbrev cX5_hide : ByteArray := prog_7_method_41_code
def yX5_hide : MethodName := ⟨RX5, "hide", "(IIIIII)I"⟩
abbrev cX5_pour : ByteArray := prog_7_method_42_code
def yX5_pour : MethodName := ⟨RX5, "pour", "(IIIII)I"⟩
abbrev cX5_areNoDeals : ByteArray := prog_7_method_43_code
def yX5_areNoDeals : MethodName := ⟨RX5, "areNoDeals", "(III)Z"⟩
abbrev cX5_of : ByteArray := prog_7_method_44_code
def yX5_of : MethodName := ⟨RX5, "of", "([II)I"⟩
abbrev cX5_joined : ByteArray := prog_7_method_45_code
def yX5_joined : MethodName := ⟨RX5, "joined", "(IIII)I"⟩
abbrev cX5_plus : ByteArray := prog_7_method_46_code
def yX5_plus : MethodName := ⟨RX5, "plus", "(III)I"⟩
abbrev cX5_less : ByteArray := prog_7_method_47_code
def yX5_less : MethodName := ⟨RX5, "less", "(III)I"⟩
abbrev cX5_times : ByteArray := prog_7_method_48_code
def yX5_times : MethodName := ⟨RX5, "times", "(III)I"⟩
abbrev cX5_scale : ByteArray := prog_7_method_49_code
def yX5_scale : MethodName := ⟨RX5, "scale", "(III)I"⟩
abbrev cX5_handOn : ByteArray := prog_7_method_50_code
def yX5_handOn : MethodName := ⟨RX5, "handOn", "(IIIIII)I"⟩
abbrev cX5_put : ByteArray := prog_7_method_51_code
def yX5_put : MethodName := ⟨RX5, "put", "(III)V"⟩
abbrev cX5_lose : ByteArray := prog_7_method_52_code
def yX5_lose : MethodName := ⟨RX5, "lose", "(II)I"⟩
abbrev cX5_give : ByteArray := prog_7_method_53_code
def yX5_give : MethodName := ⟨RX5, "give", "(III)I"⟩
abbrev cX5_regain : ByteArray := prog_7_method_54_code
def yX5_regain : MethodName := ⟨RX5, "regain", "(III)I"⟩
abbrev cX5_suspectsOf : ByteArray := prog_7_method_55_code
def yX5_suspectsOf : MethodName := ⟨RX5, "suspectsOf", "(I)I"⟩
abbrev cX5_wrongOf : ByteArray := prog_7_method_56_code
def yX5_wrongOf : MethodName := ⟨RX5, "wrongOf", "(I)I"⟩
abbrev cX5_mend : ByteArray := prog_7_method_57_code
def yX5_mend : MethodName := ⟨RX5, "mend", "(I)I"⟩
abbrev cX5_copy : ByteArray := prog_7_method_58_code
def yX5_copy : MethodName := ⟨RX5, "copy", "(II)I"⟩
abbrev cX5_drop : ByteArray := prog_7_method_59_code
def yX5_drop : MethodName := ⟨RX5, "drop", "(I)I"⟩
abbrev cX5_knock : ByteArray := prog_7_method_60_code
def yX5_knock : MethodName := ⟨RX5, "knock", "()I"⟩
abbrev cX5_shareOf : ByteArray := prog_7_method_61_code
def yX5_shareOf : MethodName := ⟨RX5, "shareOf", "(II)I"⟩
abbrev cX5_share : ByteArray := prog_7_method_62_code
def yX5_share : MethodName := ⟨RX5, "share", "(II)I"⟩
abbrev cX5_firstOf : ByteArray := prog_7_method_63_code
def yX5_firstOf : MethodName := ⟨RX5, "firstOf", "(I)I"⟩
abbrev cX5_dealTold : ByteArray := prog_7_method_64_code
def yX5_dealTold : MethodName := ⟨RX5, "dealTold", "(II)I"⟩
abbrev cX5_ofDeal : ByteArray := prog_7_method_65_code
def yX5_ofDeal : MethodName := ⟨RX5, "ofDeal", "(II)I"⟩
abbrev cX5_isNo : ByteArray := prog_7_method_66_code
def yX5_isNo : MethodName := ⟨RX5, "isNo", "(II)Z"⟩
abbrev cX5_told : ByteArray := prog_7_method_67_code
def yX5_told : MethodName := ⟨RX5, "told", "(III)I"⟩
abbrev cX5_open : ByteArray := prog_7_method_68_code
def yX5_open : MethodName := ⟨RX5, "open", "(II)I"⟩
abbrev cX5_coefficient : ByteArray := prog_7_method_69_code
def yX5_coefficient : MethodName := ⟨RX5, "coefficient", "(III)I"⟩
abbrev cX5_degreeBy : ByteArray := prog_7_method_70_code
def yX5_degreeBy : MethodName := ⟨RX5, "degreeBy", "(II)I"⟩
abbrev cX5_agrees : ByteArray := prog_7_method_71_code
def yX5_agrees : MethodName := ⟨RX5, "agrees", "(II)I"⟩
abbrev cX5_suspects : ByteArray := prog_7_method_72_code
def yX5_suspects : MethodName := ⟨RX5, "suspects", "(I)I"⟩
abbrev cX5_wrong : ByteArray := prog_7_method_73_code
def yX5_wrong : MethodName := ⟨RX5, "wrong", "(I)I"⟩
abbrev cX5_ways : ByteArray := prog_7_method_74_code
def yX5_ways : MethodName := ⟨RX5, "ways", "(III)I"⟩
abbrev cX5_total : ByteArray := prog_7_method_75_code
def yX5_total : MethodName := ⟨RX5, "total", "(II)I"⟩
abbrev cX5_sealTold : ByteArray := prog_7_method_76_code
def yX5_sealTold : MethodName := ⟨RX5, "sealTold", "(II)I"⟩
abbrev cX5_seal : ByteArray := prog_7_method_77_code
def yX5_seal : MethodName := ⟨RX5, "seal", "(II)I"⟩
abbrev cX5_isFit : ByteArray := prog_7_method_78_code
def yX5_isFit : MethodName := ⟨RX5, "isFit", "(II)Z"⟩
abbrev cX5_fits : ByteArray := prog_7_method_79_code
def yX5_fits : MethodName := ⟨RX5, "fits", "(II)I"⟩
abbrev cX5_order : ByteArray := prog_7_method_80_code
def yX5_order : MethodName := ⟨RX5, "order", "(III)I"⟩
abbrev cX5_most : ByteArray := prog_7_method_81_code
def yX5_most : MethodName := ⟨RX5, "most", "(IZ)I"⟩
abbrev cX5_text : ByteArray := prog_7_method_82_code
def yX5_text : MethodName := ⟨RX5, "text", "(I)Ljava/lang/String;"⟩
abbrev cX5_seals : ByteArray := prog_7_method_83_code
def yX5_seals : MethodName := ⟨RX5, "seals", "(I)Ljava/lang/String;"⟩
abbrev cX5_isSame : ByteArray := prog_7_method_84_code
def yX5_isSame : MethodName := ⟨RX5, "isSame", "(II)Z"⟩
abbrev cX5_houseTold : ByteArray := prog_7_method_85_code
def yX5_houseTold : MethodName := ⟨RX5, "houseTold", "(I)I"⟩
abbrev cX5_house : ByteArray := prog_7_method_86_code
def yX5_house : MethodName := ⟨RX5, "house", "(I)I"⟩
abbrev cX5_isFirstSealed : ByteArray := prog_7_method_87_code
def yX5_isFirstSealed : MethodName := ⟨RX5, "isFirstSealed", "(I)Z"⟩
abbrev cX5_isWhole : ByteArray := prog_7_method_88_code
def yX5_isWhole : MethodName := ⟨RX5, "isWhole", "()Z"⟩
abbrev cX5_isSound : ByteArray := prog_7_method_89_code
def yX5_isSound : MethodName := ⟨RX5, "isSound", "()Z"⟩
abbrev cX5_add : ByteArray := prog_7_method_90_code
def yX5_add : MethodName := ⟨RX5, "add", "(JJ)J"⟩
abbrev cX5_digest : ByteArray := prog_7_method_91_code
def yX5_digest : MethodName := ⟨RX5, "digest", "()J"⟩
def RJ5 : String := "java/lang/AbstractStringBuilder"
abbrev cJ5_init_d00df : ByteArray := prog_8_method_2_code
def yJ5_init_d00df : MethodName := ⟨RJ5, "<init>", "(I)V"⟩
abbrev cJ5_length_8abf5 : ByteArray := prog_8_method_6_code
def yJ5_length_8abf5 : MethodName := ⟨RJ5, "length", "()I"⟩
abbrev cJ5_ensureCapacityInternal_d00df : ByteArray := prog_8_method_9_code
def yJ5_ensureCapacityInternal_d00df : MethodName := ⟨RJ5, "ensureCapacityInternal", "(I)V"⟩
abbrev cJ5_newCapacity_0f7a4 : ByteArray := prog_8_method_10_code
def yJ5_newCapacity_0f7a4 : MethodName := ⟨RJ5, "newCapacity", "(I)I"⟩
abbrev cJ5_append_3fe6f : ByteArray := prog_8_method_31_code
def yJ5_append_3fe6f : MethodName := ⟨RJ5, "append", "(C)Ljava/lang/AbstractStringBuilder;"⟩
abbrev cJ5_append_c97b9 : ByteArray := prog_8_method_32_code
def yJ5_append_c97b9 : MethodName := ⟨RJ5, "append", "(I)Ljava/lang/AbstractStringBuilder;"⟩
abbrev cJ5_getValue_6d5f1 : ByteArray := prog_8_method_64_code
def yJ5_getValue_6d5f1 : MethodName := ⟨RJ5, "getValue", "()[B"⟩
abbrev cJ5_isLatin1_aae02 : ByteArray := prog_8_method_68_code
def yJ5_isLatin1_aae02 : MethodName := ⟨RJ5, "isLatin1", "()Z"⟩
def RJx8e188 : String := "java/lang/Cloneable"
def RJ6 : String := "java/lang/Integer"
abbrev cJ6_getChars_ba4f3 : ByteArray := prog_13_method_12_code
def yJ6_getChars_ba4f3 : MethodName := ⟨RJ6, "getChars", "(II[B)I"⟩
abbrev cJ6_stringSize_0f7a4 : ByteArray := prog_13_method_13_code
def yJ6_stringSize_0f7a4 : MethodName := ⟨RJ6, "stringSize", "(I)I"⟩
abbrev cJ6_bitCount_0f7a4 : ByteArray := prog_13_method_49_code
def yJ6_bitCount_0f7a4 : MethodName := ⟨RJ6, "bitCount", "(I)I"⟩
def RJ9 : String := "java/lang/Math"
abbrev cJ9_max_7cf53 : ByteArray := prog_14_method_65_code
def yJ9_max_7cf53 : MethodName := ⟨RJ9, "max", "(II)I"⟩
abbrev cJ9_min_7cf53 : ByteArray := prog_14_method_69_code
def yJ9_min_7cf53 : MethodName := ⟨RJ9, "min", "(II)I"⟩
def RJ0 : String := "java/lang/String"
def TJ0 : u_T := fun k => match k with
  | 0 => ("java/lang/String", "value", "[B", true)
  | 1 => ("java/lang/String", "coder", "B", true)
  | 2 => ("java/lang/String", "hash", "I", false)
  | _ => ("java/lang/String", "hashIsZero", "Z", false)
def tyJ0 : Nat → FieldType := fun k => match k with
  | 0 => .array .byte
  | 1 => .byte
  | 2 => .int
  | _ => .boolean
theorem nmJ0 : ∀ a, a < 4 → ∀ b, b < 4 → a ≠ b → (TJ0 a).2.1 ≠ (TJ0 b).2.1 := by decide +kernel
theorem tyJ0_ok : ∀ k, k < 4 → parseFieldDescriptor (TJ0 k).2.2.1 = some (tyJ0 k) := by decide +kernel
abbrev cJ0_init_81219 : ByteArray := prog_16_method_53_code
def yJ0_init_81219 : MethodName := ⟨RJ0, "<init>", "(Ljava/lang/StringBuilder;)V"⟩
abbrev cJ0_init_db425 : ByteArray := prog_16_method_150_code
def yJ0_init_db425 : MethodName := ⟨RJ0, "<init>", "(Ljava/lang/AbstractStringBuilder;Ljava/lang/Void;)V"⟩
def RJ4 : String := "java/lang/StringBuilder"
def TJ4 : u_T := fun k => match k with
  | 0 => ("java/lang/AbstractStringBuilder", "value", "[B", false)
  | 1 => ("java/lang/AbstractStringBuilder", "coder", "B", false)
  | 2 => ("java/lang/AbstractStringBuilder", "maybeLatin1", "Z", false)
  | _ => ("java/lang/AbstractStringBuilder", "count", "I", false)
def tyJ4 : Nat → FieldType := fun k => match k with
  | 0 => .array .byte
  | 1 => .byte
  | 2 => .boolean
  | _ => .int
theorem nmJ4 : ∀ a, a < 4 → ∀ b, b < 4 → a ≠ b → (TJ4 a).2.1 ≠ (TJ4 b).2.1 := by decide +kernel
theorem tyJ4_ok : ∀ k, k < 4 → parseFieldDescriptor (TJ4 k).2.2.1 = some (tyJ4 k) := by decide +kernel
abbrev cJ4_init_da8c8 : ByteArray := prog_17_method_1_code
def yJ4_init_da8c8 : MethodName := ⟨RJ4, "<init>", "()V"⟩
abbrev cJ4_append_cf468 : ByteArray := prog_17_method_14_code
def yJ4_append_cf468 : MethodName := ⟨RJ4, "append", "(C)Ljava/lang/StringBuilder;"⟩
abbrev cJ4_append_bf812 : ByteArray := prog_17_method_15_code
def yJ4_append_bf812 : MethodName := ⟨RJ4, "append", "(I)Ljava/lang/StringBuilder;"⟩
abbrev cJ4_toString_0e30d : ByteArray := prog_17_method_42_code
def yJ4_toString_0e30d : MethodName := ⟨RJ4, "toString", "()Ljava/lang/String;"⟩
abbrev cJ4_length_8abf5 : ByteArray := prog_17_method_93_code
def yJ4_length_8abf5 : MethodName := ⟨RJ4, "length", "()I"⟩
def RJ1 : String := "java/lang/StringLatin1"
abbrev cJ1_canEncode_fc78d : ByteArray := prog_18_method_3_code
def yJ1_canEncode_fc78d : MethodName := ⟨RJ1, "canEncode", "(C)Z"⟩
def RJ10 : String := "java/lang/System"
def RJ7 : String := "java/util/Arrays"
abbrev cJ7_copyOf_9075b : ByteArray := prog_22_method_121_code
def yJ7_copyOf_9075b : MethodName := ⟨RJ7, "copyOf", "([BI)[B"⟩
abbrev cJ7_checkLength_df160 : ByteArray := prog_22_method_131_code
def yJ7_checkLength_df160 : MethodName := ⟨RJ7, "checkLength", "(II)V"⟩
abbrev cJ7_copyOfRange_39247 : ByteArray := prog_22_method_132_code
def yJ7_copyOfRange_39247 : MethodName := ⟨RJ7, "copyOfRange", "([BII)[B"⟩
abbrev cJ7_copyOfRangeByte_39247 : ByteArray := prog_22_method_133_code
def yJ7_copyOfRangeByte_39247 : MethodName := ⟨RJ7, "copyOfRangeByte", "([BII)[B"⟩
def RJ8 : String := "jdk/internal/util/ArraysSupport"
abbrev cJ8_newLength_cabcc : ByteArray := prog_23_method_27_code
def yJ8_newLength_cabcc : MethodName := ⟨RJ8, "newLength", "(III)I"⟩
def RL : String := "SecretsharesLaw"
abbrev cL_prime : ByteArray := method_2_code
def yL_prime : MethodName := ⟨RL, "prime", "(LSecretshares;ILSecretsharesLaw$Out;)I"⟩
abbrev cL_reckon : ByteArray := method_3_code
def yL_reckon : MethodName := ⟨RL, "reckon", "(LSecretshares;IIILSecretsharesLaw$Out;)I"⟩
abbrev cL_weight : ByteArray := method_4_code
def yL_weight : MethodName := ⟨RL, "weight", "(LSecretshares;IIILSecretsharesLaw$Out;)I"⟩
abbrev cL_weights : ByteArray := method_5_code
def yL_weights : MethodName := ⟨RL, "weights", "(LSecretshares;IILSecretsharesLaw$Out;)I"⟩
abbrev cL_hide : ByteArray := method_6_code
def yL_hide : MethodName := ⟨RL, "hide", "(LSecretshares;IIIIIILSecretsharesLaw$Out;)I"⟩
abbrev cL_pour : ByteArray := method_7_code
def yL_pour : MethodName := ⟨RL, "pour", "(LSecretshares;IIIIILSecretsharesLaw$Out;)I"⟩
abbrev cL_plus : ByteArray := method_8_code
def yL_plus : MethodName := ⟨RL, "plus", "(LSecretshares;IIILSecretsharesLaw$Out;)I"⟩
abbrev cL_less : ByteArray := method_9_code
def yL_less : MethodName := ⟨RL, "less", "(LSecretshares;IIILSecretsharesLaw$Out;)I"⟩
abbrev cL_times : ByteArray := method_10_code
def yL_times : MethodName := ⟨RL, "times", "(LSecretshares;IIILSecretsharesLaw$Out;)I"⟩
abbrev cL_scale : ByteArray := method_11_code
def yL_scale : MethodName := ⟨RL, "scale", "(LSecretshares;IIILSecretsharesLaw$Out;)I"⟩
abbrev cL_handOn : ByteArray := method_12_code
def yL_handOn : MethodName := ⟨RL, "handOn", "(LSecretshares;IIIIIILSecretsharesLaw$Out;)I"⟩
abbrev cL_lose : ByteArray := method_13_code
def yL_lose : MethodName := ⟨RL, "lose", "(LSecretshares;IILSecretsharesLaw$Out;)I"⟩
abbrev cL_give : ByteArray := method_14_code
def yL_give : MethodName := ⟨RL, "give", "(LSecretshares;IIILSecretsharesLaw$Out;)I"⟩
abbrev cL_regain : ByteArray := method_15_code
def yL_regain : MethodName := ⟨RL, "regain", "(LSecretshares;IIILSecretsharesLaw$Out;)I"⟩
abbrev cL_mend : ByteArray := method_16_code
def yL_mend : MethodName := ⟨RL, "mend", "(LSecretshares;ILSecretsharesLaw$Out;)I"⟩
abbrev cL_copy : ByteArray := method_17_code
def yL_copy : MethodName := ⟨RL, "copy", "(LSecretshares;IILSecretsharesLaw$Out;)I"⟩
abbrev cL_drop : ByteArray := method_18_code
def yL_drop : MethodName := ⟨RL, "drop", "(LSecretshares;ILSecretsharesLaw$Out;)I"⟩
abbrev cL_share : ByteArray := method_19_code
def yL_share : MethodName := ⟨RL, "share", "(LSecretshares;IILSecretsharesLaw$Out;)I"⟩
abbrev cL_ofDeal : ByteArray := method_20_code
def yL_ofDeal : MethodName := ⟨RL, "ofDeal", "(LSecretshares;IILSecretsharesLaw$Out;)I"⟩
abbrev cL_told : ByteArray := method_21_code
def yL_told : MethodName := ⟨RL, "told", "(LSecretshares;IIILSecretsharesLaw$Out;)I"⟩
abbrev cL_open : ByteArray := method_22_code
def yL_open : MethodName := ⟨RL, "open", "(LSecretshares;IILSecretsharesLaw$Out;)I"⟩
abbrev cL_coefficient : ByteArray := method_23_code
def yL_coefficient : MethodName := ⟨RL, "coefficient", "(LSecretshares;IIILSecretsharesLaw$Out;)I"⟩
abbrev cL_degreeBy : ByteArray := method_24_code
def yL_degreeBy : MethodName := ⟨RL, "degreeBy", "(LSecretshares;IILSecretsharesLaw$Out;)I"⟩
abbrev cL_agrees : ByteArray := method_25_code
def yL_agrees : MethodName := ⟨RL, "agrees", "(LSecretshares;IILSecretsharesLaw$Out;)I"⟩
abbrev cL_suspects : ByteArray := method_26_code
def yL_suspects : MethodName := ⟨RL, "suspects", "(LSecretshares;ILSecretsharesLaw$Out;)I"⟩
abbrev cL_wrong : ByteArray := method_27_code
def yL_wrong : MethodName := ⟨RL, "wrong", "(LSecretshares;ILSecretsharesLaw$Out;)I"⟩
abbrev cL_ways : ByteArray := method_28_code
def yL_ways : MethodName := ⟨RL, "ways", "(LSecretshares;IIILSecretsharesLaw$Out;)I"⟩
abbrev cL_total : ByteArray := method_29_code
def yL_total : MethodName := ⟨RL, "total", "(LSecretshares;IILSecretsharesLaw$Out;)I"⟩
abbrev cL_seal : ByteArray := method_30_code
def yL_seal : MethodName := ⟨RL, "seal", "(LSecretshares;IILSecretsharesLaw$Out;)I"⟩
abbrev cL_fits : ByteArray := method_31_code
def yL_fits : MethodName := ⟨RL, "fits", "(LSecretshares;IILSecretsharesLaw$Out;)I"⟩
abbrev cL_order : ByteArray := method_32_code
def yL_order : MethodName := ⟨RL, "order", "(LSecretshares;IIILSecretsharesLaw$Out;)I"⟩
abbrev cL_most : ByteArray := method_33_code
def yL_most : MethodName := ⟨RL, "most", "(LSecretshares;IZLSecretsharesLaw$Out;)I"⟩
abbrev cL_text : ByteArray := method_34_code
def yL_text : MethodName := ⟨RL, "text", "(LSecretshares;ILSecretsharesLaw$Out;)I"⟩
abbrev cL_seals : ByteArray := method_35_code
def yL_seals : MethodName := ⟨RL, "seals", "(LSecretshares;ILSecretsharesLaw$Out;)I"⟩
abbrev cL_isSame : ByteArray := method_36_code
def yL_isSame : MethodName := ⟨RL, "isSame", "(LSecretshares;IILSecretsharesLaw$Out;)I"⟩
abbrev cL_house : ByteArray := method_37_code
def yL_house : MethodName := ⟨RL, "house", "(LSecretshares;ILSecretsharesLaw$Out;)I"⟩
abbrev cL_law : ByteArray := code