/-! ===== the law ===== -/
def LQ9 : Option Value → e_W → Nat → Prop := fun r _ _ => r = some (.int (eI 1))
theorem eJ_r9 (z : Int) : ∃ z2 : Int, e_r8 z2 ∧ eJ z = eJ z2 := ⟨(eJ z).toInt, ⟨Int64.le_toInt _, Int64.toInt_lt _⟩, (Int64.ofInt_toInt (eJ z)).symm⟩
theorem e_cmp_self (z : Int) : e_cmp z z = 0 := by unfold e_cmp; rw [if_neg (by omega), if_pos rfl]
theorem fl_s9 {wh : Nat} (hwh : wh < 7) : eI 1 <<< (eI (ho wh) &&& 31) = eI (fl wh + 1) := by
  have hM := pr_M hwh
  have h := eI_shl1 (ho wh).toNat (by omega)
  rw [hM.2.1] at h
  rw [h, (fl_rg9 hwh).2]
  congr 1
  omega
theorem fl_1 {wh : Nat} (hwh : wh < 7) : 1 ≤ fl wh := by
  have : ∀ wh, wh < 7 → 1 ≤ fl wh := wh_cases (by decide) (by decide) (by decide) (by decide) (by decide) (by decide) (by decide)
  exact this wh hwh
section LW
variable {K : e_K} {p : Program} {l : Launch} {e : Env} {d mc : Nat} {s : State} {m : MethodId} {args : Array Value} {below : List Frame} {meth : Method} {c : Code} {cc : ByteArray} {nL : Nat} {ret : Option FieldType} {own : String} {post : Option Value → e_W → Nat → Prop} {px : String → e_W → Nat → Prop} {pc : Nat} {L : List (Nat × Value)} {st : List Value} {w : e_W} {n k : Nat}
theorem e_wd {k' : Nat} (hk : k ≤ k') (kk : e_V K p l e d mc s m args below meth c nL post px pc L st w n k') : e_V K p l e d mc s m args below meth c nL post px pc L st w n k :=
  fun H locs ls hl hR hz => W.widen hk (Nat.mul_le_mul_left 256 hk) (kk H locs ls hl hR hz)
end LW
set_option maxHeartbeats 4000000 in
set_option maxRecDepth 100000 in
theorem k_loop {K : e_K} {p : Program} {l : Launch} {e : Env} {s : State} {m : MethodId} {args : Array Value} {below : List Frame} {meth : Method} {c : Code} {x wh : Nat} {wz : Int} (F : e_F K p l s m args meth c cL_law 10 (some .boolean) RL) (hN : g_N s) : ∀ (M t k n : Nat) (w : e_W) (D : Nat → SD), 17 - t < M → t ≤ 16 → k ≤ 100 + 1050 * t → CW w x wh 0 D → (∃ R, GG wh D R) → D 5 = SD0 → e_V K p l e 20 17000 s m args below meth c 10 LQ9 e_px0 29 ([(0, .ref (K.2.2 20)), (1, .ref x), (2, .int (eI wz)), (3, .int (eI (t : Int)))]) [] w n (k) := by
  intro M
  induction M with
  | zero => intro t k n w D hM; exact absurd hM (Nat.not_lt_zero _)
  | succ M ih =>
    intro t k n w D hM ht hk hC hQ h5
    have hwh := hC.2.2.1
    have hpr := pr_rg wh hwh
    have hf9 := fl_rg9 hwh
    have hf1 := fl_1 hwh
    have ho9 := ho_rg wh hwh
    refine e_iload_n F dL_law_29 rfl ?_
    refine e_bipush F dL_law_30 (by decide) ?_
    refine e_icmp_ge F 222 dL_law_32 (by decide) ⟨by omega, by omega⟩ (by decide) (fun c_32 => ?_) (fun c_32 => ?_)
    · refine e_iconst F dL_law_222 ?_
      refine e_zret F rfl (by omega) (Or.inr rfl) ?_ dL_law_223
      exact rfl
    · refine e_aload_n F dL_law_35 rfl ?_
      refine e_iload_n F dL_law_36 rfl ?_
      refine e_iconst F dL_law_37 ?_
      refine e_callSS F u_L_draw (by rfl) (c_L_draw (by omega) (by omega) (by omega) (by omega)) w_ml_RL_26 dL_law_38 (by rfl) (Nat.le_of_ble_eq_true rfl) (by decide) (by omega) (fun _ _ _ h _ => False.elim h) (fun r_38 w_38 n_38 h_38 hn_38 => ?_)
      obtain ⟨⟨z38, rfl, hz38⟩, ew_38, en_38⟩ := h_38
      rw [ew_38, en_38]
      refine e_iconst F dL_law_41 ?_
      refine e_callSS F u_L_below (by rfl) (c_L_below (by first | assumption | exact eI_rg _ | (constructor <;> omega)) (by omega) (by omega)) w_ml_RL_18 dL_law_42 (by rfl) (Nat.le_of_ble_eq_true rfl) (by decide) (by omega) (fun _ _ _ h _ => False.elim h) (fun r_42 w_42 n_42 h_42 hn_42 => ?_)
      obtain ⟨⟨z42, rfl, hz42⟩, ew_42, en_42⟩ := h_42
      rw [ew_42, en_42]
      refine e_istore F dL_law_45 (by decide) ?_
      refine e_aload_n F dL_law_47 rfl ?_
      refine e_aload_n F dL_law_48 rfl ?_
      refine e_iload_n F dL_law_49 rfl ?_
      refine e_iload F dL_law_50 rfl ?_
      refine e_callSX F hN u_L_act (by rfl) (c_L_act hC hQ (by omega) (by omega)) w_ml_RL_30 dL_law_52 (by rfl) (Nat.le_of_ble_eq_true rfl) (by decide) (by omega) (fun _ _ _ h _ => False.elim h) (fun r_52 w_52 n_52 h_52 hn_52 => ?_)
      obtain ⟨rfl, D2, ⟨hC, hQ2⟩, e52⟩ := h_52
      rw [h5] at e52
      refine e_aload_n F dL_law_55 rfl ?_
      refine e_callVV F u_X3_digest (by rfl) (c_X3_digest hC (by first | assumption | exact eI_rg _ | (constructor <;> omega))) hC.1 rfl rfl w_ml_RL_34 dL_law_56 (by rfl) (Nat.le_of_ble_eq_true rfl) (by decide) (by omega) (fun _ _ _ h _ => False.elim h) (fun r_56 w_56 n_56 h_56 hn_56 => ?_)
      obtain ⟨rfl, en_56, hC, -⟩ := h_56
      refine e_lstore F dL_law_59 (by decide) ?_
      refine e_aload_n F dL_law_61 rfl ?_
      refine e_iload_n F dL_law_62 rfl ?_
      refine e_iconst F dL_law_63 ?_
      refine e_callSS F u_L_draw (by rfl) (c_L_draw (by omega) (by omega) (by omega) (by omega)) w_ml_RL_26 dL_law_64 (by rfl) (Nat.le_of_ble_eq_true rfl) (by decide) (by omega) (fun _ _ _ h _ => False.elim h) (fun r_64 w_64 n_64 h_64 hn_64 => ?_)
      obtain ⟨⟨z64, rfl, hz64⟩, ew_64, en_64⟩ := h_64
      rw [ew_64, en_64]
      refine e_istore F dL_law_67 (by decide) ?_
      refine e_aload_n F dL_law_69 rfl ?_
      refine e_iload_n F dL_law_70 rfl ?_
      refine e_iconst F dL_law_71 ?_
      refine e_callSS F u_L_draw (by rfl) (c_L_draw (by omega) (by omega) (by omega) (by omega)) w_ml_RL_26 dL_law_72 (by rfl) (Nat.le_of_ble_eq_true rfl) (by decide) (by omega) (fun _ _ _ h _ => False.elim h) (fun r_72 w_72 n_72 h_72 hn_72 => ?_)
      obtain ⟨⟨z72, rfl, hz72⟩, ew_72, en_72⟩ := h_72
      rw [ew_72, en_72]
      refine e_istore F dL_law_75 (by decide) ?_
      refine e_iconst F dL_law_77 ?_
      refine e_aload_n F dL_law_78 rfl ?_
      refine e_iload_n F dL_law_79 rfl ?_
      refine e_bipush F dL_law_80 (by decide) ?_
      refine e_callSS F u_L_draw (by rfl) (c_L_draw (by omega) (by omega) (by omega) (by omega)) w_ml_RL_26 dL_law_82 (by rfl) (Nat.le_of_ble_eq_true rfl) (by decide) (by omega) (fun _ _ _ h _ => False.elim h) (fun r_82 w_82 n_82 h_82 hn_82 => ?_)
      obtain ⟨⟨z82, rfl, hz82⟩, ew_82, en_82⟩ := h_82
      rw [ew_82, en_82]
      refine e_iconst F dL_law_85 ?_
      refine e_aload_n F dL_law_86 rfl ?_
      refine e_iconst F dL_law_87 ?_
      refine e_callVV F u_X3_house (by rfl) (c_X3_house hC (by first | assumption | exact eI_rg _ | (constructor <;> omega))) hC.1 rfl rfl w_ml_RL_38 dL_law_88 (by rfl) (Nat.le_of_ble_eq_true rfl) (by decide) (by omega) (fun E w2 n2 h _ => by obtain ⟨⟨-, q⟩ | ⟨-, q⟩, -⟩ := h <;> first | exact q.elim | omega) (fun r_88 w_88 n_88 h_88 hn_88 => ?_)
      obtain ⟨-, rfl, en_88, hC, -⟩ := h_88
      rw [show hsV wh 0 D2 4 = ho wh from rfl]
      refine e_ishl F dL_law_91 (fl_s9 hwh) ?_
      refine e_iconst F dL_law_92 ?_
      refine e_isub F dL_law_93 ?_
      rw [show fl wh + 1 - 1 = fl wh by omega]
      refine e_callSS F u_L_below (by rfl) (c_L_below (by first | assumption | exact eI_rg _ | (constructor <;> omega)) (by omega) (by omega)) w_ml_RL_18 dL_law_94 (by rfl) (Nat.le_of_ble_eq_true rfl) (by decide) (by omega) (fun _ _ _ h _ => False.elim h) (fun r_94 w_94 n_94 h_94 hn_94 => ?_)
      obtain ⟨⟨z94, rfl, hz94⟩, ew_94, en_94⟩ := h_94
      rw [ew_94, en_94]
      refine e_iadd F dL_law_97 ?_
      refine e_istore F dL_law_98 (by decide) ?_
      refine e_aload_n F dL_law_100 rfl ?_
      refine e_callVV F u_X3_isSound (by rfl) (c_X3_isSound hC ) hC.1 rfl rfl w_ml_RL_41 dL_law_101 (by rfl) (Nat.le_of_ble_eq_true rfl) (by decide) (by omega) (fun _ _ _ h _ => False.elim h) (fun r_101 w_101 n_101 h_101 hn_101 => ?_)
      obtain ⟨rfl, en_101, hC, -⟩ := h_101
      obtain ⟨R2, G2⟩ := hQ2
      have hQ2 : ∃ R, GG wh D2 R := ⟨R2, G2⟩
      rw [p_snd G2]
      refine e_if_eq F 196 dL_law_104 (by decide) (by decide) (fun c_104 => absurd c_104 (by decide)) (fun c_104 => ?_)
      refine e_aload_n F dL_law_107 rfl ?_
      refine e_iload F dL_law_108 rfl ?_
      refine e_iload F dL_law_110 rfl ?_
      refine e_iload F dL_law_112 rfl ?_
      refine e_callSS F u_L_isField (by rfl) (c_L_isField hC (by first | assumption | exact eI_rg _ | (constructor <;> omega)) (by first | assumption | exact eI_rg _ | (constructor <;> omega)) (by omega)) w_ml_RL_45 dL_law_114 (by rfl) (Nat.le_of_ble_eq_true rfl) (by decide) (by omega) (fun _ _ _ h _ => False.elim h) (fun r_114 w_114 n_114 h_114 hn_114 => ?_)
      obtain ⟨rfl, hC⟩ := h_114
      refine e_if_eq F 196 dL_law_117 (by decide) (by decide) (fun c_117 => absurd c_117 (by decide)) (fun c_117 => ?_)
      refine e_aload_n F dL_law_120 rfl ?_
      refine e_iload F dL_law_121 rfl ?_
      refine e_iload F dL_law_123 rfl ?_
      refine e_iload F dL_law_125 rfl ?_
      refine e_iload F dL_law_127 rfl ?_
      refine e_callSS F u_L_isTold (by rfl) (c_L_isTold hC hQ2 (by omega) (by omega) (by first | assumption | exact eI_rg _ | (constructor <;> omega)) (by first | assumption | exact eI_rg _ | (constructor <;> omega)) e52) w_ml_RL_49 dL_law_129 (by rfl) (Nat.le_of_ble_eq_true rfl) (by decide) (by omega) (fun _ _ _ h _ => False.elim h) (fun r_129 w_129 n_129 h_129 hn_129 => ?_)
      obtain ⟨rfl, hC⟩ := h_129
      refine e_if_eq F 196 dL_law_132 (by decide) (by decide) (fun c_132 => absurd c_132 (by decide)) (fun c_132 => ?_)
      refine e_aload_n F dL_law_135 rfl ?_
      refine e_iload F dL_law_136 rfl ?_
      refine e_iload F dL_law_138 rfl ?_
      refine e_iload F dL_law_140 rfl ?_
      refine e_iload F dL_law_142 rfl ?_
      refine e_callSS F u_L_isKept (by rfl) (c_L_isKept hC hQ2 (by omega) (by omega) (by first | assumption | exact eI_rg _ | (constructor <;> omega)) (by first | assumption | exact eI_rg _ | (constructor <;> omega))) w_ml_RL_53 dL_law_144 (by rfl) (Nat.le_of_ble_eq_true rfl) (by decide) (by omega) (fun _ _ _ h _ => False.elim h) (fun r_144 w_144 n_144 h_144 hn_144 => ?_)
      obtain ⟨rfl, D3, ⟨hC, hQ3⟩, hO3⟩ := h_144
      refine e_if_eq F 196 dL_law_147 (by decide) (by decide) (fun c_147 => absurd c_147 (by decide)) (fun c_147 => ?_)
      refine e_aload_n F dL_law_150 rfl ?_
      refine e_iload F dL_law_151 rfl ?_
      refine e_iconst F dL_law_153 ?_
      refine e_aload_n F dL_law_154 rfl ?_
      refine e_iload_n F dL_law_155 rfl ?_
      refine e_iconst F dL_law_156 ?_
      refine e_callSS F u_L_draw (by rfl) (c_L_draw (by omega) (by omega) (by omega) (by omega)) w_ml_RL_26 dL_law_157 (by rfl) (Nat.le_of_ble_eq_true rfl) (by decide) (by omega) (fun _ _ _ h _ => False.elim h) (fun r_157 w_157 n_157 h_157 hn_157 => ?_)
      obtain ⟨⟨z157, rfl, hz157⟩, ew_157, en_157⟩ := h_157
      rw [ew_157, en_157]
      refine e_aload_n F dL_law_160 rfl ?_
      refine e_iconst F dL_law_161 ?_
      refine e_callVV F u_X3_house (by rfl) (c_X3_house hC (by first | assumption | exact eI_rg _ | (constructor <;> omega))) hC.1 rfl rfl w_ml_RL_38 dL_law_162 (by rfl) (Nat.le_of_ble_eq_true rfl) (by decide) (by omega) (fun E w2 n2 h _ => by obtain ⟨⟨-, q⟩ | ⟨-, q⟩, -⟩ := h <;> first | exact q.elim | omega) (fun r_162 w_162 n_162 h_162 hn_162 => ?_)
      obtain ⟨-, rfl, en_162, hC, -⟩ := h_162
      rw [show hsV wh 0 D3 4 = ho wh from rfl]
      refine e_callSS F u_L_below (by rfl) (c_L_below (by first | assumption | exact eI_rg _ | (constructor <;> omega)) (by omega) (by omega)) w_ml_RL_18 dL_law_165 (by rfl) (Nat.le_of_ble_eq_true rfl) (by decide) (by omega) (fun _ _ _ h _ => False.elim h) (fun r_165 w_165 n_165 h_165 hn_165 => ?_)
      obtain ⟨⟨z165, rfl, hz165⟩, ew_165, en_165⟩ := h_165
      rw [ew_165, en_165]
      refine e_iadd F dL_law_168 ?_
      refine e_iload F dL_law_169 rfl ?_
      refine e_callSS F u_L_isFound (by rfl) (c_L_isFound hC hQ3 (by omega) (by omega) (by first | assumption | exact eI_rg _ | (constructor <;> omega))) w_ml_RL_56 dL_law_171 (by rfl) (Nat.le_of_ble_eq_true rfl) (by decide) (by omega) (fun _ _ _ h _ => False.elim h) (fun r_171 w_171 n_171 h_171 hn_171 => ?_)
      obtain ⟨rfl, D4, ⟨hC, hQ4⟩, hO4⟩ := h_171
      refine e_if_eq F 196 dL_law_174 (by decide) (by decide) (fun c_174 => absurd c_174 (by decide)) (fun c_174 => ?_)
      refine e_aload_n F dL_law_177 rfl ?_
      refine e_iload F dL_law_178 rfl ?_
      refine e_aload_n F dL_law_180 rfl ?_
      refine e_iload_n F dL_law_181 rfl ?_
      refine e_iconst F dL_law_182 ?_
      refine e_callSS F u_L_draw (by rfl) (c_L_draw (by omega) (by omega) (by omega) (by omega)) w_ml_RL_26 dL_law_183 (by rfl) (Nat.le_of_ble_eq_true rfl) (by decide) (by omega) (fun _ _ _ h _ => False.elim h) (fun r_183 w_183 n_183 h_183 hn_183 => ?_)
      obtain ⟨⟨z183, rfl, hz183⟩, ew_183, en_183⟩ := h_183
      rw [ew_183, en_183]
      refine e_iconst F dL_law_186 ?_
      refine e_callSS F u_L_below (by rfl) (c_L_below (by first | assumption | exact eI_rg _ | (constructor <;> omega)) (by omega) (by omega)) w_ml_RL_18 dL_law_187 (by rfl) (Nat.le_of_ble_eq_true rfl) (by decide) (by omega) (fun _ _ _ h _ => False.elim h) (fun r_187 w_187 n_187 h_187 hn_187 => ?_)
      obtain ⟨⟨z187, rfl, hz187⟩, ew_187, en_187⟩ := h_187
      rw [ew_187, en_187]
      refine e_callSS F u_L_areJoined (by rfl) (c_L_areJoined hC hQ4 (by omega) (by omega)) w_ml_RL_59 dL_law_190 (by rfl) (Nat.le_of_ble_eq_true rfl) (by decide) (by omega) (fun _ _ _ h _ => False.elim h) (fun r_190 w_190 n_190 h_190 hn_190 => ?_)
      obtain ⟨rfl, D5, ⟨hC, hQ5⟩, hO5⟩ := h_190
      refine e_if_ne F 198 dL_law_193 (by decide) (by decide) (fun c_193 => ?_) (fun c_193 => absurd c_193 (by decide))
      refine e_aload_n F dL_law_198 rfl ?_
      refine e_iconst F dL_law_199 ?_
      refine e_callVV F u_X3_drop (by rfl) (c_X3_drop hC (by first | assumption | exact eI_rg _ | (constructor <;> omega))) hC.1 rfl rfl w_ml_RL_63 dL_law_200 (by rfl) (Nat.le_of_ble_eq_true rfl) (by decide) (by omega) (fun E w2 n2 h _ => by obtain ⟨⟨-, q⟩ | ⟨-, q⟩, -⟩ := h <;> first | exact q.elim | omega) (fun r_200 w_200 n_200 h_200 hn_200 => ?_)
      obtain ⟨-, rfl, en_200, hC, -⟩ := h_200
      have e55 : ∀ j : Nat, j < 6 → upD D5 (5 : Int).toNat SD0 j = D2 j := by
        intro j hj
        by_cases q : j = 5
        · rw [q, e52]; exact up_s D5 5 SD0
        · exact (up_n q).trans (((hO3.tr hO4).tr hO5) j q)
      have hQ6 := QW.of hC (y_drop hQ5.choose_spec z5).2
      refine e_pop F dL_law_203 rfl ?_
      refine e_aload_n F dL_law_204 rfl ?_
      refine e_callVV F u_X3_digest (by rfl) (c_X3_digest hC (by first | assumption | exact eI_rg _ | (constructor <;> omega))) hC.1 rfl rfl w_ml_RL_34 dL_law_205 (by rfl) (Nat.le_of_ble_eq_true rfl) (by decide) (by omega) (fun _ _ _ h _ => False.elim h) (fun r_205 w_205 n_205 h_205 hn_205 => ?_)
      obtain ⟨rfl, en_205, hC, -⟩ := h_205
      rw [dgV_cg e55]
      refine e_lload F dL_law_208 rfl ?_
      obtain ⟨zd, hzd, ezd⟩ := eJ_r9 (dgV wh 0 D2)
      rw [ezd]
      refine e_lcmp F dL_law_210 hzd hzd ?_
      rw [e_cmp_self]
      refine e_if_eq F 216 dL_law_211 (by decide) (by decide) (fun c_211 => ?_) (fun c_211 => absurd rfl c_211)
      refine e_iinc F dL_law_216 rfl (by decide) ?_
      refine e_goto F 29 dL_law_219 (by decide) ?_
      refine e_go (ih (t + 1) _ _ _ _ (by omega) (by omega) (by omega) hC hQ6.2 (up_s D5 5 SD0)) ?_
      exact (And.intro rfl (And.intro rfl (And.intro rfl (And.intro rfl (trivial)))))
set_option maxHeartbeats 4000000 in
set_option maxRecDepth 100000 in
theorem k_law {K : e_K} {p : Program} {l : Launch} {e : Env} {s : State} {m : MethodId} {args : Array Value} {below : List Frame} {meth : Method} {c : Code} (F : e_F K p l s m args meth c cL_law 10 (some .boolean) RL) (hN : g_N s) {n : Nat} : e_V K p l e 20 17000 s m args below meth c 10 LQ9 e_px0 0 ([(0, .ref (K.2.2 20))]) [] (fun _ => none) n (0) := by
  refine e_newO F (ci := 3) (q := (RX3, TX3, 5)) (fs := [.null, .null, .null, .null, .int (eI 0)]) rfl (by omega) w_cl_RL_15 w_is_RX3 w_in_RX3 (by decide) (by intro j hj; have hj9 : j < 5 := hj; rcases j with _ | _ | _ | _ | _ | j <;> first | rfl | omega) dL_law_0 ?_
  refine e_dup F dL_law_3 rfl ?_
  refine e_callII F u_X3_init (by rfl) (c_X3_init e_up_s rfl) w_ml_RL_17 dL_law_4 (by rfl) (Nat.le_of_ble_eq_true rfl) (by decide) (by omega) (fun _ _ _ h _ => False.elim h) (fun r1 w1 n1 h1 hn1 => ?_)
  obtain ⟨rfl, en1, hC, -⟩ := h1
  refine e_astore_n F dL_law_7 (by decide) ?_
  refine e_aload_n F dL_law_8 rfl ?_
  refine e_iconst F dL_law_9 ?_
  refine e_callSS F u_L_cell (by rfl) (c_L_cell (by decide) (by decide)) w_ml_RL_9 dL_law_10 (by rfl) (Nat.le_of_ble_eq_true rfl) (by decide) (by omega) (fun _ _ _ h _ => False.elim h) (fun r_10 w_10 n_10 h_10 hn_10 => ?_)
  obtain ⟨⟨z10, rfl, hz10⟩, ew_10, en_10⟩ := h_10
  rw [ew_10, en_10]
  refine e_iconst F dL_law_13 ?_
  refine e_ishr F dL_law_14 (eI_self _).symm ?_
  refine e_bipush F dL_law_15 (by decide) ?_
  refine e_callSS F u_L_below (by rfl) (c_L_below (by first | assumption | exact eI_rg _ | (constructor <;> omega)) (by omega) (by omega)) w_ml_RL_18 dL_law_17 (by rfl) (Nat.le_of_ble_eq_true rfl) (by decide) (by omega) (fun _ _ _ h _ => False.elim h) (fun r_17 w_17 n_17 h_17 hn_17 => ?_)
  obtain ⟨⟨z17, rfl, hz17⟩, ew_17, en_17⟩ := h_17
  rw [ew_17, en_17]
  refine e_istore_n F dL_law_20 (by decide) ?_
  refine e_aload_n F dL_law_21 rfl ?_
  refine e_iload_n F dL_law_22 rfl ?_
  refine e_callVV F u_X3_prime (by rfl) (c_X3_prime hC (by first | assumption | exact eI_rg _ | (constructor <;> omega))) hC.1 rfl rfl w_ml_RL_22 dL_law_23 (by rfl) (Nat.le_of_ble_eq_true rfl) (by decide) (by omega) (fun E w2 n2 h _ => by obtain ⟨⟨-, q⟩ | ⟨-, q⟩, -⟩ := h <;> first | exact q.elim | omega) (fun r_23 w_23 n_23 h_23 hn_23 => ?_)
  obtain ⟨-, rfl, en_23, hC, -⟩ := h_23
  refine e_pop F dL_law_26 rfl ?_
  refine e_iconst F dL_law_27 ?_
  refine e_istore_n F dL_law_28 (by decide) ?_
  refine e_go (e_wd (k' := 100) (by omega) (k_loop (wz := z17) F hN 18 0 _ _ _ _ (by omega) (by omega) (by omega) hC (QW.of hC (SS.em (fun _ => (-1, 0, fun _ => -1, fun _ => 0)))).2 rfl)) ?_
  exact (And.intro rfl (And.intro rfl (And.intro rfl (And.intro rfl (trivial)))))
