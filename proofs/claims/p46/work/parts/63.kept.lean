set_option maxHeartbeats 4000000 in
set_option maxRecDepth 100000 in
theorem c_L_isKept {K : e_K} {l : Launch} {w : e_W} {n : Nat} {x wh : Nat} {D : Nat → SD} (hC : CW w x wh 0 D) (hQ : ∃ R, GG wh D R) {i st a b : Int} (hi : 0 ≤ i ∧ i < 5) (hs : 1 ≤ st ∧ st ≤ fl wh) (ha : e_r a) (hb : e_r b) : e_Met K l yL_isKept (Cond.code yL_isKept cL_isKept 8 (Option.some .boolean) :: e_TB) (9) (80) [.ref x, .int (eI i), .int (eI st), .int (eI a), .int (eI b)] w n (fun r w' n' => r = some (.int (eI 1)) ∧ ∃ D2, QW w' x wh 0 D2 ∧ O5 D D2) (e_px0) := by
  refine e_ofV rfl (Nat.le_of_ble_eq_true rfl) ?_
  intro P9 E9 S9 M9 A9 B9 T9 C9 F hnm
  have hwh := hC.2.2.1
  have hp := pr_rg wh hwh
  have hg9 := gr_rg wh hwh
  have ho9 := ho_rg wh hwh
  have hf9 := (fl_rg9 hwh).1
  have hd6 : i.toNat < 6 := by omega
  have hd5 : i.toNat ≠ 5 := by omega
  have hmb := emod_rg b hwh
  have hop : -9 ≤ (if ((D i.toNat).fl = 1 ∧ thr (D i.toNat).A st) ∧ (D i.toNat).dg < bc st then tl wh st (D i.toNat).A 0 else -9) ∧ (if ((D i.toNat).fl = 1 ∧ thr (D i.toNat).A st) ∧ (D i.toNat).dg < bc st then tl wh st (D i.toNat).A 0 else -9) < pr wh := by
    split
    · have := emod_rg (tlK wh st (D i.toNat).A 0 (ho wh).toNat) hwh; unfold tl; omega
    · omega
  have hn5 := od_e hQ hd6 5
  obtain ⟨R0, G0⟩ := id hQ
  have hn6 := od_r G0.1 (G0.2.2 i.toNat hd6) 5
  have l113 : ∀ (w1 : e_W) (n1 k1 : Nat) (D1 : Nat → SD), QW w1 x wh 0 D1 → O5 D D1 → k1 ≤ 40 → e_V K P9 l E9 (9) (80) S9 M9 A9 B9 T9 C9 8 (fun r w' n' => r = some (.int (eI 1)) ∧ ∃ D2, QW w' x wh 0 D2 ∧ O5 D D2) (e_px0) 113 [(0, .ref x), (1, .int (eI i)), (2, .int (eI st)), (3, .int (eI a)), (4, .int (eI b)), (5, .int (eI (pr wh)))] [] w1 n1 (k1) := by
    intro w1 n1 k1 D1 hQW hO hk1
    obtain ⟨hC, hQ1⟩ := hQW
    have eD := hO i.toNat hd5
    refine e_aload_n F dL_isKept_113 rfl ?_
    refine e_iload_n F dL_isKept_114 rfl ?_
    refine e_iconst F dL_isKept_115 ?_
    refine e_callVV F u_X3_ofDeal (by rfl) (c_X3_ofDeal hC (by constructor <;> omega) (by constructor <;> omega)) hC.1 rfl rfl w_ml_RL_127 dL_isKept_116 (by rfl) (Nat.le_of_ble_eq_true rfl) (by decide) (by omega) (fun E w2 n2 h _ => by obtain ⟨⟨-, q⟩ | ⟨-, q⟩, -⟩ := h <;> first | exact q.elim | omega) (fun r_116 w_116 n_116 h_116 hn_116 => ?_)
    obtain ⟨-, rfl, en_116, hC, -⟩ := h_116
    rw [show odV wh (D1 i.toNat) 5 = odV wh (D i.toNat) 5 by rw [eD]]
    refine e_istore F dL_isKept_119 (by decide) ?_
    refine e_aload_n F dL_isKept_121 rfl ?_
    refine e_iload_n F dL_isKept_122 rfl ?_
    refine e_iconst F dL_isKept_123 ?_
    refine e_callVV F u_X3_ofDeal (by rfl) (c_X3_ofDeal hC (by constructor <;> omega) (by constructor <;> omega)) hC.1 rfl rfl w_ml_RL_127 dL_isKept_124 (by rfl) (Nat.le_of_ble_eq_true rfl) (by decide) (by omega) (fun E w2 n2 h _ => by obtain ⟨⟨-, q⟩ | ⟨-, q⟩, -⟩ := h <;> first | exact q.elim | omega) (fun r_124 w_124 n_124 h_124 hn_124 => ?_)
    obtain ⟨-, rfl, en_124, hC, -⟩ := h_124
    rw [show odV wh (D1 i.toNat) 4 = odV wh (D i.toNat) 4 by rw [eD]]
    refine e_iconst F dL_isKept_127 ?_
    refine e_icmp_ne F 136 dL_isKept_128 (by decide) (od_e hQ hd6 _) (by decide) (fun c_128 => ?_) (fun c_128 => ?_)
    · refine e_iconst F dL_isKept_136 ?_
      refine e_zret F rfl (by omega) (by omega) ?_ dL_isKept_137
      exact ⟨rfl, _, ⟨hC, hQ1⟩, hO⟩
    · refine e_iload F dL_isKept_131 rfl ?_
      refine e_if_ge F 138 dL_isKept_133 (by decide) (hn5) (fun c_133 => ?_) (fun c_133 => ?_)
      · refine e_aload_n F dL_isKept_138 rfl ?_
        refine e_iload_n F dL_isKept_139 rfl ?_
        refine e_iconst F dL_isKept_140 ?_
        refine e_callVV F u_X3_copy (by rfl) (c_X3_copy hC (by constructor <;> omega) (by constructor <;> omega)) hC.1 rfl rfl w_ml_RL_102 dL_isKept_141 (by rfl) (Nat.le_of_ble_eq_true rfl) (by decide) (by omega) (fun E w2 n2 h _ => by obtain ⟨⟨-, q⟩ | ⟨-, q⟩, -⟩ := h <;> first | exact q.elim | omega) (fun r_141 w_141 n_141 h_141 hn_141 => ?_)
        obtain ⟨-, rfl, en_141, hC, -⟩ := h_141
        obtain ⟨D2, ⟨hC, hQ2⟩, hO2, e2⟩ := n_copy hQ1 hd6 hC
        rw [eD] at e2
        have h42 : odV wh (D2 5) 4 = 1 := by rw [e2]; exact c_128
        have h52 : 0 ≤ odV wh (D2 5) 5 := by rw [e2]; omega
        have e52 : odV wh (D2 5) 5 = odV wh (D i.toNat) 5 := by rw [e2]
        refine e_pop F dL_isKept_144 rfl ?_
        refine e_aload_n F dL_isKept_145 rfl ?_
        refine e_iconst F dL_isKept_146 ?_
        refine e_iload_n F dL_isKept_147 rfl ?_
        refine e_iload F dL_isKept_148 rfl ?_
        refine e_iload_n F dL_isKept_150 rfl ?_
        refine e_iload F dL_isKept_151 rfl ?_
        refine e_callVV F u_X3_pour (by rfl) (c_X3_pour hC (by constructor <;> omega) (by constructor <;> omega) (by constructor <;> omega) (by constructor <;> omega) (by constructor <;> omega)) hC.1 rfl rfl w_ml_RL_70 dL_isKept_153 (by rfl) (Nat.le_of_ble_eq_true rfl) (by decide) (by omega) (fun E w2 n2 h _ => by obtain ⟨⟨-, q⟩ | ⟨-, q⟩, -⟩ := h <;> first | exact q.elim | omega) (fun r_153 w_153 n_153 h_153 hn_153 => ?_)
        obtain ⟨-, rfl, en_153, hC, -⟩ := h_153
        obtain ⟨D3, ⟨hC, hQ3⟩, hO3, h43, h53⟩ := n_pour hQ2 hC h42 h52
        rw [e52] at h53
        have eD3 : D3 i.toNat = D i.toNat := by rw [hO3 _ hd5, hO2 _ hd5, eD]
        refine e_pop F dL_isKept_156 rfl ?_
        refine e_aload_n F dL_isKept_157 rfl ?_
        refine e_iconst F dL_isKept_158 ?_
        refine e_iconst F dL_isKept_159 ?_
        refine e_callVV F u_X3_ofDeal (by rfl) (c_X3_ofDeal hC (by constructor <;> omega) (by constructor <;> omega)) hC.1 rfl rfl w_ml_RL_127 dL_isKept_160 (by rfl) (Nat.le_of_ble_eq_true rfl) (by decide) (by omega) (fun E w2 n2 h _ => by obtain ⟨⟨-, q⟩ | ⟨-, q⟩, -⟩ := h <;> first | exact q.elim | omega) (fun r_160 w_160 n_160 h_160 hn_160 => ?_)
        obtain ⟨-, rfl, en_160, hC, -⟩ := h_160
        refine e_iconst F dL_isKept_163 ?_
        refine e_icmp_ne F 187 dL_isKept_164 (by decide) (od_e5 hQ3 _) (by decide) (fun c_164 => ?_) (fun c_164 => ?_)
        · exact absurd h43 c_164
        · refine e_aload_n F dL_isKept_167 rfl ?_
          refine e_iconst F dL_isKept_168 ?_
          refine e_iconst F dL_isKept_169 ?_
          refine e_callVV F u_X3_ofDeal (by rfl) (c_X3_ofDeal hC (by constructor <;> omega) (by constructor <;> omega)) hC.1 rfl rfl w_ml_RL_127 dL_isKept_170 (by rfl) (Nat.le_of_ble_eq_true rfl) (by decide) (by omega) (fun E w2 n2 h _ => by obtain ⟨⟨-, q⟩ | ⟨-, q⟩, -⟩ := h <;> first | exact q.elim | omega) (fun r_170 w_170 n_170 h_170 hn_170 => ?_)
          obtain ⟨-, rfl, en_170, hC, -⟩ := h_170
          refine e_iload F dL_isKept_173 rfl ?_
          refine e_i2l F dL_isKept_175 (⟨by omega, by omega⟩) ?_
          refine e_iload_n F dL_isKept_176 rfl ?_
          refine e_i2l F dL_isKept_177 (⟨by omega, by omega⟩) ?_
          refine e_ladd F dL_isKept_178 ?_
          refine e_iload F dL_isKept_179 rfl ?_
          refine e_callSS F u_L_mod (by rfl) (c_L_mod (v := odV wh (D i.toNat) 5 + a) (p9 := pr wh) (by constructor <;> omega) (by omega) (by omega)) w_ml_RL_164 dL_isKept_181 (by rfl) (Nat.le_of_ble_eq_true rfl) (by decide) (by omega) (fun _ _ _ h _ => False.elim h) (fun r_181 w_181 n_181 h_181 hn_181 => ?_)
          obtain ⟨rfl, ew_181, en_181⟩ := h_181
          rw [ew_181, en_181]
          refine e_icmp_eq F 189 dL_isKept_184 (by decide) (od_e5 hQ3 _) (by have q := emod_rg (odV wh (D i.toNat) 5 + a) hwh; constructor <;> omega) (fun c_184 => ?_) (fun c_184 => ?_)
          · refine e_aload_n F dL_isKept_189 rfl ?_
            refine e_iload_n F dL_isKept_190 rfl ?_
            refine e_iload F dL_isKept_191 rfl ?_
            refine e_iconst F dL_isKept_193 ?_
            refine e_callVV F u_X3_scale (by rfl) (c_X3_scale hC (by constructor <;> omega) (by constructor <;> omega) (by constructor <;> omega)) hC.1 rfl rfl w_ml_RL_84 dL_isKept_194 (by rfl) (Nat.le_of_ble_eq_true rfl) (by decide) (by omega) (fun E w2 n2 h _ => by obtain ⟨⟨-, q⟩ | ⟨-, q⟩, -⟩ := h <;> first | exact q.elim | omega) (fun r_194 w_194 n_194 h_194 hn_194 => ?_)
            obtain ⟨-, rfl, en_194, hC, -⟩ := h_194
            obtain ⟨D4, ⟨hC, hQ4⟩, hO4, h44, h54⟩ := n_scale hQ3 hd6 hC (by rw [eD3]; exact c_128) (by rw [eD3]; omega)
            rw [eD3] at h54
            refine e_pop F dL_isKept_197 rfl ?_
            refine e_aload_n F dL_isKept_198 rfl ?_
            refine e_iconst F dL_isKept_199 ?_
            refine e_iconst F dL_isKept_200 ?_
            refine e_callVV F u_X3_ofDeal (by rfl) (c_X3_ofDeal hC (by constructor <;> omega) (by constructor <;> omega)) hC.1 rfl rfl w_ml_RL_127 dL_isKept_201 (by rfl) (Nat.le_of_ble_eq_true rfl) (by decide) (by omega) (fun E w2 n2 h _ => by obtain ⟨⟨-, q⟩ | ⟨-, q⟩, -⟩ := h <;> first | exact q.elim | omega) (fun r_201 w_201 n_201 h_201 hn_201 => ?_)
            obtain ⟨-, rfl, en_201, hC, -⟩ := h_201
            refine e_iconst F dL_isKept_204 ?_
            refine e_icmp_ne F 233 dL_isKept_205 (by decide) (od_e5 hQ4 _) (by decide) (fun c_205 => ?_) (fun c_205 => ?_)
            · exact absurd h44 c_205
            · refine e_aload_n F dL_isKept_208 rfl ?_
              refine e_iconst F dL_isKept_209 ?_
              refine e_iconst F dL_isKept_210 ?_
              refine e_callVV F u_X3_ofDeal (by rfl) (c_X3_ofDeal hC (by constructor <;> omega) (by constructor <;> omega)) hC.1 rfl rfl w_ml_RL_127 dL_isKept_211 (by rfl) (Nat.le_of_ble_eq_true rfl) (by decide) (by omega) (fun E w2 n2 h _ => by obtain ⟨⟨-, q⟩ | ⟨-, q⟩, -⟩ := h <;> first | exact q.elim | omega) (fun r_211 w_211 n_211 h_211 hn_211 => ?_)
              obtain ⟨-, rfl, en_211, hC, -⟩ := h_211
              refine e_iload F dL_isKept_214 rfl ?_
              refine e_i2l F dL_isKept_216 (⟨by omega, by omega⟩) ?_
              refine e_iload F dL_isKept_217 rfl ?_
              refine e_i2l F dL_isKept_219 (⟨by omega, by omega⟩) ?_
              refine e_lmul F dL_isKept_220 ?_
              refine e_iload F dL_isKept_221 rfl ?_
              refine e_callSS F u_L_mod (by rfl) (c_L_mod (v := odV wh (D i.toNat) 5 * b) (p9 := pr wh) (mul_rg2 (by omega) (by omega) (by omega) (by omega)) (by omega) (by omega)) w_ml_RL_164 dL_isKept_223 (by rfl) (Nat.le_of_ble_eq_true rfl) (by decide) (by omega) (fun _ _ _ h _ => False.elim h) (fun r_223 w_223 n_223 h_223 hn_223 => ?_)
              obtain ⟨rfl, ew_223, en_223⟩ := h_223
              rw [ew_223, en_223]
              refine e_icmp_ne F 233 dL_isKept_226 (by decide) (od_e5 hQ4 _) (by have q := emod_rg (odV wh (D i.toNat) 5 * b) hwh; constructor <;> omega) (fun c_226 => ?_) (fun c_226 => ?_)
              · exact absurd h54 c_226
              · refine e_iconst F dL_isKept_229 ?_
                refine e_goto F 234 dL_isKept_230 (by decide) ?_
                refine e_zret F rfl (by omega) (by omega) ?_ dL_isKept_234
                exact ⟨rfl, _, ⟨hC, hQ4⟩, ((hO.tr hO2).tr hO3).tr hO4⟩
          · exact absurd h53 c_184
      · refine e_iconst F dL_isKept_136 ?_
        refine e_zret F rfl (by omega) (by omega) ?_ dL_isKept_137
        exact ⟨rfl, _, ⟨hC, hQ1⟩, hO⟩
  refine e_aload_n F dL_isKept_0 rfl ?_
  refine e_iconst F dL_isKept_1 ?_
  refine e_callVV F u_X3_house (by rfl) (c_X3_house hC (by constructor <;> omega)) hC.1 rfl rfl w_ml_RL_38 dL_isKept_2 (by rfl) (Nat.le_of_ble_eq_true rfl) (by decide) (by omega) (fun E w2 n2 h _ => by obtain ⟨⟨-, q⟩ | ⟨-, q⟩, -⟩ := h <;> first | exact q.elim | omega) (fun r_2 w_2 n_2 h_2 hn_2 => ?_)
  obtain ⟨-, rfl, en_2, hC, -⟩ := h_2
  rw [show hsV wh 0 D 1 = pr wh from rfl]
  refine e_istore F dL_isKept_5 (by decide) ?_
  refine e_aload_n F dL_isKept_7 rfl ?_
  refine e_iconst F dL_isKept_8 ?_
  refine e_iload_n F dL_isKept_9 rfl ?_
  refine e_iconst F dL_isKept_10 ?_
  refine e_callSS F u_L_below (by rfl) (c_L_below (v := a) (n9 := 4) (by constructor <;> omega) (by omega) (by omega)) w_ml_RL_18 dL_isKept_11 (by rfl) (Nat.le_of_ble_eq_true rfl) (by decide) (by omega) (fun _ _ _ h _ => False.elim h) (fun r_11 w_11 n_11 h_11 hn_11 => ?_)
  obtain ⟨⟨z11, rfl, hz11⟩, ew_11, en_11⟩ := h_11
  rw [ew_11, en_11]
  refine e_iload F dL_isKept_14 rfl ?_
  refine e_iload_n F dL_isKept_16 rfl ?_
  refine e_iload F dL_isKept_17 rfl ?_
  refine e_iload_n F dL_isKept_19 rfl ?_
  refine e_callVV F u_X3_hide (by rfl) (c_X3_hide hC (by constructor <;> omega) (by constructor <;> omega) (by constructor <;> omega) (by constructor <;> omega) (by constructor <;> omega) (by constructor <;> omega)) hC.1 rfl rfl w_ml_RL_66 dL_isKept_20 (by rfl) (Nat.le_of_ble_eq_true rfl) (by decide) (by omega) (fun E w2 n2 h _ => by obtain ⟨⟨-, q⟩ | ⟨-, q⟩, -⟩ := h <;> first | exact q.elim | omega) (fun r_20 w_20 n_20 h_20 hn_20 => ?_)
  obtain ⟨-, rfl, en_20, hC, -⟩ := h_20
  have Q1 := n_hide hQ hC (a := b) (b := a) (c := b) (d := a) hz11.1 (by omega)
  obtain ⟨D1, ⟨hC, hQ1⟩, hO1, h41, h51⟩ := Q1
  have eD1 := hO1 i.toNat hd5
  refine e_pop F dL_isKept_23 rfl ?_
  refine e_aload_n F dL_isKept_24 rfl ?_
  refine e_iconst F dL_isKept_25 ?_
  refine e_iconst F dL_isKept_26 ?_
  refine e_callVV F u_X3_ofDeal (by rfl) (c_X3_ofDeal hC (by constructor <;> omega) (by constructor <;> omega)) hC.1 rfl rfl w_ml_RL_127 dL_isKept_27 (by rfl) (Nat.le_of_ble_eq_true rfl) (by decide) (by omega) (fun E w2 n2 h _ => by obtain ⟨⟨-, q⟩ | ⟨-, q⟩, -⟩ := h <;> first | exact q.elim | omega) (fun r_27 w_27 n_27 h_27 hn_27 => ?_)
  obtain ⟨-, rfl, en_27, hC, -⟩ := h_27
  refine e_iconst F dL_isKept_30 ?_
  refine e_icmp_ne F 49 dL_isKept_31 (by decide) (od_e5 hQ1 _) (by decide) (fun c_31 => ?_) (fun c_31 => ?_)
  · exact absurd h41 c_31
  · refine e_aload_n F dL_isKept_34 rfl ?_
    refine e_iconst F dL_isKept_35 ?_
    refine e_iconst F dL_isKept_36 ?_
    refine e_callVV F u_X3_ofDeal (by rfl) (c_X3_ofDeal hC (by constructor <;> omega) (by constructor <;> omega)) hC.1 rfl rfl w_ml_RL_127 dL_isKept_37 (by rfl) (Nat.le_of_ble_eq_true rfl) (by decide) (by omega) (fun E w2 n2 h _ => by obtain ⟨⟨-, q⟩ | ⟨-, q⟩, -⟩ := h <;> first | exact q.elim | omega) (fun r_37 w_37 n_37 h_37 hn_37 => ?_)
    obtain ⟨-, rfl, en_37, hC, -⟩ := h_37
    refine e_aload_n F dL_isKept_40 rfl ?_
    refine e_iload F dL_isKept_41 rfl ?_
    refine e_callVV F u_X3_rest (by rfl) (c_X3_rest hC (by constructor <;> omega)) hC.1 rfl rfl w_ml_RL_112 dL_isKept_43 (by rfl) (Nat.le_of_ble_eq_true rfl) (by decide) (by omega) (fun _ _ _ h _ => False.elim h) (fun r_43 w_43 n_43 h_43 hn_43 => ?_)
    obtain ⟨rfl, en_43, hC, -⟩ := h_43
    refine e_icmp_eq F 51 dL_isKept_46 (by decide) (od_e5 hQ1 _) (⟨by omega, by omega⟩) (fun c_46 => ?_) (fun c_46 => ?_)
    · refine e_aload_n F dL_isKept_51 rfl ?_
      refine e_iload_n F dL_isKept_52 rfl ?_
      refine e_iload_n F dL_isKept_53 rfl ?_
      refine e_callVV F u_X3_open (by rfl) (c_X3_open hC (by constructor <;> omega) (by constructor <;> omega)) hC.1 rfl rfl w_ml_RL_143 dL_isKept_54 (by rfl) (Nat.le_of_ble_eq_true rfl) (by decide) (by omega) (fun E w2 n2 h _ => by obtain ⟨⟨-, q⟩ | ⟨-, q⟩, -⟩ := h <;> first | exact q.elim | omega) (fun r_54 w_54 n_54 h_54 hn_54 => ?_)
      obtain ⟨-, rfl, en_54, hC, -⟩ := h_54
      rw [eD1]
      refine e_istore F dL_isKept_57 (by decide) ?_
      refine e_iload F dL_isKept_59 rfl ?_
      refine e_bipush F dL_isKept_61 (by decide) ?_
      refine e_icmp_eq F 113 dL_isKept_63 (by decide) (⟨by omega, by omega⟩) (⟨by omega, by omega⟩) (fun c_63 => ?_) (fun c_63 => ?_)
      · first
        | exact e_go (l113 _ _ _ _ ⟨hC, hQ2⟩ (hO1.tr hO2) (by omega)) (And.intro rfl (And.intro rfl (And.intro rfl (And.intro rfl (And.intro rfl (And.intro rfl (trivial)))))))
        | exact e_go (l113 _ _ _ _ ⟨hC, hQ1⟩ hO1 (by omega)) (And.intro rfl (And.intro rfl (And.intro rfl (And.intro rfl (And.intro rfl (And.intro rfl (trivial)))))))
      · refine e_aload_n F dL_isKept_66 rfl ?_
        refine e_iload_n F dL_isKept_67 rfl ?_
        refine e_iload_n F dL_isKept_68 rfl ?_
        refine e_iconst F dL_isKept_69 ?_
        refine e_iload F dL_isKept_70 rfl ?_
        refine e_iconst F dL_isKept_72 ?_
        refine e_callSS F u_L_below (by rfl) (c_L_below (v := b) (n9 := 4) (by constructor <;> omega) (by omega) (by omega)) w_ml_RL_18 dL_isKept_73 (by rfl) (Nat.le_of_ble_eq_true rfl) (by decide) (by omega) (fun _ _ _ h _ => False.elim h) (fun r_73 w_73 n_73 h_73 hn_73 => ?_)
        obtain ⟨⟨z73, rfl, hz73⟩, ew_73, en_73⟩ := h_73
        rw [ew_73, en_73]
        refine e_iload_n F dL_isKept_76 rfl ?_
        refine e_iload F dL_isKept_77 rfl ?_
        refine e_callVV F u_X3_handOn (by rfl) (c_X3_handOn hC (by constructor <;> omega) (by constructor <;> omega) (by constructor <;> omega) (by constructor <;> omega) (by constructor <;> omega) (by constructor <;> omega)) hC.1 rfl rfl w_ml_RL_87 dL_isKept_79 (by rfl) (Nat.le_of_ble_eq_true rfl) (by decide) (by omega) (fun E w2 n2 h _ => by obtain ⟨⟨-, q⟩ | ⟨-, q⟩, -⟩ := h <;> first | exact q.elim | omega) (fun r_79 w_79 n_79 h_79 hn_79 => ?_)
        obtain ⟨-, rfl, en_79, hC, -⟩ := h_79
        have hen : ((D i.toNat).fl = 1 ∧ thr (D i.toNat).A st) ∧ (D i.toNat).dg < bc st := Classical.byContradiction (fun q => c_63 (if_neg q))
        obtain ⟨e79, D2, ⟨hC, hQ2⟩, hO2, h42, h52⟩ := n_hand hQ1 hd6 hC hz73.1 (by omega) hs (by rw [eD1]; exact hen)
        rw [e79]
        rw [eD1, ← if_pos (c := ((D i.toNat).fl = 1 ∧ thr (D i.toNat).A st) ∧ (D i.toNat).dg < bc st) (t := tl wh st (D i.toNat).A 0) (e := -9) hen] at h52
        refine e_aload_n F dL_isKept_82 rfl ?_
        refine e_iconst F dL_isKept_83 ?_
        refine e_callVV F u_X3_house (by rfl) (c_X3_house hC (by constructor <;> omega)) hC.1 rfl rfl w_ml_RL_38 dL_isKept_84 (by rfl) (Nat.le_of_ble_eq_true rfl) (by decide) (by omega) (fun E w2 n2 h _ => by obtain ⟨⟨-, q⟩ | ⟨-, q⟩, -⟩ := h <;> first | exact q.elim | omega) (fun r_84 w_84 n_84 h_84 hn_84 => ?_)
        obtain ⟨-, rfl, en_84, hC, -⟩ := h_84
        rw [show hsV wh 0 D2 4 = ho wh from rfl]
        refine e_icmp_ne F 111 dL_isKept_87 (by decide) (⟨by omega, by omega⟩) (⟨by omega, by omega⟩) (fun c_87 => ?_) (fun c_87 => ?_)
        · exact absurd rfl c_87
        · refine e_aload_n F dL_isKept_90 rfl ?_
          refine e_iconst F dL_isKept_91 ?_
          refine e_iconst F dL_isKept_92 ?_
          refine e_callVV F u_X3_ofDeal (by rfl) (c_X3_ofDeal hC (by constructor <;> omega) (by constructor <;> omega)) hC.1 rfl rfl w_ml_RL_127 dL_isKept_93 (by rfl) (Nat.le_of_ble_eq_true rfl) (by decide) (by omega) (fun E w2 n2 h _ => by obtain ⟨⟨-, q⟩ | ⟨-, q⟩, -⟩ := h <;> first | exact q.elim | omega) (fun r_93 w_93 n_93 h_93 hn_93 => ?_)
          obtain ⟨-, rfl, en_93, hC, -⟩ := h_93
          refine e_iconst F dL_isKept_96 ?_
          refine e_icmp_ne F 111 dL_isKept_97 (by decide) (od_e5 hQ2 _) (by decide) (fun c_97 => ?_) (fun c_97 => ?_)
          · exact absurd h42 c_97
          · refine e_aload_n F dL_isKept_100 rfl ?_
            refine e_iconst F dL_isKept_101 ?_
            refine e_iconst F dL_isKept_102 ?_
            refine e_callVV F u_X3_ofDeal (by rfl) (c_X3_ofDeal hC (by constructor <;> omega) (by constructor <;> omega)) hC.1 rfl rfl w_ml_RL_127 dL_isKept_103 (by rfl) (Nat.le_of_ble_eq_true rfl) (by decide) (by omega) (fun E w2 n2 h _ => by obtain ⟨⟨-, q⟩ | ⟨-, q⟩, -⟩ := h <;> first | exact q.elim | omega) (fun r_103 w_103 n_103 h_103 hn_103 => ?_)
            obtain ⟨-, rfl, en_103, hC, -⟩ := h_103
            refine e_iload F dL_isKept_106 rfl ?_
            refine e_icmp_eq F 113 dL_isKept_108 (by decide) (od_e5 hQ2 _) (⟨by omega, by omega⟩) (fun c_108 => ?_) (fun c_108 => ?_)
            · first
              | exact e_go (l113 _ _ _ _ ⟨hC, hQ2⟩ (hO1.tr hO2) (by omega)) (And.intro rfl (And.intro rfl (And.intro rfl (And.intro rfl (And.intro rfl (And.intro rfl (trivial)))))))
              | exact e_go (l113 _ _ _ _ ⟨hC, hQ1⟩ hO1 (by omega)) (And.intro rfl (And.intro rfl (And.intro rfl (And.intro rfl (And.intro rfl (And.intro rfl (trivial)))))))
            · exact absurd h52 c_108
    · exact absurd h51 c_46
