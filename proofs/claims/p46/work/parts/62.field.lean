/-! the law's checks -/
theorem od_e {wh i : Nat} {D : Nat → SD} (Q : ∃ R, GG wh D R) (hi : i < 6) (c : Int) : e_r (odV wh (D i) c) := by
  obtain ⟨R, G⟩ := Q
  have h := od_r G.1 (G.2.2 i hi) c
  constructor <;> omega
theorem od_e5 {wh : Nat} {D : Nat → SD} (Q : ∃ R, GG wh D R) (c : Int) : e_r (odV wh (D (5 : Int).toNat) c) := od_e (i := 5) Q (by decide) c
theorem gt_pos {wh : Nat} (hwh : wh < 7) {a b : Int} (ha : 0 ≤ a ∧ a < gr wh) (hb : 0 ≤ b ∧ b < gr wh) : 0 ≤ a * b ∧ e_r8 (a * b) := by
  have hg := gr_rg wh hwh
  refine ⟨Int.mul_nonneg ha.1 hb.1, ?_⟩
  exact mul_rg2 (by omega) (by omega) (by omega) (by omega)
set_option maxHeartbeats 4000000 in
set_option maxRecDepth 100000 in
theorem c_L_isField {K : e_K} {l : Launch} {w : e_W} {n : Nat} {x wh : Nat} {D : Nat → SD} (hC : CW w x wh 0 D) {a b st : Int} (ha : e_r a) (hb : e_r b) (hs : 1 ≤ st ∧ st ≤ fl wh) : e_Met K l yL_isField (Cond.code yL_isField cL_isField 6 (Option.some .boolean) :: e_TB) (9) (60) [.ref x, .int (eI a), .int (eI b), .int (eI st)] w n (fun r w' n' => r = some (.int (eI 1)) ∧ CW w' x wh 0 D) (e_px0) := by
  refine e_ofV rfl (Nat.le_of_ble_eq_true rfl) ?_
  intro P9 E9 S9 M9 A9 B9 T9 C9 F hnm
  have hwh := hC.2.2.1
  have hp := pr_rg wh hwh
  have hg9 := gr_rg wh hwh
  have ho9 := ho_rg wh hwh
  have hf9 := (fl_rg9 hwh).1
  have f1 := f_1 hwh a
  have f5 := f_5 hwh a b
  have hm := emod_rg a hwh
  have hq : -9 ≤ qv wh 1 (a % pr wh) ∧ qv wh 1 (a % pr wh) < pr wh := by
    unfold qv
    split
    · omega
    · have := emod_rg (1 * iv wh (a % pr wh)) hwh; omega
  have hab := emod_rg (a + b) hwh
  have sa := sl_rg (v := a) hwh
  have sb := sl_rg (v := b) hwh
  have sc := sl_rg (v := (a + b) % pr wh) hwh
  have sp := gt_pos hwh sa sb
  refine e_aload_n F dL_isField_0 rfl ?_
  refine e_iconst F dL_isField_1 ?_
  refine e_callVV F u_X3_house (by rfl) (c_X3_house hC (by constructor <;> omega)) hC.1 rfl rfl w_ml_RL_38 dL_isField_2 (by rfl) (Nat.le_of_ble_eq_true rfl) (by decide) (by omega) (fun E w2 n2 h _ => by obtain ⟨⟨-, q⟩ | ⟨-, q⟩, -⟩ := h <;> first | exact q.elim | omega) (fun r_2 w_2 n_2 h_2 hn_2 => ?_)
  obtain ⟨-, rfl, en_2, hC, -⟩ := h_2
  rw [show hsV wh 0 D 1 = pr wh from rfl]
  refine e_istore F dL_isField_5 (by decide) ?_
  refine e_aload_n F dL_isField_7 rfl ?_
  refine e_iload_n F dL_isField_8 rfl ?_
  refine e_callVV F u_X3_reciprocal (by rfl) (c_X3_reciprocal hC (by constructor <;> omega)) hC.1 rfl rfl w_ml_RL_109 dL_isField_9 (by rfl) (Nat.le_of_ble_eq_true rfl) (by decide) (by omega) (fun _ _ _ h _ => False.elim h) (fun r_9 w_9 n_9 h_9 hn_9 => ?_)
  obtain ⟨rfl, en_9, hC, -⟩ := h_9
  refine e_istore F dL_isField_12 (by decide) ?_
  refine e_iload F dL_isField_14 rfl ?_
  refine e_bipush F dL_isField_16 (by decide) ?_
  refine e_icmp_ne F 25 dL_isField_18 (by decide) (⟨by omega, by omega⟩) (⟨by omega, by omega⟩) (fun c_18 => ?_) (fun c_18 => ?_)
  · refine e_iconst F dL_isField_25 ?_
    refine e_aload_n F dL_isField_26 rfl ?_
    refine e_iload_n F dL_isField_27 rfl ?_
    refine e_callVV F u_X3_rest (by rfl) (c_X3_rest hC (by constructor <;> omega)) hC.1 rfl rfl w_ml_RL_112 dL_isField_28 (by rfl) (Nat.le_of_ble_eq_true rfl) (by decide) (by omega) (fun _ _ _ h _ => False.elim h) (fun r_28 w_28 n_28 h_28 hn_28 => ?_)
    obtain ⟨rfl, en_28, hC, -⟩ := h_28
    refine e_if_ne F 38 dL_isField_31 (by decide) (⟨by omega, by omega⟩) (fun c_31 => ?_) (fun c_31 => ?_)
    · refine e_iconst F dL_isField_38 ?_
      refine e_icmp_ne F 76 dL_isField_39 (by decide) (by decide) (by decide) (fun c_39 => ?_) (fun c_39 => ?_)
      · exfalso
        first | exact c_39 rfl | exact c_58 rfl | exact c_73 rfl | omega
      · refine e_iload F dL_isField_42 rfl ?_
        refine e_bipush F dL_isField_44 (by decide) ?_
        refine e_icmp_eq F 61 dL_isField_46 (by decide) (⟨by omega, by omega⟩) (⟨by omega, by omega⟩) (fun c_46 => ?_) (fun c_46 => ?_)
        · refine e_aload_n F dL_isField_61 rfl ?_
          refine e_iload_n F dL_isField_62 rfl ?_
          refine e_iload F dL_isField_63 rfl ?_
          refine e_callVV F u_X3_power (by rfl) (c_X3_power hC (by constructor <;> omega) (by constructor <;> omega)) hC.1 rfl rfl w_ml_RL_118 dL_isField_65 (by rfl) (Nat.le_of_ble_eq_true rfl) (by decide) (by omega) (fun _ _ _ h _ => False.elim h) (fun r_65 w_65 n_65 h_65 hn_65 => ?_)
          obtain ⟨rfl, en_65, hC, -⟩ := h_65
          rw [f_3 hwh a]
          refine e_aload_n F dL_isField_68 rfl ?_
          refine e_iload_n F dL_isField_69 rfl ?_
          refine e_callVV F u_X3_rest (by rfl) (c_X3_rest hC (by constructor <;> omega)) hC.1 rfl rfl w_ml_RL_112 dL_isField_70 (by rfl) (Nat.le_of_ble_eq_true rfl) (by decide) (by omega) (fun _ _ _ h _ => False.elim h) (fun r_70 w_70 n_70 h_70 hn_70 => ?_)
          obtain ⟨rfl, en_70, hC, -⟩ := h_70
          refine e_icmp_eq F 78 dL_isField_73 (by decide) (⟨by omega, by omega⟩) (⟨by omega, by omega⟩) (fun c_73 => ?_) (fun c_73 => ?_)
          · refine e_aload_n F dL_isField_78 rfl ?_
            refine e_iload_n F dL_isField_79 rfl ?_
            refine e_iload_n F dL_isField_80 rfl ?_
            refine e_callVV F u_X3_weights (by rfl) (c_X3_weights hC (by constructor <;> omega) (by constructor <;> omega)) hC.1 rfl rfl w_ml_RL_121 dL_isField_81 (by rfl) (Nat.le_of_ble_eq_true rfl) (by decide) (by omega) (fun E w2 n2 h _ => by obtain ⟨⟨-, q⟩ | ⟨-, q⟩, -⟩ := h <;> first | exact q.elim | omega) (fun r_81 w_81 n_81 h_81 hn_81 => ?_)
            obtain ⟨-, rfl, en_81, hC, -⟩ := h_81
            rw [p_one hwh hs.1 hs.2]
            refine e_iconst F dL_isField_84 ?_
            refine e_icmp_ne F 127 dL_isField_85 (by decide) (by decide) (by decide) (fun c_85 => ?_) (fun c_85 => ?_)
            · exfalso
              first | exact c_85 rfl | exact c_120 rfl
            · refine e_aload_n F dL_isField_88 rfl ?_
              refine e_aload_n F dL_isField_89 rfl ?_
              refine e_iload_n F dL_isField_90 rfl ?_
              refine e_iload_n F dL_isField_91 rfl ?_
              refine e_iconst F dL_isField_92 ?_
              refine e_callVV F u_X3_reckon (by rfl) (c_X3_reckon hC (by constructor <;> omega) (by constructor <;> omega) (by constructor <;> omega)) hC.1 rfl rfl w_ml_RL_115 dL_isField_93 (by rfl) (Nat.le_of_ble_eq_true rfl) (by decide) (by omega) (fun E w2 n2 h _ => by obtain ⟨⟨-, q⟩ | ⟨-, q⟩, -⟩ := h <;> first | exact q.elim | omega) (fun r_93 w_93 n_93 h_93 hn_93 => ?_)
              obtain ⟨-, rfl, en_93, hC, -⟩ := h_93
              rw [show rcV wh a b 0 = (a + b) % pr wh from rfl]
              refine e_callVV F u_X3_sealOf (by rfl) (c_X3_sealOf hC (by constructor <;> omega)) hC.1 rfl rfl w_ml_RL_124 dL_isField_96 (by rfl) (Nat.le_of_ble_eq_true rfl) (by decide) (by omega) (fun _ _ _ h _ => False.elim h) (fun r_96 w_96 n_96 h_96 hn_96 => ?_)
              obtain ⟨rfl, en_96, hC, -⟩ := h_96
              refine e_aload_n F dL_isField_99 rfl ?_
              refine e_iload_n F dL_isField_100 rfl ?_
              refine e_callVV F u_X3_sealOf (by rfl) (c_X3_sealOf hC (by constructor <;> omega)) hC.1 rfl rfl w_ml_RL_124 dL_isField_101 (by rfl) (Nat.le_of_ble_eq_true rfl) (by decide) (by omega) (fun _ _ _ h _ => False.elim h) (fun r_101 w_101 n_101 h_101 hn_101 => ?_)
              obtain ⟨rfl, en_101, hC, -⟩ := h_101
              refine e_i2l F dL_isField_104 (⟨by omega, by omega⟩) ?_
              refine e_aload_n F dL_isField_105 rfl ?_
              refine e_iload_n F dL_isField_106 rfl ?_
              refine e_callVV F u_X3_sealOf (by rfl) (c_X3_sealOf hC (by constructor <;> omega)) hC.1 rfl rfl w_ml_RL_124 dL_isField_107 (by rfl) (Nat.le_of_ble_eq_true rfl) (by decide) (by omega) (fun _ _ _ h _ => False.elim h) (fun r_107 w_107 n_107 h_107 hn_107 => ?_)
              obtain ⟨rfl, en_107, hC, -⟩ := h_107
              refine e_i2l F dL_isField_110 (⟨by omega, by omega⟩) ?_
              refine e_lmul F dL_isField_111 ?_
              refine e_aload_n F dL_isField_112 rfl ?_
              refine e_iconst F dL_isField_113 ?_
              refine e_callVV F u_X3_house (by rfl) (c_X3_house hC (by constructor <;> omega)) hC.1 rfl rfl w_ml_RL_38 dL_isField_114 (by rfl) (Nat.le_of_ble_eq_true rfl) (by decide) (by omega) (fun E w2 n2 h _ => by obtain ⟨⟨-, q⟩ | ⟨-, q⟩, -⟩ := h <;> first | exact q.elim | omega) (fun r_114 w_114 n_114 h_114 hn_114 => ?_)
              obtain ⟨-, rfl, en_114, hC, -⟩ := h_114
              rw [show hsV wh 0 D 2 = gr wh from rfl]
              refine e_i2l F dL_isField_117 (⟨by omega, by omega⟩) ?_
              refine e_lrem F dL_isField_118 (sp.2) (⟨by omega, by omega⟩) (by omega) ?_
              rw [Int.tmod_eq_emod_of_nonneg sp.1, ← show sl wh ((a + b) % pr wh) = sl wh a * sl wh b % gr wh from f5]
              refine e_l2i F dL_isField_119 ?_
              refine e_icmp_ne F 127 dL_isField_120 (by decide) (⟨by omega, by omega⟩) (⟨by omega, by omega⟩) (fun c_120 => ?_) (fun c_120 => ?_)
              · exfalso
                first | exact c_85 rfl | exact c_120 rfl
              · refine e_iconst F dL_isField_123 ?_
                refine e_goto F 128 dL_isField_124 (by decide) ?_
                refine e_zret F rfl (by omega) (by omega) ?_ dL_isField_128
                exact ⟨rfl, hC⟩
          · exfalso
            first | exact c_39 rfl | exact c_58 rfl | exact c_73 rfl | omega
        · refine e_aload_n F dL_isField_49 rfl ?_
          refine e_iload_n F dL_isField_50 rfl ?_
          refine e_iload F dL_isField_51 rfl ?_
          refine e_iconst F dL_isField_53 ?_
          refine e_callVV F u_X3_reckon (by rfl) (c_X3_reckon hC (by constructor <;> omega) (by constructor <;> omega) (by constructor <;> omega)) hC.1 rfl rfl w_ml_RL_115 dL_isField_54 (by rfl) (Nat.le_of_ble_eq_true rfl) (by decide) (by omega) (fun E w2 n2 h _ => by obtain ⟨⟨-, q⟩ | ⟨-, q⟩, -⟩ := h <;> first | exact q.elim | omega) (fun r_54 w_54 n_54 h_54 hn_54 => ?_)
          obtain ⟨-, rfl, en_54, hC, -⟩ := h_54
          rw [f_2 hwh c_46]
          refine e_iconst F dL_isField_57 ?_
          refine e_icmp_ne F 76 dL_isField_58 (by decide) (by decide) (by decide) (fun c_58 => ?_) (fun c_58 => ?_)
          · exfalso
            first | exact c_39 rfl | exact c_58 rfl | exact c_73 rfl | omega
          · refine e_aload_n F dL_isField_61 rfl ?_
            refine e_iload_n F dL_isField_62 rfl ?_
            refine e_iload F dL_isField_63 rfl ?_
            refine e_callVV F u_X3_power (by rfl) (c_X3_power hC (by constructor <;> omega) (by constructor <;> omega)) hC.1 rfl rfl w_ml_RL_118 dL_isField_65 (by rfl) (Nat.le_of_ble_eq_true rfl) (by decide) (by omega) (fun _ _ _ h _ => False.elim h) (fun r_65 w_65 n_65 h_65 hn_65 => ?_)
            obtain ⟨rfl, en_65, hC, -⟩ := h_65
            rw [f_3 hwh a]
            refine e_aload_n F dL_isField_68 rfl ?_
            refine e_iload_n F dL_isField_69 rfl ?_
            refine e_callVV F u_X3_rest (by rfl) (c_X3_rest hC (by constructor <;> omega)) hC.1 rfl rfl w_ml_RL_112 dL_isField_70 (by rfl) (Nat.le_of_ble_eq_true rfl) (by decide) (by omega) (fun _ _ _ h _ => False.elim h) (fun r_70 w_70 n_70 h_70 hn_70 => ?_)
            obtain ⟨rfl, en_70, hC, -⟩ := h_70
            refine e_icmp_eq F 78 dL_isField_73 (by decide) (⟨by omega, by omega⟩) (⟨by omega, by omega⟩) (fun c_73 => ?_) (fun c_73 => ?_)
            · refine e_aload_n F dL_isField_78 rfl ?_
              refine e_iload_n F dL_isField_79 rfl ?_
              refine e_iload_n F dL_isField_80 rfl ?_
              refine e_callVV F u_X3_weights (by rfl) (c_X3_weights hC (by constructor <;> omega) (by constructor <;> omega)) hC.1 rfl rfl w_ml_RL_121 dL_isField_81 (by rfl) (Nat.le_of_ble_eq_true rfl) (by decide) (by omega) (fun E w2 n2 h _ => by obtain ⟨⟨-, q⟩ | ⟨-, q⟩, -⟩ := h <;> first | exact q.elim | omega) (fun r_81 w_81 n_81 h_81 hn_81 => ?_)
              obtain ⟨-, rfl, en_81, hC, -⟩ := h_81
              rw [p_one hwh hs.1 hs.2]
              refine e_iconst F dL_isField_84 ?_
              refine e_icmp_ne F 127 dL_isField_85 (by decide) (by decide) (by decide) (fun c_85 => ?_) (fun c_85 => ?_)
              · exfalso
                first | exact c_85 rfl | exact c_120 rfl
              · refine e_aload_n F dL_isField_88 rfl ?_
                refine e_aload_n F dL_isField_89 rfl ?_
                refine e_iload_n F dL_isField_90 rfl ?_
                refine e_iload_n F dL_isField_91 rfl ?_
                refine e_iconst F dL_isField_92 ?_
                refine e_callVV F u_X3_reckon (by rfl) (c_X3_reckon hC (by constructor <;> omega) (by constructor <;> omega) (by constructor <;> omega)) hC.1 rfl rfl w_ml_RL_115 dL_isField_93 (by rfl) (Nat.le_of_ble_eq_true rfl) (by decide) (by omega) (fun E w2 n2 h _ => by obtain ⟨⟨-, q⟩ | ⟨-, q⟩, -⟩ := h <;> first | exact q.elim | omega) (fun r_93 w_93 n_93 h_93 hn_93 => ?_)
                obtain ⟨-, rfl, en_93, hC, -⟩ := h_93
                rw [show rcV wh a b 0 = (a + b) % pr wh from rfl]
                refine e_callVV F u_X3_sealOf (by rfl) (c_X3_sealOf hC (by constructor <;> omega)) hC.1 rfl rfl w_ml_RL_124 dL_isField_96 (by rfl) (Nat.le_of_ble_eq_true rfl) (by decide) (by omega) (fun _ _ _ h _ => False.elim h) (fun r_96 w_96 n_96 h_96 hn_96 => ?_)
                obtain ⟨rfl, en_96, hC, -⟩ := h_96
                refine e_aload_n F dL_isField_99 rfl ?_
                refine e_iload_n F dL_isField_100 rfl ?_
                refine e_callVV F u_X3_sealOf (by rfl) (c_X3_sealOf hC (by constructor <;> omega)) hC.1 rfl rfl w_ml_RL_124 dL_isField_101 (by rfl) (Nat.le_of_ble_eq_true rfl) (by decide) (by omega) (fun _ _ _ h _ => False.elim h) (fun r_101 w_101 n_101 h_101 hn_101 => ?_)
                obtain ⟨rfl, en_101, hC, -⟩ := h_101
                refine e_i2l F dL_isField_104 (⟨by omega, by omega⟩) ?_
                refine e_aload_n F dL_isField_105 rfl ?_
                refine e_iload_n F dL_isField_106 rfl ?_
                refine e_callVV F u_X3_sealOf (by rfl) (c_X3_sealOf hC (by constructor <;> omega)) hC.1 rfl rfl w_ml_RL_124 dL_isField_107 (by rfl) (Nat.le_of_ble_eq_true rfl) (by decide) (by omega) (fun _ _ _ h _ => False.elim h) (fun r_107 w_107 n_107 h_107 hn_107 => ?_)
                obtain ⟨rfl, en_107, hC, -⟩ := h_107
                refine e_i2l F dL_isField_110 (⟨by omega, by omega⟩) ?_
                refine e_lmul F dL_isField_111 ?_
                refine e_aload_n F dL_isField_112 rfl ?_
                refine e_iconst F dL_isField_113 ?_
                refine e_callVV F u_X3_house (by rfl) (c_X3_house hC (by constructor <;> omega)) hC.1 rfl rfl w_ml_RL_38 dL_isField_114 (by rfl) (Nat.le_of_ble_eq_true rfl) (by decide) (by omega) (fun E w2 n2 h _ => by obtain ⟨⟨-, q⟩ | ⟨-, q⟩, -⟩ := h <;> first | exact q.elim | omega) (fun r_114 w_114 n_114 h_114 hn_114 => ?_)
                obtain ⟨-, rfl, en_114, hC, -⟩ := h_114
                rw [show hsV wh 0 D 2 = gr wh from rfl]
                refine e_i2l F dL_isField_117 (⟨by omega, by omega⟩) ?_
                refine e_lrem F dL_isField_118 (sp.2) (⟨by omega, by omega⟩) (by omega) ?_
                rw [Int.tmod_eq_emod_of_nonneg sp.1, ← show sl wh ((a + b) % pr wh) = sl wh a * sl wh b % gr wh from f5]
                refine e_l2i F dL_isField_119 ?_
                refine e_icmp_ne F 127 dL_isField_120 (by decide) (⟨by omega, by omega⟩) (⟨by omega, by omega⟩) (fun c_120 => ?_) (fun c_120 => ?_)
                · exfalso
                  first | exact c_85 rfl | exact c_120 rfl
                · refine e_iconst F dL_isField_123 ?_
                  refine e_goto F 128 dL_isField_124 (by decide) ?_
                  refine e_zret F rfl (by omega) (by omega) ?_ dL_isField_128
                  exact ⟨rfl, hC⟩
            · exfalso
              first | exact c_39 rfl | exact c_58 rfl | exact c_73 rfl | omega
    · refine e_iconst F dL_isField_34 ?_
      refine e_goto F 39 dL_isField_35 (by decide) ?_
      refine e_icmp_ne F 76 dL_isField_39 (by decide) (by decide) (by decide) (fun c_39 => ?_) (fun c_39 => ?_)
      · exfalso
        first | exact c_39 rfl | exact c_58 rfl | exact c_73 rfl | omega
      · refine e_iload F dL_isField_42 rfl ?_
        refine e_bipush F dL_isField_44 (by decide) ?_
        refine e_icmp_eq F 61 dL_isField_46 (by decide) (⟨by omega, by omega⟩) (⟨by omega, by omega⟩) (fun c_46 => ?_) (fun c_46 => ?_)
        · refine e_aload_n F dL_isField_61 rfl ?_
          refine e_iload_n F dL_isField_62 rfl ?_
          refine e_iload F dL_isField_63 rfl ?_
          refine e_callVV F u_X3_power (by rfl) (c_X3_power hC (by constructor <;> omega) (by constructor <;> omega)) hC.1 rfl rfl w_ml_RL_118 dL_isField_65 (by rfl) (Nat.le_of_ble_eq_true rfl) (by decide) (by omega) (fun _ _ _ h _ => False.elim h) (fun r_65 w_65 n_65 h_65 hn_65 => ?_)
          obtain ⟨rfl, en_65, hC, -⟩ := h_65
          rw [f_3 hwh a]
          refine e_aload_n F dL_isField_68 rfl ?_
          refine e_iload_n F dL_isField_69 rfl ?_
          refine e_callVV F u_X3_rest (by rfl) (c_X3_rest hC (by constructor <;> omega)) hC.1 rfl rfl w_ml_RL_112 dL_isField_70 (by rfl) (Nat.le_of_ble_eq_true rfl) (by decide) (by omega) (fun _ _ _ h _ => False.elim h) (fun r_70 w_70 n_70 h_70 hn_70 => ?_)
          obtain ⟨rfl, en_70, hC, -⟩ := h_70
          refine e_icmp_eq F 78 dL_isField_73 (by decide) (⟨by omega, by omega⟩) (⟨by omega, by omega⟩) (fun c_73 => ?_) (fun c_73 => ?_)
          · refine e_aload_n F dL_isField_78 rfl ?_
            refine e_iload_n F dL_isField_79 rfl ?_
            refine e_iload_n F dL_isField_80 rfl ?_
            refine e_callVV F u_X3_weights (by rfl) (c_X3_weights hC (by constructor <;> omega) (by constructor <;> omega)) hC.1 rfl rfl w_ml_RL_121 dL_isField_81 (by rfl) (Nat.le_of_ble_eq_true rfl) (by decide) (by omega) (fun E w2 n2 h _ => by obtain ⟨⟨-, q⟩ | ⟨-, q⟩, -⟩ := h <;> first | exact q.elim | omega) (fun r_81 w_81 n_81 h_81 hn_81 => ?_)
            obtain ⟨-, rfl, en_81, hC, -⟩ := h_81
            rw [p_one hwh hs.1 hs.2]
            refine e_iconst F dL_isField_84 ?_
            refine e_icmp_ne F 127 dL_isField_85 (by decide) (by decide) (by decide) (fun c_85 => ?_) (fun c_85 => ?_)
            · exfalso
              first | exact c_85 rfl | exact c_120 rfl
            · refine e_aload_n F dL_isField_88 rfl ?_
              refine e_aload_n F dL_isField_89 rfl ?_
              refine e_iload_n F dL_isField_90 rfl ?_
              refine e_iload_n F dL_isField_91 rfl ?_
              refine e_iconst F dL_isField_92 ?_
              refine e_callVV F u_X3_reckon (by rfl) (c_X3_reckon hC (by constructor <;> omega) (by constructor <;> omega) (by constructor <;> omega)) hC.1 rfl rfl w_ml_RL_115 dL_isField_93 (by rfl) (Nat.le_of_ble_eq_true rfl) (by decide) (by omega) (fun E w2 n2 h _ => by obtain ⟨⟨-, q⟩ | ⟨-, q⟩, -⟩ := h <;> first | exact q.elim | omega) (fun r_93 w_93 n_93 h_93 hn_93 => ?_)
              obtain ⟨-, rfl, en_93, hC, -⟩ := h_93
              rw [show rcV wh a b 0 = (a + b) % pr wh from rfl]
              refine e_callVV F u_X3_sealOf (by rfl) (c_X3_sealOf hC (by constructor <;> omega)) hC.1 rfl rfl w_ml_RL_124 dL_isField_96 (by rfl) (Nat.le_of_ble_eq_true rfl) (by decide) (by omega) (fun _ _ _ h _ => False.elim h) (fun r_96 w_96 n_96 h_96 hn_96 => ?_)
              obtain ⟨rfl, en_96, hC, -⟩ := h_96
              refine e_aload_n F dL_isField_99 rfl ?_
              refine e_iload_n F dL_isField_100 rfl ?_
              refine e_callVV F u_X3_sealOf (by rfl) (c_X3_sealOf hC (by constructor <;> omega)) hC.1 rfl rfl w_ml_RL_124 dL_isField_101 (by rfl) (Nat.le_of_ble_eq_true rfl) (by decide) (by omega) (fun _ _ _ h _ => False.elim h) (fun r_101 w_101 n_101 h_101 hn_101 => ?_)
              obtain ⟨rfl, en_101, hC, -⟩ := h_101
              refine e_i2l F dL_isField_104 (⟨by omega, by omega⟩) ?_
              refine e_aload_n F dL_isField_105 rfl ?_
              refine e_iload_n F dL_isField_106 rfl ?_
              refine e_callVV F u_X3_sealOf (by rfl) (c_X3_sealOf hC (by constructor <;> omega)) hC.1 rfl rfl w_ml_RL_124 dL_isField_107 (by rfl) (Nat.le_of_ble_eq_true rfl) (by decide) (by omega) (fun _ _ _ h _ => False.elim h) (fun r_107 w_107 n_107 h_107 hn_107 => ?_)
              obtain ⟨rfl, en_107, hC, -⟩ := h_107
              refine e_i2l F dL_isField_110 (⟨by omega, by omega⟩) ?_
              refine e_lmul F dL_isField_111 ?_
              refine e_aload_n F dL_isField_112 rfl ?_
              refine e_iconst F dL_isField_113 ?_
              refine e_callVV F u_X3_house (by rfl) (c_X3_house hC (by constructor <;> omega)) hC.1 rfl rfl w_ml_RL_38 dL_isField_114 (by rfl) (Nat.le_of_ble_eq_true rfl) (by decide) (by omega) (fun E w2 n2 h _ => by obtain ⟨⟨-, q⟩ | ⟨-, q⟩, -⟩ := h <;> first | exact q.elim | omega) (fun r_114 w_114 n_114 h_114 hn_114 => ?_)
              obtain ⟨-, rfl, en_114, hC, -⟩ := h_114
              rw [show hsV wh 0 D 2 = gr wh from rfl]
              refine e_i2l F dL_isField_117 (⟨by omega, by omega⟩) ?_
              refine e_lrem F dL_isField_118 (sp.2) (⟨by omega, by omega⟩) (by omega) ?_
              rw [Int.tmod_eq_emod_of_nonneg sp.1, ← show sl wh ((a + b) % pr wh) = sl wh a * sl wh b % gr wh from f5]
              refine e_l2i F dL_isField_119 ?_
              refine e_icmp_ne F 127 dL_isField_120 (by decide) (⟨by omega, by omega⟩) (⟨by omega, by omega⟩) (fun c_120 => ?_) (fun c_120 => ?_)
              · exfalso
                first | exact c_85 rfl | exact c_120 rfl
              · refine e_iconst F dL_isField_123 ?_
                refine e_goto F 128 dL_isField_124 (by decide) ?_
                refine e_zret F rfl (by omega) (by omega) ?_ dL_isField_128
                exact ⟨rfl, hC⟩
          · exfalso
            first | exact c_39 rfl | exact c_58 rfl | exact c_73 rfl | omega
        · refine e_aload_n F dL_isField_49 rfl ?_
          refine e_iload_n F dL_isField_50 rfl ?_
          refine e_iload F dL_isField_51 rfl ?_
          refine e_iconst F dL_isField_53 ?_
          refine e_callVV F u_X3_reckon (by rfl) (c_X3_reckon hC (by constructor <;> omega) (by constructor <;> omega) (by constructor <;> omega)) hC.1 rfl rfl w_ml_RL_115 dL_isField_54 (by rfl) (Nat.le_of_ble_eq_true rfl) (by decide) (by omega) (fun E w2 n2 h _ => by obtain ⟨⟨-, q⟩ | ⟨-, q⟩, -⟩ := h <;> first | exact q.elim | omega) (fun r_54 w_54 n_54 h_54 hn_54 => ?_)
          obtain ⟨-, rfl, en_54, hC, -⟩ := h_54
          rw [f_2 hwh c_46]
          refine e_iconst F dL_isField_57 ?_
          refine e_icmp_ne F 76 dL_isField_58 (by decide) (by decide) (by decide) (fun c_58 => ?_) (fun c_58 => ?_)
          · exfalso
            first | exact c_39 rfl | exact c_58 rfl | exact c_73 rfl | omega
          · refine e_aload_n F dL_isField_61 rfl ?_
            refine e_iload_n F dL_isField_62 rfl ?_
            refine e_iload F dL_isField_63 rfl ?_
            refine e_callVV F u_X3_power (by rfl) (c_X3_power hC (by constructor <;> omega) (by constructor <;> omega)) hC.1 rfl rfl w_ml_RL_118 dL_isField_65 (by rfl) (Nat.le_of_ble_eq_true rfl) (by decide) (by omega) (fun _ _ _ h _ => False.elim h) (fun r_65 w_65 n_65 h_65 hn_65 => ?_)
            obtain ⟨rfl, en_65, hC, -⟩ := h_65
            rw [f_3 hwh a]
            refine e_aload_n F dL_isField_68 rfl ?_
            refine e_iload_n F dL_isField_69 rfl ?_
            refine e_callVV F u_X3_rest (by rfl) (c_X3_rest hC (by constructor <;> omega)) hC.1 rfl rfl w_ml_RL_112 dL_isField_70 (by rfl) (Nat.le_of_ble_eq_true rfl) (by decide) (by omega) (fun _ _ _ h _ => False.elim h) (fun r_70 w_70 n_70 h_70 hn_70 => ?_)
            obtain ⟨rfl, en_70, hC, -⟩ := h_70
            refine e_icmp_eq F 78 dL_isField_73 (by decide) (⟨by omega, by omega⟩) (⟨by omega, by omega⟩) (fun c_73 => ?_) (fun c_73 => ?_)
            · refine e_aload_n F dL_isField_78 rfl ?_
              refine e_iload_n F dL_isField_79 rfl ?_
              refine e_iload_n F dL_isField_80 rfl ?_
              refine e_callVV F u_X3_weights (by rfl) (c_X3_weights hC (by constructor <;> omega) (by constructor <;> omega)) hC.1 rfl rfl w_ml_RL_121 dL_isField_81 (by rfl) (Nat.le_of_ble_eq_true rfl) (by decide) (by omega) (fun E w2 n2 h _ => by obtain ⟨⟨-, q⟩ | ⟨-, q⟩, -⟩ := h <;> first | exact q.elim | omega) (fun r_81 w_81 n_81 h_81 hn_81 => ?_)
              obtain ⟨-, rfl, en_81, hC, -⟩ := h_81
              rw [p_one hwh hs.1 hs.2]
              refine e_iconst F dL_isField_84 ?_
              refine e_icmp_ne F 127 dL_isField_85 (by decide) (by decide) (by decide) (fun c_85 => ?_) (fun c_85 => ?_)
              · exfalso
                first | exact c_85 rfl | exact c_120 rfl
              · refine e_aload_n F dL_isField_88 rfl ?_
                refine e_aload_n F dL_isField_89 rfl ?_
                refine e_iload_n F dL_isField_90 rfl ?_
                refine e_iload_n F dL_isField_91 rfl ?_
                refine e_iconst F dL_isField_92 ?_
                refine e_callVV F u_X3_reckon (by rfl) (c_X3_reckon hC (by constructor <;> omega) (by constructor <;> omega) (by constructor <;> omega)) hC.1 rfl rfl w_ml_RL_115 dL_isField_93 (by rfl) (Nat.le_of_ble_eq_true rfl) (by decide) (by omega) (fun E w2 n2 h _ => by obtain ⟨⟨-, q⟩ | ⟨-, q⟩, -⟩ := h <;> first | exact q.elim | omega) (fun r_93 w_93 n_93 h_93 hn_93 => ?_)
                obtain ⟨-, rfl, en_93, hC, -⟩ := h_93
                rw [show rcV wh a b 0 = (a + b) % pr wh from rfl]
                refine e_callVV F u_X3_sealOf (by rfl) (c_X3_sealOf hC (by constructor <;> omega)) hC.1 rfl rfl w_ml_RL_124 dL_isField_96 (by rfl) (Nat.le_of_ble_eq_true rfl) (by decide) (by omega) (fun _ _ _ h _ => False.elim h) (fun r_96 w_96 n_96 h_96 hn_96 => ?_)
                obtain ⟨rfl, en_96, hC, -⟩ := h_96
                refine e_aload_n F dL_isField_99 rfl ?_
                refine e_iload_n F dL_isField_100 rfl ?_
                refine e_callVV F u_X3_sealOf (by rfl) (c_X3_sealOf hC (by constructor <;> omega)) hC.1 rfl rfl w_ml_RL_124 dL_isField_101 (by rfl) (Nat.le_of_ble_eq_true rfl) (by decide) (by omega) (fun _ _ _ h _ => False.elim h) (fun r_101 w_101 n_101 h_101 hn_101 => ?_)
                obtain ⟨rfl, en_101, hC, -⟩ := h_101
                refine e_i2l F dL_isField_104 (⟨by omega, by omega⟩) ?_
                refine e_aload_n F dL_isField_105 rfl ?_
                refine e_iload_n F dL_isField_106 rfl ?_
                refine e_callVV F u_X3_sealOf (by rfl) (c_X3_sealOf hC (by constructor <;> omega)) hC.1 rfl rfl w_ml_RL_124 dL_isField_107 (by rfl) (Nat.le_of_ble_eq_true rfl) (by decide) (by omega) (fun _ _ _ h _ => False.elim h) (fun r_107 w_107 n_107 h_107 hn_107 => ?_)
                obtain ⟨rfl, en_107, hC, -⟩ := h_107
                refine e_i2l F dL_isField_110 (⟨by omega, by omega⟩) ?_
                refine e_lmul F dL_isField_111 ?_
                refine e_aload_n F dL_isField_112 rfl ?_
                refine e_iconst F dL_isField_113 ?_
                refine e_callVV F u_X3_house (by rfl) (c_X3_house hC (by constructor <;> omega)) hC.1 rfl rfl w_ml_RL_38 dL_isField_114 (by rfl) (Nat.le_of_ble_eq_true rfl) (by decide) (by omega) (fun E w2 n2 h _ => by obtain ⟨⟨-, q⟩ | ⟨-, q⟩, -⟩ := h <;> first | exact q.elim | omega) (fun r_114 w_114 n_114 h_114 hn_114 => ?_)
                obtain ⟨-, rfl, en_114, hC, -⟩ := h_114
                rw [show hsV wh 0 D 2 = gr wh from rfl]
                refine e_i2l F dL_isField_117 (⟨by omega, by omega⟩) ?_
                refine e_lrem F dL_isField_118 (sp.2) (⟨by omega, by omega⟩) (by omega) ?_
                rw [Int.tmod_eq_emod_of_nonneg sp.1, ← show sl wh ((a + b) % pr wh) = sl wh a * sl wh b % gr wh from f5]
                refine e_l2i F dL_isField_119 ?_
                refine e_icmp_ne F 127 dL_isField_120 (by decide) (⟨by omega, by omega⟩) (⟨by omega, by omega⟩) (fun c_120 => ?_) (fun c_120 => ?_)
                · exfalso
                  first | exact c_85 rfl | exact c_120 rfl
                · refine e_iconst F dL_isField_123 ?_
                  refine e_goto F 128 dL_isField_124 (by decide) ?_
                  refine e_zret F rfl (by omega) (by omega) ?_ dL_isField_128
                  exact ⟨rfl, hC⟩
            · exfalso
              first | exact c_39 rfl | exact c_58 rfl | exact c_73 rfl | omega
  · refine e_iconst F dL_isField_21 ?_
    refine e_goto F 26 dL_isField_22 (by decide) ?_
    refine e_aload_n F dL_isField_26 rfl ?_
    refine e_iload_n F dL_isField_27 rfl ?_
    refine e_callVV F u_X3_rest (by rfl) (c_X3_rest hC (by constructor <;> omega)) hC.1 rfl rfl w_ml_RL_112 dL_isField_28 (by rfl) (Nat.le_of_ble_eq_true rfl) (by decide) (by omega) (fun _ _ _ h _ => False.elim h) (fun r_28 w_28 n_28 h_28 hn_28 => ?_)
    obtain ⟨rfl, en_28, hC, -⟩ := h_28
    refine e_if_ne F 38 dL_isField_31 (by decide) (⟨by omega, by omega⟩) (fun c_31 => ?_) (fun c_31 => ?_)
    · refine e_iconst F dL_isField_38 ?_
      refine e_icmp_ne F 76 dL_isField_39 (by decide) (by decide) (by decide) (fun c_39 => ?_) (fun c_39 => ?_)
      · exfalso
        first | exact c_39 rfl | exact c_58 rfl | exact c_73 rfl | omega
      · refine e_iload F dL_isField_42 rfl ?_
        refine e_bipush F dL_isField_44 (by decide) ?_
        refine e_icmp_eq F 61 dL_isField_46 (by decide) (⟨by omega, by omega⟩) (⟨by omega, by omega⟩) (fun c_46 => ?_) (fun c_46 => ?_)
        · refine e_aload_n F dL_isField_61 rfl ?_
          refine e_iload_n F dL_isField_62 rfl ?_
          refine e_iload F dL_isField_63 rfl ?_
          refine e_callVV F u_X3_power (by rfl) (c_X3_power hC (by constructor <;> omega) (by constructor <;> omega)) hC.1 rfl rfl w_ml_RL_118 dL_isField_65 (by rfl) (Nat.le_of_ble_eq_true rfl) (by decide) (by omega) (fun _ _ _ h _ => False.elim h) (fun r_65 w_65 n_65 h_65 hn_65 => ?_)
          obtain ⟨rfl, en_65, hC, -⟩ := h_65
          rw [f_3 hwh a]
          refine e_aload_n F dL_isField_68 rfl ?_
          refine e_iload_n F dL_isField_69 rfl ?_
          refine e_callVV F u_X3_rest (by rfl) (c_X3_rest hC (by constructor <;> omega)) hC.1 rfl rfl w_ml_RL_112 dL_isField_70 (by rfl) (Nat.le_of_ble_eq_true rfl) (by decide) (by omega) (fun _ _ _ h _ => False.elim h) (fun r_70 w_70 n_70 h_70 hn_70 => ?_)
          obtain ⟨rfl, en_70, hC, -⟩ := h_70
          refine e_icmp_eq F 78 dL_isField_73 (by decide) (⟨by omega, by omega⟩) (⟨by omega, by omega⟩) (fun c_73 => ?_) (fun c_73 => ?_)
          · refine e_aload_n F dL_isField_78 rfl ?_
            refine e_iload_n F dL_isField_79 rfl ?_
            refine e_iload_n F dL_isField_80 rfl ?_
            refine e_callVV F u_X3_weights (by rfl) (c_X3_weights hC (by constructor <;> omega) (by constructor <;> omega)) hC.1 rfl rfl w_ml_RL_121 dL_isField_81 (by rfl) (Nat.le_of_ble_eq_true rfl) (by decide) (by omega) (fun E w2 n2 h _ => by obtain ⟨⟨-, q⟩ | ⟨-, q⟩, -⟩ := h <;> first | exact q.elim | omega) (fun r_81 w_81 n_81 h_81 hn_81 => ?_)
            obtain ⟨-, rfl, en_81, hC, -⟩ := h_81
            rw [p_one hwh hs.1 hs.2]
            refine e_iconst F dL_isField_84 ?_
            refine e_icmp_ne F 127 dL_isField_85 (by decide) (by decide) (by decide) (fun c_85 => ?_) (fun c_85 => ?_)
            · exfalso
              first | exact c_85 rfl | exact c_120 rfl
            · refine e_aload_n F dL_isField_88 rfl ?_
              refine e_aload_n F dL_isField_89 rfl ?_
              refine e_iload_n F dL_isField_90 rfl ?_
              refine e_iload_n F dL_isField_91 rfl ?_
              refine e_iconst F dL_isField_92 ?_
              refine e_callVV F u_X3_reckon (by rfl) (c_X3_reckon hC (by constructor <;> omega) (by constructor <;> omega) (by constructor <;> omega)) hC.1 rfl rfl w_ml_RL_115 dL_isField_93 (by rfl) (Nat.le_of_ble_eq_true rfl) (by decide) (by omega) (fun E w2 n2 h _ => by obtain ⟨⟨-, q⟩ | ⟨-, q⟩, -⟩ := h <;> first | exact q.elim | omega) (fun r_93 w_93 n_93 h_93 hn_93 => ?_)
              obtain ⟨-, rfl, en_93, hC, -⟩ := h_93
              rw [show rcV wh a b 0 = (a + b) % pr wh from rfl]
              refine e_callVV F u_X3_sealOf (by rfl) (c_X3_sealOf hC (by constructor <;> omega)) hC.1 rfl rfl w_ml_RL_124 dL_isField_96 (by rfl) (Nat.le_of_ble_eq_true rfl) (by decide) (by omega) (fun _ _ _ h _ => False.elim h) (fun r_96 w_96 n_96 h_96 hn_96 => ?_)
              obtain ⟨rfl, en_96, hC, -⟩ := h_96
              refine e_aload_n F dL_isField_99 rfl ?_
              refine e_iload_n F dL_isField_100 rfl ?_
              refine e_callVV F u_X3_sealOf (by rfl) (c_X3_sealOf hC (by constructor <;> omega)) hC.1 rfl rfl w_ml_RL_124 dL_isField_101 (by rfl) (Nat.le_of_ble_eq_true rfl) (by decide) (by omega) (fun _ _ _ h _ => False.elim h) (fun r_101 w_101 n_101 h_101 hn_101 => ?_)
              obtain ⟨rfl, en_101, hC, -⟩ := h_101
              refine e_i2l F dL_isField_104 (⟨by omega, by omega⟩) ?_
              refine e_aload_n F dL_isField_105 rfl ?_
              refine e_iload_n F dL_isField_106 rfl ?_
              refine e_callVV F u_X3_sealOf (by rfl) (c_X3_sealOf hC (by constructor <;> omega)) hC.1 rfl rfl w_ml_RL_124 dL_isField_107 (by rfl) (Nat.le_of_ble_eq_true rfl) (by decide) (by omega) (fun _ _ _ h _ => False.elim h) (fun r_107 w_107 n_107 h_107 hn_107 => ?_)
              obtain ⟨rfl, en_107, hC, -⟩ := h_107
              refine e_i2l F dL_isField_110 (⟨by omega, by omega⟩) ?_
              refine e_lmul F dL_isField_111 ?_
              refine e_aload_n F dL_isField_112 rfl ?_
              refine e_iconst F dL_isField_113 ?_
              refine e_callVV F u_X3_house (by rfl) (c_X3_house hC (by constructor <;> omega)) hC.1 rfl rfl w_ml_RL_38 dL_isField_114 (by rfl) (Nat.le_of_ble_eq_true rfl) (by decide) (by omega) (fun E w2 n2 h _ => by obtain ⟨⟨-, q⟩ | ⟨-, q⟩, -⟩ := h <;> first | exact q.elim | omega) (fun r_114 w_114 n_114 h_114 hn_114 => ?_)
              obtain ⟨-, rfl, en_114, hC, -⟩ := h_114
              rw [show hsV wh 0 D 2 = gr wh from rfl]
              refine e_i2l F dL_isField_117 (⟨by omega, by omega⟩) ?_
              refine e_lrem F dL_isField_118 (sp.2) (⟨by omega, by omega⟩) (by omega) ?_
              rw [Int.tmod_eq_emod_of_nonneg sp.1, ← show sl wh ((a + b) % pr wh) = sl wh a * sl wh b % gr wh from f5]
              refine e_l2i F dL_isField_119 ?_
              refine e_icmp_ne F 127 dL_isField_120 (by decide) (⟨by omega, by omega⟩) (⟨by omega, by omega⟩) (fun c_120 => ?_) (fun c_120 => ?_)
              · exfalso
                first | exact c_85 rfl | exact c_120 rfl
              · refine e_iconst F dL_isField_123 ?_
                refine e_goto F 128 dL_isField_124 (by decide) ?_
                refine e_zret F rfl (by omega) (by omega) ?_ dL_isField_128
                exact ⟨rfl, hC⟩
          · exfalso
            first | exact c_39 rfl | exact c_58 rfl | exact c_73 rfl | omega
        · refine e_aload_n F dL_isField_49 rfl ?_
          refine e_iload_n F dL_isField_50 rfl ?_
          refine e_iload F dL_isField_51 rfl ?_
          refine e_iconst F dL_isField_53 ?_
          refine e_callVV F u_X3_reckon (by rfl) (c_X3_reckon hC (by constructor <;> omega) (by constructor <;> omega) (by constructor <;> omega)) hC.1 rfl rfl w_ml_RL_115 dL_isField_54 (by rfl) (Nat.le_of_ble_eq_true rfl) (by decide) (by omega) (fun E w2 n2 h _ => by obtain ⟨⟨-, q⟩ | ⟨-, q⟩, -⟩ := h <;> first | exact q.elim | omega) (fun r_54 w_54 n_54 h_54 hn_54 => ?_)
          obtain ⟨-, rfl, en_54, hC, -⟩ := h_54
          rw [f_2 hwh c_46]
          refine e_iconst F dL_isField_57 ?_
          refine e_icmp_ne F 76 dL_isField_58 (by decide) (by decide) (by decide) (fun c_58 => ?_) (fun c_58 => ?_)
          · exfalso
            first | exact c_39 rfl | exact c_58 rfl | exact c_73 rfl | omega
          · refine e_aload_n F dL_isField_61 rfl ?_
            refine e_iload_n F dL_isField_62 rfl ?_
            refine e_iload F dL_isField_63 rfl ?_
            refine e_callVV F u_X3_power (by rfl) (c_X3_power hC (by constructor <;> omega) (by constructor <;> omega)) hC.1 rfl rfl w_ml_RL_118 dL_isField_65 (by rfl) (Nat.le_of_ble_eq_true rfl) (by decide) (by omega) (fun _ _ _ h _ => False.elim h) (fun r_65 w_65 n_65 h_65 hn_65 => ?_)
            obtain ⟨rfl, en_65, hC, -⟩ := h_65
            rw [f_3 hwh a]
            refine e_aload_n F dL_isField_68 rfl ?_
            refine e_iload_n F dL_isField_69 rfl ?_
            refine e_callVV F u_X3_rest (by rfl) (c_X3_rest hC (by constructor <;> omega)) hC.1 rfl rfl w_ml_RL_112 dL_isField_70 (by rfl) (Nat.le_of_ble_eq_true rfl) (by decide) (by omega) (fun _ _ _ h _ => False.elim h) (fun r_70 w_70 n_70 h_70 hn_70 => ?_)
            obtain ⟨rfl, en_70, hC, -⟩ := h_70
            refine e_icmp_eq F 78 dL_isField_73 (by decide) (⟨by omega, by omega⟩) (⟨by omega, by omega⟩) (fun c_73 => ?_) (fun c_73 => ?_)
            · refine e_aload_n F dL_isField_78 rfl ?_
              refine e_iload_n F dL_isField_79 rfl ?_
              refine e_iload_n F dL_isField_80 rfl ?_
              refine e_callVV F u_X3_weights (by rfl) (c_X3_weights hC (by constructor <;> omega) (by constructor <;> omega)) hC.1 rfl rfl w_ml_RL_121 dL_isField_81 (by rfl) (Nat.le_of_ble_eq_true rfl) (by decide) (by omega) (fun E w2 n2 h _ => by obtain ⟨⟨-, q⟩ | ⟨-, q⟩, -⟩ := h <;> first | exact q.elim | omega) (fun r_81 w_81 n_81 h_81 hn_81 => ?_)
              obtain ⟨-, rfl, en_81, hC, -⟩ := h_81
              rw [p_one hwh hs.1 hs.2]
              refine e_iconst F dL_isField_84 ?_
              refine e_icmp_ne F 127 dL_isField_85 (by decide) (by decide) (by decide) (fun c_85 => ?_) (fun c_85 => ?_)
              · exfalso
                first | exact c_85 rfl | exact c_120 rfl
              · refine e_aload_n F dL_isField_88 rfl ?_
                refine e_aload_n F dL_isField_89 rfl ?_
                refine e_iload_n F dL_isField_90 rfl ?_
                refine e_iload_n F dL_isField_91 rfl ?_
                refine e_iconst F dL_isField_92 ?_
                refine e_callVV F u_X3_reckon (by rfl) (c_X3_reckon hC (by constructor <;> omega) (by constructor <;> omega) (by constructor <;> omega)) hC.1 rfl rfl w_ml_RL_115 dL_isField_93 (by rfl) (Nat.le_of_ble_eq_true rfl) (by decide) (by omega) (fun E w2 n2 h _ => by obtain ⟨⟨-, q⟩ | ⟨-, q⟩, -⟩ := h <;> first | exact q.elim | omega) (fun r_93 w_93 n_93 h_93 hn_93 => ?_)
                obtain ⟨-, rfl, en_93, hC, -⟩ := h_93
                rw [show rcV wh a b 0 = (a + b) % pr wh from rfl]
                refine e_callVV F u_X3_sealOf (by rfl) (c_X3_sealOf hC (by constructor <;> omega)) hC.1 rfl rfl w_ml_RL_124 dL_isField_96 (by rfl) (Nat.le_of_ble_eq_true rfl) (by decide) (by omega) (fun _ _ _ h _ => False.elim h) (fun r_96 w_96 n_96 h_96 hn_96 => ?_)
                obtain ⟨rfl, en_96, hC, -⟩ := h_96
                refine e_aload_n F dL_isField_99 rfl ?_
                refine e_iload_n F dL_isField_100 rfl ?_
                refine e_callVV F u_X3_sealOf (by rfl) (c_X3_sealOf hC (by constructor <;> omega)) hC.1 rfl rfl w_ml_RL_124 dL_isField_101 (by rfl) (Nat.le_of_ble_eq_true rfl) (by decide) (by omega) (fun _ _ _ h _ => False.elim h) (fun r_101 w_101 n_101 h_101 hn_101 => ?_)
                obtain ⟨rfl, en_101, hC, -⟩ := h_101
                refine e_i2l F dL_isField_104 (⟨by omega, by omega⟩) ?_
                refine e_aload_n F dL_isField_105 rfl ?_
                refine e_iload_n F dL_isField_106 rfl ?_
                refine e_callVV F u_X3_sealOf (by rfl) (c_X3_sealOf hC (by constructor <;> omega)) hC.1 rfl rfl w_ml_RL_124 dL_isField_107 (by rfl) (Nat.le_of_ble_eq_true rfl) (by decide) (by omega) (fun _ _ _ h _ => False.elim h) (fun r_107 w_107 n_107 h_107 hn_107 => ?_)
                obtain ⟨rfl, en_107, hC, -⟩ := h_107
                refine e_i2l F dL_isField_110 (⟨by omega, by omega⟩) ?_
                refine e_lmul F dL_isField_111 ?_
                refine e_aload_n F dL_isField_112 rfl ?_
                refine e_iconst F dL_isField_113 ?_
                refine e_callVV F u_X3_house (by rfl) (c_X3_house hC (by constructor <;> omega)) hC.1 rfl rfl w_ml_RL_38 dL_isField_114 (by rfl) (Nat.le_of_ble_eq_true rfl) (by decide) (by omega) (fun E w2 n2 h _ => by obtain ⟨⟨-, q⟩ | ⟨-, q⟩, -⟩ := h <;> first | exact q.elim | omega) (fun r_114 w_114 n_114 h_114 hn_114 => ?_)
                obtain ⟨-, rfl, en_114, hC, -⟩ := h_114
                rw [show hsV wh 0 D 2 = gr wh from rfl]
                refine e_i2l F dL_isField_117 (⟨by omega, by omega⟩) ?_
                refine e_lrem F dL_isField_118 (sp.2) (⟨by omega, by omega⟩) (by omega) ?_
                rw [Int.tmod_eq_emod_of_nonneg sp.1, ← show sl wh ((a + b) % pr wh) = sl wh a * sl wh b % gr wh from f5]
                refine e_l2i F dL_isField_119 ?_
                refine e_icmp_ne F 127 dL_isField_120 (by decide) (⟨by omega, by omega⟩) (⟨by omega, by omega⟩) (fun c_120 => ?_) (fun c_120 => ?_)
                · exfalso
                  first | exact c_85 rfl | exact c_120 rfl
                · refine e_iconst F dL_isField_123 ?_
                  refine e_goto F 128 dL_isField_124 (by decide) ?_
                  refine e_zret F rfl (by omega) (by omega) ?_ dL_isField_128
                  exact ⟨rfl, hC⟩
            · exfalso
              first | exact c_39 rfl | exact c_58 rfl | exact c_73 rfl | omega
    · refine e_iconst F dL_isField_34 ?_
      refine e_goto F 39 dL_isField_35 (by decide) ?_
      refine e_icmp_ne F 76 dL_isField_39 (by decide) (by decide) (by decide) (fun c_39 => ?_) (fun c_39 => ?_)
      · exfalso
        first | exact c_39 rfl | exact c_58 rfl | exact c_73 rfl | omega
      · refine e_iload F dL_isField_42 rfl ?_
        refine e_bipush F dL_isField_44 (by decide) ?_
        refine e_icmp_eq F 61 dL_isField_46 (by decide) (⟨by omega, by omega⟩) (⟨by omega, by omega⟩) (fun c_46 => ?_) (fun c_46 => ?_)
        · refine e_aload_n F dL_isField_61 rfl ?_
          refine e_iload_n F dL_isField_62 rfl ?_
          refine e_iload F dL_isField_63 rfl ?_
          refine e_callVV F u_X3_power (by rfl) (c_X3_power hC (by constructor <;> omega) (by constructor <;> omega)) hC.1 rfl rfl w_ml_RL_118 dL_isField_65 (by rfl) (Nat.le_of_ble_eq_true rfl) (by decide) (by omega) (fun _ _ _ h _ => False.elim h) (fun r_65 w_65 n_65 h_65 hn_65 => ?_)
          obtain ⟨rfl, en_65, hC, -⟩ := h_65
          rw [f_3 hwh a]
          refine e_aload_n F dL_isField_68 rfl ?_
          refine e_iload_n F dL_isField_69 rfl ?_
          refine e_callVV F u_X3_rest (by rfl) (c_X3_rest hC (by constructor <;> omega)) hC.1 rfl rfl w_ml_RL_112 dL_isField_70 (by rfl) (Nat.le_of_ble_eq_true rfl) (by decide) (by omega) (fun _ _ _ h _ => False.elim h) (fun r_70 w_70 n_70 h_70 hn_70 => ?_)
          obtain ⟨rfl, en_70, hC, -⟩ := h_70
          refine e_icmp_eq F 78 dL_isField_73 (by decide) (⟨by omega, by omega⟩) (⟨by omega, by omega⟩) (fun c_73 => ?_) (fun c_73 => ?_)
          · refine e_aload_n F dL_isField_78 rfl ?_
            refine e_iload_n F dL_isField_79 rfl ?_
            refine e_iload_n F dL_isField_80 rfl ?_
            refine e_callVV F u_X3_weights (by rfl) (c_X3_weights hC (by constructor <;> omega) (by constructor <;> omega)) hC.1 rfl rfl w_ml_RL_121 dL_isField_81 (by rfl) (Nat.le_of_ble_eq_true rfl) (by decide) (by omega) (fun E w2 n2 h _ => by obtain ⟨⟨-, q⟩ | ⟨-, q⟩, -⟩ := h <;> first | exact q.elim | omega) (fun r_81 w_81 n_81 h_81 hn_81 => ?_)
            obtain ⟨-, rfl, en_81, hC, -⟩ := h_81
            rw [p_one hwh hs.1 hs.2]
            refine e_iconst F dL_isField_84 ?_
            refine e_icmp_ne F 127 dL_isField_85 (by decide) (by decide) (by decide) (fun c_85 => ?_) (fun c_85 => ?_)
            · exfalso
              first | exact c_85 rfl | exact c_120 rfl
            · refine e_aload_n F dL_isField_88 rfl ?_
              refine e_aload_n F dL_isField_89 rfl ?_
              refine e_iload_n F dL_isField_90 rfl ?_
              refine e_iload_n F dL_isField_91 rfl ?_
              refine e_iconst F dL_isField_92 ?_
              refine e_callVV F u_X3_reckon (by rfl) (c_X3_reckon hC (by constructor <;> omega) (by constructor <;> omega) (by constructor <;> omega)) hC.1 rfl rfl w_ml_RL_115 dL_isField_93 (by rfl) (Nat.le_of_ble_eq_true rfl) (by decide) (by omega) (fun E w2 n2 h _ => by obtain ⟨⟨-, q⟩ | ⟨-, q⟩, -⟩ := h <;> first | exact q.elim | omega) (fun r_93 w_93 n_93 h_93 hn_93 => ?_)
              obtain ⟨-, rfl, en_93, hC, -⟩ := h_93
              rw [show rcV wh a b 0 = (a + b) % pr wh from rfl]
              refine e_callVV F u_X3_sealOf (by rfl) (c_X3_sealOf hC (by constructor <;> omega)) hC.1 rfl rfl w_ml_RL_124 dL_isField_96 (by rfl) (Nat.le_of_ble_eq_true rfl) (by decide) (by omega) (fun _ _ _ h _ => False.elim h) (fun r_96 w_96 n_96 h_96 hn_96 => ?_)
              obtain ⟨rfl, en_96, hC, -⟩ := h_96
              refine e_aload_n F dL_isField_99 rfl ?_
              refine e_iload_n F dL_isField_100 rfl ?_
              refine e_callVV F u_X3_sealOf (by rfl) (c_X3_sealOf hC (by constructor <;> omega)) hC.1 rfl rfl w_ml_RL_124 dL_isField_101 (by rfl) (Nat.le_of_ble_eq_true rfl) (by decide) (by omega) (fun _ _ _ h _ => False.elim h) (fun r_101 w_101 n_101 h_101 hn_101 => ?_)
              obtain ⟨rfl, en_101, hC, -⟩ := h_101
              refine e_i2l F dL_isField_104 (⟨by omega, by omega⟩) ?_
              refine e_aload_n F dL_isField_105 rfl ?_
              refine e_iload_n F dL_isField_106 rfl ?_
              refine e_callVV F u_X3_sealOf (by rfl) (c_X3_sealOf hC (by constructor <;> omega)) hC.1 rfl rfl w_ml_RL_124 dL_isField_107 (by rfl) (Nat.le_of_ble_eq_true rfl) (by decide) (by omega) (fun _ _ _ h _ => False.elim h) (fun r_107 w_107 n_107 h_107 hn_107 => ?_)
              obtain ⟨rfl, en_107, hC, -⟩ := h_107
              refine e_i2l F dL_isField_110 (⟨by omega, by omega⟩) ?_
              refine e_lmul F dL_isField_111 ?_
              refine e_aload_n F dL_isField_112 rfl ?_
              refine e_iconst F dL_isField_113 ?_
              refine e_callVV F u_X3_house (by rfl) (c_X3_house hC (by constructor <;> omega)) hC.1 rfl rfl w_ml_RL_38 dL_isField_114 (by rfl) (Nat.le_of_ble_eq_true rfl) (by decide) (by omega) (fun E w2 n2 h _ => by obtain ⟨⟨-, q⟩ | ⟨-, q⟩, -⟩ := h <;> first | exact q.elim | omega) (fun r_114 w_114 n_114 h_114 hn_114 => ?_)
              obtain ⟨-, rfl, en_114, hC, -⟩ := h_114
              rw [show hsV wh 0 D 2 = gr wh from rfl]
              refine e_i2l F dL_isField_117 (⟨by omega, by omega⟩) ?_
              refine e_lrem F dL_isField_118 (sp.2) (⟨by omega, by omega⟩) (by omega) ?_
              rw [Int.tmod_eq_emod_of_nonneg sp.1, ← show sl wh ((a + b) % pr wh) = sl wh a * sl wh b % gr wh from f5]
              refine e_l2i F dL_isField_119 ?_
              refine e_icmp_ne F 127 dL_isField_120 (by decide) (⟨by omega, by omega⟩) (⟨by omega, by omega⟩) (fun c_120 => ?_) (fun c_120 => ?_)
              · exfalso
                first | exact c_85 rfl | exact c_120 rfl
              · refine e_iconst F dL_isField_123 ?_
                refine e_goto F 128 dL_isField_124 (by decide) ?_
                refine e_zret F rfl (by omega) (by omega) ?_ dL_isField_128
                exact ⟨rfl, hC⟩
          · exfalso
            first | exact c_39 rfl | exact c_58 rfl | exact c_73 rfl | omega
        · refine e_aload_n F dL_isField_49 rfl ?_
          refine e_iload_n F dL_isField_50 rfl ?_
          refine e_iload F dL_isField_51 rfl ?_
          refine e_iconst F dL_isField_53 ?_
          refine e_callVV F u_X3_reckon (by rfl) (c_X3_reckon hC (by constructor <;> omega) (by constructor <;> omega) (by constructor <;> omega)) hC.1 rfl rfl w_ml_RL_115 dL_isField_54 (by rfl) (Nat.le_of_ble_eq_true rfl) (by decide) (by omega) (fun E w2 n2 h _ => by obtain ⟨⟨-, q⟩ | ⟨-, q⟩, -⟩ := h <;> first | exact q.elim | omega) (fun r_54 w_54 n_54 h_54 hn_54 => ?_)
          obtain ⟨-, rfl, en_54, hC, -⟩ := h_54
          rw [f_2 hwh c_46]
          refine e_iconst F dL_isField_57 ?_
          refine e_icmp_ne F 76 dL_isField_58 (by decide) (by decide) (by decide) (fun c_58 => ?_) (fun c_58 => ?_)
          · exfalso
            first | exact c_39 rfl | exact c_58 rfl | exact c_73 rfl | omega
          · refine e_aload_n F dL_isField_61 rfl ?_
            refine e_iload_n F dL_isField_62 rfl ?_
            refine e_iload F dL_isField_63 rfl ?_
            refine e_callVV F u_X3_power (by rfl) (c_X3_power hC (by constructor <;> omega) (by constructor <;> omega)) hC.1 rfl rfl w_ml_RL_118 dL_isField_65 (by rfl) (Nat.le_of_ble_eq_true rfl) (by decide) (by omega) (fun _ _ _ h _ => False.elim h) (fun r_65 w_65 n_65 h_65 hn_65 => ?_)
            obtain ⟨rfl, en_65, hC, -⟩ := h_65
            rw [f_3 hwh a]
            refine e_aload_n F dL_isField_68 rfl ?_
            refine e_iload_n F dL_isField_69 rfl ?_
            refine e_callVV F u_X3_rest (by rfl) (c_X3_rest hC (by constructor <;> omega)) hC.1 rfl rfl w_ml_RL_112 dL_isField_70 (by rfl) (Nat.le_of_ble_eq_true rfl) (by decide) (by omega) (fun _ _ _ h _ => False.elim h) (fun r_70 w_70 n_70 h_70 hn_70 => ?_)
            obtain ⟨rfl, en_70, hC, -⟩ := h_70
            refine e_icmp_eq F 78 dL_isField_73 (by decide) (⟨by omega, by omega⟩) (⟨by omega, by omega⟩) (fun c_73 => ?_) (fun c_73 => ?_)
            · refine e_aload_n F dL_isField_78 rfl ?_
              refine e_iload_n F dL_isField_79 rfl ?_
              refine e_iload_n F dL_isField_80 rfl ?_
              refine e_callVV F u_X3_weights (by rfl) (c_X3_weights hC (by constructor <;> omega) (by constructor <;> omega)) hC.1 rfl rfl w_ml_RL_121 dL_isField_81 (by rfl) (Nat.le_of_ble_eq_true rfl) (by decide) (by omega) (fun E w2 n2 h _ => by obtain ⟨⟨-, q⟩ | ⟨-, q⟩, -⟩ := h <;> first | exact q.elim | omega) (fun r_81 w_81 n_81 h_81 hn_81 => ?_)
              obtain ⟨-, rfl, en_81, hC, -⟩ := h_81
              rw [p_one hwh hs.1 hs.2]
              refine e_iconst F dL_isField_84 ?_
              refine e_icmp_ne F 127 dL_isField_85 (by decide) (by decide) (by decide) (fun c_85 => ?_) (fun c_85 => ?_)
              · exfalso
                first | exact c_85 rfl | exact c_120 rfl
              · refine e_aload_n F dL_isField_88 rfl ?_
                refine e_aload_n F dL_isField_89 rfl ?_
                refine e_iload_n F dL_isField_90 rfl ?_
                refine e_iload_n F dL_isField_91 rfl ?_
                refine e_iconst F dL_isField_92 ?_
                refine e_callVV F u_X3_reckon (by rfl) (c_X3_reckon hC (by constructor <;> omega) (by constructor <;> omega) (by constructor <;> omega)) hC.1 rfl rfl w_ml_RL_115 dL_isField_93 (by rfl) (Nat.le_of_ble_eq_true rfl) (by decide) (by omega) (fun E w2 n2 h _ => by obtain ⟨⟨-, q⟩ | ⟨-, q⟩, -⟩ := h <;> first | exact q.elim | omega) (fun r_93 w_93 n_93 h_93 hn_93 => ?_)
                obtain ⟨-, rfl, en_93, hC, -⟩ := h_93
                rw [show rcV wh a b 0 = (a + b) % pr wh from rfl]
                refine e_callVV F u_X3_sealOf (by rfl) (c_X3_sealOf hC (by constructor <;> omega)) hC.1 rfl rfl w_ml_RL_124 dL_isField_96 (by rfl) (Nat.le_of_ble_eq_true rfl) (by decide) (by omega) (fun _ _ _ h _ => False.elim h) (fun r_96 w_96 n_96 h_96 hn_96 => ?_)
                obtain ⟨rfl, en_96, hC, -⟩ := h_96
                refine e_aload_n F dL_isField_99 rfl ?_
                refine e_iload_n F dL_isField_100 rfl ?_
                refine e_callVV F u_X3_sealOf (by rfl) (c_X3_sealOf hC (by constructor <;> omega)) hC.1 rfl rfl w_ml_RL_124 dL_isField_101 (by rfl) (Nat.le_of_ble_eq_true rfl) (by decide) (by omega) (fun _ _ _ h _ => False.elim h) (fun r_101 w_101 n_101 h_101 hn_101 => ?_)
                obtain ⟨rfl, en_101, hC, -⟩ := h_101
                refine e_i2l F dL_isField_104 (⟨by omega, by omega⟩) ?_
                refine e_aload_n F dL_isField_105 rfl ?_
                refine e_iload_n F dL_isField_106 rfl ?_
                refine e_callVV F u_X3_sealOf (by rfl) (c_X3_sealOf hC (by constructor <;> omega)) hC.1 rfl rfl w_ml_RL_124 dL_isField_107 (by rfl) (Nat.le_of_ble_eq_true rfl) (by decide) (by omega) (fun _ _ _ h _ => False.elim h) (fun r_107 w_107 n_107 h_107 hn_107 => ?_)
                obtain ⟨rfl, en_107, hC, -⟩ := h_107
                refine e_i2l F dL_isField_110 (⟨by omega, by omega⟩) ?_
                refine e_lmul F dL_isField_111 ?_
                refine e_aload_n F dL_isField_112 rfl ?_
                refine e_iconst F dL_isField_113 ?_
                refine e_callVV F u_X3_house (by rfl) (c_X3_house hC (by constructor <;> omega)) hC.1 rfl rfl w_ml_RL_38 dL_isField_114 (by rfl) (Nat.le_of_ble_eq_true rfl) (by decide) (by omega) (fun E w2 n2 h _ => by obtain ⟨⟨-, q⟩ | ⟨-, q⟩, -⟩ := h <;> first | exact q.elim | omega) (fun r_114 w_114 n_114 h_114 hn_114 => ?_)
                obtain ⟨-, rfl, en_114, hC, -⟩ := h_114
                rw [show hsV wh 0 D 2 = gr wh from rfl]
                refine e_i2l F dL_isField_117 (⟨by omega, by omega⟩) ?_
                refine e_lrem F dL_isField_118 (sp.2) (⟨by omega, by omega⟩) (by omega) ?_
                rw [Int.tmod_eq_emod_of_nonneg sp.1, ← show sl wh ((a + b) % pr wh) = sl wh a * sl wh b % gr wh from f5]
                refine e_l2i F dL_isField_119 ?_
                refine e_icmp_ne F 127 dL_isField_120 (by decide) (⟨by omega, by omega⟩) (⟨by omega, by omega⟩) (fun c_120 => ?_) (fun c_120 => ?_)
                · exfalso
                  first | exact c_85 rfl | exact c_120 rfl
                · refine e_iconst F dL_isField_123 ?_
                  refine e_goto F 128 dL_isField_124 (by decide) ?_
                  refine e_zret F rfl (by omega) (by omega) ?_ dL_isField_128
                  exact ⟨rfl, hC⟩
            · exfalso
              first | exact c_39 rfl | exact c_58 rfl | exact c_73 rfl | omega
