set_option maxHeartbeats 4000000 in
set_option maxRecDepth 100000 in
theorem c_L_isFound {K : e_K} {l : Launch} {w : e_W} {n : Nat} {x wh : Nat} {D : Nat → SD} (hC : CW w x wh 0 D) (hQ : ∃ R, GG wh D R) {i h b : Int} (hi : 0 ≤ i ∧ i < 5) (hh : 1 ≤ h ∧ h ≤ ho wh) (hb : e_r b) : e_Met K l yL_isFound (Cond.code yL_isFound cL_isFound 6 (Option.some .boolean) :: e_TB) (9) (80) [.ref x, .int (eI i), .int (eI h), .int (eI b)] w n (fun r w' n' => r = some (.int (eI 1)) ∧ ∃ D2, QW w' x wh 0 D2 ∧ O5 D D2) (e_px0) := by
  refine e_ofV rfl (Nat.le_of_ble_eq_true rfl) ?_
  intro P9 E9 S9 M9 A9 B9 T9 C9 F hnm
  have hwh := hC.2.2.1
  have hp := pr_rg wh hwh
  have hg9 := gr_rg wh hwh
  have ho9 := ho_rg wh hwh
  have hf9 := (fl_rg9 hwh).1
  have hd6 : i.toNat < 6 := by omega
  have hd5 : i.toNat ≠ 5 := by omega
  obtain ⟨R, G⟩ := hQ
  have hQ : ∃ R, GG wh D R := ⟨R, G⟩
  have g := G.2.2 i.toNat hd6
  have hA : -1 ≤ (D i.toNat).A h ∧ (D i.toNat).A h < pr wh := by
    rw [g.1.2.1]
    rcases g.2.2.2.2.1 h with q | q <;> omega
  have d2 := g.2.1
  have st := st7_rg (D i.toNat).A
  have bs9 := bc_rg (v := st7 (D i.toNat).A) st.1 st.2
  refine e_aload_n F dL_isFound_0 rfl ?_
  refine e_iload_n F dL_isFound_1 rfl ?_
  refine e_iload_n F dL_isFound_2 rfl ?_
  refine e_callVV F u_X3_share (by rfl) (c_X3_share hC (by constructor <;> omega) (by constructor <;> omega)) hC.1 rfl rfl w_ml_RL_168 dL_isFound_3 (by rfl) (Nat.le_of_ble_eq_true rfl) (by decide) (by omega) (fun E w2 n2 h _ => by obtain ⟨⟨-, q⟩ | ⟨-, q⟩, -⟩ := h <;> first | exact q.elim | omega) (fun r_3 w_3 n_3 h_3 hn_3 => ?_)
  obtain ⟨-, rfl, en_3, hC, -⟩ := h_3
  refine e_istore F dL_isFound_6 (by decide) ?_
  refine e_iload F dL_isFound_8 rfl ?_
  refine e_if_lt F 23 dL_isFound_10 (by decide) (⟨by omega, by omega⟩) (fun c_10 => ?_) (fun c_10 => ?_)
  · refine e_iconst F dL_isFound_23 ?_
    refine e_zret F rfl (by omega) (by omega) ?_ dL_isFound_24
    exact ⟨rfl, _, ⟨hC, hQ⟩, O5.rf⟩
  · refine e_aload_n F dL_isFound_13 rfl ?_
    refine e_iload_n F dL_isFound_14 rfl ?_
    refine e_iconst F dL_isFound_15 ?_
    refine e_callVV F u_X3_ofDeal (by rfl) (c_X3_ofDeal hC (by constructor <;> omega) (by constructor <;> omega)) hC.1 rfl rfl w_ml_RL_127 dL_isFound_16 (by rfl) (Nat.le_of_ble_eq_true rfl) (by decide) (by omega) (fun E w2 n2 h _ => by obtain ⟨⟨-, q⟩ | ⟨-, q⟩, -⟩ := h <;> first | exact q.elim | omega) (fun r_16 w_16 n_16 h_16 hn_16 => ?_)
    obtain ⟨-, rfl, en_16, hC, -⟩ := h_16
    refine e_iconst F dL_isFound_19 ?_
    refine e_icmp_eq F 25 dL_isFound_20 (by decide) (od_e hQ hd6 _) (by decide) (fun c_20 => ?_) (fun c_20 => ?_)
    · refine e_aload_n F dL_isFound_25 rfl ?_
      refine e_iload_n F dL_isFound_26 rfl ?_
      refine e_iconst F dL_isFound_27 ?_
      refine e_callVV F u_X3_ofDeal (by rfl) (c_X3_ofDeal hC (by constructor <;> omega) (by constructor <;> omega)) hC.1 rfl rfl w_ml_RL_127 dL_isFound_28 (by rfl) (Nat.le_of_ble_eq_true rfl) (by decide) (by omega) (fun E w2 n2 h _ => by obtain ⟨⟨-, q⟩ | ⟨-, q⟩, -⟩ := h <;> first | exact q.elim | omega) (fun r_28 w_28 n_28 h_28 hn_28 => ?_)
      obtain ⟨-, rfl, en_28, hC, -⟩ := h_28
      rw [show odV wh (D i.toNat) 1 = bc (st7 (D i.toNat).A) from rfl]
      refine e_aload_n F dL_isFound_31 rfl ?_
      refine e_iload_n F dL_isFound_32 rfl ?_
      refine e_iconst F dL_isFound_33 ?_
      refine e_callVV F u_X3_ofDeal (by rfl) (c_X3_ofDeal hC (by constructor <;> omega) (by constructor <;> omega)) hC.1 rfl rfl w_ml_RL_127 dL_isFound_34 (by rfl) (Nat.le_of_ble_eq_true rfl) (by decide) (by omega) (fun E w2 n2 h _ => by obtain ⟨⟨-, q⟩ | ⟨-, q⟩, -⟩ := h <;> first | exact q.elim | omega) (fun r_34 w_34 n_34 h_34 hn_34 => ?_)
      obtain ⟨-, rfl, en_34, hC, -⟩ := h_34
      have h41 : odV wh (D i.toNat) 4 = 1 := c_20
      have hf := (odV4.mp h41).1
      rw [(od0 g).2 hf]
      refine e_isub F dL_isFound_37 ?_
      refine e_istore F dL_isFound_38 (by decide) ?_
      refine e_aload_n F dL_isFound_40 rfl ?_
      refine e_iload_n F dL_isFound_41 rfl ?_
      refine e_iconst F dL_isFound_42 ?_
      refine e_callVV F u_X3_copy (by rfl) (c_X3_copy hC (by constructor <;> omega) (by constructor <;> omega)) hC.1 rfl rfl w_ml_RL_102 dL_isFound_43 (by rfl) (Nat.le_of_ble_eq_true rfl) (by decide) (by omega) (fun E w2 n2 h _ => by obtain ⟨⟨-, q⟩ | ⟨-, q⟩, -⟩ := h <;> first | exact q.elim | omega) (fun r_43 w_43 n_43 h_43 hn_43 => ?_)
      obtain ⟨-, rfl, en_43, hC, -⟩ := h_43
      obtain ⟨D1, ⟨hC, hQ1⟩, hO1, e1⟩ := n_copy hQ hd6 hC
      refine e_pop F dL_isFound_46 rfl ?_
      refine e_aload_n F dL_isFound_47 rfl ?_
      refine e_iconst F dL_isFound_48 ?_
      refine e_iload_n F dL_isFound_49 rfl ?_
      refine e_iload F dL_isFound_50 rfl ?_
      refine e_iconst F dL_isFound_52 ?_
      refine e_iadd F dL_isFound_53 ?_
      refine e_iload_n F dL_isFound_54 rfl ?_
      refine e_aload_n F dL_isFound_55 rfl ?_
      refine e_iconst F dL_isFound_56 ?_
      refine e_callVV F u_X3_house (by rfl) (c_X3_house hC (by constructor <;> omega)) hC.1 rfl rfl w_ml_RL_38 dL_isFound_57 (by rfl) (Nat.le_of_ble_eq_true rfl) (by decide) (by omega) (fun E w2 n2 h _ => by obtain ⟨⟨-, q⟩ | ⟨-, q⟩, -⟩ := h <;> first | exact q.elim | omega) (fun r_57 w_57 n_57 h_57 hn_57 => ?_)
      obtain ⟨-, rfl, en_57, hC, -⟩ := h_57
      rw [show hsV wh 0 D1 1 = pr wh from rfl]
      refine e_iconst F dL_isFound_60 ?_
      refine e_isub F dL_isFound_61 ?_
      refine e_callSS F u_L_below (by rfl) (c_L_below (v := b) (n9 := pr wh - 1) (by constructor <;> omega) (by omega) (by omega)) w_ml_RL_18 dL_isFound_62 (by rfl) (Nat.le_of_ble_eq_true rfl) (by decide) (by omega) (fun _ _ _ h _ => False.elim h) (fun r_62 w_62 n_62 h_62 hn_62 => ?_)
      obtain ⟨⟨z62, rfl, hz62⟩, ew_62, en_62⟩ := h_62
      rw [ew_62, en_62]
      refine e_iadd F dL_isFound_65 ?_
      refine e_callVV F u_X3_give (by rfl) (c_X3_give hC (by constructor <;> omega) (by constructor <;> omega) (by constructor <;> omega)) hC.1 rfl rfl w_ml_RL_93 dL_isFound_66 (by rfl) (Nat.le_of_ble_eq_true rfl) (by decide) (by omega) (fun E w2 n2 h _ => by obtain ⟨⟨-, q⟩ | ⟨-, q⟩, -⟩ := h <;> first | exact q.elim | omega) (fun r_66 w_66 n_66 h_66 hn_66 => ?_)
      obtain ⟨-, rfl, en_66, hC, -⟩ := h_66
      have hne : ((D i.toNat).A h + 1 + z62) % pr wh ≠ (D1 5).A h := by
        rw [e1]
        intro q
        have q1 : (((D i.toNat).A h + 1 + z62) - (D i.toNat).A h) % pr wh = 0 := Int.emod_eq_emod_iff_emod_sub_eq_zero.mp (q.trans (Int.emod_eq_of_lt (by omega) hA.2).symm)
        rw [show ((D i.toNat).A h + 1 + z62) - (D i.toNat).A h = z62 + 1 by omega, Int.emod_eq_of_lt (by omega) (by omega)] at q1
        omega
      obtain ⟨D2, ⟨hC, hQ2⟩, hO2, e2, h42, h32⟩ := n_give hQ1 hC hh (by rw [e1]; exact h41) (by rw [e1]; omega) hne
      rw [e1] at e2 h42 h32
      refine e_pop F dL_isFound_69 rfl ?_
      refine e_aload_n F dL_isFound_70 rfl ?_
      refine e_iconst F dL_isFound_71 ?_
      refine e_iconst F dL_isFound_72 ?_
      refine e_callVV F u_X3_ofDeal (by rfl) (c_X3_ofDeal hC (by constructor <;> omega) (by constructor <;> omega)) hC.1 rfl rfl w_ml_RL_127 dL_isFound_73 (by rfl) (Nat.le_of_ble_eq_true rfl) (by decide) (by omega) (fun E w2 n2 h _ => by obtain ⟨⟨-, q⟩ | ⟨-, q⟩, -⟩ := h <;> first | exact q.elim | omega) (fun r_73 w_73 n_73 h_73 hn_73 => ?_)
      obtain ⟨-, rfl, en_73, hC, -⟩ := h_73
      refine e_iload F dL_isFound_76 rfl ?_
      refine e_iconst F dL_isFound_78 ?_
      refine e_icmp_le F 86 dL_isFound_79 (by decide) (⟨by omega, by omega⟩) (⟨by omega, by omega⟩) (fun c_79 => ?_) (fun c_79 => ?_)
      · refine e_iconst F dL_isFound_86 ?_
        refine e_icmp_eq F 92 dL_isFound_87 (by decide) (od_e5 hQ2 _) (by decide) (fun c_87 => ?_) (fun c_87 => ?_)
        · refine e_iload F dL_isFound_92 rfl ?_
          refine e_iconst F dL_isFound_94 ?_
          refine e_icmp_lt F 138 dL_isFound_95 (by decide) (⟨by omega, by omega⟩) (⟨by omega, by omega⟩) (fun c_95 => ?_) (fun c_95 => ?_)
          · refine e_iconst F dL_isFound_138 ?_
            refine e_goto F 143 dL_isFound_139 (by decide) ?_
            refine e_zret F rfl (by omega) (by omega) ?_ dL_isFound_143
            first | exact ⟨rfl, _, ⟨hC, hQ3⟩, (hO1.tr hO2).tr hO3⟩ | exact ⟨rfl, _, ⟨hC, hQ2⟩, hO1.tr hO2⟩
          · refine e_aload_n F dL_isFound_98 rfl ?_
            refine e_iconst F dL_isFound_99 ?_
            refine e_callVV F u_X3_suspects (by rfl) (c_X3_suspects hC (by constructor <;> omega)) hC.1 rfl rfl w_ml_RL_171 dL_isFound_100 (by rfl) (Nat.le_of_ble_eq_true rfl) (by decide) (by omega) (fun E w2 n2 h _ => by obtain ⟨⟨-, q⟩ | ⟨-, q⟩, -⟩ := h <;> first | exact q.elim | omega) (fun r_100 w_100 n_100 h_100 hn_100 => ?_)
            obtain ⟨-, rfl, en_100, hC, -⟩ := h_100
            have k9 := h32 (by omega)
            rw [show (if (D2 (5 : Int).toNat).fl = 0 then -9 else ssK wh (D2 (5 : Int).toNat).A (D2 (5 : Int).toNat).fl (D2 (5 : Int).toNat).dg (ho wh).toNat) = 2 ^ (h - 1).toNat from (if_neg (by show ¬ (D2 5).fl = 0; rw [e2]; show ¬ (D i.toNat).fl = 0; omega)).trans k9.1]
            refine e_iconst F dL_isFound_103 ?_
            refine e_iload_n F dL_isFound_104 rfl ?_
            refine e_iconst F dL_isFound_105 ?_
            refine e_isub F dL_isFound_106 ?_
            refine e_ishl F dL_isFound_107 (by have := eI_shl1 (h - 1).toNat (by omega); rwa [Int.toNat_of_nonneg (by omega)] at this) ?_
            refine e_icmp_ne F 142 dL_isFound_108 (by decide) (by have := p2_7 (k := (h - 1).toNat) (by omega); have h0 : (0 : Int) < 2 ^ (h - 1).toNat := Int.pow_pos (by decide); constructor <;> omega) (by have := p2_7 (k := (h - 1).toNat) (by omega); have h0 : (0 : Int) < 2 ^ (h - 1).toNat := Int.pow_pos (by decide); constructor <;> omega) (fun c_108 => ?_) (fun c_108 => ?_)
            · exact absurd rfl c_108
            · refine e_aload_n F dL_isFound_111 rfl ?_
              refine e_iconst F dL_isFound_112 ?_
              refine e_callVV F u_X3_wrong (by rfl) (c_X3_wrong hC (by constructor <;> omega)) hC.1 rfl rfl w_ml_RL_174 dL_isFound_113 (by rfl) (Nat.le_of_ble_eq_true rfl) (by decide) (by omega) (fun E w2 n2 h _ => by obtain ⟨⟨-, q⟩ | ⟨-, q⟩, -⟩ := h <;> first | exact q.elim | omega) (fun r_113 w_113 n_113 h_113 hn_113 => ?_)
              obtain ⟨-, rfl, en_113, hC, -⟩ := h_113
              rw [show wrf wh (D2 (5 : Int).toNat).A (D2 (5 : Int).toNat).fl (D2 (5 : Int).toNat).dg = h from k9.2.1]
              refine e_iload_n F dL_isFound_116 rfl ?_
              refine e_icmp_ne F 142 dL_isFound_117 (by decide) (⟨by omega, by omega⟩) (⟨by omega, by omega⟩) (fun c_117 => ?_) (fun c_117 => ?_)
              · exact absurd rfl c_117
              · refine e_aload_n F dL_isFound_120 rfl ?_
                refine e_iconst F dL_isFound_121 ?_
                refine e_callVV F u_X3_mend (by rfl) (c_X3_mend hC (by constructor <;> omega)) hC.1 rfl rfl w_ml_RL_99 dL_isFound_122 (by rfl) (Nat.le_of_ble_eq_true rfl) (by decide) (by omega) (fun E w2 n2 h _ => by obtain ⟨⟨-, q⟩ | ⟨-, q⟩, -⟩ := h <;> first | exact q.elim | omega) (fun r_122 w_122 n_122 h_122 hn_122 => ?_)
                obtain ⟨-, rfl, en_122, hC, -⟩ := h_122
                obtain ⟨e122, D3, ⟨hC, hQ3⟩, hO3, e3⟩ := n_mend hQ2 hC e2 hf hh.1 k9.2.1 k9.2.2
                rw [e122]
                have eD3 : D3 i.toNat = D i.toNat := by rw [hO3 _ hd5, hO2 _ hd5, hO1 _ hd5]
                refine e_iload_n F dL_isFound_125 rfl ?_
                refine e_icmp_ne F 142 dL_isFound_126 (by decide) (⟨by omega, by omega⟩) (⟨by omega, by omega⟩) (fun c_126 => ?_) (fun c_126 => ?_)
                · exact absurd rfl c_126
                · refine e_aload_n F dL_isFound_129 rfl ?_
                  refine e_iload_n F dL_isFound_130 rfl ?_
                  refine e_iconst F dL_isFound_131 ?_
                  refine e_callVV F u_X3_isSame (by rfl) (c_X3_isSame hC (by constructor <;> omega) (by constructor <;> omega)) hC.1 rfl rfl w_ml_RL_139 dL_isFound_132 (by rfl) (Nat.le_of_ble_eq_true rfl) (by decide) (by omega) (fun E w2 n2 h _ => by obtain ⟨⟨-, q⟩ | ⟨-, q⟩, -⟩ := h <;> first | exact q.elim | omega) (fun r_132 w_132 n_132 h_132 hn_132 => ?_)
                  obtain ⟨-, rfl, en_132, hC, -⟩ := h_132
                  rw [show smV wh (D3 i.toNat) (D3 (5 : Int).toNat) = 1 from by rw [eD3]; exact e3]
                  refine e_if_eq F 142 dL_isFound_135 (by decide) (by decide) (fun c_135 => ?_) (fun c_135 => ?_)
                  · exact absurd c_135 (by decide)
                  · refine e_iconst F dL_isFound_138 ?_
                    refine e_goto F 143 dL_isFound_139 (by decide) ?_
                    refine e_zret F rfl (by omega) (by omega) ?_ dL_isFound_143
                    first | exact ⟨rfl, _, ⟨hC, hQ3⟩, (hO1.tr hO2).tr hO3⟩ | exact ⟨rfl, _, ⟨hC, hQ2⟩, hO1.tr hO2⟩
        · exact absurd (show odV wh (D2 5) 4 = _ from by rw [h42]; first | exact if_pos (by omega) | exact if_neg (by omega)) c_87
      · refine e_iconst F dL_isFound_82 ?_
        refine e_goto F 87 dL_isFound_83 (by decide) ?_
        refine e_icmp_eq F 92 dL_isFound_87 (by decide) (od_e5 hQ2 _) (by decide) (fun c_87 => ?_) (fun c_87 => ?_)
        · refine e_iload F dL_isFound_92 rfl ?_
          refine e_iconst F dL_isFound_94 ?_
          refine e_icmp_lt F 138 dL_isFound_95 (by decide) (⟨by omega, by omega⟩) (⟨by omega, by omega⟩) (fun c_95 => ?_) (fun c_95 => ?_)
          · refine e_iconst F dL_isFound_138 ?_
            refine e_goto F 143 dL_isFound_139 (by decide) ?_
            refine e_zret F rfl (by omega) (by omega) ?_ dL_isFound_143
            first | exact ⟨rfl, _, ⟨hC, hQ3⟩, (hO1.tr hO2).tr hO3⟩ | exact ⟨rfl, _, ⟨hC, hQ2⟩, hO1.tr hO2⟩
          · refine e_aload_n F dL_isFound_98 rfl ?_
            refine e_iconst F dL_isFound_99 ?_
            refine e_callVV F u_X3_suspects (by rfl) (c_X3_suspects hC (by constructor <;> omega)) hC.1 rfl rfl w_ml_RL_171 dL_isFound_100 (by rfl) (Nat.le_of_ble_eq_true rfl) (by decide) (by omega) (fun E w2 n2 h _ => by obtain ⟨⟨-, q⟩ | ⟨-, q⟩, -⟩ := h <;> first | exact q.elim | omega) (fun r_100 w_100 n_100 h_100 hn_100 => ?_)
            obtain ⟨-, rfl, en_100, hC, -⟩ := h_100
            have k9 := h32 (by omega)
            rw [show (if (D2 (5 : Int).toNat).fl = 0 then -9 else ssK wh (D2 (5 : Int).toNat).A (D2 (5 : Int).toNat).fl (D2 (5 : Int).toNat).dg (ho wh).toNat) = 2 ^ (h - 1).toNat from (if_neg (by show ¬ (D2 5).fl = 0; rw [e2]; show ¬ (D i.toNat).fl = 0; omega)).trans k9.1]
            refine e_iconst F dL_isFound_103 ?_
            refine e_iload_n F dL_isFound_104 rfl ?_
            refine e_iconst F dL_isFound_105 ?_
            refine e_isub F dL_isFound_106 ?_
            refine e_ishl F dL_isFound_107 (by have := eI_shl1 (h - 1).toNat (by omega); rwa [Int.toNat_of_nonneg (by omega)] at this) ?_
            refine e_icmp_ne F 142 dL_isFound_108 (by decide) (by have := p2_7 (k := (h - 1).toNat) (by omega); have h0 : (0 : Int) < 2 ^ (h - 1).toNat := Int.pow_pos (by decide); constructor <;> omega) (by have := p2_7 (k := (h - 1).toNat) (by omega); have h0 : (0 : Int) < 2 ^ (h - 1).toNat := Int.pow_pos (by decide); constructor <;> omega) (fun c_108 => ?_) (fun c_108 => ?_)
            · exact absurd rfl c_108
            · refine e_aload_n F dL_isFound_111 rfl ?_
              refine e_iconst F dL_isFound_112 ?_
              refine e_callVV F u_X3_wrong (by rfl) (c_X3_wrong hC (by constructor <;> omega)) hC.1 rfl rfl w_ml_RL_174 dL_isFound_113 (by rfl) (Nat.le_of_ble_eq_true rfl) (by decide) (by omega) (fun E w2 n2 h _ => by obtain ⟨⟨-, q⟩ | ⟨-, q⟩, -⟩ := h <;> first | exact q.elim | omega) (fun r_113 w_113 n_113 h_113 hn_113 => ?_)
              obtain ⟨-, rfl, en_113, hC, -⟩ := h_113
              rw [show wrf wh (D2 (5 : Int).toNat).A (D2 (5 : Int).toNat).fl (D2 (5 : Int).toNat).dg = h from k9.2.1]
              refine e_iload_n F dL_isFound_116 rfl ?_
              refine e_icmp_ne F 142 dL_isFound_117 (by decide) (⟨by omega, by omega⟩) (⟨by omega, by omega⟩) (fun c_117 => ?_) (fun c_117 => ?_)
              · exact absurd rfl c_117
              · refine e_aload_n F dL_isFound_120 rfl ?_
                refine e_iconst F dL_isFound_121 ?_
                refine e_callVV F u_X3_mend (by rfl) (c_X3_mend hC (by constructor <;> omega)) hC.1 rfl rfl w_ml_RL_99 dL_isFound_122 (by rfl) (Nat.le_of_ble_eq_true rfl) (by decide) (by omega) (fun E w2 n2 h _ => by obtain ⟨⟨-, q⟩ | ⟨-, q⟩, -⟩ := h <;> first | exact q.elim | omega) (fun r_122 w_122 n_122 h_122 hn_122 => ?_)
                obtain ⟨-, rfl, en_122, hC, -⟩ := h_122
                obtain ⟨e122, D3, ⟨hC, hQ3⟩, hO3, e3⟩ := n_mend hQ2 hC e2 hf hh.1 k9.2.1 k9.2.2
                rw [e122]
                have eD3 : D3 i.toNat = D i.toNat := by rw [hO3 _ hd5, hO2 _ hd5, hO1 _ hd5]
                refine e_iload_n F dL_isFound_125 rfl ?_
                refine e_icmp_ne F 142 dL_isFound_126 (by decide) (⟨by omega, by omega⟩) (⟨by omega, by omega⟩) (fun c_126 => ?_) (fun c_126 => ?_)
                · exact absurd rfl c_126
                · refine e_aload_n F dL_isFound_129 rfl ?_
                  refine e_iload_n F dL_isFound_130 rfl ?_
                  refine e_iconst F dL_isFound_131 ?_
                  refine e_callVV F u_X3_isSame (by rfl) (c_X3_isSame hC (by constructor <;> omega) (by constructor <;> omega)) hC.1 rfl rfl w_ml_RL_139 dL_isFound_132 (by rfl) (Nat.le_of_ble_eq_true rfl) (by decide) (by omega) (fun E w2 n2 h _ => by obtain ⟨⟨-, q⟩ | ⟨-, q⟩, -⟩ := h <;> first | exact q.elim | omega) (fun r_132 w_132 n_132 h_132 hn_132 => ?_)
                  obtain ⟨-, rfl, en_132, hC, -⟩ := h_132
                  rw [show smV wh (D3 i.toNat) (D3 (5 : Int).toNat) = 1 from by rw [eD3]; exact e3]
                  refine e_if_eq F 142 dL_isFound_135 (by decide) (by decide) (fun c_135 => ?_) (fun c_135 => ?_)
                  · exact absurd c_135 (by decide)
                  · refine e_iconst F dL_isFound_138 ?_
                    refine e_goto F 143 dL_isFound_139 (by decide) ?_
                    refine e_zret F rfl (by omega) (by omega) ?_ dL_isFound_143
                    first | exact ⟨rfl, _, ⟨hC, hQ3⟩, (hO1.tr hO2).tr hO3⟩ | exact ⟨rfl, _, ⟨hC, hQ2⟩, hO1.tr hO2⟩
        · exact absurd (show odV wh (D2 5) 4 = _ from by rw [h42]; first | exact if_pos (by omega) | exact if_neg (by omega)) c_87
    · refine e_iconst F dL_isFound_23 ?_
      refine e_zret F rfl (by omega) (by omega) ?_ dL_isFound_24
      exact ⟨rfl, _, ⟨hC, hQ⟩, O5.rf⟩
