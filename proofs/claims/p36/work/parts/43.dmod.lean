/-! what stands at each place of the code -/
set_option maxRecDepth 100000 in
theorem dX5_init_0 : decode cX5_init 0 = .ok (.aload_n 0, 1) := by decide +kernel
set_option maxRecDepth 100000 in
theorem dX5_init_1 : decode cX5_init 1 = .ok (.invokespecial 1, 3) := by decide +kernel
set_option maxRecDepth 100000 in
theorem dX5_init_4 : decode cX5_init 4 = .ok (.aload_n 0, 1) := by decide +kernel
set_option maxRecDepth 100000 in
theorem dX5_init_5 : decode cX5_init 5 = .ok (.iconst 3, 1) := by decide +kernel
set_option maxRecDepth 100000 in
theorem dX5_init_6 : decode cX5_init 6 = .ok (.putfield 7, 3) := by decide +kernel
set_option maxRecDepth 100000 in
theorem dX5_init_9 : decode cX5_init 9 = .ok (.aload_n 0, 1) := by decide +kernel
set_option maxRecDepth 100000 in
theorem dX5_init_10 : decode cX5_init 10 = .ok (.bipush 6, 2) := by decide +kernel
set_option maxRecDepth 100000 in
theorem dX5_init_12 : decode cX5_init 12 = .ok (.newarray .int, 2) := by decide +kernel
set_option maxRecDepth 100000 in
theorem dX5_init_14 : decode cX5_init 14 = .ok (.dup, 1) := by decide +kernel
set_option maxRecDepth 100000 in
theorem dX5_init_15 : decode cX5_init 15 = .ok (.iconst 0, 1) := by decide +kernel
set_option maxRecDepth 100000 in
theorem dX5_init_16 : decode cX5_init 16 = .ok (.iconst (-1), 1) := by decide +kernel
set_option maxRecDepth 100000 in
theorem dX5_init_17 : decode cX5_init 17 = .ok (.iastore, 1) := by decide +kernel
set_option maxRecDepth 100000 in
theorem dX5_init_18 : decode cX5_init 18 = .ok (.dup, 1) := by decide +kernel
set_option maxRecDepth 100000 in
theorem dX5_init_19 : decode cX5_init 19 = .ok (.iconst 1, 1) := by decide +kernel
set_option maxRecDepth 100000 in
theorem dX5_init_20 : decode cX5_init 20 = .ok (.iconst (-1), 1) := by decide +kernel
set_option maxRecDepth 100000 in
theorem dX5_init_21 : decode cX5_init 21 = .ok (.iastore, 1) := by decide +kernel
set_option maxRecDepth 100000 in
theorem dX5_init_22 : decode cX5_init 22 = .ok (.dup, 1) := by decide +kernel
set_option maxRecDepth 100000 in
theorem dX5_init_23 : decode cX5_init 23 = .ok (.iconst 2, 1) := by decide +kernel
def zN_cX5_init : Nat := 0xb11600b51100bd06102a1200b51100bd06102a0d00b54f0208594f0207594f0206594f0205594f0204594f0203590abc06102a0700b5062a0100b72a
set_option maxRecDepth 100000 in
theorem zl_cX5_init : cX5_init.data.toList = z_un 60 zN_cX5_init := eq_of_beq (by decide +kernel)
theorem dX5_init_24 : decode cX5_init 24 = .ok (.iconst (-1), 1) := z_row zl_cX5_init 24 5852930 (Nat.le_of_ble_eq_true rfl) (by decide +kernel) z_o2 (by decide +kernel)
theorem dX5_init_25 : decode cX5_init 25 = .ok (.iastore, 1) := z_row zl_cX5_init 25 416079 (Nat.le_of_ble_eq_true rfl) (by decide +kernel) z_o79 (by decide +kernel)
theorem dX5_init_26 : decode cX5_init 26 = .ok (.dup, 1) := z_row zl_cX5_init 26 132697 (Nat.le_of_ble_eq_true rfl) (by decide +kernel) z_o89 (by decide +kernel)
theorem dX5_init_27 : decode cX5_init 27 = .ok (.iconst 3, 1) := z_row zl_cX5_init 27 5177862 (Nat.le_of_ble_eq_true rfl) (by decide +kernel) z_o6 (by decide +kernel)
theorem dX5_init_28 : decode cX5_init 28 = .ok (.iconst (-1), 1) := z_row zl_cX5_init 28 5852930 (Nat.le_of_ble_eq_true rfl) (by decide +kernel) z_o2 (by decide +kernel)
theorem dX5_init_29 : decode cX5_init 29 = .ok (.iastore, 1) := z_row zl_cX5_init 29 481615 (Nat.le_of_ble_eq_true rfl) (by decide +kernel) z_o79 (by decide +kernel)
theorem dX5_init_30 : decode cX5_init 30 = .ok (.dup, 1) := z_row zl_cX5_init 30 132953 (Nat.le_of_ble_eq_true rfl) (by decide +kernel) z_o89 (by decide +kernel)
theorem dX5_init_31 : decode cX5_init 31 = .ok (.iconst 4, 1) := z_row zl_cX5_init 31 5177863 (Nat.le_of_ble_eq_true rfl) (by decide +kernel) z_o7 (by decide +kernel)
theorem dX5_init_32 : decode cX5_init 32 = .ok (.iconst (-1), 1) := z_row zl_cX5_init 32 5852930 (Nat.le_of_ble_eq_true rfl) (by decide +kernel) z_o2 (by decide +kernel)
theorem dX5_init_33 : decode cX5_init 33 = .ok (.iastore, 1) := z_row zl_cX5_init 33 547151 (Nat.le_of_ble_eq_true rfl) (by decide +kernel) z_o79 (by decide +kernel)
theorem dX5_init_34 : decode cX5_init 34 = .ok (.dup, 1) := z_row zl_cX5_init 34 133209 (Nat.le_of_ble_eq_true rfl) (by decide +kernel) z_o89 (by decide +kernel)
theorem dX5_init_35 : decode cX5_init 35 = .ok (.iconst 5, 1) := z_row zl_cX5_init 35 5177864 (Nat.le_of_ble_eq_true rfl) (by decide +kernel) z_o8 (by decide +kernel)
theorem dX5_init_36 : decode cX5_init 36 = .ok (.iconst (-1), 1) := z_row zl_cX5_init 36 11882242 (Nat.le_of_ble_eq_true rfl) (by decide +kernel) z_o2 (by decide +kernel)
theorem dX5_init_37 : decode cX5_init 37 = .ok (.iastore, 1) := z_row zl_cX5_init 37 46415 (Nat.le_of_ble_eq_true rfl) (by decide +kernel) z_o79 (by decide +kernel)
theorem dX5_init_38 : decode cX5_init 38 = .ok (.putfield 13, 3) := z_row zl_cX5_init 38 852149 (Nat.le_of_ble_eq_true rfl) (by decide +kernel) z_o181 (by decide +kernel)
theorem dX5_init_41 : decode cX5_init 41 = .ok (.aload_n 0, 1) := z_row zl_cX5_init 41 397354 (Nat.le_of_ble_eq_true rfl) (by decide +kernel) z_o42 (by decide +kernel)
theorem dX5_init_42 : decode cX5_init 42 = .ok (.bipush 6, 2) := z_row zl_cX5_init 42 12387856 (Nat.le_of_ble_eq_true rfl) (by decide +kernel) z_o16 (by decide +kernel)
theorem dX5_init_44 : decode cX5_init 44 = .ok (.anewarray 17, 3) := z_row zl_cX5_init 44 1114301 (Nat.le_of_ble_eq_true rfl) (by decide +kernel) z_o189 (by decide +kernel)
theorem dX5_init_47 : decode cX5_init 47 = .ok (.putfield 18, 3) := z_row zl_cX5_init 47 1179829 (Nat.le_of_ble_eq_true rfl) (by decide +kernel) z_o181 (by decide +kernel)
theorem dX5_init_50 : decode cX5_init 50 = .ok (.aload_n 0, 1) := z_row zl_cX5_init 50 397354 (Nat.le_of_ble_eq_true rfl) (by decide +kernel) z_o42 (by decide +kernel)
theorem dX5_init_51 : decode cX5_init 51 = .ok (.bipush 6, 2) := z_row zl_cX5_init 51 12387856 (Nat.le_of_ble_eq_true rfl) (by decide +kernel) z_o16 (by decide +kernel)
theorem dX5_init_53 : decode cX5_init 53 = .ok (.anewarray 17, 3) := z_row zl_cX5_init 53 1114301 (Nat.le_of_ble_eq_true rfl) (by decide +kernel) z_o189 (by decide +kernel)
theorem dX5_init_56 : decode cX5_init 56 = .ok (.putfield 22, 3) := z_row zl_cX5_init 56 1441973 (Nat.le_of_ble_eq_true rfl) (by decide +kernel) z_o181 (by decide +kernel)
set_option maxRecDepth 100000 in
theorem dX5_init_59 : decode cX5_init 59 = .ok (.return_, 1) := by decide +kernel
set_option maxRecDepth 100000 in
theorem dX5_thrown_0 : decode cX5_thrown 0 = .ok (.aload_n 0, 1) := by decide +kernel
set_option maxRecDepth 100000 in
theorem dX5_thrown_1 : decode cX5_thrown 1 = .ok (.getfield 25, 3) := by decide +kernel
set_option maxRecDepth 100000 in
theorem dX5_thrown_4 : decode cX5_thrown 4 = .ok (.ireturn, 1) := by decide +kernel
set_option maxRecDepth 100000 in
theorem dX5_isIn_0 : decode cX5_isIn 0 = .ok (.iload_n 0, 1) := by decide +kernel
set_option maxRecDepth 100000 in
theorem dX5_isIn_1 : decode cX5_isIn 1 = .ok (.iload_n 1, 1) := by decide +kernel
set_option maxRecDepth 100000 in
theorem dX5_isIn_2 : decode cX5_isIn 2 = .ok (.if_icmp .lt 12, 3) := by decide +kernel
set_option maxRecDepth 100000 in
theorem dX5_isIn_5 : decode cX5_isIn 5 = .ok (.iload_n 0, 1) := by decide +kernel
set_option maxRecDepth 100000 in
theorem dX5_isIn_6 : decode cX5_isIn 6 = .ok (.iload_n 2, 1) := by decide +kernel
set_option maxRecDepth 100000 in
theorem dX5_isIn_7 : decode cX5_isIn 7 = .ok (.if_icmp .gt 7, 3) := by decide +kernel
set_option maxRecDepth 100000 in
theorem dX5_isIn_10 : decode cX5_isIn 10 = .ok (.iconst 1, 1) := by decide +kernel
set_option maxRecDepth 100000 in
theorem dX5_isIn_11 : decode cX5_isIn 11 = .ok (.goto 4, 3) := by decide +kernel
set_option maxRecDepth 100000 in
theorem dX5_isIn_14 : decode cX5_isIn 14 = .ok (.iconst 0, 1) := by decide +kernel
set_option maxRecDepth 100000 in
theorem dX5_isIn_15 : decode cX5_isIn 15 = .ok (.ireturn, 1) := by decide +kernel
set_option maxRecDepth 100000 in
theorem dX5_one_0 : decode cX5_one 0 = .ok (.iload_n 0, 1) := by decide +kernel
set_option maxRecDepth 100000 in
theorem dX5_one_1 : decode cX5_one 1 = .ok (.ifCond .eq 7, 3) := by decide +kernel
set_option maxRecDepth 100000 in
theorem dX5_one_4 : decode cX5_one 4 = .ok (.iconst 1, 1) := by decide +kernel
set_option maxRecDepth 100000 in
theorem dX5_one_5 : decode cX5_one 5 = .ok (.goto 4, 3) := by decide +kernel
set_option maxRecDepth 100000 in
theorem dX5_one_8 : decode cX5_one 8 = .ok (.iconst 0, 1) := by decide +kernel
set_option maxRecDepth 100000 in
theorem dX5_one_9 : decode cX5_one 9 = .ok (.ireturn, 1) := by decide +kernel
set_option maxRecDepth 100000 in
theorem dX5_refuse_0 : decode cX5_refuse 0 = .ok (.iload_n 1, 1) := by decide +kernel
set_option maxRecDepth 100000 in
theorem dX5_refuse_1 : decode cX5_refuse 1 = .ok (.ifCond .eq 15, 3) := by decide +kernel
set_option maxRecDepth 100000 in
theorem dX5_refuse_4 : decode cX5_refuse 4 = .ok (.aload_n 0, 1) := by decide +kernel
set_option maxRecDepth 100000 in
theorem dX5_refuse_5 : decode cX5_refuse 5 = .ok (.getfield 25, 3) := by decide +kernel
set_option maxRecDepth 100000 in
theorem dX5_refuse_8 : decode cX5_refuse 8 = .ok (.ifCond .ne 8, 3) := by decide +kernel
set_option maxRecDepth 100000 in
theorem dX5_refuse_11 : decode cX5_refuse 11 = .ok (.aload_n 0, 1) := by decide +kernel
set_option maxRecDepth 100000 in
theorem dX5_refuse_12 : decode cX5_refuse 12 = .ok (.iload_n 2, 1) := by decide +kernel
set_option maxRecDepth 100000 in
theorem dX5_refuse_13 : decode cX5_refuse 13 = .ok (.putfield 25, 3) := by decide +kernel
set_option maxRecDepth 100000 in
theorem dX5_refuse_16 : decode cX5_refuse 16 = .ok (.aload_n 0, 1) := by decide +kernel
set_option maxRecDepth 100000 in
theorem dX5_refuse_17 : decode cX5_refuse 17 = .ok (.getfield 25, 3) := by decide +kernel
set_option maxRecDepth 100000 in
theorem dX5_refuse_20 : decode cX5_refuse 20 = .ok (.ifCond .le 7, 3) := by decide +kernel
set_option maxRecDepth 100000 in
theorem dX5_refuse_23 : decode cX5_refuse 23 = .ok (.iconst 1, 1) := by decide +kernel
def zN_cX5_refuse : Nat := 0xac030400a70407009e1900b42a1900b51c2a08009a1900b42a0f00991b
set_option maxRecDepth 100000 in
theorem zl_cX5_refuse : cX5_refuse.data.toList = z_un 29 zN_cX5_refuse := eq_of_beq (by decide +kernel)
theorem dX5_refuse_24 : decode cX5_refuse 24 = .ok (.goto 4, 3) := z_row zl_cX5_refuse 24 262311 (Nat.le_of_ble_eq_true rfl) (by decide +kernel) z_o167 (by decide +kernel)
set_option maxRecDepth 100000 in
theorem dX5_refuse_27 : decode cX5_refuse 27 = .ok (.iconst 0, 1) := by decide +kernel
set_option maxRecDepth 100000 in
theorem dX5_refuse_28 : decode cX5_refuse 28 = .ok (.ireturn, 1) := by decide +kernel
set_option maxRecDepth 100000 in
theorem dX5_start_0 : decode cX5_start 0 = .ok (.aload_n 0, 1) := by decide +kernel
set_option maxRecDepth 100000 in
theorem dX5_start_1 : decode cX5_start 1 = .ok (.iconst 0, 1) := by decide +kernel
set_option maxRecDepth 100000 in
theorem dX5_start_2 : decode cX5_start 2 = .ok (.putfield 25, 3) := by decide +kernel
set_option maxRecDepth 100000 in
theorem dX5_start_5 : decode cX5_start 5 = .ok (.aload_n 0, 1) := by decide +kernel
set_option maxRecDepth 100000 in
theorem dX5_start_6 : decode cX5_start 6 = .ok (.iload_n 1, 1) := by decide +kernel
set_option maxRecDepth 100000 in
theorem dX5_start_7 : decode cX5_start 7 = .ok (.iload_n 2, 1) := by decide +kernel
set_option maxRecDepth 100000 in
theorem dX5_start_8 : decode cX5_start 8 = .ok (.invokevirtual 28, 3) := by decide +kernel
set_option maxRecDepth 100000 in
theorem dX5_start_11 : decode cX5_start 11 = .ok (.ireturn, 1) := by decide +kernel
set_option maxRecDepth 100000 in
theorem dX5_p_0 : decode cX5_p 0 = .ok (.getstatic 32, 3) := by decide +kernel
set_option maxRecDepth 100000 in
theorem dX5_p_3 : decode cX5_p 3 = .ok (.aload_n 0, 1) := by decide +kernel
set_option maxRecDepth 100000 in
theorem dX5_p_4 : decode cX5_p 4 = .ok (.getfield 7, 3) := by decide +kernel
set_option maxRecDepth 100000 in
theorem dX5_p_7 : decode cX5_p 7 = .ok (.iaload, 1) := by decide +kernel
set_option maxRecDepth 100000 in
theorem dX5_p_8 : decode cX5_p 8 = .ok (.ireturn, 1) := by decide +kernel
set_option maxRecDepth 100000 in
theorem dX5_q_0 : decode cX5_q 0 = .ok (.getstatic 35, 3) := by decide +kernel
set_option maxRecDepth 100000 in
theorem dX5_q_3 : decode cX5_q 3 = .ok (.aload_n 0, 1) := by decide +kernel
set_option maxRecDepth 100000 in
theorem dX5_q_4 : decode cX5_q 4 = .ok (.getfield 7, 3) := by decide +kernel
set_option maxRecDepth 100000 in
theorem dX5_q_7 : decode cX5_q 7 = .ok (.iaload, 1) := by decide +kernel
set_option maxRecDepth 100000 in
theorem dX5_q_8 : decode cX5_q 8 = .ok (.ireturn, 1) := by decide +kernel
set_option maxRecDepth 100000 in
theorem dX5_holders_0 : decode cX5_holders 0 = .ok (.bipush 7, 2) := by decide +kernel
set_option maxRecDepth 100000 in
theorem dX5_holders_2 : decode cX5_holders 2 = .ok (.aload_n 0, 1) := by decide +kernel
set_option maxRecDepth 100000 in
theorem dX5_holders_3 : decode cX5_holders 3 = .ok (.invokevirtual 38, 3) := by decide +kernel
set_option maxRecDepth 100000 in
theorem dX5_holders_6 : decode cX5_holders 6 = .ok (.iconst 1, 1) := by decide +kernel
set_option maxRecDepth 100000 in
theorem dX5_holders_7 : decode cX5_holders 7 = .ok (.isub, 1) := by decide +kernel
set_option maxRecDepth 100000 in
theorem dX5_holders_8 : decode cX5_holders 8 = .ok (.invokestatic 42, 3) := by decide +kernel
set_option maxRecDepth 100000 in
theorem dX5_holders_11 : decode cX5_holders 11 = .ok (.ireturn, 1) := by decide +kernel
set_option maxRecDepth 100000 in
theorem dX5_isNoDeal_0 : decode cX5_isNoDeal 0 = .ok (.iload_n 0, 1) := by decide +kernel
set_option maxRecDepth 100000 in
theorem dX5_isNoDeal_1 : decode cX5_isNoDeal 1 = .ok (.iconst 0, 1) := by decide +kernel
set_option maxRecDepth 100000 in
theorem dX5_isNoDeal_2 : decode cX5_isNoDeal 2 = .ok (.iconst 5, 1) := by decide +kernel
set_option maxRecDepth 100000 in
theorem dX5_isNoDeal_3 : decode cX5_isNoDeal 3 = .ok (.invokestatic 48, 3) := by decide +kernel
set_option maxRecDepth 100000 in
theorem dX5_isNoDeal_6 : decode cX5_isNoDeal 6 = .ok (.ifCond .ne 7, 3) := by decide +kernel
set_option maxRecDepth 100000 in
theorem dX5_isNoDeal_9 : decode cX5_isNoDeal 9 = .ok (.iconst 1, 1) := by decide +kernel
set_option maxRecDepth 100000 in
theorem dX5_isNoDeal_10 : decode cX5_isNoDeal 10 = .ok (.goto 4, 3) := by decide +kernel
set_option maxRecDepth 100000 in
theorem dX5_isNoDeal_13 : decode cX5_isNoDeal 13 = .ok (.iconst 0, 1) := by decide +kernel
set_option maxRecDepth 100000 in
theorem dX5_isNoDeal_14 : decode cX5_isNoDeal 14 = .ok (.ireturn, 1) := by decide +kernel
set_option maxRecDepth 100000 in
theorem dX5_isNoHolder_0 : decode cX5_isNoHolder 0 = .ok (.iload_n 1, 1) := by decide +kernel
set_option maxRecDepth 100000 in
theorem dX5_isNoHolder_1 : decode cX5_isNoHolder 1 = .ok (.iconst 1, 1) := by decide +kernel
set_option maxRecDepth 100000 in
theorem dX5_isNoHolder_2 : decode cX5_isNoHolder 2 = .ok (.aload_n 0, 1) := by decide +kernel
set_option maxRecDepth 100000 in
theorem dX5_isNoHolder_3 : decode cX5_isNoHolder 3 = .ok (.invokevirtual 52, 3) := by decide +kernel
set_option maxRecDepth 100000 in
theorem dX5_isNoHolder_6 : decode cX5_isNoHolder 6 = .ok (.invokestatic 48, 3) := by decide +kernel
set_option maxRecDepth 100000 in
theorem dX5_isNoHolder_9 : decode cX5_isNoHolder 9 = .ok (.ifCond .ne 7, 3) := by decide +kernel
set_option maxRecDepth 100000 in
theorem dX5_isNoHolder_12 : decode cX5_isNoHolder 12 = .ok (.iconst 1, 1) := by decide +kernel
set_option maxRecDepth 100000 in
theorem dX5_isNoHolder_13 : decode cX5_isNoHolder 13 = .ok (.goto 4, 3) := by decide +kernel
set_option maxRecDepth 100000 in
theorem dX5_isNoHolder_16 : decode cX5_isNoHolder 16 = .ok (.iconst 0, 1) := by decide +kernel
set_option maxRecDepth 100000 in
theorem dX5_isNoHolder_17 : decode cX5_isNoHolder 17 = .ok (.ireturn, 1) := by decide +kernel
set_option maxRecDepth 100000 in
theorem dX5_isNoSet_0 : decode cX5_isNoSet 0 = .ok (.iload_n 1, 1) := by decide +kernel
set_option maxRecDepth 100000 in
theorem dX5_isNoSet_1 : decode cX5_isNoSet 1 = .ok (.iconst 1, 1) := by decide +kernel
set_option maxRecDepth 100000 in
theorem dX5_isNoSet_2 : decode cX5_isNoSet 2 = .ok (.iconst 1, 1) := by decide +kernel
set_option maxRecDepth 100000 in
theorem dX5_isNoSet_3 : decode cX5_isNoSet 3 = .ok (.aload_n 0, 1) := by decide +kernel
set_option maxRecDepth 100000 in
theorem dX5_isNoSet_4 : decode cX5_isNoSet 4 = .ok (.invokevirtual 52, 3) := by decide +kernel
set_option maxRecDepth 100000 in
theorem dX5_isNoSet_7 : decode cX5_isNoSet 7 = .ok (.ishl, 1) := by decide +kernel
set_option maxRecDepth 100000 in
theorem dX5_isNoSet_8 : decode cX5_isNoSet 8 = .ok (.iconst 1, 1) := by decide +kernel
set_option maxRecDepth 100000 in
theorem dX5_isNoSet_9 : decode cX5_isNoSet 9 = .ok (.isub, 1) := by decide +kernel
set_option maxRecDepth 100000 in
theorem dX5_isNoSet_10 : decode cX5_isNoSet 10 = .ok (.invokestatic 48, 3) := by decide +kernel
set_option maxRecDepth 100000 in
theorem dX5_isNoSet_13 : decode cX5_isNoSet 13 = .ok (.ifCond .ne 7, 3) := by decide +kernel
set_option maxRecDepth 100000 in
theorem dX5_isNoSet_16 : decode cX5_isNoSet 16 = .ok (.iconst 1, 1) := by decide +kernel
set_option maxRecDepth 100000 in
theorem dX5_isNoSet_17 : decode cX5_isNoSet 17 = .ok (.goto 4, 3) := by decide +kernel
set_option maxRecDepth 100000 in
theorem dX5_isNoSet_20 : decode cX5_isNoSet 20 = .ok (.iconst 0, 1) := by decide +kernel
set_option maxRecDepth 100000 in
theorem dX5_isNoSet_21 : decode cX5_isNoSet 21 = .ok (.ireturn, 1) := by decide +kernel
set_option maxRecDepth 100000 in
theorem dX5_has_0 : decode cX5_has 0 = .ok (.iload_n 0, 1) := by decide +kernel
set_option maxRecDepth 100000 in
theorem dX5_has_1 : decode cX5_has 1 = .ok (.iload_n 1, 1) := by decide +kernel
set_option maxRecDepth 100000 in
theorem dX5_has_2 : decode cX5_has 2 = .ok (.iconst 1, 1) := by decide +kernel
set_option maxRecDepth 100000 in
theorem dX5_has_3 : decode cX5_has 3 = .ok (.isub, 1) := by decide +kernel
set_option maxRecDepth 100000 in
theorem dX5_has_4 : decode cX5_has 4 = .ok (.ishr, 1) := by decide +kernel
set_option maxRecDepth 100000 in
theorem dX5_has_5 : decode cX5_has 5 = .ok (.iconst 2, 1) := by decide +kernel
set_option maxRecDepth 100000 in
theorem dX5_has_6 : decode cX5_has 6 = .ok (.irem, 1) := by decide +kernel
set_option maxRecDepth 100000 in
theorem dX5_has_7 : decode cX5_has 7 = .ok (.iconst 1, 1) := by decide +kernel
set_option maxRecDepth 100000 in
theorem dX5_has_8 : decode cX5_has 8 = .ok (.if_icmp .ne 7, 3) := by decide +kernel
set_option maxRecDepth 100000 in
theorem dX5_has_11 : decode cX5_has 11 = .ok (.iconst 1, 1) := by decide +kernel
set_option maxRecDepth 100000 in
theorem dX5_has_12 : decode cX5_has 12 = .ok (.goto 4, 3) := by decide +kernel
set_option maxRecDepth 100000 in
theorem dX5_has_15 : decode cX5_has 15 = .ok (.iconst 0, 1) := by decide +kernel
set_option maxRecDepth 100000 in
theorem dX5_has_16 : decode cX5_has 16 = .ok (.ireturn, 1) := by decide +kernel
set_option maxRecDepth 100000 in
theorem dX5_many_0 : decode cX5_many 0 = .ok (.iconst 0, 1) := by decide +kernel
set_option maxRecDepth 100000 in
theorem dX5_many_1 : decode cX5_many 1 = .ok (.istore_n 1, 1) := by decide +kernel
set_option maxRecDepth 100000 in
theorem dX5_many_2 : decode cX5_many 2 = .ok (.iload_n 0, 1) := by decide +kernel
set_option maxRecDepth 100000 in
theorem dX5_many_3 : decode cX5_many 3 = .ok (.istore_n 2, 1) := by decide +kernel
set_option maxRecDepth 100000 in
theorem dX5_many_4 : decode cX5_many 4 = .ok (.iload_n 2, 1) := by decide +kernel
set_option maxRecDepth 100000 in
theorem dX5_many_5 : decode cX5_many 5 = .ok (.ifCond .le 16, 3) := by decide +kernel
set_option maxRecDepth 100000 in
theorem dX5_many_8 : decode cX5_many 8 = .ok (.iload_n 1, 1) := by decide +kernel
set_option maxRecDepth 100000 in
theorem dX5_many_9 : decode cX5_many 9 = .ok (.iload_n 2, 1) := by decide +kernel
set_option maxRecDepth 100000 in
theorem dX5_many_10 : decode cX5_many 10 = .ok (.iconst 2, 1) := by decide +kernel
set_option maxRecDepth 100000 in
theorem dX5_many_11 : decode cX5_many 11 = .ok (.irem, 1) := by decide +kernel
set_option maxRecDepth 100000 in
theorem dX5_many_12 : decode cX5_many 12 = .ok (.iadd, 1) := by decide +kernel
set_option maxRecDepth 100000 in
theorem dX5_many_13 : decode cX5_many 13 = .ok (.istore_n 1, 1) := by decide +kernel
set_option maxRecDepth 100000 in
theorem dX5_many_14 : decode cX5_many 14 = .ok (.iload_n 2, 1) := by decide +kernel
set_option maxRecDepth 100000 in
theorem dX5_many_15 : decode cX5_many 15 = .ok (.iconst 2, 1) := by decide +kernel
set_option maxRecDepth 100000 in
theorem dX5_many_16 : decode cX5_many 16 = .ok (.idiv, 1) := by decide +kernel
set_option maxRecDepth 100000 in
theorem dX5_many_17 : decode cX5_many 17 = .ok (.istore_n 2, 1) := by decide +kernel
set_option maxRecDepth 100000 in
theorem dX5_many_18 : decode cX5_many 18 = .ok (.goto (-14), 3) := by decide +kernel
set_option maxRecDepth 100000 in
theorem dX5_many_21 : decode cX5_many 21 = .ok (.iload_n 1, 1) := by decide +kernel
set_option maxRecDepth 100000 in
theorem dX5_many_22 : decode cX5_many 22 = .ok (.ireturn, 1) := by decide +kernel
set_option maxRecDepth 100000 in
theorem dX5_mod_0 : decode cX5_mod 0 = .ok (.lload_n 1, 1) := by decide +kernel
set_option maxRecDepth 100000 in
theorem dX5_mod_1 : decode cX5_mod 1 = .ok (.aload_n 0, 1) := by decide +kernel
set_option maxRecDepth 100000 in
theorem dX5_mod_2 : decode cX5_mod 2 = .ok (.invokevirtual 38, 3) := by decide +kernel
set_option maxRecDepth 100000 in
theorem dX5_mod_5 : decode cX5_mod 5 = .ok (.i2l, 1) := by decide +kernel
set_option maxRecDepth 100000 in
theorem dX5_mod_6 : decode cX5_mod 6 = .ok (.lrem, 1) := by decide +kernel
set_option maxRecDepth 100000 in
theorem dX5_mod_7 : decode cX5_mod 7 = .ok (.lstore_n 3, 1) := by decide +kernel
set_option maxRecDepth 100000 in
theorem dX5_mod_8 : decode cX5_mod 8 = .ok (.lload_n 3, 1) := by decide +kernel
set_option maxRecDepth 100000 in
theorem dX5_mod_9 : decode cX5_mod 9 = .ok (.lconst 0, 1) := by decide +kernel
set_option maxRecDepth 100000 in
theorem dX5_mod_10 : decode cX5_mod 10 = .ok (.lcmp, 1) := by decide +kernel
set_option maxRecDepth 100000 in
theorem dX5_mod_11 : decode cX5_mod 11 = .ok (.ifCond .ge 13, 3) := by decide +kernel
set_option maxRecDepth 100000 in
theorem dX5_mod_14 : decode cX5_mod 14 = .ok (.lload_n 3, 1) := by decide +kernel
set_option maxRecDepth 100000 in
theorem dX5_mod_15 : decode cX5_mod 15 = .ok (.aload_n 0, 1) := by decide +kernel
set_option maxRecDepth 100000 in
theorem dX5_mod_16 : decode cX5_mod 16 = .ok (.invokevirtual 38, 3) := by decide +kernel
set_option maxRecDepth 100000 in
theorem dX5_mod_19 : decode cX5_mod 19 = .ok (.i2l, 1) := by decide +kernel
set_option maxRecDepth 100000 in
theorem dX5_mod_20 : decode cX5_mod 20 = .ok (.ladd, 1) := by decide +kernel
set_option maxRecDepth 100000 in
theorem dX5_mod_21 : decode cX5_mod 21 = .ok (.goto 4, 3) := by decide +kernel
def zN_cX5_mod : Nat := 0xac88210400a761852600b62a210d009c9409214271852600b62a1f
set_option maxRecDepth 100000 in
theorem zl_cX5_mod : cX5_mod.data.toList = z_un 27 zN_cX5_mod := eq_of_beq (by decide +kernel)
theorem dX5_mod_24 : decode cX5_mod 24 = .ok (.lload_n 3, 1) := z_row zl_cX5_mod 24 11307041 (Nat.le_of_ble_eq_true rfl) (by decide +kernel) z_o33 (by decide +kernel)
set_option maxRecDepth 100000 in
theorem dX5_mod_25 : decode cX5_mod 25 = .ok (.l2i, 1) := by decide +kernel
set_option maxRecDepth 100000 in
theorem dX5_mod_26 : decode cX5_mod 26 = .ok (.ireturn, 1) := by decide +kernel
set_option maxRecDepth 100000 in
theorem dX5_inverse_0 : decode cX5_inverse 0 = .ok (.aload_n 0, 1) := by decide +kernel
set_option maxRecDepth 100000 in
theorem dX5_inverse_1 : decode cX5_inverse 1 = .ok (.invokevirtual 38, 3) := by decide +kernel
set_option maxRecDepth 100000 in
theorem dX5_inverse_4 : decode cX5_inverse 4 = .ok (.istore_n 2, 1) := by decide +kernel
set_option maxRecDepth 100000 in
theorem dX5_inverse_5 : decode cX5_inverse 5 = .ok (.iload_n 1, 1) := by decide +kernel
set_option maxRecDepth 100000 in
theorem dX5_inverse_6 : decode cX5_inverse 6 = .ok (.istore_n 3, 1) := by decide +kernel
set_option maxRecDepth 100000 in
theorem dX5_inverse_7 : decode cX5_inverse 7 = .ok (.lconst 0, 1) := by decide +kernel
set_option maxRecDepth 100000 in
theorem dX5_inverse_8 : decode cX5_inverse 8 = .ok (.lstore 4, 2) := by decide +kernel
set_option maxRecDepth 100000 in
theorem dX5_inverse_10 : decode cX5_inverse 10 = .ok (.lconst 1, 1) := by decide +kernel
set_option maxRecDepth 100000 in
theorem dX5_inverse_11 : decode cX5_inverse 11 = .ok (.lstore 6, 2) := by decide +kernel
set_option maxRecDepth 100000 in
theorem dX5_inverse_13 : decode cX5_inverse 13 = .ok (.iload_n 3, 1) := by decide +kernel
set_option maxRecDepth 100000 in
theorem dX5_inverse_14 : decode cX5_inverse 14 = .ok (.ifCond .le 43, 3) := by decide +kernel
set_option maxRecDepth 100000 in
theorem dX5_inverse_17 : decode cX5_inverse 17 = .ok (.iload_n 2, 1) := by decide +kernel
set_option maxRecDepth 100000 in
theorem dX5_inverse_18 : decode cX5_inverse 18 = .ok (.iload_n 3, 1) := by decide +kernel
set_option maxRecDepth 100000 in
theorem dX5_inverse_19 : decode cX5_inverse 19 = .ok (.idiv, 1) := by decide +kernel
set_option maxRecDepth 100000 in
theorem dX5_inverse_20 : decode cX5_inverse 20 = .ok (.istore 8, 2) := by decide +kernel
set_option maxRecDepth 100000 in
theorem dX5_inverse_22 : decode cX5_inverse 22 = .ok (.iload_n 2, 1) := by decide +kernel
set_option maxRecDepth 100000 in
theorem dX5_inverse_23 : decode cX5_inverse 23 = .ok (.iload 8, 2) := by decide +kernel
def zN_cX5_inverse : Nat := 0xac3700b604162ad7ffa706370a16043706163e09153d1d0a37656906168508150416093664681d08151c08366c1d1c2b009e1d06370a0437093e1b3d2600b62a
set_option maxRecDepth 100000 in
theorem zl_cX5_inverse : cX5_inverse.data.toList = z_un 64 zN_cX5_inverse := eq_of_beq (by decide +kernel)
theorem dX5_inverse_25 : decode cX5_inverse 25 = .ok (.iload_n 3, 1) := z_row zl_cX5_inverse 25 6580253 (Nat.le_of_ble_eq_true rfl) (by decide +kernel) z_o29 (by decide +kernel)
theorem dX5_inverse_26 : decode cX5_inverse 26 = .ok (.imul, 1) := z_row zl_cX5_inverse 26 3564648 (Nat.le_of_ble_eq_true rfl) (by decide +kernel) z_o104 (by decide +kernel)
theorem dX5_inverse_27 : decode cX5_inverse 27 = .ok (.isub, 1) := z_row zl_cX5_inverse 27 603748 (Nat.le_of_ble_eq_true rfl) (by decide +kernel) z_o100 (by decide +kernel)
theorem dX5_inverse_28 : decode cX5_inverse 28 = .ok (.istore 9, 2) := z_row zl_cX5_inverse 28 1444150 (Nat.le_of_ble_eq_true rfl) (by decide +kernel) z_o54 (by decide +kernel)
theorem dX5_inverse_30 : decode cX5_inverse 30 = .ok (.lload 4, 2) := z_row zl_cX5_inverse 30 1377302 (Nat.le_of_ble_eq_true rfl) (by decide +kernel) z_o22 (by decide +kernel)
theorem dX5_inverse_32 : decode cX5_inverse 32 = .ok (.iload 8, 2) := z_row zl_cX5_inverse 32 8718357 (Nat.le_of_ble_eq_true rfl) (by decide +kernel) z_o21 (by decide +kernel)
theorem dX5_inverse_34 : decode cX5_inverse 34 = .ok (.i2l, 1) := z_row zl_cX5_inverse 34 398981 (Nat.le_of_ble_eq_true rfl) (by decide +kernel) z_o133 (by decide +kernel)
theorem dX5_inverse_35 : decode cX5_inverse 35 = .ok (.lload 6, 2) := z_row zl_cX5_inverse 35 6882838 (Nat.le_of_ble_eq_true rfl) (by decide +kernel) z_o22 (by decide +kernel)
theorem dX5_inverse_37 : decode cX5_inverse 37 = .ok (.lmul, 1) := z_row zl_cX5_inverse 37 3630441 (Nat.le_of_ble_eq_true rfl) (by decide +kernel) z_o105 (by decide +kernel)
theorem dX5_inverse_38 : decode cX5_inverse 38 = .ok (.lsub, 1) := z_row zl_cX5_inverse 38 669541 (Nat.le_of_ble_eq_true rfl) (by decide +kernel) z_o101 (by decide +kernel)
theorem dX5_inverse_39 : decode cX5_inverse 39 = .ok (.lstore 10, 2) := z_row zl_cX5_inverse 39 1903159 (Nat.le_of_ble_eq_true rfl) (by decide +kernel) z_o55 (by decide +kernel)
theorem dX5_inverse_41 : decode cX5_inverse 41 = .ok (.iload_n 3, 1) := z_row zl_cX5_inverse 41 1391901 (Nat.le_of_ble_eq_true rfl) (by decide +kernel) z_o29 (by decide +kernel)
theorem dX5_inverse_42 : decode cX5_inverse 42 = .ok (.istore_n 2, 1) := z_row zl_cX5_inverse 42 595261 (Nat.le_of_ble_eq_true rfl) (by decide +kernel) z_o61 (by decide +kernel)
theorem dX5_inverse_43 : decode cX5_inverse 43 = .ok (.iload 9, 2) := z_row zl_cX5_inverse 43 4065557 (Nat.le_of_ble_eq_true rfl) (by decide +kernel) z_o21 (by decide +kernel)
theorem dX5_inverse_45 : decode cX5_inverse 45 = .ok (.istore_n 3, 1) := z_row zl_cX5_inverse 45 398910 (Nat.le_of_ble_eq_true rfl) (by decide +kernel) z_o62 (by decide +kernel)
theorem dX5_inverse_46 : decode cX5_inverse 46 = .ok (.lload 6, 2) := z_row zl_cX5_inverse 46 3606038 (Nat.le_of_ble_eq_true rfl) (by decide +kernel) z_o22 (by decide +kernel)
theorem dX5_inverse_48 : decode cX5_inverse 48 = .ok (.lstore 4, 2) := z_row zl_cX5_inverse 48 1442871 (Nat.le_of_ble_eq_true rfl) (by decide +kernel) z_o55 (by decide +kernel)
theorem dX5_inverse_50 : decode cX5_inverse 50 = .ok (.lload 10, 2) := z_row zl_cX5_inverse 50 3607062 (Nat.le_of_ble_eq_true rfl) (by decide +kernel) z_o22 (by decide +kernel)
theorem dX5_inverse_52 : decode cX5_inverse 52 = .ok (.lstore 6, 2) := z_row zl_cX5_inverse 52 10946103 (Nat.le_of_ble_eq_true rfl) (by decide +kernel) z_o55 (by decide +kernel)
theorem dX5_inverse_54 : decode cX5_inverse 54 = .ok (.goto (-41), 3) := z_row zl_cX5_inverse 54 14155687 (Nat.le_of_ble_eq_true rfl) (by decide +kernel) z_o167 (by decide +kernel)
theorem dX5_inverse_57 : decode cX5_inverse 57 = .ok (.aload_n 0, 1) := z_row zl_cX5_inverse 57 267818 (Nat.le_of_ble_eq_true rfl) (by decide +kernel) z_o42 (by decide +kernel)
theorem dX5_inverse_58 : decode cX5_inverse 58 = .ok (.lload 4, 2) := z_row zl_cX5_inverse 58 11928598 (Nat.le_of_ble_eq_true rfl) (by decide +kernel) z_o22 (by decide +kernel)
theorem dX5_inverse_60 : decode cX5_inverse 60 = .ok (.invokevirtual 55, 3) := z_row zl_cX5_inverse 60 3604662 (Nat.le_of_ble_eq_true rfl) (by decide +kernel) z_o182 (by decide +kernel)
set_option maxRecDepth 100000 in
theorem dX5_inverse_63 : decode cX5_inverse 63 = .ok (.ireturn, 1) := by decide +kernel
set_option maxRecDepth 100000 in
theorem dX5_raised_0 : decode cX5_raised 0 = .ok (.lconst 1, 1) := by decide +kernel
set_option maxRecDepth 100000 in
theorem dX5_raised_1 : decode cX5_raised 1 = .ok (.lstore_n 3, 1) := by decide +kernel
set_option maxRecDepth 100000 in
theorem dX5_raised_2 : decode cX5_raised 2 = .ok (.iload_n 0, 1) := by decide +kernel
set_option maxRecDepth 100000 in
theorem dX5_raised_3 : decode cX5_raised 3 = .ok (.iload_n 2, 1) := by decide +kernel
set_option maxRecDepth 100000 in
theorem dX5_raised_4 : decode cX5_raised 4 = .ok (.irem, 1) := by decide +kernel
set_option maxRecDepth 100000 in
theorem dX5_raised_5 : decode cX5_raised 5 = .ok (.i2l, 1) := by decide +kernel
set_option maxRecDepth 100000 in
theorem dX5_raised_6 : decode cX5_raised 6 = .ok (.lstore 5, 2) := by decide +kernel
set_option maxRecDepth 100000 in
theorem dX5_raised_8 : decode cX5_raised 8 = .ok (.iload_n 1, 1) := by decide +kernel
set_option maxRecDepth 100000 in
theorem dX5_raised_9 : decode cX5_raised 9 = .ok (.istore 7, 2) := by decide +kernel
set_option maxRecDepth 100000 in
theorem dX5_raised_11 : decode cX5_raised 11 = .ok (.iload 7, 2) := by decide +kernel
set_option maxRecDepth 100000 in
theorem dX5_raised_13 : decode cX5_raised 13 = .ok (.ifCond .le 38, 3) := by decide +kernel
set_option maxRecDepth 100000 in
theorem dX5_raised_16 : decode cX5_raised 16 = .ok (.iload 7, 2) := by decide +kernel
set_option maxRecDepth 100000 in
theorem dX5_raised_18 : decode cX5_raised 18 = .ok (.iconst 2, 1) := by decide +kernel
set_option maxRecDepth 100000 in
theorem dX5_raised_19 : decode cX5_raised 19 = .ok (.irem, 1) := by decide +kernel
set_option maxRecDepth 100000 in
theorem dX5_raised_20 : decode cX5_raised 20 = .ok (.iconst 1, 1) := by decide +kernel
set_option maxRecDepth 100000 in
theorem dX5_raised_21 : decode cX5_raised 21 = .ok (.if_icmp .ne 11, 3) := by decide +kernel
def zN_cX5_raised : Nat := 0xac8821dbffa707366c050715053771851c69051605164271851c690516210b00a0047005071526009e071507361b053785701c1a420a
set_option maxRecDepth 100000 in
theorem zl_cX5_raised : cX5_raised.data.toList = z_un 54 zN_cX5_raised := eq_of_beq (by decide +kernel)
theorem dX5_raised_24 : decode cX5_raised 24 = .ok (.lload_n 3, 1) := z_row zl_cX5_raised 24 333345 (Nat.le_of_ble_eq_true rfl) (by decide +kernel) z_o33 (by decide +kernel)
theorem dX5_raised_25 : decode cX5_raised 25 = .ok (.lload 5, 2) := z_row zl_cX5_raised 25 6882582 (Nat.le_of_ble_eq_true rfl) (by decide +kernel) z_o22 (by decide +kernel)
theorem dX5_raised_27 : decode cX5_raised 27 = .ok (.lmul, 1) := z_row zl_cX5_raised 27 8723561 (Nat.le_of_ble_eq_true rfl) (by decide +kernel) z_o105 (by decide +kernel)
theorem dX5_raised_28 : decode cX5_raised 28 = .ok (.iload_n 2, 1) := z_row zl_cX5_raised 28 7439644 (Nat.le_of_ble_eq_true rfl) (by decide +kernel) z_o28 (by decide +kernel)
theorem dX5_raised_29 : decode cX5_raised 29 = .ok (.i2l, 1) := z_row zl_cX5_raised 29 4354437 (Nat.le_of_ble_eq_true rfl) (by decide +kernel) z_o133 (by decide +kernel)
theorem dX5_raised_30 : decode cX5_raised 30 = .ok (.lrem, 1) := z_row zl_cX5_raised 30 1458801 (Nat.le_of_ble_eq_true rfl) (by decide +kernel) z_o113 (by decide +kernel)
theorem dX5_raised_31 : decode cX5_raised 31 = .ok (.lstore_n 3, 1) := z_row zl_cX5_raised 31 333378 (Nat.le_of_ble_eq_true rfl) (by decide +kernel) z_o66 (by decide +kernel)
theorem dX5_raised_32 : decode cX5_raised 32 = .ok (.lload 5, 2) := z_row zl_cX5_raised 32 1443094 (Nat.le_of_ble_eq_true rfl) (by decide +kernel) z_o22 (by decide +kernel)
theorem dX5_raised_34 : decode cX5_raised 34 = .ok (.lload 5, 2) := z_row zl_cX5_raised 34 6882582 (Nat.le_of_ble_eq_true rfl) (by decide +kernel) z_o22 (by decide +kernel)
theorem dX5_raised_36 : decode cX5_raised 36 = .ok (.lmul, 1) := z_row zl_cX5_raised 36 8723561 (Nat.le_of_ble_eq_true rfl) (by decide +kernel) z_o105 (by decide +kernel)
theorem dX5_raised_37 : decode cX5_raised 37 = .ok (.iload_n 2, 1) := z_row zl_cX5_raised 37 7439644 (Nat.le_of_ble_eq_true rfl) (by decide +kernel) z_o28 (by decide +kernel)
theorem dX5_raised_38 : decode cX5_raised 38 = .ok (.i2l, 1) := z_row zl_cX5_raised 38 3633541 (Nat.le_of_ble_eq_true rfl) (by decide +kernel) z_o133 (by decide +kernel)
theorem dX5_raised_39 : decode cX5_raised 39 = .ok (.lrem, 1) := z_row zl_cX5_raised 39 341873 (Nat.le_of_ble_eq_true rfl) (by decide +kernel) z_o113 (by decide +kernel)
theorem dX5_raised_40 : decode cX5_raised 40 = .ok (.lstore 5, 2) := z_row zl_cX5_raised 40 1377591 (Nat.le_of_ble_eq_true rfl) (by decide +kernel) z_o55 (by decide +kernel)
theorem dX5_raised_42 : decode cX5_raised 42 = .ok (.iload 7, 2) := z_row zl_cX5_raised 42 329493 (Nat.le_of_ble_eq_true rfl) (by decide +kernel) z_o21 (by decide +kernel)
theorem dX5_raised_44 : decode cX5_raised 44 = .ok (.iconst 2, 1) := z_row zl_cX5_raised 44 3566597 (Nat.le_of_ble_eq_true rfl) (by decide +kernel) z_o5 (by decide +kernel)
theorem dX5_raised_45 : decode cX5_raised 45 = .ok (.idiv, 1) := z_row zl_cX5_raised 45 472684 (Nat.le_of_ble_eq_true rfl) (by decide +kernel) z_o108 (by decide +kernel)
theorem dX5_raised_46 : decode cX5_raised 46 = .ok (.istore 7, 2) := z_row zl_cX5_raised 46 10946358 (Nat.le_of_ble_eq_true rfl) (by decide +kernel) z_o54 (by decide +kernel)
theorem dX5_raised_48 : decode cX5_raised 48 = .ok (.goto (-37), 3) := z_row zl_cX5_raised 48 14417831 (Nat.le_of_ble_eq_true rfl) (by decide +kernel) z_o167 (by decide +kernel)
theorem dX5_raised_51 : decode cX5_raised 51 = .ok (.lload_n 3, 1) := z_row zl_cX5_raised 51 11307041 (Nat.le_of_ble_eq_true rfl) (by decide +kernel) z_o33 (by decide +kernel)
set_option maxRecDepth 100000 in
theorem dX5_raised_52 : decode cX5_raised 52 = .ok (.l2i, 1) := by decide +kernel
set_option maxRecDepth 100000 in
theorem dX5_raised_53 : decode cX5_raised 53 = .ok (.ireturn, 1) := by decide +kernel
set_option maxRecDepth 100000 in
theorem dX5_sealBy_0 : decode cX5_sealBy 0 = .ok (.getstatic 59, 3) := by decide +kernel
set_option maxRecDepth 100000 in
theorem dX5_sealBy_3 : decode cX5_sealBy 3 = .ok (.aload_n 0, 1) := by decide +kernel
set_option maxRecDepth 100000 in
theorem dX5_sealBy_4 : decode cX5_sealBy 4 = .ok (.getfield 7, 3) := by decide +kernel
set_option maxRecDepth 100000 in
theorem dX5_sealBy_7 : decode cX5_sealBy 7 = .ok (.iaload, 1) := by decide +kernel
set_option maxRecDepth 100000 in
theorem dX5_sealBy_8 : decode cX5_sealBy 8 = .ok (.iload_n 1, 1) := by decide +kernel
set_option maxRecDepth 100000 in
theorem dX5_sealBy_9 : decode cX5_sealBy 9 = .ok (.aload_n 0, 1) := by decide +kernel
set_option maxRecDepth 100000 in
theorem dX5_sealBy_10 : decode cX5_sealBy 10 = .ok (.invokevirtual 62, 3) := by decide +kernel
set_option maxRecDepth 100000 in
theorem dX5_sealBy_13 : decode cX5_sealBy 13 = .ok (.invokestatic 65, 3) := by decide +kernel
set_option maxRecDepth 100000 in
theorem dX5_sealBy_16 : decode cX5_sealBy 16 = .ok (.ireturn, 1) := by decide +kernel
set_option maxRecDepth 100000 in
theorem dX5_prime_0 : decode cX5_prime 0 = .ok (.aload_n 0, 1) := by decide +kernel
set_option maxRecDepth 100000 in
theorem dX5_prime_1 : decode cX5_prime 1 = .ok (.iload_n 1, 1) := by decide +kernel
set_option maxRecDepth 100000 in
theorem dX5_prime_2 : decode cX5_prime 2 = .ok (.iconst 0, 1) := by decide +kernel
set_option maxRecDepth 100000 in
theorem dX5_prime_3 : decode cX5_prime 3 = .ok (.bipush 6, 2) := by decide +kernel
set_option maxRecDepth 100000 in
theorem dX5_prime_5 : decode cX5_prime 5 = .ok (.invokestatic 48, 3) := by decide +kernel
set_option maxRecDepth 100000 in
theorem dX5_prime_8 : decode cX5_prime 8 = .ok (.ifCond .ne 7, 3) := by decide +kernel
set_option maxRecDepth 100000 in
theorem dX5_prime_11 : decode cX5_prime 11 = .ok (.iconst 1, 1) := by decide +kernel
set_option maxRecDepth 100000 in
theorem dX5_prime_12 : decode cX5_prime 12 = .ok (.goto 4, 3) := by decide +kernel
set_option maxRecDepth 100000 in
theorem dX5_prime_15 : decode cX5_prime 15 = .ok (.iconst 0, 1) := by decide +kernel
set_option maxRecDepth 100000 in
theorem dX5_prime_16 : decode cX5_prime 16 = .ok (.iconst 1, 1) := by decide +kernel
set_option maxRecDepth 100000 in
theorem dX5_prime_17 : decode cX5_prime 17 = .ok (.invokevirtual 69, 3) := by decide +kernel
set_option maxRecDepth 100000 in
theorem dX5_prime_20 : decode cX5_prime 20 = .ok (.ifCond .eq 5, 3) := by decide +kernel
set_option maxRecDepth 100000 in
theorem dX5_prime_23 : decode cX5_prime 23 = .ok (.iconst 0, 1) := by decide +kernel
def zN_cX5_prime : Nat := 0xac1cf2ffa70103844800b61d2a0e00a206101d3e030700b51b2a3d2600b62aac030500994500b604030400a70407009a3000b80610031b2a
set_option maxRecDepth 100000 in
theorem zl_cX5_prime : cX5_prime.data.toList = z_un 56 zN_cX5_prime := eq_of_beq (by decide +kernel)
theorem dX5_prime_24 : decode cX5_prime 24 = .ok (.ireturn, 1) := z_row zl_cX5_prime 24 11938476 (Nat.le_of_ble_eq_true rfl) (by decide +kernel) z_o172 (by decide +kernel)
theorem dX5_prime_25 : decode cX5_prime 25 = .ok (.aload_n 0, 1) := z_row zl_cX5_prime 25 46634 (Nat.le_of_ble_eq_true rfl) (by decide +kernel) z_o42 (by decide +kernel)
theorem dX5_prime_26 : decode cX5_prime 26 = .ok (.invokevirtual 38, 3) := z_row zl_cX5_prime 26 2490550 (Nat.le_of_ble_eq_true rfl) (by decide +kernel) z_o182 (by decide +kernel)
theorem dX5_prime_29 : decode cX5_prime 29 = .ok (.istore_n 2, 1) := z_row zl_cX5_prime 29 1780285 (Nat.le_of_ble_eq_true rfl) (by decide +kernel) z_o61 (by decide +kernel)
theorem dX5_prime_30 : decode cX5_prime 30 = .ok (.aload_n 0, 1) := z_row zl_cX5_prime 30 11868970 (Nat.le_of_ble_eq_true rfl) (by decide +kernel) z_o42 (by decide +kernel)
theorem dX5_prime_31 : decode cX5_prime 31 = .ok (.iload_n 1, 1) := z_row zl_cX5_prime 31 46363 (Nat.le_of_ble_eq_true rfl) (by decide +kernel) z_o27 (by decide +kernel)
theorem dX5_prime_32 : decode cX5_prime 32 = .ok (.putfield 7, 3) := z_row zl_cX5_prime 32 458933 (Nat.le_of_ble_eq_true rfl) (by decide +kernel) z_o181 (by decide +kernel)
theorem dX5_prime_35 : decode cX5_prime 35 = .ok (.iconst 0, 1) := z_row zl_cX5_prime 35 1916419 (Nat.le_of_ble_eq_true rfl) (by decide +kernel) z_o3 (by decide +kernel)
theorem dX5_prime_36 : decode cX5_prime 36 = .ok (.istore_n 3, 1) := z_row zl_cX5_prime 36 1056062 (Nat.le_of_ble_eq_true rfl) (by decide +kernel) z_o62 (by decide +kernel)
theorem dX5_prime_37 : decode cX5_prime 37 = .ok (.iload_n 3, 1) := z_row zl_cX5_prime 37 397341 (Nat.le_of_ble_eq_true rfl) (by decide +kernel) z_o29 (by decide +kernel)
theorem dX5_prime_38 : decode cX5_prime 38 = .ok (.bipush 6, 2) := z_row zl_cX5_prime 38 10618384 (Nat.le_of_ble_eq_true rfl) (by decide +kernel) z_o16 (by decide +kernel)
theorem dX5_prime_40 : decode cX5_prime 40 = .ok (.if_icmp .ge 14, 3) := z_row zl_cX5_prime 40 917666 (Nat.le_of_ble_eq_true rfl) (by decide +kernel) z_o162 (by decide +kernel)
theorem dX5_prime_43 : decode cX5_prime 43 = .ok (.aload_n 0, 1) := z_row zl_cX5_prime 43 11935018 (Nat.le_of_ble_eq_true rfl) (by decide +kernel) z_o42 (by decide +kernel)
theorem dX5_prime_44 : decode cX5_prime 44 = .ok (.iload_n 3, 1) := z_row zl_cX5_prime 44 46621 (Nat.le_of_ble_eq_true rfl) (by decide +kernel) z_o29 (by decide +kernel)
theorem dX5_prime_45 : decode cX5_prime 45 = .ok (.invokevirtual 72, 3) := z_row zl_cX5_prime 45 4718774 (Nat.le_of_ble_eq_true rfl) (by decide +kernel) z_o182 (by decide +kernel)
theorem dX5_prime_48 : decode cX5_prime 48 = .ok (.iinc 3 1, 3) := z_row zl_cX5_prime 48 66436 (Nat.le_of_ble_eq_true rfl) (by decide +kernel) z_o132 (by decide +kernel)
theorem dX5_prime_51 : decode cX5_prime 51 = .ok (.goto (-14), 3) := z_row zl_cX5_prime 51 15925159 (Nat.le_of_ble_eq_true rfl) (by decide +kernel) z_o167 (by decide +kernel)
set_option maxRecDepth 100000 in
theorem dX5_prime_54 : decode cX5_prime 54 = .ok (.iload_n 2, 1) := by decide +kernel
set_option maxRecDepth 100000 in
theorem dX5_prime_55 : decode cX5_prime 55 = .ok (.ireturn, 1) := by decide +kernel
set_option maxRecDepth 100000 in
theorem dX5_rest_0 : decode cX5_rest 0 = .ok (.aload_n 0, 1) := by decide +kernel
set_option maxRecDepth 100000 in
theorem dX5_rest_1 : decode cX5_rest 1 = .ok (.iconst 0, 1) := by decide +kernel
set_option maxRecDepth 100000 in
theorem dX5_rest_2 : decode cX5_rest 2 = .ok (.putfield 25, 3) := by decide +kernel
set_option maxRecDepth 100000 in
theorem dX5_rest_5 : decode cX5_rest 5 = .ok (.aload_n 0, 1) := by decide +kernel
set_option maxRecDepth 100000 in
theorem dX5_rest_6 : decode cX5_rest 6 = .ok (.iload_n 1, 1) := by decide +kernel
set_option maxRecDepth 100000 in
theorem dX5_rest_7 : decode cX5_rest 7 = .ok (.i2l, 1) := by decide +kernel
set_option maxRecDepth 100000 in
theorem dX5_rest_8 : decode cX5_rest 8 = .ok (.invokevirtual 55, 3) := by decide +kernel
set_option maxRecDepth 100000 in
theorem dX5_rest_11 : decode cX5_rest 11 = .ok (.ireturn, 1) := by decide +kernel
set_option maxRecDepth 100000 in
theorem dX5_reckon_0 : decode cX5_reckon 0 = .ok (.aload_n 0, 1) := by decide +kernel
set_option maxRecDepth 100000 in
theorem dX5_reckon_1 : decode cX5_reckon 1 = .ok (.iload_n 3, 1) := by decide +kernel
set_option maxRecDepth 100000 in
theorem dX5_reckon_2 : decode cX5_reckon 2 = .ok (.iconst 0, 1) := by decide +kernel
set_option maxRecDepth 100000 in
theorem dX5_reckon_3 : decode cX5_reckon 3 = .ok (.iconst 3, 1) := by decide +kernel
set_option maxRecDepth 100000 in
theorem dX5_reckon_4 : decode cX5_reckon 4 = .ok (.invokestatic 48, 3) := by decide +kernel
set_option maxRecDepth 100000 in
theorem dX5_reckon_7 : decode cX5_reckon 7 = .ok (.ifCond .ne 7, 3) := by decide +kernel
set_option maxRecDepth 100000 in
theorem dX5_reckon_10 : decode cX5_reckon 10 = .ok (.iconst 1, 1) := by decide +kernel
set_option maxRecDepth 100000 in
theorem dX5_reckon_11 : decode cX5_reckon 11 = .ok (.goto 4, 3) := by decide +kernel
set_option maxRecDepth 100000 in
theorem dX5_reckon_14 : decode cX5_reckon 14 = .ok (.iconst 0, 1) := by decide +kernel
set_option maxRecDepth 100000 in
theorem dX5_reckon_15 : decode cX5_reckon 15 = .ok (.iconst 1, 1) := by decide +kernel
set_option maxRecDepth 100000 in
theorem dX5_reckon_16 : decode cX5_reckon 16 = .ok (.invokevirtual 69, 3) := by decide +kernel
set_option maxRecDepth 100000 in
theorem dX5_reckon_19 : decode cX5_reckon 19 = .ok (.ifCond .eq 5, 3) := by decide +kernel
set_option maxRecDepth 100000 in
theorem dX5_reckon_22 : decode cX5_reckon 22 = .ok (.iconst 0, 1) := by decide +kernel
set_option maxRecDepth 100000 in
theorem dX5_reckon_23 : decode cX5_reckon 23 = .ok (.ireturn, 1) := by decide +kernel
def zN_cX5_reckon : Nat := 0xac3700b669854c00b63700b6851c2a2a853700b6851b2a2a1a00a7f71008009a3700b6851c2aac3700b669851c851b2a0d00a0051dac3700b665851c851b2a0d00a0041dac3700b661851c851b2a0d009a1dac030500994500b604030400a70407009a3000b806031d2a
set_option maxRecDepth 100000 in
theorem zl_cX5_reckon : cX5_reckon.data.toList = z_un 106 zN_cX5_reckon := eq_of_beq (by decide +kernel)
theorem dX5_reckon_24 : decode cX5_reckon 24 = .ok (.iload_n 3, 1) := z_row zl_cX5_reckon 24 39453 (Nat.le_of_ble_eq_true rfl) (by decide +kernel) z_o29 (by decide +kernel)
theorem dX5_reckon_25 : decode cX5_reckon 25 = .ok (.ifCond .ne 13, 3) := z_row zl_cX5_reckon 25 852122 (Nat.le_of_ble_eq_true rfl) (by decide +kernel) z_o154 (by decide +kernel)
theorem dX5_reckon_28 : decode cX5_reckon 28 = .ok (.aload_n 0, 1) := z_row zl_cX5_reckon 28 8723242 (Nat.le_of_ble_eq_true rfl) (by decide +kernel) z_o42 (by decide +kernel)
theorem dX5_reckon_29 : decode cX5_reckon 29 = .ok (.iload_n 1, 1) := z_row zl_cX5_reckon 29 1869083 (Nat.le_of_ble_eq_true rfl) (by decide +kernel) z_o27 (by decide +kernel)
theorem dX5_reckon_30 : decode cX5_reckon 30 = .ok (.i2l, 1) := z_row zl_cX5_reckon 30 8723589 (Nat.le_of_ble_eq_true rfl) (by decide +kernel) z_o133 (by decide +kernel)
theorem dX5_reckon_31 : decode cX5_reckon 31 = .ok (.iload_n 2, 1) := z_row zl_cX5_reckon 31 6391068 (Nat.le_of_ble_eq_true rfl) (by decide +kernel) z_o28 (by decide +kernel)
theorem dX5_reckon_32 : decode cX5_reckon 32 = .ok (.i2l, 1) := z_row zl_cX5_reckon 32 11952517 (Nat.le_of_ble_eq_true rfl) (by decide +kernel) z_o133 (by decide +kernel)
theorem dX5_reckon_33 : decode cX5_reckon 33 = .ok (.ladd, 1) := z_row zl_cX5_reckon 33 46689 (Nat.le_of_ble_eq_true rfl) (by decide +kernel) z_o97 (by decide +kernel)
theorem dX5_reckon_34 : decode cX5_reckon 34 = .ok (.invokevirtual 55, 3) := z_row zl_cX5_reckon 34 3604662 (Nat.le_of_ble_eq_true rfl) (by decide +kernel) z_o182 (by decide +kernel)
theorem dX5_reckon_37 : decode cX5_reckon 37 = .ok (.ireturn, 1) := z_row zl_cX5_reckon 37 269740 (Nat.le_of_ble_eq_true rfl) (by decide +kernel) z_o172 (by decide +kernel)
theorem dX5_reckon_38 : decode cX5_reckon 38 = .ok (.iload_n 3, 1) := z_row zl_cX5_reckon 38 10486813 (Nat.le_of_ble_eq_true rfl) (by decide +kernel) z_o29 (by decide +kernel)
theorem dX5_reckon_39 : decode cX5_reckon 39 = .ok (.iconst 1, 1) := z_row zl_cX5_reckon 39 40964 (Nat.le_of_ble_eq_true rfl) (by decide +kernel) z_o4 (by decide +kernel)
theorem dX5_reckon_40 : decode cX5_reckon 40 = .ok (.if_icmp .ne 13, 3) := z_row zl_cX5_reckon 40 852128 (Nat.le_of_ble_eq_true rfl) (by decide +kernel) z_o160 (by decide +kernel)
theorem dX5_reckon_43 : decode cX5_reckon 43 = .ok (.aload_n 0, 1) := z_row zl_cX5_reckon 43 8723242 (Nat.le_of_ble_eq_true rfl) (by decide +kernel) z_o42 (by decide +kernel)
theorem dX5_reckon_44 : decode cX5_reckon 44 = .ok (.iload_n 1, 1) := z_row zl_cX5_reckon 44 1869083 (Nat.le_of_ble_eq_true rfl) (by decide +kernel) z_o27 (by decide +kernel)
theorem dX5_reckon_45 : decode cX5_reckon 45 = .ok (.i2l, 1) := z_row zl_cX5_reckon 45 8723589 (Nat.le_of_ble_eq_true rfl) (by decide +kernel) z_o133 (by decide +kernel)
theorem dX5_reckon_46 : decode cX5_reckon 46 = .ok (.iload_n 2, 1) := z_row zl_cX5_reckon 46 6653212 (Nat.le_of_ble_eq_true rfl) (by decide +kernel) z_o28 (by decide +kernel)
theorem dX5_reckon_47 : decode cX5_reckon 47 = .ok (.i2l, 1) := z_row zl_cX5_reckon 47 11953541 (Nat.le_of_ble_eq_true rfl) (by decide +kernel) z_o133 (by decide +kernel)
theorem dX5_reckon_48 : decode cX5_reckon 48 = .ok (.lsub, 1) := z_row zl_cX5_reckon 48 46693 (Nat.le_of_ble_eq_true rfl) (by decide +kernel) z_o101 (by decide +kernel)
theorem dX5_reckon_49 : decode cX5_reckon 49 = .ok (.invokevirtual 55, 3) := z_row zl_cX5_reckon 49 3604662 (Nat.le_of_ble_eq_true rfl) (by decide +kernel) z_o182 (by decide +kernel)
theorem dX5_reckon_52 : decode cX5_reckon 52 = .ok (.ireturn, 1) := z_row zl_cX5_reckon 52 335276 (Nat.le_of_ble_eq_true rfl) (by decide +kernel) z_o172 (by decide +kernel)
theorem dX5_reckon_53 : decode cX5_reckon 53 = .ok (.iload_n 3, 1) := z_row zl_cX5_reckon 53 10487069 (Nat.le_of_ble_eq_true rfl) (by decide +kernel) z_o29 (by decide +kernel)
theorem dX5_reckon_54 : decode cX5_reckon 54 = .ok (.iconst 2, 1) := z_row zl_cX5_reckon 54 40965 (Nat.le_of_ble_eq_true rfl) (by decide +kernel) z_o5 (by decide +kernel)
theorem dX5_reckon_55 : decode cX5_reckon 55 = .ok (.if_icmp .ne 13, 3) := z_row zl_cX5_reckon 55 852128 (Nat.le_of_ble_eq_true rfl) (by decide +kernel) z_o160 (by decide +kernel)
theorem dX5_reckon_58 : decode cX5_reckon 58 = .ok (.aload_n 0, 1) := z_row zl_cX5_reckon 58 8723242 (Nat.le_of_ble_eq_true rfl) (by decide +kernel) z_o42 (by decide +kernel)
theorem dX5_reckon_59 : decode cX5_reckon 59 = .ok (.iload_n 1, 1) := z_row zl_cX5_reckon 59 1869083 (Nat.le_of_ble_eq_true rfl) (by decide +kernel) z_o27 (by decide +kernel)
theorem dX5_reckon_60 : decode cX5_reckon 60 = .ok (.i2l, 1) := z_row zl_cX5_reckon 60 8723589 (Nat.le_of_ble_eq_true rfl) (by decide +kernel) z_o133 (by decide +kernel)
theorem dX5_reckon_61 : decode cX5_reckon 61 = .ok (.iload_n 2, 1) := z_row zl_cX5_reckon 61 6915356 (Nat.le_of_ble_eq_true rfl) (by decide +kernel) z_o28 (by decide +kernel)
theorem dX5_reckon_62 : decode cX5_reckon 62 = .ok (.i2l, 1) := z_row zl_cX5_reckon 62 11954565 (Nat.le_of_ble_eq_true rfl) (by decide +kernel) z_o133 (by decide +kernel)
theorem dX5_reckon_63 : decode cX5_reckon 63 = .ok (.lmul, 1) := z_row zl_cX5_reckon 63 46697 (Nat.le_of_ble_eq_true rfl) (by decide +kernel) z_o105 (by decide +kernel)
theorem dX5_reckon_64 : decode cX5_reckon 64 = .ok (.invokevirtual 55, 3) := z_row zl_cX5_reckon 64 3604662 (Nat.le_of_ble_eq_true rfl) (by decide +kernel) z_o182 (by decide +kernel)
theorem dX5_reckon_67 : decode cX5_reckon 67 = .ok (.ireturn, 1) := z_row zl_cX5_reckon 67 1845932 (Nat.le_of_ble_eq_true rfl) (by decide +kernel) z_o172 (by decide +kernel)
theorem dX5_reckon_68 : decode cX5_reckon 68 = .ok (.aload_n 0, 1) := z_row zl_cX5_reckon 68 8723498 (Nat.le_of_ble_eq_true rfl) (by decide +kernel) z_o42 (by decide +kernel)
theorem dX5_reckon_69 : decode cX5_reckon 69 = .ok (.iload_n 2, 1) := z_row zl_cX5_reckon 69 11961628 (Nat.le_of_ble_eq_true rfl) (by decide +kernel) z_o28 (by decide +kernel)
theorem dX5_reckon_70 : decode cX5_reckon 70 = .ok (.i2l, 1) := z_row zl_cX5_reckon 70 46725 (Nat.le_of_ble_eq_true rfl) (by decide +kernel) z_o133 (by decide +kernel)
theorem dX5_reckon_71 : decode cX5_reckon 71 = .ok (.invokevirtual 55, 3) := z_row zl_cX5_reckon 71 3604662 (Nat.le_of_ble_eq_true rfl) (by decide +kernel) z_o182 (by decide +kernel)
theorem dX5_reckon_74 : decode cX5_reckon 74 = .ok (.ifCond .ne 8, 3) := z_row zl_cX5_reckon 74 524442 (Nat.le_of_ble_eq_true rfl) (by decide +kernel) z_o154 (by decide +kernel)
theorem dX5_reckon_77 : decode cX5_reckon 77 = .ok (.bipush (-9), 2) := z_row zl_cX5_reckon 77 11007760 (Nat.le_of_ble_eq_true rfl) (by decide +kernel) z_o16 (by decide +kernel)
theorem dX5_reckon_79 : decode cX5_reckon 79 = .ok (.goto 26, 3) := z_row zl_cX5_reckon 79 1704103 (Nat.le_of_ble_eq_true rfl) (by decide +kernel) z_o167 (by decide +kernel)
theorem dX5_reckon_82 : decode cX5_reckon 82 = .ok (.aload_n 0, 1) := z_row zl_cX5_reckon 82 1780266 (Nat.le_of_ble_eq_true rfl) (by decide +kernel) z_o42 (by decide +kernel)
theorem dX5_reckon_83 : decode cX5_reckon 83 = .ok (.aload_n 0, 1) := z_row zl_cX5_reckon 83 8723242 (Nat.le_of_ble_eq_true rfl) (by decide +kernel) z_o42 (by decide +kernel)
theorem dX5_reckon_84 : decode cX5_reckon 84 = .ok (.iload_n 1, 1) := z_row zl_cX5_reckon 84 11961627 (Nat.le_of_ble_eq_true rfl) (by decide +kernel) z_o27 (by decide +kernel)
theorem dX5_reckon_85 : decode cX5_reckon 85 = .ok (.i2l, 1) := z_row zl_cX5_reckon 85 46725 (Nat.le_of_ble_eq_true rfl) (by decide +kernel) z_o133 (by decide +kernel)
theorem dX5_reckon_86 : decode cX5_reckon 86 = .ok (.invokevirtual 55, 3) := z_row zl_cX5_reckon 86 3604662 (Nat.le_of_ble_eq_true rfl) (by decide +kernel) z_o182 (by decide +kernel)
theorem dX5_reckon_89 : decode cX5_reckon 89 = .ok (.i2l, 1) := z_row zl_cX5_reckon 89 2763397 (Nat.le_of_ble_eq_true rfl) (by decide +kernel) z_o133 (by decide +kernel)
theorem dX5_reckon_90 : decode cX5_reckon 90 = .ok (.aload_n 0, 1) := z_row zl_cX5_reckon 90 1845802 (Nat.le_of_ble_eq_true rfl) (by decide +kernel) z_o42 (by decide +kernel)
theorem dX5_reckon_91 : decode cX5_reckon 91 = .ok (.aload_n 0, 1) := z_row zl_cX5_reckon 91 8723498 (Nat.le_of_ble_eq_true rfl) (by decide +kernel) z_o42 (by decide +kernel)
theorem dX5_reckon_92 : decode cX5_reckon 92 = .ok (.iload_n 2, 1) := z_row zl_cX5_reckon 92 11961628 (Nat.le_of_ble_eq_true rfl) (by decide +kernel) z_o28 (by decide +kernel)
theorem dX5_reckon_93 : decode cX5_reckon 93 = .ok (.i2l, 1) := z_row zl_cX5_reckon 93 46725 (Nat.le_of_ble_eq_true rfl) (by decide +kernel) z_o133 (by decide +kernel)
theorem dX5_reckon_94 : decode cX5_reckon 94 = .ok (.invokevirtual 55, 3) := z_row zl_cX5_reckon 94 3604662 (Nat.le_of_ble_eq_true rfl) (by decide +kernel) z_o182 (by decide +kernel)
theorem dX5_reckon_97 : decode cX5_reckon 97 = .ok (.invokevirtual 76, 3) := z_row zl_cX5_reckon 97 4980918 (Nat.le_of_ble_eq_true rfl) (by decide +kernel) z_o182 (by decide +kernel)
theorem dX5_reckon_100 : decode cX5_reckon 100 = .ok (.i2l, 1) := z_row zl_cX5_reckon 100 11954565 (Nat.le_of_ble_eq_true rfl) (by decide +kernel) z_o133 (by decide +kernel)
theorem dX5_reckon_101 : decode cX5_reckon 101 = .ok (.lmul, 1) := z_row zl_cX5_reckon 101 46697 (Nat.le_of_ble_eq_true rfl) (by decide +kernel) z_o105 (by decide +kernel)
theorem dX5_reckon_102 : decode cX5_reckon 102 = .ok (.invokevirtual 55, 3) := z_row zl_cX5_reckon 102 3604662 (Nat.le_of_ble_eq_true rfl) (by decide +kernel) z_o182 (by decide +kernel)
set_option maxRecDepth 100000 in
theorem dX5_reckon_105 : decode cX5_reckon 105 = .ok (.ireturn, 1) := by decide +kernel
set_option maxRecDepth 100000 in
theorem dX5_reciprocal_0 : decode cX5_reciprocal 0 = .ok (.aload_n 0, 1) := by decide +kernel
set_option maxRecDepth 100000 in
theorem dX5_reciprocal_1 : decode cX5_reciprocal 1 = .ok (.iconst 0, 1) := by decide +kernel
set_option maxRecDepth 100000 in
theorem dX5_reciprocal_2 : decode cX5_reciprocal 2 = .ok (.putfield 25, 3) := by decide +kernel
set_option maxRecDepth 100000 in
theorem dX5_reciprocal_5 : decode cX5_reciprocal 5 = .ok (.aload_n 0, 1) := by decide +kernel
set_option maxRecDepth 100000 in
theorem dX5_reciprocal_6 : decode cX5_reciprocal 6 = .ok (.iload_n 1, 1) := by decide +kernel
set_option maxRecDepth 100000 in
theorem dX5_reciprocal_7 : decode cX5_reciprocal 7 = .ok (.i2l, 1) := by decide +kernel
set_option maxRecDepth 100000 in
theorem dX5_reciprocal_8 : decode cX5_reciprocal 8 = .ok (.invokevirtual 55, 3) := by decide +kernel
set_option maxRecDepth 100000 in
theorem dX5_reciprocal_11 : decode cX5_reciprocal 11 = .ok (.ifCond .ne 8, 3) := by decide +kernel
set_option maxRecDepth 100000 in
theorem dX5_reciprocal_14 : decode cX5_reciprocal 14 = .ok (.bipush (-9), 2) := by decide +kernel
set_option maxRecDepth 100000 in
theorem dX5_reciprocal_16 : decode cX5_reciprocal 16 = .ok (.goto 13, 3) := by decide +kernel
set_option maxRecDepth 100000 in
theorem dX5_reciprocal_19 : decode cX5_reciprocal 19 = .ok (.aload_n 0, 1) := by decide +kernel
set_option maxRecDepth 100000 in
theorem dX5_reciprocal_20 : decode cX5_reciprocal 20 = .ok (.aload_n 0, 1) := by decide +kernel
set_option maxRecDepth 100000 in
theorem dX5_reciprocal_21 : decode cX5_reciprocal 21 = .ok (.iload_n 1, 1) := by decide +kernel
set_option maxRecDepth 100000 in
theorem dX5_reciprocal_22 : decode cX5_reciprocal 22 = .ok (.i2l, 1) := by decide +kernel
set_option maxRecDepth 100000 in
theorem dX5_reciprocal_23 : decode cX5_reciprocal 23 = .ok (.invokevirtual 55, 3) := by decide +kernel
def zN_cX5_reciprocal : Nat := 0xac4c00b63700b6851b2a2a0d00a7f71008009a3700b6851b2a1900b5032a
set_option maxRecDepth 100000 in
theorem zl_cX5_reciprocal : cX5_reciprocal.data.toList = z_un 30 zN_cX5_reciprocal := eq_of_beq (by decide +kernel)
theorem dX5_reciprocal_26 : decode cX5_reciprocal 26 = .ok (.invokevirtual 76, 3) := z_row zl_cX5_reciprocal 26 4980918 (Nat.le_of_ble_eq_true rfl) (by decide +kernel) z_o182 (by decide +kernel)
set_option maxRecDepth 100000 in
theorem dX5_reciprocal_29 : decode cX5_reciprocal 29 = .ok (.ireturn, 1) := by decide +kernel
set_option maxRecDepth 100000 in
theorem dX5_power_0 : decode cX5_power 0 = .ok (.aload_n 0, 1) := by decide +kernel
set_option maxRecDepth 100000 in
theorem dX5_power_1 : decode cX5_power 1 = .ok (.iconst 0, 1) := by decide +kernel
set_option maxRecDepth 100000 in
theorem dX5_power_2 : decode cX5_power 2 = .ok (.putfield 25, 3) := by decide +kernel
set_option maxRecDepth 100000 in
theorem dX5_power_5 : decode cX5_power 5 = .ok (.aload_n 0, 1) := by decide +kernel
set_option maxRecDepth 100000 in
theorem dX5_power_6 : decode cX5_power 6 = .ok (.iload_n 1, 1) := by decide +kernel
set_option maxRecDepth 100000 in
theorem dX5_power_7 : decode cX5_power 7 = .ok (.i2l, 1) := by decide +kernel
set_option maxRecDepth 100000 in
theorem dX5_power_8 : decode cX5_power 8 = .ok (.invokevirtual 55, 3) := by decide +kernel
set_option maxRecDepth 100000 in
theorem dX5_power_11 : decode cX5_power 11 = .ok (.istore_n 3, 1) := by decide +kernel
set_option maxRecDepth 100000 in
theorem dX5_power_12 : decode cX5_power 12 = .ok (.iload_n 3, 1) := by decide +kernel
set_option maxRecDepth 100000 in
theorem dX5_power_13 : decode cX5_power 13 = .ok (.ifCond .ne 25, 3) := by decide +kernel
set_option maxRecDepth 100000 in
theorem dX5_power_16 : decode cX5_power 16 = .ok (.iload_n 2, 1) := by decide +kernel
set_option maxRecDepth 100000 in
theorem dX5_power_17 : decode cX5_power 17 = .ok (.ifCond .ge 8, 3) := by decide +kernel
set_option maxRecDepth 100000 in
theorem dX5_power_20 : decode cX5_power 20 = .ok (.bipush (-9), 2) := by decide +kernel
set_option maxRecDepth 100000 in
theorem dX5_power_22 : decode cX5_power 22 = .ok (.goto 15, 3) := by decide +kernel
def zN_cX5_power : Nat := 0xac4100b82600b62a04150500a76404602600b62a04150f009c04151d04367064042600b62a1cac5000b8030400a70407009a1c0f00a7f71008009c1c19009a1d3e3700b6851b2a1900b5032a
set_option maxRecDepth 100000 in
theorem zl_cX5_power : cX5_power.data.toList = z_un 76 zN_cX5_power := eq_of_beq (by decide +kernel)
theorem dX5_power_25 : decode cX5_power 25 = .ok (.iload_n 2, 1) := z_row zl_cX5_power 25 39452 (Nat.le_of_ble_eq_true rfl) (by decide +kernel) z_o28 (by decide +kernel)
theorem dX5_power_26 : decode cX5_power 26 = .ok (.ifCond .ne 7, 3) := z_row zl_cX5_power 26 458906 (Nat.le_of_ble_eq_true rfl) (by decide +kernel) z_o154 (by decide +kernel)
theorem dX5_power_29 : decode cX5_power 29 = .ok (.iconst 1, 1) := z_row zl_cX5_power 29 42756 (Nat.le_of_ble_eq_true rfl) (by decide +kernel) z_o4 (by decide +kernel)
theorem dX5_power_30 : decode cX5_power 30 = .ok (.goto 4, 3) := z_row zl_cX5_power 30 262311 (Nat.le_of_ble_eq_true rfl) (by decide +kernel) z_o167 (by decide +kernel)
theorem dX5_power_33 : decode cX5_power 33 = .ok (.iconst 0, 1) := z_row zl_cX5_power 33 47107 (Nat.le_of_ble_eq_true rfl) (by decide +kernel) z_o3 (by decide +kernel)
theorem dX5_power_34 : decode cX5_power 34 = .ok (.invokestatic 80, 3) := z_row zl_cX5_power 34 5243064 (Nat.le_of_ble_eq_true rfl) (by decide +kernel) z_o184 (by decide +kernel)
theorem dX5_power_37 : decode cX5_power 37 = .ok (.ireturn, 1) := z_row zl_cX5_power 37 2759852 (Nat.le_of_ble_eq_true rfl) (by decide +kernel) z_o172 (by decide +kernel)
theorem dX5_power_38 : decode cX5_power 38 = .ok (.iload_n 2, 1) := z_row zl_cX5_power 38 11938332 (Nat.le_of_ble_eq_true rfl) (by decide +kernel) z_o28 (by decide +kernel)
theorem dX5_power_39 : decode cX5_power 39 = .ok (.aload_n 0, 1) := z_row zl_cX5_power 39 46634 (Nat.le_of_ble_eq_true rfl) (by decide +kernel) z_o42 (by decide +kernel)
theorem dX5_power_40 : decode cX5_power 40 = .ok (.invokevirtual 38, 3) := z_row zl_cX5_power 40 2490550 (Nat.le_of_ble_eq_true rfl) (by decide +kernel) z_o182 (by decide +kernel)
theorem dX5_power_43 : decode cX5_power 43 = .ok (.iconst 1, 1) := z_row zl_cX5_power 43 7365636 (Nat.le_of_ble_eq_true rfl) (by decide +kernel) z_o4 (by decide +kernel)
theorem dX5_power_44 : decode cX5_power 44 = .ok (.isub, 1) := z_row zl_cX5_power 44 3567716 (Nat.le_of_ble_eq_true rfl) (by decide +kernel) z_o100 (by decide +kernel)
theorem dX5_power_45 : decode cX5_power 45 = .ok (.irem, 1) := z_row zl_cX5_power 45 276080 (Nat.le_of_ble_eq_true rfl) (by decide +kernel) z_o112 (by decide +kernel)
theorem dX5_power_46 : decode cX5_power 46 = .ok (.istore 4, 2) := z_row zl_cX5_power 46 1901622 (Nat.le_of_ble_eq_true rfl) (by decide +kernel) z_o54 (by decide +kernel)
theorem dX5_power_48 : decode cX5_power 48 = .ok (.iload_n 3, 1) := z_row zl_cX5_power 48 267549 (Nat.le_of_ble_eq_true rfl) (by decide +kernel) z_o29 (by decide +kernel)
theorem dX5_power_49 : decode cX5_power 49 = .ok (.iload 4, 2) := z_row zl_cX5_power 49 10224661 (Nat.le_of_ble_eq_true rfl) (by decide +kernel) z_o21 (by decide +kernel)
theorem dX5_power_51 : decode cX5_power 51 = .ok (.ifCond .ge 15, 3) := z_row zl_cX5_power 51 983196 (Nat.le_of_ble_eq_true rfl) (by decide +kernel) z_o156 (by decide +kernel)
theorem dX5_power_54 : decode cX5_power 54 = .ok (.iload 4, 2) := z_row zl_cX5_power 54 2753557 (Nat.le_of_ble_eq_true rfl) (by decide +kernel) z_o21 (by decide +kernel)
theorem dX5_power_56 : decode cX5_power 56 = .ok (.aload_n 0, 1) := z_row zl_cX5_power 56 46634 (Nat.le_of_ble_eq_true rfl) (by decide +kernel) z_o42 (by decide +kernel)
theorem dX5_power_57 : decode cX5_power 57 = .ok (.invokevirtual 38, 3) := z_row zl_cX5_power 57 2490550 (Nat.le_of_ble_eq_true rfl) (by decide +kernel) z_o182 (by decide +kernel)
theorem dX5_power_60 : decode cX5_power 60 = .ok (.iadd, 1) := z_row zl_cX5_power 60 6554720 (Nat.le_of_ble_eq_true rfl) (by decide +kernel) z_o96 (by decide +kernel)
theorem dX5_power_61 : decode cX5_power 61 = .ok (.iconst 1, 1) := z_row zl_cX5_power 61 10970116 (Nat.le_of_ble_eq_true rfl) (by decide +kernel) z_o4 (by decide +kernel)
theorem dX5_power_62 : decode cX5_power 62 = .ok (.isub, 1) := z_row zl_cX5_power 62 42852 (Nat.le_of_ble_eq_true rfl) (by decide +kernel) z_o100 (by decide +kernel)
theorem dX5_power_63 : decode cX5_power 63 = .ok (.goto 5, 3) := z_row zl_cX5_power 63 327847 (Nat.le_of_ble_eq_true rfl) (by decide +kernel) z_o167 (by decide +kernel)
theorem dX5_power_66 : decode cX5_power 66 = .ok (.iload 4, 2) := z_row zl_cX5_power 66 2753557 (Nat.le_of_ble_eq_true rfl) (by decide +kernel) z_o21 (by decide +kernel)
theorem dX5_power_68 : decode cX5_power 68 = .ok (.aload_n 0, 1) := z_row zl_cX5_power 68 46634 (Nat.le_of_ble_eq_true rfl) (by decide +kernel) z_o42 (by decide +kernel)
theorem dX5_power_69 : decode cX5_power 69 = .ok (.invokevirtual 38, 3) := z_row zl_cX5_power 69 2490550 (Nat.le_of_ble_eq_true rfl) (by decide +kernel) z_o182 (by decide +kernel)
theorem dX5_power_72 : decode cX5_power 72 = .ok (.invokestatic 65, 3) := z_row zl_cX5_power 72 4260024 (Nat.le_of_ble_eq_true rfl) (by decide +kernel) z_o184 (by decide +kernel)
set_option maxRecDepth 100000 in
theorem dX5_power_75 : decode cX5_power 75 = .ok (.ireturn, 1) := by decide +kernel
set_option maxRecDepth 100000 in
theorem dX5_sealOf_0 : decode cX5_sealOf 0 = .ok (.aload_n 0, 1) := by decide +kernel
set_option maxRecDepth 100000 in
theorem dX5_sealOf_1 : decode cX5_sealOf 1 = .ok (.iconst 0, 1) := by decide +kernel
set_option maxRecDepth 100000 in
theorem dX5_sealOf_2 : decode cX5_sealOf 2 = .ok (.putfield 25, 3) := by decide +kernel
set_option maxRecDepth 100000 in
theorem dX5_sealOf_5 : decode cX5_sealOf 5 = .ok (.aload_n 0, 1) := by decide +kernel
set_option maxRecDepth 100000 in
theorem dX5_sealOf_6 : decode cX5_sealOf 6 = .ok (.aload_n 0, 1) := by decide +kernel
set_option maxRecDepth 100000 in
theorem dX5_sealOf_7 : decode cX5_sealOf 7 = .ok (.iload_n 1, 1) := by decide +kernel
set_option maxRecDepth 100000 in
theorem dX5_sealOf_8 : decode cX5_sealOf 8 = .ok (.i2l, 1) := by decide +kernel
set_option maxRecDepth 100000 in
theorem dX5_sealOf_9 : decode cX5_sealOf 9 = .ok (.invokevirtual 55, 3) := by decide +kernel
set_option maxRecDepth 100000 in
theorem dX5_sealOf_12 : decode cX5_sealOf 12 = .ok (.invokevirtual 84, 3) := by decide +kernel
set_option maxRecDepth 100000 in
theorem dX5_sealOf_15 : decode cX5_sealOf 15 = .ok (.ireturn, 1) := by decide +kernel
set_option maxRecDepth 100000 in
theorem dX5_value_0 : decode cX5_value 0 = .ok (.lconst 0, 1) := by decide +kernel
set_option maxRecDepth 100000 in
theorem dX5_value_1 : decode cX5_value 1 = .ok (.lstore_n 3, 1) := by decide +kernel
set_option maxRecDepth 100000 in
theorem dX5_value_2 : decode cX5_value 2 = .ok (.aload_n 1, 1) := by decide +kernel
set_option maxRecDepth 100000 in
theorem dX5_value_3 : decode cX5_value 3 = .ok (.arraylength, 1) := by decide +kernel
set_option maxRecDepth 100000 in
theorem dX5_value_4 : decode cX5_value 4 = .ok (.iconst 1, 1) := by decide +kernel
set_option maxRecDepth 100000 in
theorem dX5_value_5 : decode cX5_value 5 = .ok (.isub, 1) := by decide +kernel
set_option maxRecDepth 100000 in
theorem dX5_value_6 : decode cX5_value 6 = .ok (.istore 5, 2) := by decide +kernel
set_option maxRecDepth 100000 in
theorem dX5_value_8 : decode cX5_value 8 = .ok (.iload 5, 2) := by decide +kernel
set_option maxRecDepth 100000 in
theorem dX5_value_10 : decode cX5_value 10 = .ok (.ifCond .lt 26, 3) := by decide +kernel
set_option maxRecDepth 100000 in
theorem dX5_value_13 : decode cX5_value 13 = .ok (.lload_n 3, 1) := by decide +kernel
set_option maxRecDepth 100000 in
theorem dX5_value_14 : decode cX5_value 14 = .ok (.iload_n 2, 1) := by decide +kernel
set_option maxRecDepth 100000 in
theorem dX5_value_15 : decode cX5_value 15 = .ok (.i2l, 1) := by decide +kernel
set_option maxRecDepth 100000 in
theorem dX5_value_16 : decode cX5_value 16 = .ok (.lmul, 1) := by decide +kernel
set_option maxRecDepth 100000 in
theorem dX5_value_17 : decode cX5_value 17 = .ok (.aload_n 1, 1) := by decide +kernel
set_option maxRecDepth 100000 in
theorem dX5_value_18 : decode cX5_value 18 = .ok (.iload 5, 2) := by decide +kernel
set_option maxRecDepth 100000 in
theorem dX5_value_20 : decode cX5_value 20 = .ok (.iaload, 1) := by decide +kernel
set_option maxRecDepth 100000 in
theorem dX5_value_21 : decode cX5_value 21 = .ok (.i2l, 1) := by decide +kernel
set_option maxRecDepth 100000 in
theorem dX5_value_22 : decode cX5_value 22 = .ok (.ladd, 1) := by decide +kernel
set_option maxRecDepth 100000 in
theorem dX5_value_23 : decode cX5_value 23 = .ok (.aload_n 0, 1) := by decide +kernel
def zN_cX5_value : Nat := 0xac8821e7ffa7ff05844271852600b62a61852e05152b69851c211a009b051505366404be2b4209
set_option maxRecDepth 100000 in
theorem zl_cX5_value : cX5_value.data.toList = z_un 39 zN_cX5_value := eq_of_beq (by decide +kernel)
theorem dX5_value_24 : decode cX5_value 24 = .ok (.invokevirtual 38, 3) := z_row zl_cX5_value 24 2490550 (Nat.le_of_ble_eq_true rfl) (by decide +kernel) z_o182 (by decide +kernel)
theorem dX5_value_27 : decode cX5_value 27 = .ok (.i2l, 1) := z_row zl_cX5_value 27 4354437 (Nat.le_of_ble_eq_true rfl) (by decide +kernel) z_o133 (by decide +kernel)
theorem dX5_value_28 : decode cX5_value 28 = .ok (.lrem, 1) := z_row zl_cX5_value 28 8667761 (Nat.le_of_ble_eq_true rfl) (by decide +kernel) z_o113 (by decide +kernel)
theorem dX5_value_29 : decode cX5_value 29 = .ok (.lstore_n 3, 1) := z_row zl_cX5_value 29 361538 (Nat.le_of_ble_eq_true rfl) (by decide +kernel) z_o66 (by decide +kernel)
theorem dX5_value_30 : decode cX5_value 30 = .ok (.iinc 5 (-1), 3) := z_row zl_cX5_value 30 16713092 (Nat.le_of_ble_eq_true rfl) (by decide +kernel) z_o132 (by decide +kernel)
theorem dX5_value_33 : decode cX5_value 33 = .ok (.goto (-25), 3) := z_row zl_cX5_value 33 15204263 (Nat.le_of_ble_eq_true rfl) (by decide +kernel) z_o167 (by decide +kernel)
theorem dX5_value_36 : decode cX5_value 36 = .ok (.lload_n 3, 1) := z_row zl_cX5_value 36 11307041 (Nat.le_of_ble_eq_true rfl) (by decide +kernel) z_o33 (by decide +kernel)
set_option maxRecDepth 100000 in
theorem dX5_value_37 : decode cX5_value 37 = .ok (.l2i, 1) := by decide +kernel
set_option maxRecDepth 100000 in
theorem dX5_value_38 : decode cX5_value 38 = .ok (.ireturn, 1) := by decide +kernel
set_option maxRecDepth 100000 in
theorem dX5_through_0 : decode cX5_through 0 = .ok (.bipush 7, 2) := by decide +kernel
set_option maxRecDepth 100000 in
theorem dX5_through_2 : decode cX5_through 2 = .ok (.newarray .int, 2) := by decide +kernel
set_option maxRecDepth 100000 in
theorem dX5_through_4 : decode cX5_through 4 = .ok (.astore_n 3, 1) := by decide +kernel
set_option maxRecDepth 100000 in
theorem dX5_through_5 : decode cX5_through 5 = .ok (.bipush 8, 2) := by decide +kernel
set_option maxRecDepth 100000 in
theorem dX5_through_7 : decode cX5_through 7 = .ok (.newarray .int, 2) := by decide +kernel
set_option maxRecDepth 100000 in
theorem dX5_through_9 : decode cX5_through 9 = .ok (.astore 4, 2) := by decide +kernel
set_option maxRecDepth 100000 in
theorem dX5_through_11 : decode cX5_through 11 = .ok (.aload 4, 2) := by decide +kernel
set_option maxRecDepth 100000 in
theorem dX5_through_13 : decode cX5_through 13 = .ok (.iconst 0, 1) := by decide +kernel
set_option maxRecDepth 100000 in
theorem dX5_through_14 : decode cX5_through 14 = .ok (.iconst 1, 1) := by decide +kernel
set_option maxRecDepth 100000 in
theorem dX5_through_15 : decode cX5_through 15 = .ok (.iastore, 1) := by decide +kernel
set_option maxRecDepth 100000 in
theorem dX5_through_16 : decode cX5_through 16 = .ok (.iconst 1, 1) := by decide +kernel
set_option maxRecDepth 100000 in
theorem dX5_through_17 : decode cX5_through 17 = .ok (.istore 5, 2) := by decide +kernel
set_option maxRecDepth 100000 in
theorem dX5_through_19 : decode cX5_through 19 = .ok (.iload 5, 2) := by decide +kernel
set_option maxRecDepth 100000 in
theorem dX5_through_21 : decode cX5_through 21 = .ok (.aload_n 0, 1) := by decide +kernel
set_option maxRecDepth 100000 in
theorem dX5_through_22 : decode cX5_through 22 = .ok (.invokevirtual 52, 3) := by decide +kernel
def zN_cX5_through : Nat := 0xb02d65ffa7010584d3ffa7ff07844f3700b66569852e0715041985051585030400a72e6404071504190d009e07152a071504192e009b071507360710deffa70107844f3700b66169852e07150419850615852e07152d2a07152d2100a30610071507360306363700b669854c00b65b00b6051504192a2a853700b665855b00b605152d2a852e05152b2a2a8600a706009a5700b805151c9800a33400b62a05150536044f04030419043a0abc08104e0abc0710
set_option maxRecDepth 100000 in
theorem zl_cX5_through : cX5_through.data.toList = z_un 179 zN_cX5_through := eq_of_beq (by decide +kernel)
theorem dX5_through_25 : decode cX5_through 25 = .ok (.if_icmp .gt 152, 3) := z_row zl_cX5_through 25 9961635 (Nat.le_of_ble_eq_true rfl) (by decide +kernel) z_o163 (by decide +kernel)
theorem dX5_through_28 : decode cX5_through 28 = .ok (.iload_n 2, 1) := z_row zl_cX5_through 28 333084 (Nat.le_of_ble_eq_true rfl) (by decide +kernel) z_o28 (by decide +kernel)
theorem dX5_through_29 : decode cX5_through 29 = .ok (.iload 5, 2) := z_row zl_cX5_through 29 12059925 (Nat.le_of_ble_eq_true rfl) (by decide +kernel) z_o21 (by decide +kernel)
theorem dX5_through_31 : decode cX5_through 31 = .ok (.invokestatic 87, 3) := z_row zl_cX5_through 31 5701816 (Nat.le_of_ble_eq_true rfl) (by decide +kernel) z_o184 (by decide +kernel)
theorem dX5_through_34 : decode cX5_through 34 = .ok (.ifCond .ne 6, 3) := z_row zl_cX5_through 34 393370 (Nat.le_of_ble_eq_true rfl) (by decide +kernel) z_o154 (by decide +kernel)
theorem dX5_through_37 : decode cX5_through 37 = .ok (.goto 134, 3) := z_row zl_cX5_through 37 8781991 (Nat.le_of_ble_eq_true rfl) (by decide +kernel) z_o167 (by decide +kernel)
theorem dX5_through_40 : decode cX5_through 40 = .ok (.aload_n 0, 1) := z_row zl_cX5_through 40 2828842 (Nat.le_of_ble_eq_true rfl) (by decide +kernel) z_o42 (by decide +kernel)
theorem dX5_through_41 : decode cX5_through 41 = .ok (.aload_n 0, 1) := z_row zl_cX5_through 41 1387306 (Nat.le_of_ble_eq_true rfl) (by decide +kernel) z_o42 (by decide +kernel)
theorem dX5_through_42 : decode cX5_through 42 = .ok (.aload_n 1, 1) := z_row zl_cX5_through 42 333099 (Nat.le_of_ble_eq_true rfl) (by decide +kernel) z_o43 (by decide +kernel)
theorem dX5_through_43 : decode cX5_through 43 = .ok (.iload 5, 2) := z_row zl_cX5_through 43 3015957 (Nat.le_of_ble_eq_true rfl) (by decide +kernel) z_o21 (by decide +kernel)
theorem dX5_through_45 : decode cX5_through 45 = .ok (.iaload, 1) := z_row zl_cX5_through 45 2786606 (Nat.le_of_ble_eq_true rfl) (by decide +kernel) z_o46 (by decide +kernel)
theorem dX5_through_46 : decode cX5_through 46 = .ok (.i2l, 1) := z_row zl_cX5_through 46 2960005 (Nat.le_of_ble_eq_true rfl) (by decide +kernel) z_o133 (by decide +kernel)
theorem dX5_through_47 : decode cX5_through 47 = .ok (.aload_n 0, 1) := z_row zl_cX5_through 47 1387818 (Nat.le_of_ble_eq_true rfl) (by decide +kernel) z_o42 (by decide +kernel)
theorem dX5_through_48 : decode cX5_through 48 = .ok (.aload_n 3, 1) := z_row zl_cX5_through 48 333101 (Nat.le_of_ble_eq_true rfl) (by decide +kernel) z_o45 (by decide +kernel)
theorem dX5_through_49 : decode cX5_through 49 = .ok (.iload 5, 2) := z_row zl_cX5_through 49 11928853 (Nat.le_of_ble_eq_true rfl) (by decide +kernel) z_o21 (by decide +kernel)
theorem dX5_through_51 : decode cX5_through 51 = .ok (.invokevirtual 91, 3) := z_row zl_cX5_through 51 5963958 (Nat.le_of_ble_eq_true rfl) (by decide +kernel) z_o182 (by decide +kernel)
theorem dX5_through_54 : decode cX5_through 54 = .ok (.i2l, 1) := z_row zl_cX5_through 54 11953541 (Nat.le_of_ble_eq_true rfl) (by decide +kernel) z_o133 (by decide +kernel)
theorem dX5_through_55 : decode cX5_through 55 = .ok (.lsub, 1) := z_row zl_cX5_through 55 46693 (Nat.le_of_ble_eq_true rfl) (by decide +kernel) z_o101 (by decide +kernel)
theorem dX5_through_56 : decode cX5_through 56 = .ok (.invokevirtual 55, 3) := z_row zl_cX5_through 56 3604662 (Nat.le_of_ble_eq_true rfl) (by decide +kernel) z_o182 (by decide +kernel)
theorem dX5_through_59 : decode cX5_through 59 = .ok (.i2l, 1) := z_row zl_cX5_through 59 2763397 (Nat.le_of_ble_eq_true rfl) (by decide +kernel) z_o133 (by decide +kernel)
theorem dX5_through_60 : decode cX5_through 60 = .ok (.aload_n 0, 1) := z_row zl_cX5_through 60 1649194 (Nat.le_of_ble_eq_true rfl) (by decide +kernel) z_o42 (by decide +kernel)
theorem dX5_through_61 : decode cX5_through 61 = .ok (.aload_n 0, 1) := z_row zl_cX5_through 61 268586 (Nat.le_of_ble_eq_true rfl) (by decide +kernel) z_o42 (by decide +kernel)
theorem dX5_through_62 : decode cX5_through 62 = .ok (.aload 4, 2) := z_row zl_cX5_through 62 1377305 (Nat.le_of_ble_eq_true rfl) (by decide +kernel) z_o25 (by decide +kernel)
theorem dX5_through_64 : decode cX5_through 64 = .ok (.iload 5, 2) := z_row zl_cX5_through 64 11928853 (Nat.le_of_ble_eq_true rfl) (by decide +kernel) z_o21 (by decide +kernel)
theorem dX5_through_66 : decode cX5_through 66 = .ok (.invokevirtual 91, 3) := z_row zl_cX5_through 66 5963958 (Nat.le_of_ble_eq_true rfl) (by decide +kernel) z_o182 (by decide +kernel)
theorem dX5_through_69 : decode cX5_through 69 = .ok (.invokevirtual 76, 3) := z_row zl_cX5_through 69 4980918 (Nat.le_of_ble_eq_true rfl) (by decide +kernel) z_o182 (by decide +kernel)
theorem dX5_through_72 : decode cX5_through 72 = .ok (.i2l, 1) := z_row zl_cX5_through 72 11954565 (Nat.le_of_ble_eq_true rfl) (by decide +kernel) z_o133 (by decide +kernel)
theorem dX5_through_73 : decode cX5_through 73 = .ok (.lmul, 1) := z_row zl_cX5_through 73 46697 (Nat.le_of_ble_eq_true rfl) (by decide +kernel) z_o105 (by decide +kernel)
theorem dX5_through_74 : decode cX5_through 74 = .ok (.invokevirtual 55, 3) := z_row zl_cX5_through 74 3604662 (Nat.le_of_ble_eq_true rfl) (by decide +kernel) z_o182 (by decide +kernel)
theorem dX5_through_77 : decode cX5_through 77 = .ok (.istore 6, 2) := z_row zl_cX5_through 77 198198 (Nat.le_of_ble_eq_true rfl) (by decide +kernel) z_o54 (by decide +kernel)
theorem dX5_through_79 : decode cX5_through 79 = .ok (.iconst 0, 1) := z_row zl_cX5_through 79 472579 (Nat.le_of_ble_eq_true rfl) (by decide +kernel) z_o3 (by decide +kernel)
theorem dX5_through_80 : decode cX5_through 80 = .ok (.istore 7, 2) := z_row zl_cX5_through 80 1378102 (Nat.le_of_ble_eq_true rfl) (by decide +kernel) z_o54 (by decide +kernel)
theorem dX5_through_82 : decode cX5_through 82 = .ok (.iload 7, 2) := z_row zl_cX5_through 82 1050389 (Nat.le_of_ble_eq_true rfl) (by decide +kernel) z_o21 (by decide +kernel)
theorem dX5_through_84 : decode cX5_through 84 = .ok (.bipush 6, 2) := z_row zl_cX5_through 84 10683920 (Nat.le_of_ble_eq_true rfl) (by decide +kernel) z_o16 (by decide +kernel)
theorem dX5_through_86 : decode cX5_through 86 = .ok (.if_icmp .gt 33, 3) := z_row zl_cX5_through 86 2162851 (Nat.le_of_ble_eq_true rfl) (by decide +kernel) z_o163 (by decide +kernel)
theorem dX5_through_89 : decode cX5_through 89 = .ok (.aload_n 3, 1) := z_row zl_cX5_through 89 464173 (Nat.le_of_ble_eq_true rfl) (by decide +kernel) z_o45 (by decide +kernel)
theorem dX5_through_90 : decode cX5_through 90 = .ok (.iload 7, 2) := z_row zl_cX5_through 90 2754325 (Nat.le_of_ble_eq_true rfl) (by decide +kernel) z_o21 (by decide +kernel)
theorem dX5_through_92 : decode cX5_through 92 = .ok (.aload_n 0, 1) := z_row zl_cX5_through 92 1387818 (Nat.le_of_ble_eq_true rfl) (by decide +kernel) z_o42 (by decide +kernel)
theorem dX5_through_93 : decode cX5_through 93 = .ok (.aload_n 3, 1) := z_row zl_cX5_through 93 464173 (Nat.le_of_ble_eq_true rfl) (by decide +kernel) z_o45 (by decide +kernel)
theorem dX5_through_94 : decode cX5_through 94 = .ok (.iload 7, 2) := z_row zl_cX5_through 94 3016469 (Nat.le_of_ble_eq_true rfl) (by decide +kernel) z_o21 (by decide +kernel)
theorem dX5_through_96 : decode cX5_through 96 = .ok (.iaload, 1) := z_row zl_cX5_through 96 1410350 (Nat.le_of_ble_eq_true rfl) (by decide +kernel) z_o46 (by decide +kernel)
theorem dX5_through_97 : decode cX5_through 97 = .ok (.i2l, 1) := z_row zl_cX5_through 97 398725 (Nat.le_of_ble_eq_true rfl) (by decide +kernel) z_o133 (by decide +kernel)
theorem dX5_through_98 : decode cX5_through 98 = .ok (.iload 6, 2) := z_row zl_cX5_through 98 8717845 (Nat.le_of_ble_eq_true rfl) (by decide +kernel) z_o21 (by decide +kernel)
theorem dX5_through_100 : decode cX5_through 100 = .ok (.i2l, 1) := z_row zl_cX5_through 100 268677 (Nat.le_of_ble_eq_true rfl) (by decide +kernel) z_o133 (by decide +kernel)
theorem dX5_through_101 : decode cX5_through 101 = .ok (.aload 4, 2) := z_row zl_cX5_through 101 1377305 (Nat.le_of_ble_eq_true rfl) (by decide +kernel) z_o25 (by decide +kernel)
theorem dX5_through_103 : decode cX5_through 103 = .ok (.iload 7, 2) := z_row zl_cX5_through 103 3016469 (Nat.le_of_ble_eq_true rfl) (by decide +kernel) z_o21 (by decide +kernel)
theorem dX5_through_105 : decode cX5_through 105 = .ok (.iaload, 1) := z_row zl_cX5_through 105 6915374 (Nat.le_of_ble_eq_true rfl) (by decide +kernel) z_o46 (by decide +kernel)
theorem dX5_through_106 : decode cX5_through 106 = .ok (.i2l, 1) := z_row zl_cX5_through 106 6384005 (Nat.le_of_ble_eq_true rfl) (by decide +kernel) z_o133 (by decide +kernel)
theorem dX5_through_107 : decode cX5_through 107 = .ok (.lmul, 1) := z_row zl_cX5_through 107 11952489 (Nat.le_of_ble_eq_true rfl) (by decide +kernel) z_o105 (by decide +kernel)
theorem dX5_through_108 : decode cX5_through 108 = .ok (.ladd, 1) := z_row zl_cX5_through 108 46689 (Nat.le_of_ble_eq_true rfl) (by decide +kernel) z_o97 (by decide +kernel)
theorem dX5_through_109 : decode cX5_through 109 = .ok (.invokevirtual 55, 3) := z_row zl_cX5_through 109 3604662 (Nat.le_of_ble_eq_true rfl) (by decide +kernel) z_o182 (by decide +kernel)
theorem dX5_through_112 : decode cX5_through 112 = .ok (.iastore, 1) := z_row zl_cX5_through 112 492623 (Nat.le_of_ble_eq_true rfl) (by decide +kernel) z_o79 (by decide +kernel)
theorem dX5_through_113 : decode cX5_through 113 = .ok (.iinc 7 1, 3) := z_row zl_cX5_through 113 67460 (Nat.le_of_ble_eq_true rfl) (by decide +kernel) z_o132 (by decide +kernel)
theorem dX5_through_116 : decode cX5_through 116 = .ok (.goto (-34), 3) := z_row zl_cX5_through 116 14614439 (Nat.le_of_ble_eq_true rfl) (by decide +kernel) z_o167 (by decide +kernel)
theorem dX5_through_119 : decode cX5_through 119 = .ok (.bipush 7, 2) := z_row zl_cX5_through 119 3540752 (Nat.le_of_ble_eq_true rfl) (by decide +kernel) z_o16 (by decide +kernel)
theorem dX5_through_121 : decode cX5_through 121 = .ok (.istore 7, 2) := z_row zl_cX5_through 121 1378102 (Nat.le_of_ble_eq_true rfl) (by decide +kernel) z_o54 (by decide +kernel)
theorem dX5_through_123 : decode cX5_through 123 = .ok (.iload 7, 2) := z_row zl_cX5_through 123 10159893 (Nat.le_of_ble_eq_true rfl) (by decide +kernel) z_o21 (by decide +kernel)
theorem dX5_through_125 : decode cX5_through 125 = .ok (.ifCond .lt 46, 3) := z_row zl_cX5_through 125 3014811 (Nat.le_of_ble_eq_true rfl) (by decide +kernel) z_o155 (by decide +kernel)
theorem dX5_through_128 : decode cX5_through 128 = .ok (.aload 4, 2) := z_row zl_cX5_through 128 1377305 (Nat.le_of_ble_eq_true rfl) (by decide +kernel) z_o25 (by decide +kernel)
theorem dX5_through_130 : decode cX5_through 130 = .ok (.iload 7, 2) := z_row zl_cX5_through 130 2754325 (Nat.le_of_ble_eq_true rfl) (by decide +kernel) z_o21 (by decide +kernel)
theorem dX5_through_132 : decode cX5_through 132 = .ok (.aload_n 0, 1) := z_row zl_cX5_through 132 464170 (Nat.le_of_ble_eq_true rfl) (by decide +kernel) z_o42 (by decide +kernel)
theorem dX5_through_133 : decode cX5_through 133 = .ok (.iload 7, 2) := z_row zl_cX5_through 133 10356501 (Nat.le_of_ble_eq_true rfl) (by decide +kernel) z_o21 (by decide +kernel)
theorem dX5_through_135 : decode cX5_through 135 = .ok (.ifCond .le 13, 3) := z_row zl_cX5_through 135 852126 (Nat.le_of_ble_eq_true rfl) (by decide +kernel) z_o158 (by decide +kernel)
theorem dX5_through_138 : decode cX5_through 138 = .ok (.aload 4, 2) := z_row zl_cX5_through 138 1377305 (Nat.le_of_ble_eq_true rfl) (by decide +kernel) z_o25 (by decide +kernel)
theorem dX5_through_140 : decode cX5_through 140 = .ok (.iload 7, 2) := z_row zl_cX5_through 140 263957 (Nat.le_of_ble_eq_true rfl) (by decide +kernel) z_o21 (by decide +kernel)
theorem dX5_through_142 : decode cX5_through 142 = .ok (.iconst 1, 1) := z_row zl_cX5_through 142 3040260 (Nat.le_of_ble_eq_true rfl) (by decide +kernel) z_o4 (by decide +kernel)
theorem dX5_through_143 : decode cX5_through 143 = .ok (.isub, 1) := z_row zl_cX5_through 143 10956388 (Nat.le_of_ble_eq_true rfl) (by decide +kernel) z_o100 (by decide +kernel)
theorem dX5_through_144 : decode cX5_through 144 = .ok (.iaload, 1) := z_row zl_cX5_through 144 42798 (Nat.le_of_ble_eq_true rfl) (by decide +kernel) z_o46 (by decide +kernel)
theorem dX5_through_145 : decode cX5_through 145 = .ok (.goto 4, 3) := z_row zl_cX5_through 145 262311 (Nat.le_of_ble_eq_true rfl) (by decide +kernel) z_o167 (by decide +kernel)
theorem dX5_through_148 : decode cX5_through 148 = .ok (.iconst 0, 1) := z_row zl_cX5_through 148 1410307 (Nat.le_of_ble_eq_true rfl) (by decide +kernel) z_o3 (by decide +kernel)
theorem dX5_through_149 : decode cX5_through 149 = .ok (.i2l, 1) := z_row zl_cX5_through 149 333189 (Nat.le_of_ble_eq_true rfl) (by decide +kernel) z_o133 (by decide +kernel)
theorem dX5_through_150 : decode cX5_through 150 = .ok (.iload 5, 2) := z_row zl_cX5_through 150 8717589 (Nat.le_of_ble_eq_true rfl) (by decide +kernel) z_o21 (by decide +kernel)
theorem dX5_through_152 : decode cX5_through 152 = .ok (.i2l, 1) := z_row zl_cX5_through 152 268677 (Nat.le_of_ble_eq_true rfl) (by decide +kernel) z_o133 (by decide +kernel)
theorem dX5_through_153 : decode cX5_through 153 = .ok (.aload 4, 2) := z_row zl_cX5_through 153 1377305 (Nat.le_of_ble_eq_true rfl) (by decide +kernel) z_o25 (by decide +kernel)
theorem dX5_through_155 : decode cX5_through 155 = .ok (.iload 7, 2) := z_row zl_cX5_through 155 3016469 (Nat.le_of_ble_eq_true rfl) (by decide +kernel) z_o21 (by decide +kernel)
theorem dX5_through_157 : decode cX5_through 157 = .ok (.iaload, 1) := z_row zl_cX5_through 157 6915374 (Nat.le_of_ble_eq_true rfl) (by decide +kernel) z_o46 (by decide +kernel)
theorem dX5_through_158 : decode cX5_through 158 = .ok (.i2l, 1) := z_row zl_cX5_through 158 6646149 (Nat.le_of_ble_eq_true rfl) (by decide +kernel) z_o133 (by decide +kernel)
theorem dX5_through_159 : decode cX5_through 159 = .ok (.lmul, 1) := z_row zl_cX5_through 159 11953513 (Nat.le_of_ble_eq_true rfl) (by decide +kernel) z_o105 (by decide +kernel)
theorem dX5_through_160 : decode cX5_through 160 = .ok (.lsub, 1) := z_row zl_cX5_through 160 46693 (Nat.le_of_ble_eq_true rfl) (by decide +kernel) z_o101 (by decide +kernel)
theorem dX5_through_161 : decode cX5_through 161 = .ok (.invokevirtual 55, 3) := z_row zl_cX5_through 161 3604662 (Nat.le_of_ble_eq_true rfl) (by decide +kernel) z_o182 (by decide +kernel)
theorem dX5_through_164 : decode cX5_through 164 = .ok (.iastore, 1) := z_row zl_cX5_through 164 492623 (Nat.le_of_ble_eq_true rfl) (by decide +kernel) z_o79 (by decide +kernel)
theorem dX5_through_165 : decode cX5_through 165 = .ok (.iinc 7 (-1), 3) := z_row zl_cX5_through 165 16713604 (Nat.le_of_ble_eq_true rfl) (by decide +kernel) z_o132 (by decide +kernel)
theorem dX5_through_168 : decode cX5_through 168 = .ok (.goto (-45), 3) := z_row zl_cX5_through 168 13893543 (Nat.le_of_ble_eq_true rfl) (by decide +kernel) z_o167 (by decide +kernel)
theorem dX5_through_171 : decode cX5_through 171 = .ok (.iinc 5 1, 3) := z_row zl_cX5_through 171 66948 (Nat.le_of_ble_eq_true rfl) (by decide +kernel) z_o132 (by decide +kernel)
theorem dX5_through_174 : decode cX5_through 174 = .ok (.goto (-155), 3) := z_row zl_cX5_through 174 6684583 (Nat.le_of_ble_eq_true rfl) (by decide +kernel) z_o167 (by decide +kernel)
set_option maxRecDepth 100000 in
theorem dX5_through_177 : decode cX5_through 177 = .ok (.aload_n 3, 1) := by decide +kernel
set_option maxRecDepth 100000 in
theorem dX5_through_178 : decode cX5_through 178 = .ok (.areturn, 1) := by decide +kernel
set_option maxRecDepth 100000 in
theorem dX5_at_0 : decode cX5_at 0 = .ok (.aload_n 0, 1) := by decide +kernel
set_option maxRecDepth 100000 in
theorem dX5_at_1 : decode cX5_at 1 = .ok (.aload_n 0, 1) := by decide +kernel
set_option maxRecDepth 100000 in
theorem dX5_at_2 : decode cX5_at 2 = .ok (.aload_n 1, 1) := by decide +kernel
set_option maxRecDepth 100000 in
theorem dX5_at_3 : decode cX5_at 3 = .ok (.iload_n 2, 1) := by decide +kernel
set_option maxRecDepth 100000 in
theorem dX5_at_4 : decode cX5_at 4 = .ok (.invokevirtual 95, 3) := by decide +kernel
set_option maxRecDepth 100000 in
theorem dX5_at_7 : decode cX5_at 7 = .ok (.aload_n 0, 1) := by decide +kernel
set_option maxRecDepth 100000 in
theorem dX5_at_8 : decode cX5_at 8 = .ok (.iload_n 3, 1) := by decide +kernel
set_option maxRecDepth 100000 in
theorem dX5_at_9 : decode cX5_at 9 = .ok (.i2l, 1) := by decide +kernel
set_option maxRecDepth 100000 in
theorem dX5_at_10 : decode cX5_at 10 = .ok (.invokevirtual 55, 3) := by decide +kernel
set_option maxRecDepth 100000 in
theorem dX5_at_13 : decode cX5_at 13 = .ok (.invokevirtual 91, 3) := by decide +kernel
set_option maxRecDepth 100000 in
theorem dX5_at_16 : decode cX5_at 16 = .ok (.ireturn, 1) := by decide +kernel
set_option maxRecDepth 100000 in
theorem dX5_degreeOf_0 : decode cX5_degreeOf 0 = .ok (.aload_n 0, 1) := by decide +kernel
set_option maxRecDepth 100000 in
theorem dX5_degreeOf_1 : decode cX5_degreeOf 1 = .ok (.arraylength, 1) := by decide +kernel
set_option maxRecDepth 100000 in
theorem dX5_degreeOf_2 : decode cX5_degreeOf 2 = .ok (.iconst 1, 1) := by decide +kernel
set_option maxRecDepth 100000 in
theorem dX5_degreeOf_3 : decode cX5_degreeOf 3 = .ok (.isub, 1) := by decide +kernel
set_option maxRecDepth 100000 in
theorem dX5_degreeOf_4 : decode cX5_degreeOf 4 = .ok (.istore_n 1, 1) := by decide +kernel
set_option maxRecDepth 100000 in
theorem dX5_degreeOf_5 : decode cX5_degreeOf 5 = .ok (.iload_n 1, 1) := by decide +kernel
set_option maxRecDepth 100000 in
theorem dX5_degreeOf_6 : decode cX5_degreeOf 6 = .ok (.ifCond .lt 17, 3) := by decide +kernel
set_option maxRecDepth 100000 in
theorem dX5_degreeOf_9 : decode cX5_degreeOf 9 = .ok (.aload_n 0, 1) := by decide +kernel
set_option maxRecDepth 100000 in
theorem dX5_degreeOf_10 : decode cX5_degreeOf 10 = .ok (.iload_n 1, 1) := by decide +kernel
set_option maxRecDepth 100000 in
theorem dX5_degreeOf_11 : decode cX5_degreeOf 11 = .ok (.iaload, 1) := by decide +kernel
set_option maxRecDepth 100000 in
theorem dX5_degreeOf_12 : decode cX5_degreeOf 12 = .ok (.ifCond .le 5, 3) := by decide +kernel
set_option maxRecDepth 100000 in
theorem dX5_degreeOf_15 : decode cX5_degreeOf 15 = .ok (.iload_n 1, 1) := by decide +kernel
set_option maxRecDepth 100000 in
theorem dX5_degreeOf_16 : decode cX5_degreeOf 16 = .ok (.ireturn, 1) := by decide +kernel
set_option maxRecDepth 100000 in
theorem dX5_degreeOf_17 : decode cX5_degreeOf 17 = .ok (.iinc 1 (-1), 3) := by decide +kernel
set_option maxRecDepth 100000 in
theorem dX5_degreeOf_20 : decode cX5_degreeOf 20 = .ok (.goto (-15), 3) := by decide +kernel
set_option maxRecDepth 100000 in
theorem dX5_degreeOf_23 : decode cX5_degreeOf 23 = .ok (.iconst (-1), 1) := by decide +kernel
set_option maxRecDepth 100000 in
theorem dX5_degreeOf_24 : decode cX5_degreeOf 24 = .ok (.ireturn, 1) := by decide +kernel
set_option maxRecDepth 100000 in
theorem dX5_poly_0 : decode cX5_poly 0 = .ok (.iconst 4, 1) := by decide +kernel
set_option maxRecDepth 100000 in
theorem dX5_poly_1 : decode cX5_poly 1 = .ok (.newarray .int, 2) := by decide +kernel
set_option maxRecDepth 100000 in
theorem dX5_poly_3 : decode cX5_poly 3 = .ok (.dup, 1) := by decide +kernel
set_option maxRecDepth 100000 in
theorem dX5_poly_4 : decode cX5_poly 4 = .ok (.iconst 0, 1) := by decide +kernel
set_option maxRecDepth 100000 in
theorem dX5_poly_5 : decode cX5_poly 5 = .ok (.iload_n 2, 1) := by decide +kernel
set_option maxRecDepth 100000 in
theorem dX5_poly_6 : decode cX5_poly 6 = .ok (.iastore, 1) := by decide +kernel
set_option maxRecDepth 100000 in
theorem dX5_poly_7 : decode cX5_poly 7 = .ok (.dup, 1) := by decide +kernel
set_option maxRecDepth 100000 in
theorem dX5_poly_8 : decode cX5_poly 8 = .ok (.iconst 1, 1) := by decide +kernel
set_option maxRecDepth 100000 in
theorem dX5_poly_9 : decode cX5_poly 9 = .ok (.iload_n 3, 1) := by decide +kernel
set_option maxRecDepth 100000 in
theorem dX5_poly_10 : decode cX5_poly 10 = .ok (.iastore, 1) := by decide +kernel
set_option maxRecDepth 100000 in
theorem dX5_poly_11 : decode cX5_poly 11 = .ok (.dup, 1) := by decide +kernel
set_option maxRecDepth 100000 in
theorem dX5_poly_12 : decode cX5_poly 12 = .ok (.iconst 2, 1) := by decide +kernel
set_option maxRecDepth 100000 in
theorem dX5_poly_13 : decode cX5_poly 13 = .ok (.iload 4, 2) := by decide +kernel
set_option maxRecDepth 100000 in
theorem dX5_poly_15 : decode cX5_poly 15 = .ok (.iastore, 1) := by decide +kernel
set_option maxRecDepth 100000 in
theorem dX5_poly_16 : decode cX5_poly 16 = .ok (.dup, 1) := by decide +kernel
set_option maxRecDepth 100000 in
theorem dX5_poly_17 : decode cX5_poly 17 = .ok (.iconst 3, 1) := by decide +kernel
set_option maxRecDepth 100000 in
theorem dX5_poly_18 : decode cX5_poly 18 = .ok (.iload 5, 2) := by decide +kernel
set_option maxRecDepth 100000 in
theorem dX5_poly_20 : decode cX5_poly 20 = .ok (.iastore, 1) := by decide +kernel
set_option maxRecDepth 100000 in
theorem dX5_poly_21 : decode cX5_poly 21 = .ok (.astore 6, 2) := by decide +kernel
set_option maxRecDepth 100000 in
theorem dX5_poly_23 : decode cX5_poly 23 = .ok (.iload_n 1, 1) := by decide +kernel
def zN_cX5_poly : Nat := 0xb00719e2ffa70108844f3700b6852e081506192a081507191800a20708151e00a31b0815083603073a0abc60041b063a4f051506594f041505594f1d04594f1c03590abc07
set_option maxRecDepth 100000 in
theorem zl_cX5_poly : cX5_poly.data.toList = z_un 69 zN_cX5_poly := eq_of_beq (by decide +kernel)
theorem dX5_poly_24 : decode cX5_poly 24 = .ok (.iconst 1, 1) := z_row zl_cX5_poly 24 12345348 (Nat.le_of_ble_eq_true rfl) (by decide +kernel) z_o4 (by decide +kernel)
theorem dX5_poly_25 : decode cX5_poly 25 = .ok (.iadd, 1) := z_row zl_cX5_poly 25 703584 (Nat.le_of_ble_eq_true rfl) (by decide +kernel) z_o96 (by decide +kernel)
set_option maxRecDepth 100000 in
theorem dX5_poly_26 : decode cX5_poly 26 = .ok (.newarray .int, 2) := by decide +kernel
theorem dX5_poly_28 : decode cX5_poly 28 = .ok (.astore 7, 2) := z_row zl_cX5_poly 28 198458 (Nat.le_of_ble_eq_true rfl) (by decide +kernel) z_o58 (by decide +kernel)
theorem dX5_poly_30 : decode cX5_poly 30 = .ok (.iconst 0, 1) := z_row zl_cX5_poly 30 538115 (Nat.le_of_ble_eq_true rfl) (by decide +kernel) z_o3 (by decide +kernel)
theorem dX5_poly_31 : decode cX5_poly 31 = .ok (.istore 8, 2) := z_row zl_cX5_poly 31 1378358 (Nat.le_of_ble_eq_true rfl) (by decide +kernel) z_o54 (by decide +kernel)
theorem dX5_poly_33 : decode cX5_poly 33 = .ok (.iload 8, 2) := z_row zl_cX5_poly 33 1771541 (Nat.le_of_ble_eq_true rfl) (by decide +kernel) z_o21 (by decide +kernel)
theorem dX5_poly_35 : decode cX5_poly 35 = .ok (.iload_n 1, 1) := z_row zl_cX5_poly 35 41755 (Nat.le_of_ble_eq_true rfl) (by decide +kernel) z_o27 (by decide +kernel)
theorem dX5_poly_36 : decode cX5_poly 36 = .ok (.if_icmp .gt 30, 3) := z_row zl_cX5_poly 36 1966243 (Nat.le_of_ble_eq_true rfl) (by decide +kernel) z_o163 (by decide +kernel)
theorem dX5_poly_39 : decode cX5_poly 39 = .ok (.iload 8, 2) := z_row zl_cX5_poly 39 460821 (Nat.le_of_ble_eq_true rfl) (by decide +kernel) z_o21 (by decide +kernel)
theorem dX5_poly_41 : decode cX5_poly 41 = .ok (.iconst 4, 1) := z_row zl_cX5_poly 41 41479 (Nat.le_of_ble_eq_true rfl) (by decide +kernel) z_o7 (by decide +kernel)
theorem dX5_poly_42 : decode cX5_poly 42 = .ok (.if_icmp .ge 24, 3) := z_row zl_cX5_poly 42 1573026 (Nat.le_of_ble_eq_true rfl) (by decide +kernel) z_o162 (by decide +kernel)
theorem dX5_poly_45 : decode cX5_poly 45 = .ok (.aload 7, 2) := z_row zl_cX5_poly 45 1378073 (Nat.le_of_ble_eq_true rfl) (by decide +kernel) z_o25 (by decide +kernel)
theorem dX5_poly_47 : decode cX5_poly 47 = .ok (.iload 8, 2) := z_row zl_cX5_poly 47 2754581 (Nat.le_of_ble_eq_true rfl) (by decide +kernel) z_o21 (by decide +kernel)
theorem dX5_poly_49 : decode cX5_poly 49 = .ok (.aload_n 0, 1) := z_row zl_cX5_poly 49 399658 (Nat.le_of_ble_eq_true rfl) (by decide +kernel) z_o42 (by decide +kernel)
theorem dX5_poly_50 : decode cX5_poly 50 = .ok (.aload 6, 2) := z_row zl_cX5_poly 50 1377817 (Nat.le_of_ble_eq_true rfl) (by decide +kernel) z_o25 (by decide +kernel)
theorem dX5_poly_52 : decode cX5_poly 52 = .ok (.iload 8, 2) := z_row zl_cX5_poly 52 3016725 (Nat.le_of_ble_eq_true rfl) (by decide +kernel) z_o21 (by decide +kernel)
theorem dX5_poly_54 : decode cX5_poly 54 = .ok (.iaload, 1) := z_row zl_cX5_poly 54 11961646 (Nat.le_of_ble_eq_true rfl) (by decide +kernel) z_o46 (by decide +kernel)
theorem dX5_poly_55 : decode cX5_poly 55 = .ok (.i2l, 1) := z_row zl_cX5_poly 55 46725 (Nat.le_of_ble_eq_true rfl) (by decide +kernel) z_o133 (by decide +kernel)
theorem dX5_poly_56 : decode cX5_poly 56 = .ok (.invokevirtual 55, 3) := z_row zl_cX5_poly 56 3604662 (Nat.le_of_ble_eq_true rfl) (by decide +kernel) z_o182 (by decide +kernel)
theorem dX5_poly_59 : decode cX5_poly 59 = .ok (.iastore, 1) := z_row zl_cX5_poly 59 558159 (Nat.le_of_ble_eq_true rfl) (by decide +kernel) z_o79 (by decide +kernel)
theorem dX5_poly_60 : decode cX5_poly 60 = .ok (.iinc 8 1, 3) := z_row zl_cX5_poly 60 67716 (Nat.le_of_ble_eq_true rfl) (by decide +kernel) z_o132 (by decide +kernel)
theorem dX5_poly_63 : decode cX5_poly 63 = .ok (.goto (-30), 3) := z_row zl_cX5_poly 63 14876583 (Nat.le_of_ble_eq_true rfl) (by decide +kernel) z_o167 (by decide +kernel)
theorem dX5_poly_66 : decode cX5_poly 66 = .ok (.aload 7, 2) := z_row zl_cX5_poly 66 11536153 (Nat.le_of_ble_eq_true rfl) (by decide +kernel) z_o25 (by decide +kernel)
set_option maxRecDepth 100000 in
theorem dX5_poly_68 : decode cX5_poly 68 = .ok (.areturn, 1) := by decide +kernel
set_option maxRecDepth 100000 in
theorem dX5_values_0 : decode cX5_values 0 = .ok (.aload_n 0, 1) := by decide +kernel
set_option maxRecDepth 100000 in
theorem dX5_values_1 : decode cX5_values 1 = .ok (.invokevirtual 52, 3) := by decide +kernel
set_option maxRecDepth 100000 in
theorem dX5_values_4 : decode cX5_values 4 = .ok (.iconst 1, 1) := by decide +kernel
set_option maxRecDepth 100000 in
theorem dX5_values_5 : decode cX5_values 5 = .ok (.iadd, 1) := by decide +kernel
set_option maxRecDepth 100000 in
theorem dX5_values_6 : decode cX5_values 6 = .ok (.newarray .int, 2) := by decide +kernel
set_option maxRecDepth 100000 in
theorem dX5_values_8 : decode cX5_values 8 = .ok (.astore_n 2, 1) := by decide +kernel
set_option maxRecDepth 100000 in
theorem dX5_values_9 : decode cX5_values 9 = .ok (.aload_n 2, 1) := by decide +kernel
set_option maxRecDepth 100000 in
theorem dX5_values_10 : decode cX5_values 10 = .ok (.iconst 0, 1) := by decide +kernel
set_option maxRecDepth 100000 in
theorem dX5_values_11 : decode cX5_values 11 = .ok (.iconst (-1), 1) := by decide +kernel
set_option maxRecDepth 100000 in
theorem dX5_values_12 : decode cX5_values 12 = .ok (.iastore, 1) := by decide +kernel
set_option maxRecDepth 100000 in
theorem dX5_values_13 : decode cX5_values 13 = .ok (.iconst 1, 1) := by decide +kernel
set_option maxRecDepth 100000 in
theorem dX5_values_14 : decode cX5_values 14 = .ok (.istore_n 3, 1) := by decide +kernel
set_option maxRecDepth 100000 in
theorem dX5_values_15 : decode cX5_values 15 = .ok (.iload_n 3, 1) := by decide +kernel
set_option maxRecDepth 100000 in
theorem dX5_values_16 : decode cX5_values 16 = .ok (.aload_n 0, 1) := by decide +kernel
set_option maxRecDepth 100000 in
theorem dX5_values_17 : decode cX5_values 17 = .ok (.invokevirtual 52, 3) := by decide +kernel
set_option maxRecDepth 100000 in
theorem dX5_values_20 : decode cX5_values 20 = .ok (.if_icmp .gt 18, 3) := by decide +kernel
set_option maxRecDepth 100000 in
theorem dX5_values_23 : decode cX5_values 23 = .ok (.aload_n 2, 1) := by decide +kernel
def zN_cX5_values : Nat := 0xb02cecffa70103844f5b00b61d2b2a1d2c1200a33400b62a1d3e044f02032c4d0abc60043400b62a
set_option maxRecDepth 100000 in
theorem zl_cX5_values : cX5_values.data.toList = z_un 40 zN_cX5_values := eq_of_beq (by decide +kernel)
theorem dX5_values_24 : decode cX5_values 24 = .ok (.iload_n 3, 1) := z_row zl_cX5_values 24 2828829 (Nat.le_of_ble_eq_true rfl) (by decide +kernel) z_o29 (by decide +kernel)
theorem dX5_values_25 : decode cX5_values 25 = .ok (.aload_n 0, 1) := z_row zl_cX5_values 25 1911594 (Nat.le_of_ble_eq_true rfl) (by decide +kernel) z_o42 (by decide +kernel)
theorem dX5_values_26 : decode cX5_values 26 = .ok (.aload_n 1, 1) := z_row zl_cX5_values 26 11935019 (Nat.le_of_ble_eq_true rfl) (by decide +kernel) z_o43 (by decide +kernel)
theorem dX5_values_27 : decode cX5_values 27 = .ok (.iload_n 3, 1) := z_row zl_cX5_values 27 46621 (Nat.le_of_ble_eq_true rfl) (by decide +kernel) z_o29 (by decide +kernel)
theorem dX5_values_28 : decode cX5_values 28 = .ok (.invokevirtual 91, 3) := z_row zl_cX5_values 28 5963958 (Nat.le_of_ble_eq_true rfl) (by decide +kernel) z_o182 (by decide +kernel)
theorem dX5_values_31 : decode cX5_values 31 = .ok (.iastore, 1) := z_row zl_cX5_values 31 230479 (Nat.le_of_ble_eq_true rfl) (by decide +kernel) z_o79 (by decide +kernel)
theorem dX5_values_32 : decode cX5_values 32 = .ok (.iinc 3 1, 3) := z_row zl_cX5_values 32 66436 (Nat.le_of_ble_eq_true rfl) (by decide +kernel) z_o132 (by decide +kernel)
theorem dX5_values_35 : decode cX5_values 35 = .ok (.goto (-20), 3) := z_row zl_cX5_values 35 15531943 (Nat.le_of_ble_eq_true rfl) (by decide +kernel) z_o167 (by decide +kernel)
set_option maxRecDepth 100000 in
theorem dX5_values_38 : decode cX5_values 38 = .ok (.aload_n 2, 1) := by decide +kernel
set_option maxRecDepth 100000 in
theorem dX5_values_39 : decode cX5_values 39 = .ok (.areturn, 1) := by decide +kernel
set_option maxRecDepth 100000 in
theorem dX5_weight_0 : decode cX5_weight 0 = .ok (.aload_n 0, 1) := by decide +kernel
set_option maxRecDepth 100000 in
theorem dX5_weight_1 : decode cX5_weight 1 = .ok (.aload_n 0, 1) := by decide +kernel
set_option maxRecDepth 100000 in
theorem dX5_weight_2 : decode cX5_weight 2 = .ok (.iload_n 2, 1) := by decide +kernel
set_option maxRecDepth 100000 in
theorem dX5_weight_3 : decode cX5_weight 3 = .ok (.invokevirtual 99, 3) := by decide +kernel
set_option maxRecDepth 100000 in
theorem dX5_weight_6 : decode cX5_weight 6 = .ok (.iconst 1, 1) := by decide +kernel
set_option maxRecDepth 100000 in
theorem dX5_weight_7 : decode cX5_weight 7 = .ok (.invokevirtual 69, 3) := by decide +kernel
set_option maxRecDepth 100000 in
theorem dX5_weight_10 : decode cX5_weight 10 = .ok (.ifCond .ne 16, 3) := by decide +kernel
set_option maxRecDepth 100000 in
theorem dX5_weight_13 : decode cX5_weight 13 = .ok (.aload_n 0, 1) := by decide +kernel
set_option maxRecDepth 100000 in
theorem dX5_weight_14 : decode cX5_weight 14 = .ok (.aload_n 0, 1) := by decide +kernel
set_option maxRecDepth 100000 in
theorem dX5_weight_15 : decode cX5_weight 15 = .ok (.iload_n 1, 1) := by decide +kernel
set_option maxRecDepth 100000 in
theorem dX5_weight_16 : decode cX5_weight 16 = .ok (.invokevirtual 103, 3) := by decide +kernel
set_option maxRecDepth 100000 in
theorem dX5_weight_19 : decode cX5_weight 19 = .ok (.iconst 2, 1) := by decide +kernel
set_option maxRecDepth 100000 in
theorem dX5_weight_20 : decode cX5_weight 20 = .ok (.invokevirtual 28, 3) := by decide +kernel
set_option maxRecDepth 100000 in
theorem dX5_weight_23 : decode cX5_weight 23 = .ok (.ifCond .eq 5, 3) := by decide +kernel
def zN_cX5_weight : Nat := 0xac6a00b61d1b04192a4f041c0419043a0abc60043400b62aacf71006009a5700b81c1bac030500991c00b6056700b61b2a2a10009a4500b6046300b61c2a2a
set_option maxRecDepth 100000 in
theorem zl_cX5_weight : cX5_weight.data.toList = z_un 63 zN_cX5_weight := eq_of_beq (by decide +kernel)
theorem dX5_weight_26 : decode cX5_weight 26 = .ok (.iconst 0, 1) := z_row zl_cX5_weight 26 1813507 (Nat.le_of_ble_eq_true rfl) (by decide +kernel) z_o3 (by decide +kernel)
theorem dX5_weight_27 : decode cX5_weight 27 = .ok (.ireturn, 1) := z_row zl_cX5_weight 27 1842092 (Nat.le_of_ble_eq_true rfl) (by decide +kernel) z_o172 (by decide +kernel)
theorem dX5_weight_28 : decode cX5_weight 28 = .ok (.iload_n 1, 1) := z_row zl_cX5_weight 28 12065819 (Nat.le_of_ble_eq_true rfl) (by decide +kernel) z_o27 (by decide +kernel)
theorem dX5_weight_29 : decode cX5_weight 29 = .ok (.iload_n 2, 1) := z_row zl_cX5_weight 29 47132 (Nat.le_of_ble_eq_true rfl) (by decide +kernel) z_o28 (by decide +kernel)
theorem dX5_weight_30 : decode cX5_weight 30 = .ok (.invokestatic 87, 3) := z_row zl_cX5_weight 30 5701816 (Nat.le_of_ble_eq_true rfl) (by decide +kernel) z_o184 (by decide +kernel)
theorem dX5_weight_33 : decode cX5_weight 33 = .ok (.ifCond .ne 6, 3) := z_row zl_cX5_weight 33 393370 (Nat.le_of_ble_eq_true rfl) (by decide +kernel) z_o154 (by decide +kernel)
theorem dX5_weight_36 : decode cX5_weight 36 = .ok (.bipush (-9), 2) := z_row zl_cX5_weight 36 11335440 (Nat.le_of_ble_eq_true rfl) (by decide +kernel) z_o16 (by decide +kernel)
theorem dX5_weight_38 : decode cX5_weight 38 = .ok (.ireturn, 1) := z_row zl_cX5_weight 38 11938476 (Nat.le_of_ble_eq_true rfl) (by decide +kernel) z_o172 (by decide +kernel)
theorem dX5_weight_39 : decode cX5_weight 39 = .ok (.aload_n 0, 1) := z_row zl_cX5_weight 39 46634 (Nat.le_of_ble_eq_true rfl) (by decide +kernel) z_o42 (by decide +kernel)
theorem dX5_weight_40 : decode cX5_weight 40 = .ok (.invokevirtual 52, 3) := z_row zl_cX5_weight 40 3408054 (Nat.le_of_ble_eq_true rfl) (by decide +kernel) z_o182 (by decide +kernel)
theorem dX5_weight_43 : decode cX5_weight 43 = .ok (.iconst 1, 1) := z_row zl_cX5_weight 43 12345348 (Nat.le_of_ble_eq_true rfl) (by decide +kernel) z_o4 (by decide +kernel)
theorem dX5_weight_44 : decode cX5_weight 44 = .ok (.iadd, 1) := z_row zl_cX5_weight 44 703584 (Nat.le_of_ble_eq_true rfl) (by decide +kernel) z_o96 (by decide +kernel)
set_option maxRecDepth 100000 in
theorem dX5_weight_45 : decode cX5_weight 45 = .ok (.newarray .int, 2) := by decide +kernel
theorem dX5_weight_47 : decode cX5_weight 47 = .ok (.astore 4, 2) := z_row zl_cX5_weight 47 1639482 (Nat.le_of_ble_eq_true rfl) (by decide +kernel) z_o58 (by decide +kernel)
theorem dX5_weight_49 : decode cX5_weight 49 = .ok (.aload 4, 2) := z_row zl_cX5_weight 49 1836057 (Nat.le_of_ble_eq_true rfl) (by decide +kernel) z_o25 (by decide +kernel)
theorem dX5_weight_51 : decode cX5_weight 51 = .ok (.iload_n 2, 1) := z_row zl_cX5_weight 51 5178396 (Nat.le_of_ble_eq_true rfl) (by decide +kernel) z_o28 (by decide +kernel)
theorem dX5_weight_52 : decode cX5_weight 52 = .ok (.iconst 1, 1) := z_row zl_cX5_weight 52 2772740 (Nat.le_of_ble_eq_true rfl) (by decide +kernel) z_o4 (by decide +kernel)
theorem dX5_weight_53 : decode cX5_weight 53 = .ok (.iastore, 1) := z_row zl_cX5_weight 53 1649231 (Nat.le_of_ble_eq_true rfl) (by decide +kernel) z_o79 (by decide +kernel)
theorem dX5_weight_54 : decode cX5_weight 54 = .ok (.aload_n 0, 1) := z_row zl_cX5_weight 54 268586 (Nat.le_of_ble_eq_true rfl) (by decide +kernel) z_o42 (by decide +kernel)
theorem dX5_weight_55 : decode cX5_weight 55 = .ok (.aload 4, 2) := z_row zl_cX5_weight 55 1770521 (Nat.le_of_ble_eq_true rfl) (by decide +kernel) z_o25 (by decide +kernel)
theorem dX5_weight_57 : decode cX5_weight 57 = .ok (.iload_n 1, 1) := z_row zl_cX5_weight 57 11935003 (Nat.le_of_ble_eq_true rfl) (by decide +kernel) z_o27 (by decide +kernel)
theorem dX5_weight_58 : decode cX5_weight 58 = .ok (.iload_n 3, 1) := z_row zl_cX5_weight 58 46621 (Nat.le_of_ble_eq_true rfl) (by decide +kernel) z_o29 (by decide +kernel)
theorem dX5_weight_59 : decode cX5_weight 59 = .ok (.invokevirtual 106, 3) := z_row zl_cX5_weight 59 6946998 (Nat.le_of_ble_eq_true rfl) (by decide +kernel) z_o182 (by decide +kernel)
set_option maxRecDepth 100000 in
theorem dX5_weight_62 : decode cX5_weight 62 = .ok (.ireturn, 1) := by decide +kernel
set_option maxRecDepth 100000 in
theorem dX5_weightsAt_0 : decode cX5_weightsAt 0 = .ok (.aload_n 0, 1) := by decide +kernel
set_option maxRecDepth 100000 in
theorem dX5_weightsAt_1 : decode cX5_weightsAt 1 = .ok (.invokevirtual 52, 3) := by decide +kernel
set_option maxRecDepth 100000 in
theorem dX5_weightsAt_4 : decode cX5_weightsAt 4 = .ok (.iconst 1, 1) := by decide +kernel
set_option maxRecDepth 100000 in
theorem dX5_weightsAt_5 : decode cX5_weightsAt 5 = .ok (.iadd, 1) := by decide +kernel
set_option maxRecDepth 100000 in
theorem dX5_weightsAt_6 : decode cX5_weightsAt 6 = .ok (.newarray .int, 2) := by decide +kernel
set_option maxRecDepth 100000 in
theorem dX5_weightsAt_8 : decode cX5_weightsAt 8 = .ok (.astore_n 3, 1) := by decide +kernel
set_option maxRecDepth 100000 in
theorem dX5_weightsAt_9 : decode cX5_weightsAt 9 = .ok (.iconst 1, 1) := by decide +kernel
set_option maxRecDepth 100000 in
theorem dX5_weightsAt_10 : decode cX5_weightsAt 10 = .ok (.istore 4, 2) := by decide +kernel
set_option maxRecDepth 100000 in
theorem dX5_weightsAt_12 : decode cX5_weightsAt 12 = .ok (.iload 4, 2) := by decide +kernel
set_option maxRecDepth 100000 in
theorem dX5_weightsAt_14 : decode cX5_weightsAt 14 = .ok (.aload_n 0, 1) := by decide +kernel
set_option maxRecDepth 100000 in
theorem dX5_weightsAt_15 : decode cX5_weightsAt 15 = .ok (.invokevirtual 52, 3) := by decide +kernel
set_option maxRecDepth 100000 in
theorem dX5_weightsAt_18 : decode cX5_weightsAt 18 = .ok (.if_icmp .gt 14, 3) := by decide +kernel
set_option maxRecDepth 100000 in
theorem dX5_weightsAt_21 : decode cX5_weightsAt 21 = .ok (.aload_n 3, 1) := by decide +kernel
set_option maxRecDepth 100000 in
theorem dX5_weightsAt_22 : decode cX5_weightsAt 22 = .ok (.iload 4, 2) := by decide +kernel
def zN_cX5_weightsAt : Nat := 0xac6a00b61c1b2d2aefffa70104844f0404152d0e00a33400b62a04150436044e0abc60043400b62a
set_option maxRecDepth 100000 in
theorem zl_cX5_weightsAt : cX5_weightsAt.data.toList = z_un 40 zN_cX5_weightsAt := eq_of_beq (by decide +kernel)
theorem dX5_weightsAt_24 : decode cX5_weightsAt 24 = .ok (.iconst 1, 1) := z_row zl_cX5_weightsAt 24 8670980 (Nat.le_of_ble_eq_true rfl) (by decide +kernel) z_o4 (by decide +kernel)
theorem dX5_weightsAt_25 : decode cX5_weightsAt 25 = .ok (.iastore, 1) := z_row zl_cX5_weightsAt 25 296015 (Nat.le_of_ble_eq_true rfl) (by decide +kernel) z_o79 (by decide +kernel)
theorem dX5_weightsAt_26 : decode cX5_weightsAt 26 = .ok (.iinc 4 1, 3) := z_row zl_cX5_weightsAt 26 66692 (Nat.le_of_ble_eq_true rfl) (by decide +kernel) z_o132 (by decide +kernel)
theorem dX5_weightsAt_29 : decode cX5_weightsAt 29 = .ok (.goto (-17), 3) := z_row zl_cX5_weightsAt 29 15728551 (Nat.le_of_ble_eq_true rfl) (by decide +kernel) z_o167 (by decide +kernel)
theorem dX5_weightsAt_32 : decode cX5_weightsAt 32 = .ok (.aload_n 0, 1) := z_row zl_cX5_weightsAt 32 1781034 (Nat.le_of_ble_eq_true rfl) (by decide +kernel) z_o42 (by decide +kernel)
theorem dX5_weightsAt_33 : decode cX5_weightsAt 33 = .ok (.aload_n 3, 1) := z_row zl_cX5_weightsAt 33 1841965 (Nat.le_of_ble_eq_true rfl) (by decide +kernel) z_o45 (by decide +kernel)
theorem dX5_weightsAt_34 : decode cX5_weightsAt 34 = .ok (.iload_n 1, 1) := z_row zl_cX5_weightsAt 34 11934747 (Nat.le_of_ble_eq_true rfl) (by decide +kernel) z_o27 (by decide +kernel)
theorem dX5_weightsAt_35 : decode cX5_weightsAt 35 = .ok (.iload_n 2, 1) := z_row zl_cX5_weightsAt 35 46620 (Nat.le_of_ble_eq_true rfl) (by decide +kernel) z_o28 (by decide +kernel)
theorem dX5_weightsAt_36 : decode cX5_weightsAt 36 = .ok (.invokevirtual 106, 3) := z_row zl_cX5_weightsAt 36 6946998 (Nat.le_of_ble_eq_true rfl) (by decide +kernel) z_o182 (by decide +kernel)
set_option maxRecDepth 100000 in
theorem dX5_weightsAt_39 : decode cX5_weightsAt 39 = .ok (.ireturn, 1) := by decide +kernel
set_option maxRecDepth 100000 in
theorem dX5_weights_0 : decode cX5_weights 0 = .ok (.aload_n 0, 1) := by decide +kernel
set_option maxRecDepth 100000 in
theorem dX5_weights_1 : decode cX5_weights 1 = .ok (.aload_n 0, 1) := by decide +kernel
set_option maxRecDepth 100000 in
theorem dX5_weights_2 : decode cX5_weights 2 = .ok (.iload_n 1, 1) := by decide +kernel
set_option maxRecDepth 100000 in
theorem dX5_weights_3 : decode cX5_weights 3 = .ok (.invokevirtual 103, 3) := by decide +kernel
set_option maxRecDepth 100000 in
theorem dX5_weights_6 : decode cX5_weights 6 = .ok (.iconst 1, 1) := by decide +kernel
set_option maxRecDepth 100000 in
theorem dX5_weights_7 : decode cX5_weights 7 = .ok (.invokevirtual 69, 3) := by decide +kernel
set_option maxRecDepth 100000 in
theorem dX5_weights_10 : decode cX5_weights 10 = .ok (.ifCond .eq 7, 3) := by decide +kernel
set_option maxRecDepth 100000 in
theorem dX5_weights_13 : decode cX5_weights 13 = .ok (.iconst 0, 1) := by decide +kernel
set_option maxRecDepth 100000 in
theorem dX5_weights_14 : decode cX5_weights 14 = .ok (.goto 9, 3) := by decide +kernel
set_option maxRecDepth 100000 in
theorem dX5_weights_17 : decode cX5_weights 17 = .ok (.aload_n 0, 1) := by decide +kernel
set_option maxRecDepth 100000 in
theorem dX5_weights_18 : decode cX5_weights 18 = .ok (.iload_n 1, 1) := by decide +kernel
set_option maxRecDepth 100000 in
theorem dX5_weights_19 : decode cX5_weights 19 = .ok (.iload_n 2, 1) := by decide +kernel
set_option maxRecDepth 100000 in
theorem dX5_weights_20 : decode cX5_weights 20 = .ok (.invokevirtual 110, 3) := by decide +kernel
set_option maxRecDepth 100000 in
theorem dX5_weights_23 : decode cX5_weights 23 = .ok (.ireturn, 1) := by decide +kernel
set_option maxRecDepth 100000 in
theorem dX5_isEmpty_0 : decode cX5_isEmpty 0 = .ok (.aload_n 0, 1) := by decide +kernel
set_option maxRecDepth 100000 in
theorem dX5_isEmpty_1 : decode cX5_isEmpty 1 = .ok (.getfield 13, 3) := by decide +kernel
set_option maxRecDepth 100000 in
theorem dX5_isEmpty_4 : decode cX5_isEmpty 4 = .ok (.iload_n 1, 1) := by decide +kernel
set_option maxRecDepth 100000 in
theorem dX5_isEmpty_5 : decode cX5_isEmpty 5 = .ok (.iaload, 1) := by decide +kernel
set_option maxRecDepth 100000 in
theorem dX5_isEmpty_6 : decode cX5_isEmpty 6 = .ok (.iconst (-1), 1) := by decide +kernel
set_option maxRecDepth 100000 in
theorem dX5_isEmpty_7 : decode cX5_isEmpty 7 = .ok (.if_icmp .ne 7, 3) := by decide +kernel
set_option maxRecDepth 100000 in
theorem dX5_isEmpty_10 : decode cX5_isEmpty 10 = .ok (.iconst 1, 1) := by decide +kernel
set_option maxRecDepth 100000 in
theorem dX5_isEmpty_11 : decode cX5_isEmpty 11 = .ok (.goto 4, 3) := by decide +kernel
set_option maxRecDepth 100000 in
theorem dX5_isEmpty_14 : decode cX5_isEmpty 14 = .ok (.iconst 0, 1) := by decide +kernel
set_option maxRecDepth 100000 in
theorem dX5_isEmpty_15 : decode cX5_isEmpty 15 = .ok (.ireturn, 1) := by decide +kernel
set_option maxRecDepth 100000 in
theorem dX5_empty_0 : decode cX5_empty 0 = .ok (.aload_n 0, 1) := by decide +kernel
set_option maxRecDepth 100000 in
theorem dX5_empty_1 : decode cX5_empty 1 = .ok (.getfield 13, 3) := by decide +kernel
set_option maxRecDepth 100000 in
theorem dX5_empty_4 : decode cX5_empty 4 = .ok (.iload_n 1, 1) := by decide +kernel
set_option maxRecDepth 100000 in
theorem dX5_empty_5 : decode cX5_empty 5 = .ok (.iconst (-1), 1) := by decide +kernel
set_option maxRecDepth 100000 in
theorem dX5_empty_6 : decode cX5_empty 6 = .ok (.iastore, 1) := by decide +kernel
set_option maxRecDepth 100000 in
theorem dX5_empty_7 : decode cX5_empty 7 = .ok (.aload_n 0, 1) := by decide +kernel
set_option maxRecDepth 100000 in
theorem dX5_empty_8 : decode cX5_empty 8 = .ok (.getfield 18, 3) := by decide +kernel
set_option maxRecDepth 100000 in
theorem dX5_empty_11 : decode cX5_empty 11 = .ok (.iload_n 1, 1) := by decide +kernel
set_option maxRecDepth 100000 in
theorem dX5_empty_12 : decode cX5_empty 12 = .ok (.aconst_null, 1) := by decide +kernel
set_option maxRecDepth 100000 in
theorem dX5_empty_13 : decode cX5_empty 13 = .ok (.aastore, 1) := by decide +kernel
set_option maxRecDepth 100000 in
theorem dX5_empty_14 : decode cX5_empty 14 = .ok (.aload_n 0, 1) := by decide +kernel
set_option maxRecDepth 100000 in
theorem dX5_empty_15 : decode cX5_empty 15 = .ok (.getfield 22, 3) := by decide +kernel
set_option maxRecDepth 100000 in
theorem dX5_empty_18 : decode cX5_empty 18 = .ok (.iload_n 1, 1) := by decide +kernel
set_option maxRecDepth 100000 in
theorem dX5_empty_19 : decode cX5_empty 19 = .ok (.aconst_null, 1) := by decide +kernel
set_option maxRecDepth 100000 in
theorem dX5_empty_20 : decode cX5_empty 20 = .ok (.aastore, 1) := by decide +kernel
set_option maxRecDepth 100000 in
theorem dX5_empty_21 : decode cX5_empty 21 = .ok (.return_, 1) := by decide +kernel
set_option maxRecDepth 100000 in
theorem dX5_setOf_0 : decode cX5_setOf 0 = .ok (.iconst 0, 1) := by decide +kernel
set_option maxRecDepth 100000 in
theorem dX5_setOf_1 : decode cX5_setOf 1 = .ok (.istore_n 2, 1) := by decide +kernel
set_option maxRecDepth 100000 in
theorem dX5_setOf_2 : decode cX5_setOf 2 = .ok (.aload_n 0, 1) := by decide +kernel
set_option maxRecDepth 100000 in
theorem dX5_setOf_3 : decode cX5_setOf 3 = .ok (.invokevirtual 52, 3) := by decide +kernel
set_option maxRecDepth 100000 in
theorem dX5_setOf_6 : decode cX5_setOf 6 = .ok (.istore_n 3, 1) := by decide +kernel
set_option maxRecDepth 100000 in
theorem dX5_setOf_7 : decode cX5_setOf 7 = .ok (.iload_n 3, 1) := by decide +kernel
set_option maxRecDepth 100000 in
theorem dX5_setOf_8 : decode cX5_setOf 8 = .ok (.ifCond .le 42, 3) := by decide +kernel
set_option maxRecDepth 100000 in
theorem dX5_setOf_11 : decode cX5_setOf 11 = .ok (.iconst 2, 1) := by decide +kernel
set_option maxRecDepth 100000 in
theorem dX5_setOf_12 : decode cX5_setOf 12 = .ok (.iload_n 2, 1) := by decide +kernel
set_option maxRecDepth 100000 in
theorem dX5_setOf_13 : decode cX5_setOf 13 = .ok (.imul, 1) := by decide +kernel
set_option maxRecDepth 100000 in
theorem dX5_setOf_14 : decode cX5_setOf 14 = .ok (.aload_n 0, 1) := by decide +kernel
set_option maxRecDepth 100000 in
theorem dX5_setOf_15 : decode cX5_setOf 15 = .ok (.iload_n 1, 1) := by decide +kernel
set_option maxRecDepth 100000 in
theorem dX5_setOf_16 : decode cX5_setOf 16 = .ok (.invokevirtual 113, 3) := by decide +kernel
set_option maxRecDepth 100000 in
theorem dX5_setOf_19 : decode cX5_setOf 19 = .ok (.ifCond .ne 19, 3) := by decide +kernel
set_option maxRecDepth 100000 in
theorem dX5_setOf_22 : decode cX5_setOf 22 = .ok (.aload_n 0, 1) := by decide +kernel
set_option maxRecDepth 100000 in
theorem dX5_setOf_23 : decode cX5_setOf 23 = .ok (.getfield 18, 3) := by decide +kernel
def zN_cX5_setOf : Nat := 0xac1cd8ffa7ff03843d605000b8030400a70407009f022e1d321b1200b42a13009a7100b61b2a681c052a009e1d3e3400b62a3d03
set_option maxRecDepth 100000 in
theorem zl_cX5_setOf : cX5_setOf.data.toList = z_un 52 zN_cX5_setOf := eq_of_beq (by decide +kernel)
theorem dX5_setOf_26 : decode cX5_setOf 26 = .ok (.iload_n 1, 1) := z_row zl_cX5_setOf 26 1913371 (Nat.le_of_ble_eq_true rfl) (by decide +kernel) z_o27 (by decide +kernel)
theorem dX5_setOf_27 : decode cX5_setOf 27 = .ok (.aaload, 1) := z_row zl_cX5_setOf 27 3022130 (Nat.le_of_ble_eq_true rfl) (by decide +kernel) z_o50 (by decide +kernel)
theorem dX5_setOf_28 : decode cX5_setOf 28 = .ok (.iload_n 3, 1) := z_row zl_cX5_setOf 28 142877 (Nat.le_of_ble_eq_true rfl) (by decide +kernel) z_o29 (by decide +kernel)
theorem dX5_setOf_29 : decode cX5_setOf 29 = .ok (.iaload, 1) := z_row zl_cX5_setOf 29 10420782 (Nat.le_of_ble_eq_true rfl) (by decide +kernel) z_o46 (by decide +kernel)
theorem dX5_setOf_30 : decode cX5_setOf 30 = .ok (.iconst (-1), 1) := z_row zl_cX5_setOf 30 40706 (Nat.le_of_ble_eq_true rfl) (by decide +kernel) z_o2 (by decide +kernel)
theorem dX5_setOf_31 : decode cX5_setOf 31 = .ok (.if_icmp .eq 7, 3) := z_row zl_cX5_setOf 31 458911 (Nat.le_of_ble_eq_true rfl) (by decide +kernel) z_o159 (by decide +kernel)
theorem dX5_setOf_34 : decode cX5_setOf 34 = .ok (.iconst 1, 1) := z_row zl_cX5_setOf 34 42756 (Nat.le_of_ble_eq_true rfl) (by decide +kernel) z_o4 (by decide +kernel)
theorem dX5_setOf_35 : decode cX5_setOf 35 = .ok (.goto 4, 3) := z_row zl_cX5_setOf 35 262311 (Nat.le_of_ble_eq_true rfl) (by decide +kernel) z_o167 (by decide +kernel)
theorem dX5_setOf_38 : decode cX5_setOf 38 = .ok (.iconst 0, 1) := z_row zl_cX5_setOf 38 47107 (Nat.le_of_ble_eq_true rfl) (by decide +kernel) z_o3 (by decide +kernel)
theorem dX5_setOf_39 : decode cX5_setOf 39 = .ok (.invokestatic 80, 3) := z_row zl_cX5_setOf 39 5243064 (Nat.le_of_ble_eq_true rfl) (by decide +kernel) z_o184 (by decide +kernel)
theorem dX5_setOf_42 : decode cX5_setOf 42 = .ok (.iadd, 1) := z_row zl_cX5_setOf 42 8666464 (Nat.le_of_ble_eq_true rfl) (by decide +kernel) z_o96 (by decide +kernel)
theorem dX5_setOf_43 : decode cX5_setOf 43 = .ok (.istore_n 2, 1) := z_row zl_cX5_setOf 43 230461 (Nat.le_of_ble_eq_true rfl) (by decide +kernel) z_o61 (by decide +kernel)
theorem dX5_setOf_44 : decode cX5_setOf 44 = .ok (.iinc 3 (-1), 3) := z_row zl_cX5_setOf 44 16712580 (Nat.le_of_ble_eq_true rfl) (by decide +kernel) z_o132 (by decide +kernel)
theorem dX5_setOf_47 : decode cX5_setOf 47 = .ok (.goto (-40), 3) := z_row zl_cX5_setOf 47 14221223 (Nat.le_of_ble_eq_true rfl) (by decide +kernel) z_o167 (by decide +kernel)
set_option maxRecDepth 100000 in
theorem dX5_setOf_50 : decode cX5_setOf 50 = .ok (.iload_n 2, 1) := by decide +kernel
set_option maxRecDepth 100000 in
theorem dX5_setOf_51 : decode cX5_setOf 51 = .ok (.ireturn, 1) := by decide +kernel
set_option maxRecDepth 100000 in
theorem dX5_lay_0 : decode cX5_lay 0 = .ok (.aload_n 0, 1) := by decide +kernel
set_option maxRecDepth 100000 in
theorem dX5_lay_1 : decode cX5_lay 1 = .ok (.getfield 13, 3) := by decide +kernel
set_option maxRecDepth 100000 in
theorem dX5_lay_4 : decode cX5_lay 4 = .ok (.iload_n 1, 1) := by decide +kernel
set_option maxRecDepth 100000 in
theorem dX5_lay_5 : decode cX5_lay 5 = .ok (.iload_n 2, 1) := by decide +kernel
set_option maxRecDepth 100000 in
theorem dX5_lay_6 : decode cX5_lay 6 = .ok (.iastore, 1) := by decide +kernel
set_option maxRecDepth 100000 in
theorem dX5_lay_7 : decode cX5_lay 7 = .ok (.aload_n 0, 1) := by decide +kernel
set_option maxRecDepth 100000 in
theorem dX5_lay_8 : decode cX5_lay 8 = .ok (.getfield 18, 3) := by decide +kernel
set_option maxRecDepth 100000 in
theorem dX5_lay_11 : decode cX5_lay 11 = .ok (.iload_n 1, 1) := by decide +kernel
set_option maxRecDepth 100000 in
theorem dX5_lay_12 : decode cX5_lay 12 = .ok (.aload_n 3, 1) := by decide +kernel
set_option maxRecDepth 100000 in
theorem dX5_lay_13 : decode cX5_lay 13 = .ok (.aastore, 1) := by decide +kernel
set_option maxRecDepth 100000 in
theorem dX5_lay_14 : decode cX5_lay 14 = .ok (.aload_n 0, 1) := by decide +kernel
set_option maxRecDepth 100000 in
theorem dX5_lay_15 : decode cX5_lay 15 = .ok (.getfield 22, 3) := by decide +kernel
set_option maxRecDepth 100000 in
theorem dX5_lay_18 : decode cX5_lay 18 = .ok (.iload_n 1, 1) := by decide +kernel
set_option maxRecDepth 100000 in
theorem dX5_lay_19 : decode cX5_lay 19 = .ok (.aload 4, 2) := by decide +kernel
set_option maxRecDepth 100000 in
theorem dX5_lay_21 : decode cX5_lay 21 = .ok (.aastore, 1) := by decide +kernel
set_option maxRecDepth 100000 in
theorem dX5_lay_22 : decode cX5_lay 22 = .ok (.aload_n 0, 1) := by decide +kernel
set_option maxRecDepth 100000 in
theorem dX5_lay_23 : decode cX5_lay 23 = .ok (.iload_n 1, 1) := by decide +kernel
def zN_cX5_lay : Nat := 0xac7700b87400b61b2a5304191b1600b42a532d1b1200b42a4f1c1b0d00b42a
set_option maxRecDepth 100000 in
theorem zl_cX5_lay : cX5_lay.data.toList = z_un 31 zN_cX5_lay := eq_of_beq (by decide +kernel)
theorem dX5_lay_24 : decode cX5_lay 24 = .ok (.invokevirtual 116, 3) := z_row zl_cX5_lay 24 7602358 (Nat.le_of_ble_eq_true rfl) (by decide +kernel) z_o182 (by decide +kernel)
theorem dX5_lay_27 : decode cX5_lay 27 = .ok (.invokestatic 119, 3) := z_row zl_cX5_lay 27 7798968 (Nat.le_of_ble_eq_true rfl) (by decide +kernel) z_o184 (by decide +kernel)
set_option maxRecDepth 100000 in
theorem dX5_lay_30 : decode cX5_lay 30 = .ok (.ireturn, 1) := by decide +kernel
set_option maxRecDepth 100000 in
theorem dX5_isThere_0 : decode cX5_isThere 0 = .ok (.iconst 1, 1) := by decide +kernel
set_option maxRecDepth 100000 in
theorem dX5_isThere_1 : decode cX5_isThere 1 = .ok (.istore_n 3, 1) := by decide +kernel
set_option maxRecDepth 100000 in
theorem dX5_isThere_2 : decode cX5_isThere 2 = .ok (.iload_n 3, 1) := by decide +kernel
set_option maxRecDepth 100000 in
theorem dX5_isThere_3 : decode cX5_isThere 3 = .ok (.aload_n 0, 1) := by decide +kernel
set_option maxRecDepth 100000 in
theorem dX5_isThere_4 : decode cX5_isThere 4 = .ok (.invokevirtual 52, 3) := by decide +kernel
set_option maxRecDepth 100000 in
theorem dX5_isThere_7 : decode cX5_isThere 7 = .ok (.if_icmp .gt 31, 3) := by decide +kernel
set_option maxRecDepth 100000 in
theorem dX5_isThere_10 : decode cX5_isThere 10 = .ok (.iload_n 2, 1) := by decide +kernel
set_option maxRecDepth 100000 in
theorem dX5_isThere_11 : decode cX5_isThere 11 = .ok (.iload_n 3, 1) := by decide +kernel
set_option maxRecDepth 100000 in
theorem dX5_isThere_12 : decode cX5_isThere 12 = .ok (.invokestatic 87, 3) := by decide +kernel
set_option maxRecDepth 100000 in
theorem dX5_isThere_15 : decode cX5_isThere 15 = .ok (.ifCond .eq 17, 3) := by decide +kernel
set_option maxRecDepth 100000 in
theorem dX5_isThere_18 : decode cX5_isThere 18 = .ok (.aload_n 0, 1) := by decide +kernel
set_option maxRecDepth 100000 in
theorem dX5_isThere_19 : decode cX5_isThere 19 = .ok (.iload_n 1, 1) := by decide +kernel
set_option maxRecDepth 100000 in
theorem dX5_isThere_20 : decode cX5_isThere 20 = .ok (.invokevirtual 116, 3) := by decide +kernel
set_option maxRecDepth 100000 in
theorem dX5_isThere_23 : decode cX5_isThere 23 = .ok (.iload_n 3, 1) := by decide +kernel
def zN_cX5_isThere : Nat := 0xac030400a70407009a7100b61b2adfffa7010384ac0305009a5700b81d7400b61b2a1100995700b81d1c1f00a33400b62a1d3e04
set_option maxRecDepth 100000 in
theorem zl_cX5_isThere : cX5_isThere.data.toList = z_un 52 zN_cX5_isThere := eq_of_beq (by decide +kernel)
theorem dX5_isThere_24 : decode cX5_isThere 24 = .ok (.invokestatic 87, 3) := z_row zl_cX5_isThere 24 5701816 (Nat.le_of_ble_eq_true rfl) (by decide +kernel) z_o184 (by decide +kernel)
theorem dX5_isThere_27 : decode cX5_isThere 27 = .ok (.ifCond .ne 5, 3) := z_row zl_cX5_isThere 27 327834 (Nat.le_of_ble_eq_true rfl) (by decide +kernel) z_o154 (by decide +kernel)
theorem dX5_isThere_30 : decode cX5_isThere 30 = .ok (.iconst 0, 1) := z_row zl_cX5_isThere 30 8694787 (Nat.le_of_ble_eq_true rfl) (by decide +kernel) z_o3 (by decide +kernel)
theorem dX5_isThere_31 : decode cX5_isThere 31 = .ok (.ireturn, 1) := z_row zl_cX5_isThere 31 230572 (Nat.le_of_ble_eq_true rfl) (by decide +kernel) z_o172 (by decide +kernel)
theorem dX5_isThere_32 : decode cX5_isThere 32 = .ok (.iinc 3 1, 3) := z_row zl_cX5_isThere 32 66436 (Nat.le_of_ble_eq_true rfl) (by decide +kernel) z_o132 (by decide +kernel)
theorem dX5_isThere_35 : decode cX5_isThere 35 = .ok (.goto (-33), 3) := z_row zl_cX5_isThere 35 14679975 (Nat.le_of_ble_eq_true rfl) (by decide +kernel) z_o167 (by decide +kernel)
theorem dX5_isThere_38 : decode cX5_isThere 38 = .ok (.aload_n 0, 1) := z_row zl_cX5_isThere 38 11934506 (Nat.le_of_ble_eq_true rfl) (by decide +kernel) z_o42 (by decide +kernel)
theorem dX5_isThere_39 : decode cX5_isThere 39 = .ok (.iload_n 1, 1) := z_row zl_cX5_isThere 39 46619 (Nat.le_of_ble_eq_true rfl) (by decide +kernel) z_o27 (by decide +kernel)
theorem dX5_isThere_40 : decode cX5_isThere 40 = .ok (.invokevirtual 113, 3) := z_row zl_cX5_isThere 40 7405750 (Nat.le_of_ble_eq_true rfl) (by decide +kernel) z_o182 (by decide +kernel)
theorem dX5_isThere_43 : decode cX5_isThere 43 = .ok (.ifCond .ne 7, 3) := z_row zl_cX5_isThere 43 458906 (Nat.le_of_ble_eq_true rfl) (by decide +kernel) z_o154 (by decide +kernel)
theorem dX5_isThere_46 : decode cX5_isThere 46 = .ok (.iconst 1, 1) := z_row zl_cX5_isThere 46 42756 (Nat.le_of_ble_eq_true rfl) (by decide +kernel) z_o4 (by decide +kernel)
theorem dX5_isThere_47 : decode cX5_isThere 47 = .ok (.goto 4, 3) := z_row zl_cX5_isThere 47 262311 (Nat.le_of_ble_eq_true rfl) (by decide +kernel) z_o167 (by decide +kernel)
set_option maxRecDepth 100000 in
theorem dX5_isThere_50 : decode cX5_isThere 50 = .ok (.iconst 0, 1) := by decide +kernel
set_option maxRecDepth 100000 in
theorem dX5_isThere_51 : decode cX5_isThere 51 = .ok (.ireturn, 1) := by decide +kernel
set_option maxRecDepth 100000 in
theorem dX5_isEnough_0 : decode cX5_isEnough 0 = .ok (.aload_n 0, 1) := by decide +kernel
set_option maxRecDepth 100000 in
theorem dX5_isEnough_1 : decode cX5_isEnough 1 = .ok (.iload_n 1, 1) := by decide +kernel
set_option maxRecDepth 100000 in
theorem dX5_isEnough_2 : decode cX5_isEnough 2 = .ok (.iload_n 2, 1) := by decide +kernel
set_option maxRecDepth 100000 in
theorem dX5_isEnough_3 : decode cX5_isEnough 3 = .ok (.invokevirtual 122, 3) := by decide +kernel
set_option maxRecDepth 100000 in
theorem dX5_isEnough_6 : decode cX5_isEnough 6 = .ok (.ifCond .eq 20, 3) := by decide +kernel
set_option maxRecDepth 100000 in
theorem dX5_isEnough_9 : decode cX5_isEnough 9 = .ok (.iload_n 2, 1) := by decide +kernel
set_option maxRecDepth 100000 in
theorem dX5_isEnough_10 : decode cX5_isEnough 10 = .ok (.invokestatic 119, 3) := by decide +kernel
set_option maxRecDepth 100000 in
theorem dX5_isEnough_13 : decode cX5_isEnough 13 = .ok (.aload_n 0, 1) := by decide +kernel
set_option maxRecDepth 100000 in
theorem dX5_isEnough_14 : decode cX5_isEnough 14 = .ok (.getfield 13, 3) := by decide +kernel
set_option maxRecDepth 100000 in
theorem dX5_isEnough_17 : decode cX5_isEnough 17 = .ok (.iload_n 1, 1) := by decide +kernel
set_option maxRecDepth 100000 in
theorem dX5_isEnough_18 : decode cX5_isEnough 18 = .ok (.iaload, 1) := by decide +kernel
set_option maxRecDepth 100000 in
theorem dX5_isEnough_19 : decode cX5_isEnough 19 = .ok (.if_icmp .le 7, 3) := by decide +kernel
set_option maxRecDepth 100000 in
theorem dX5_isEnough_22 : decode cX5_isEnough 22 = .ok (.iconst 1, 1) := by decide +kernel
set_option maxRecDepth 100000 in
theorem dX5_isEnough_23 : decode cX5_isEnough 23 = .ok (.goto 4, 3) := by decide +kernel
set_option maxRecDepth 100000 in
theorem dX5_isEnough_26 : decode cX5_isEnough 26 = .ok (.iconst 0, 1) := by decide +kernel
set_option maxRecDepth 100000 in
theorem dX5_isEnough_27 : decode cX5_isEnough 27 = .ok (.ireturn, 1) := by decide +kernel
set_option maxRecDepth 100000 in
theorem dX5_isAgreed_0 : decode cX5_isAgreed 0 = .ok (.aload_n 0, 1) := by decide +kernel
set_option maxRecDepth 100000 in
theorem dX5_isAgreed_1 : decode cX5_isAgreed 1 = .ok (.aload_n 0, 1) := by decide +kernel
set_option maxRecDepth 100000 in
theorem dX5_isAgreed_2 : decode cX5_isAgreed 2 = .ok (.getfield 18, 3) := by decide +kernel
set_option maxRecDepth 100000 in
theorem dX5_isAgreed_5 : decode cX5_isAgreed 5 = .ok (.iload_n 1, 1) := by decide +kernel
set_option maxRecDepth 100000 in
theorem dX5_isAgreed_6 : decode cX5_isAgreed 6 = .ok (.aaload, 1) := by decide +kernel
set_option maxRecDepth 100000 in
theorem dX5_isAgreed_7 : decode cX5_isAgreed 7 = .ok (.iload_n 2, 1) := by decide +kernel
set_option maxRecDepth 100000 in
theorem dX5_isAgreed_8 : decode cX5_isAgreed 8 = .ok (.invokevirtual 95, 3) := by decide +kernel
set_option maxRecDepth 100000 in
theorem dX5_isAgreed_11 : decode cX5_isAgreed 11 = .ok (.invokestatic 125, 3) := by decide +kernel
set_option maxRecDepth 100000 in
theorem dX5_isAgreed_14 : decode cX5_isAgreed 14 = .ok (.aload_n 0, 1) := by decide +kernel
set_option maxRecDepth 100000 in
theorem dX5_isAgreed_15 : decode cX5_isAgreed 15 = .ok (.getfield 13, 3) := by decide +kernel
set_option maxRecDepth 100000 in
theorem dX5_isAgreed_18 : decode cX5_isAgreed 18 = .ok (.iload_n 1, 1) := by decide +kernel
set_option maxRecDepth 100000 in
theorem dX5_isAgreed_19 : decode cX5_isAgreed 19 = .ok (.iaload, 1) := by decide +kernel
set_option maxRecDepth 100000 in
theorem dX5_isAgreed_20 : decode cX5_isAgreed 20 = .ok (.if_icmp .gt 7, 3) := by decide +kernel
set_option maxRecDepth 100000 in
theorem dX5_isAgreed_23 : decode cX5_isAgreed 23 = .ok (.iconst 1, 1) := by decide +kernel
def zN_cX5_isAgreed : Nat := 0xac030400a7040700a32e1b0d00b42a7d00b85f00b61c321b1200b42a2a
set_option maxRecDepth 100000 in
theorem zl_cX5_isAgreed : cX5_isAgreed.data.toList = z_un 29 zN_cX5_isAgreed := eq_of_beq (by decide +kernel)
theorem dX5_isAgreed_24 : decode cX5_isAgreed 24 = .ok (.goto 4, 3) := z_row zl_cX5_isAgreed 24 262311 (Nat.le_of_ble_eq_true rfl) (by decide +kernel) z_o167 (by decide +kernel)
set_option maxRecDepth 100000 in
theorem dX5_isAgreed_27 : decode cX5_isAgreed 27 = .ok (.iconst 0, 1) := by decide +kernel
set_option maxRecDepth 100000 in
theorem dX5_isAgreed_28 : decode cX5_isAgreed 28 = .ok (.ireturn, 1) := by decide +kernel
set_option maxRecDepth 100000 in
theorem dX5_hide_0 : decode cX5_hide 0 = .ok (.aload_n 0, 1) := by decide +kernel
set_option maxRecDepth 100000 in
theorem dX5_hide_1 : decode cX5_hide 1 = .ok (.iload_n 1, 1) := by decide +kernel
set_option maxRecDepth 100000 in
theorem dX5_hide_2 : decode cX5_hide 2 = .ok (.invokestatic 129, 3) := by decide +kernel
set_option maxRecDepth 100000 in
theorem dX5_hide_5 : decode cX5_hide 5 = .ok (.iconst 1, 1) := by decide +kernel
set_option maxRecDepth 100000 in
theorem dX5_hide_6 : decode cX5_hide 6 = .ok (.invokevirtual 69, 3) := by decide +kernel
set_option maxRecDepth 100000 in
theorem dX5_hide_9 : decode cX5_hide 9 = .ok (.ifCond .ne 25, 3) := by decide +kernel
set_option maxRecDepth 100000 in
theorem dX5_hide_12 : decode cX5_hide 12 = .ok (.aload_n 0, 1) := by decide +kernel
set_option maxRecDepth 100000 in
theorem dX5_hide_13 : decode cX5_hide 13 = .ok (.iload_n 2, 1) := by decide +kernel
set_option maxRecDepth 100000 in
theorem dX5_hide_14 : decode cX5_hide 14 = .ok (.iconst 0, 1) := by decide +kernel
set_option maxRecDepth 100000 in
theorem dX5_hide_15 : decode cX5_hide 15 = .ok (.iconst 3, 1) := by decide +kernel
set_option maxRecDepth 100000 in
theorem dX5_hide_16 : decode cX5_hide 16 = .ok (.invokestatic 48, 3) := by decide +kernel
set_option maxRecDepth 100000 in
theorem dX5_hide_19 : decode cX5_hide 19 = .ok (.ifCond .ne 7, 3) := by decide +kernel
set_option maxRecDepth 100000 in
theorem dX5_hide_22 : decode cX5_hide 22 = .ok (.iconst 1, 1) := by decide +kernel
set_option maxRecDepth 100000 in
theorem dX5_hide_23 : decode cX5_hide 23 = .ok (.goto 4, 3) := by decide +kernel
def zN_cX5_hide : Nat := 0xac8c00b607198800b607192a1c1b2a073a8400b60615051504151d1c2aac030500991c00b605030400a70407009a3000b806031c2a19009a4500b6048100b81b2a
set_option maxRecDepth 100000 in
theorem zl_cX5_hide : cX5_hide.data.toList = z_un 65 zN_cX5_hide := eq_of_beq (by decide +kernel)
theorem dX5_hide_26 : decode cX5_hide 26 = .ok (.iconst 0, 1) := z_row zl_cX5_hide 26 11928835 (Nat.le_of_ble_eq_true rfl) (by decide +kernel) z_o3 (by decide +kernel)
theorem dX5_hide_27 : decode cX5_hide 27 = .ok (.iconst 2, 1) := z_row zl_cX5_hide 27 46597 (Nat.le_of_ble_eq_true rfl) (by decide +kernel) z_o5 (by decide +kernel)
theorem dX5_hide_28 : decode cX5_hide 28 = .ok (.invokevirtual 28, 3) := z_row zl_cX5_hide 28 1835190 (Nat.le_of_ble_eq_true rfl) (by decide +kernel) z_o182 (by decide +kernel)
theorem dX5_hide_31 : decode cX5_hide 31 = .ok (.ifCond .eq 5, 3) := z_row zl_cX5_hide 31 327833 (Nat.le_of_ble_eq_true rfl) (by decide +kernel) z_o153 (by decide +kernel)
theorem dX5_hide_34 : decode cX5_hide 34 = .ok (.iconst 0, 1) := z_row zl_cX5_hide 34 2796547 (Nat.le_of_ble_eq_true rfl) (by decide +kernel) z_o3 (by decide +kernel)
theorem dX5_hide_35 : decode cX5_hide 35 = .ok (.ireturn, 1) := z_row zl_cX5_hide 35 1845932 (Nat.le_of_ble_eq_true rfl) (by decide +kernel) z_o172 (by decide +kernel)
theorem dX5_hide_36 : decode cX5_hide 36 = .ok (.aload_n 0, 1) := z_row zl_cX5_hide 36 1907754 (Nat.le_of_ble_eq_true rfl) (by decide +kernel) z_o42 (by decide +kernel)
theorem dX5_hide_37 : decode cX5_hide 37 = .ok (.iload_n 2, 1) := z_row zl_cX5_hide 37 1383708 (Nat.le_of_ble_eq_true rfl) (by decide +kernel) z_o28 (by decide +kernel)
theorem dX5_hide_38 : decode cX5_hide 38 = .ok (.iload_n 3, 1) := z_row zl_cX5_hide 38 267549 (Nat.le_of_ble_eq_true rfl) (by decide +kernel) z_o29 (by decide +kernel)
theorem dX5_hide_39 : decode cX5_hide 39 = .ok (.iload 4, 2) := z_row zl_cX5_hide 39 1377301 (Nat.le_of_ble_eq_true rfl) (by decide +kernel) z_o21 (by decide +kernel)
theorem dX5_hide_41 : decode cX5_hide 41 = .ok (.iload 5, 2) := z_row zl_cX5_hide 41 1377557 (Nat.le_of_ble_eq_true rfl) (by decide +kernel) z_o21 (by decide +kernel)
theorem dX5_hide_43 : decode cX5_hide 43 = .ok (.iload 6, 2) := z_row zl_cX5_hide 43 11929109 (Nat.le_of_ble_eq_true rfl) (by decide +kernel) z_o21 (by decide +kernel)
theorem dX5_hide_45 : decode cX5_hide 45 = .ok (.invokevirtual 132, 3) := z_row zl_cX5_hide 45 8650934 (Nat.le_of_ble_eq_true rfl) (by decide +kernel) z_o182 (by decide +kernel)
theorem dX5_hide_48 : decode cX5_hide 48 = .ok (.astore 7, 2) := z_row zl_cX5_hide 48 2754362 (Nat.le_of_ble_eq_true rfl) (by decide +kernel) z_o58 (by decide +kernel)
theorem dX5_hide_50 : decode cX5_hide 50 = .ok (.aload_n 0, 1) := z_row zl_cX5_hide 50 1841962 (Nat.le_of_ble_eq_true rfl) (by decide +kernel) z_o42 (by decide +kernel)
theorem dX5_hide_51 : decode cX5_hide 51 = .ok (.iload_n 1, 1) := z_row zl_cX5_hide 51 2759707 (Nat.le_of_ble_eq_true rfl) (by decide +kernel) z_o27 (by decide +kernel)
theorem dX5_hide_52 : decode cX5_hide 52 = .ok (.iload_n 2, 1) := z_row zl_cX5_hide 52 1649180 (Nat.le_of_ble_eq_true rfl) (by decide +kernel) z_o28 (by decide +kernel)
theorem dX5_hide_53 : decode cX5_hide 53 = .ok (.aload_n 0, 1) := z_row zl_cX5_hide 53 465194 (Nat.le_of_ble_eq_true rfl) (by decide +kernel) z_o42 (by decide +kernel)
theorem dX5_hide_54 : decode cX5_hide 54 = .ok (.aload 7, 2) := z_row zl_cX5_hide 54 11929369 (Nat.le_of_ble_eq_true rfl) (by decide +kernel) z_o25 (by decide +kernel)
theorem dX5_hide_56 : decode cX5_hide 56 = .ok (.invokevirtual 136, 3) := z_row zl_cX5_hide 56 8913078 (Nat.le_of_ble_eq_true rfl) (by decide +kernel) z_o182 (by decide +kernel)
theorem dX5_hide_59 : decode cX5_hide 59 = .ok (.aload 7, 2) := z_row zl_cX5_hide 59 11929369 (Nat.le_of_ble_eq_true rfl) (by decide +kernel) z_o25 (by decide +kernel)
theorem dX5_hide_61 : decode cX5_hide 61 = .ok (.invokevirtual 140, 3) := z_row zl_cX5_hide 61 9175222 (Nat.le_of_ble_eq_true rfl) (by decide +kernel) z_o182 (by decide +kernel)
set_option maxRecDepth 100000 in
theorem dX5_hide_64 : decode cX5_hide 64 = .ok (.ireturn, 1) := by decide +kernel
set_option maxRecDepth 100000 in
theorem dX5_pour_0 : decode cX5_pour 0 = .ok (.aload_n 0, 1) := by decide +kernel
set_option maxRecDepth 100000 in
theorem dX5_pour_1 : decode cX5_pour 1 = .ok (.iload_n 1, 1) := by decide +kernel
set_option maxRecDepth 100000 in
theorem dX5_pour_2 : decode cX5_pour 2 = .ok (.invokestatic 129, 3) := by decide +kernel
set_option maxRecDepth 100000 in
theorem dX5_pour_5 : decode cX5_pour 5 = .ok (.iconst 1, 1) := by decide +kernel
set_option maxRecDepth 100000 in
theorem dX5_pour_6 : decode cX5_pour 6 = .ok (.invokevirtual 69, 3) := by decide +kernel
set_option maxRecDepth 100000 in
theorem dX5_pour_9 : decode cX5_pour 9 = .ok (.ifCond .eq 5, 3) := by decide +kernel
set_option maxRecDepth 100000 in
theorem dX5_pour_12 : decode cX5_pour 12 = .ok (.iconst 0, 1) := by decide +kernel
set_option maxRecDepth 100000 in
theorem dX5_pour_13 : decode cX5_pour 13 = .ok (.ireturn, 1) := by decide +kernel
set_option maxRecDepth 100000 in
theorem dX5_pour_14 : decode cX5_pour 14 = .ok (.aload_n 0, 1) := by decide +kernel
set_option maxRecDepth 100000 in
theorem dX5_pour_15 : decode cX5_pour 15 = .ok (.iload_n 1, 1) := by decide +kernel
set_option maxRecDepth 100000 in
theorem dX5_pour_16 : decode cX5_pour 16 = .ok (.invokevirtual 113, 3) := by decide +kernel
set_option maxRecDepth 100000 in
theorem dX5_pour_19 : decode cX5_pour 19 = .ok (.ifCond .eq 6, 3) := by decide +kernel
set_option maxRecDepth 100000 in
theorem dX5_pour_22 : decode cX5_pour 22 = .ok (.bipush (-9), 2) := by decide +kernel
def zN_cX5_pour : Nat := 0xac8c00b6081907192e1b0d00b42a1b2ad6ffa70109844f3700b661852e0915321b1600b42a852e091506192a091508192300a2be081909152b00c60819093603d2ffa70109844f3700b661855b00b6091506192a852e091507192a091507191c009f022e091507192b00a33400b62a0915093604083a1100c09000b606190b00a7010700c7321b1600b42a073a1100c09000b6321b1200b42a063a8400b6051504151d1c2e1b0d00b42a2aacf7100600997100b61b2aac030500994500b6048100b81b2a
set_option maxRecDepth 100000 in
theorem zl_cX5_pour : cX5_pour.data.toList = z_un 196 zN_cX5_pour := eq_of_beq (by decide +kernel)
theorem dX5_pour_24 : decode cX5_pour 24 = .ok (.ireturn, 1) := z_row zl_cX5_pour 24 2763436 (Nat.le_of_ble_eq_true rfl) (by decide +kernel) z_o172 (by decide +kernel)
theorem dX5_pour_25 : decode cX5_pour 25 = .ok (.aload_n 0, 1) := z_row zl_cX5_pour 25 11807274 (Nat.le_of_ble_eq_true rfl) (by decide +kernel) z_o42 (by decide +kernel)
theorem dX5_pour_26 : decode cX5_pour 26 = .ok (.aload_n 0, 1) := z_row zl_cX5_pour 26 46122 (Nat.le_of_ble_eq_true rfl) (by decide +kernel) z_o42 (by decide +kernel)
theorem dX5_pour_27 : decode cX5_pour 27 = .ok (.getfield 13, 3) := z_row zl_cX5_pour 27 852148 (Nat.le_of_ble_eq_true rfl) (by decide +kernel) z_o180 (by decide +kernel)
theorem dX5_pour_30 : decode cX5_pour 30 = .ok (.iload_n 1, 1) := z_row zl_cX5_pour 30 1846811 (Nat.le_of_ble_eq_true rfl) (by decide +kernel) z_o27 (by decide +kernel)
theorem dX5_pour_31 : decode cX5_pour 31 = .ok (.iaload, 1) := z_row zl_cX5_pour 31 1907758 (Nat.le_of_ble_eq_true rfl) (by decide +kernel) z_o46 (by decide +kernel)
theorem dX5_pour_32 : decode cX5_pour 32 = .ok (.iload_n 2, 1) := z_row zl_cX5_pour 32 1383708 (Nat.le_of_ble_eq_true rfl) (by decide +kernel) z_o28 (by decide +kernel)
theorem dX5_pour_33 : decode cX5_pour 33 = .ok (.iload_n 3, 1) := z_row zl_cX5_pour 33 267549 (Nat.le_of_ble_eq_true rfl) (by decide +kernel) z_o29 (by decide +kernel)
theorem dX5_pour_34 : decode cX5_pour 34 = .ok (.iload 4, 2) := z_row zl_cX5_pour 34 1377301 (Nat.le_of_ble_eq_true rfl) (by decide +kernel) z_o21 (by decide +kernel)
theorem dX5_pour_36 : decode cX5_pour 36 = .ok (.iload 5, 2) := z_row zl_cX5_pour 36 11928853 (Nat.le_of_ble_eq_true rfl) (by decide +kernel) z_o21 (by decide +kernel)
theorem dX5_pour_38 : decode cX5_pour 38 = .ok (.invokevirtual 132, 3) := z_row zl_cX5_pour 38 8650934 (Nat.le_of_ble_eq_true rfl) (by decide +kernel) z_o182 (by decide +kernel)
theorem dX5_pour_41 : decode cX5_pour 41 = .ok (.astore 6, 2) := z_row zl_cX5_pour 41 2754106 (Nat.le_of_ble_eq_true rfl) (by decide +kernel) z_o58 (by decide +kernel)
theorem dX5_pour_43 : decode cX5_pour 43 = .ok (.aload_n 0, 1) := z_row zl_cX5_pour 43 46122 (Nat.le_of_ble_eq_true rfl) (by decide +kernel) z_o42 (by decide +kernel)
theorem dX5_pour_44 : decode cX5_pour 44 = .ok (.getfield 18, 3) := z_row zl_cX5_pour 44 1179828 (Nat.le_of_ble_eq_true rfl) (by decide +kernel) z_o180 (by decide +kernel)
theorem dX5_pour_47 : decode cX5_pour 47 = .ok (.iload_n 1, 1) := z_row zl_cX5_pour 47 11940379 (Nat.le_of_ble_eq_true rfl) (by decide +kernel) z_o27 (by decide +kernel)
theorem dX5_pour_48 : decode cX5_pour 48 = .ok (.aaload, 1) := z_row zl_cX5_pour 48 46642 (Nat.le_of_ble_eq_true rfl) (by decide +kernel) z_o50 (by decide +kernel)
theorem dX5_pour_49 : decode cX5_pour 49 = .ok (.invokevirtual 144, 3) := z_row zl_cX5_pour 49 9437366 (Nat.le_of_ble_eq_true rfl) (by decide +kernel) z_o182 (by decide +kernel)
theorem dX5_pour_52 : decode cX5_pour 52 = .ok (.checkcast 17, 3) := z_row zl_cX5_pour 52 1114304 (Nat.le_of_ble_eq_true rfl) (by decide +kernel) z_o192 (by decide +kernel)
theorem dX5_pour_55 : decode cX5_pour 55 = .ok (.astore 7, 2) := z_row zl_cX5_pour 55 2754362 (Nat.le_of_ble_eq_true rfl) (by decide +kernel) z_o58 (by decide +kernel)
theorem dX5_pour_57 : decode cX5_pour 57 = .ok (.aload_n 0, 1) := z_row zl_cX5_pour 57 46122 (Nat.le_of_ble_eq_true rfl) (by decide +kernel) z_o42 (by decide +kernel)
theorem dX5_pour_58 : decode cX5_pour 58 = .ok (.getfield 22, 3) := z_row zl_cX5_pour 58 1441972 (Nat.le_of_ble_eq_true rfl) (by decide +kernel) z_o180 (by decide +kernel)
theorem dX5_pour_61 : decode cX5_pour 61 = .ok (.iload_n 1, 1) := z_row zl_cX5_pour 61 13054491 (Nat.le_of_ble_eq_true rfl) (by decide +kernel) z_o27 (by decide +kernel)
theorem dX5_pour_62 : decode cX5_pour 62 = .ok (.aaload, 1) := z_row zl_cX5_pour 62 50994 (Nat.le_of_ble_eq_true rfl) (by decide +kernel) z_o50 (by decide +kernel)
theorem dX5_pour_63 : decode cX5_pour 63 = .ok (.ifnonnull 7, 3) := z_row zl_cX5_pour 63 458951 (Nat.le_of_ble_eq_true rfl) (by decide +kernel) z_o199 (by decide +kernel)
theorem dX5_pour_66 : decode cX5_pour 66 = .ok (.aconst_null, 1) := z_row zl_cX5_pour 66 42753 (Nat.le_of_ble_eq_true rfl) (by decide +kernel) z_o1 (by decide +kernel)
theorem dX5_pour_67 : decode cX5_pour 67 = .ok (.goto 11, 3) := z_row zl_cX5_pour 67 721063 (Nat.le_of_ble_eq_true rfl) (by decide +kernel) z_o167 (by decide +kernel)
theorem dX5_pour_70 : decode cX5_pour 70 = .ok (.aload 6, 2) := z_row zl_cX5_pour 70 11929113 (Nat.le_of_ble_eq_true rfl) (by decide +kernel) z_o25 (by decide +kernel)
theorem dX5_pour_72 : decode cX5_pour 72 = .ok (.invokevirtual 144, 3) := z_row zl_cX5_pour 72 9437366 (Nat.le_of_ble_eq_true rfl) (by decide +kernel) z_o182 (by decide +kernel)
theorem dX5_pour_75 : decode cX5_pour 75 = .ok (.checkcast 17, 3) := z_row zl_cX5_pour 75 1114304 (Nat.le_of_ble_eq_true rfl) (by decide +kernel) z_o192 (by decide +kernel)
theorem dX5_pour_78 : decode cX5_pour 78 = .ok (.astore 8, 2) := z_row zl_cX5_pour 78 264250 (Nat.le_of_ble_eq_true rfl) (by decide +kernel) z_o58 (by decide +kernel)
theorem dX5_pour_80 : decode cX5_pour 80 = .ok (.iconst 1, 1) := z_row zl_cX5_pour 80 603652 (Nat.le_of_ble_eq_true rfl) (by decide +kernel) z_o4 (by decide +kernel)
theorem dX5_pour_81 : decode cX5_pour 81 = .ok (.istore 9, 2) := z_row zl_cX5_pour 81 1378614 (Nat.le_of_ble_eq_true rfl) (by decide +kernel) z_o54 (by decide +kernel)
theorem dX5_pour_83 : decode cX5_pour 83 = .ok (.iload 9, 2) := z_row zl_cX5_pour 83 2754837 (Nat.le_of_ble_eq_true rfl) (by decide +kernel) z_o21 (by decide +kernel)
theorem dX5_pour_85 : decode cX5_pour 85 = .ok (.aload_n 0, 1) := z_row zl_cX5_pour 85 46634 (Nat.le_of_ble_eq_true rfl) (by decide +kernel) z_o42 (by decide +kernel)
theorem dX5_pour_86 : decode cX5_pour 86 = .ok (.invokevirtual 52, 3) := z_row zl_cX5_pour 86 3408054 (Nat.le_of_ble_eq_true rfl) (by decide +kernel) z_o182 (by decide +kernel)
theorem dX5_pour_89 : decode cX5_pour 89 = .ok (.if_icmp .gt 43, 3) := z_row zl_cX5_pour 89 2818211 (Nat.le_of_ble_eq_true rfl) (by decide +kernel) z_o163 (by decide +kernel)
theorem dX5_pour_92 : decode cX5_pour 92 = .ok (.aload 7, 2) := z_row zl_cX5_pour 92 1378073 (Nat.le_of_ble_eq_true rfl) (by decide +kernel) z_o25 (by decide +kernel)
theorem dX5_pour_94 : decode cX5_pour 94 = .ok (.iload 9, 2) := z_row zl_cX5_pour 94 3016981 (Nat.le_of_ble_eq_true rfl) (by decide +kernel) z_o21 (by decide +kernel)
theorem dX5_pour_96 : decode cX5_pour 96 = .ok (.iaload, 1) := z_row zl_cX5_pour 96 10420782 (Nat.le_of_ble_eq_true rfl) (by decide +kernel) z_o46 (by decide +kernel)
theorem dX5_pour_97 : decode cX5_pour 97 = .ok (.iconst (-1), 1) := z_row zl_cX5_pour 97 40706 (Nat.le_of_ble_eq_true rfl) (by decide +kernel) z_o2 (by decide +kernel)
theorem dX5_pour_98 : decode cX5_pour 98 = .ok (.if_icmp .eq 28, 3) := z_row zl_cX5_pour 98 1835167 (Nat.le_of_ble_eq_true rfl) (by decide +kernel) z_o159 (by decide +kernel)
theorem dX5_pour_101 : decode cX5_pour 101 = .ok (.aload 7, 2) := z_row zl_cX5_pour 101 1378073 (Nat.le_of_ble_eq_true rfl) (by decide +kernel) z_o25 (by decide +kernel)
theorem dX5_pour_103 : decode cX5_pour 103 = .ok (.iload 9, 2) := z_row zl_cX5_pour 103 2754837 (Nat.le_of_ble_eq_true rfl) (by decide +kernel) z_o21 (by decide +kernel)
theorem dX5_pour_105 : decode cX5_pour 105 = .ok (.aload_n 0, 1) := z_row zl_cX5_pour 105 465194 (Nat.le_of_ble_eq_true rfl) (by decide +kernel) z_o42 (by decide +kernel)
theorem dX5_pour_106 : decode cX5_pour 106 = .ok (.aload 7, 2) := z_row zl_cX5_pour 106 1378073 (Nat.le_of_ble_eq_true rfl) (by decide +kernel) z_o25 (by decide +kernel)
theorem dX5_pour_108 : decode cX5_pour 108 = .ok (.iload 9, 2) := z_row zl_cX5_pour 108 3016981 (Nat.le_of_ble_eq_true rfl) (by decide +kernel) z_o21 (by decide +kernel)
theorem dX5_pour_110 : decode cX5_pour 110 = .ok (.iaload, 1) := z_row zl_cX5_pour 110 2786606 (Nat.le_of_ble_eq_true rfl) (by decide +kernel) z_o46 (by decide +kernel)
theorem dX5_pour_111 : decode cX5_pour 111 = .ok (.i2l, 1) := z_row zl_cX5_pour 111 1649285 (Nat.le_of_ble_eq_true rfl) (by decide +kernel) z_o133 (by decide +kernel)
theorem dX5_pour_112 : decode cX5_pour 112 = .ok (.aload_n 0, 1) := z_row zl_cX5_pour 112 399658 (Nat.le_of_ble_eq_true rfl) (by decide +kernel) z_o42 (by decide +kernel)
theorem dX5_pour_113 : decode cX5_pour 113 = .ok (.aload 6, 2) := z_row zl_cX5_pour 113 1377817 (Nat.le_of_ble_eq_true rfl) (by decide +kernel) z_o25 (by decide +kernel)
theorem dX5_pour_115 : decode cX5_pour 115 = .ok (.iload 9, 2) := z_row zl_cX5_pour 115 11929877 (Nat.le_of_ble_eq_true rfl) (by decide +kernel) z_o21 (by decide +kernel)
theorem dX5_pour_117 : decode cX5_pour 117 = .ok (.invokevirtual 91, 3) := z_row zl_cX5_pour 117 5963958 (Nat.le_of_ble_eq_true rfl) (by decide +kernel) z_o182 (by decide +kernel)
theorem dX5_pour_120 : decode cX5_pour 120 = .ok (.i2l, 1) := z_row zl_cX5_pour 120 11952517 (Nat.le_of_ble_eq_true rfl) (by decide +kernel) z_o133 (by decide +kernel)
theorem dX5_pour_121 : decode cX5_pour 121 = .ok (.ladd, 1) := z_row zl_cX5_pour 121 46689 (Nat.le_of_ble_eq_true rfl) (by decide +kernel) z_o97 (by decide +kernel)
theorem dX5_pour_122 : decode cX5_pour 122 = .ok (.invokevirtual 55, 3) := z_row zl_cX5_pour 122 3604662 (Nat.le_of_ble_eq_true rfl) (by decide +kernel) z_o182 (by decide +kernel)
theorem dX5_pour_125 : decode cX5_pour 125 = .ok (.iastore, 1) := z_row zl_cX5_pour 125 623695 (Nat.le_of_ble_eq_true rfl) (by decide +kernel) z_o79 (by decide +kernel)
theorem dX5_pour_126 : decode cX5_pour 126 = .ok (.iinc 9 1, 3) := z_row zl_cX5_pour 126 67972 (Nat.le_of_ble_eq_true rfl) (by decide +kernel) z_o132 (by decide +kernel)
theorem dX5_pour_129 : decode cX5_pour 129 = .ok (.goto (-46), 3) := z_row zl_cX5_pour 129 13828007 (Nat.le_of_ble_eq_true rfl) (by decide +kernel) z_o167 (by decide +kernel)
theorem dX5_pour_132 : decode cX5_pour 132 = .ok (.iconst 0, 1) := z_row zl_cX5_pour 132 603651 (Nat.le_of_ble_eq_true rfl) (by decide +kernel) z_o3 (by decide +kernel)
theorem dX5_pour_133 : decode cX5_pour 133 = .ok (.istore 9, 2) := z_row zl_cX5_pour 133 1640758 (Nat.le_of_ble_eq_true rfl) (by decide +kernel) z_o54 (by decide +kernel)
theorem dX5_pour_135 : decode cX5_pour 135 = .ok (.aload 8, 2) := z_row zl_cX5_pour 135 12978201 (Nat.le_of_ble_eq_true rfl) (by decide +kernel) z_o25 (by decide +kernel)
theorem dX5_pour_137 : decode cX5_pour 137 = .ok (.ifnull 43, 3) := z_row zl_cX5_pour 137 2818246 (Nat.le_of_ble_eq_true rfl) (by decide +kernel) z_o198 (by decide +kernel)
theorem dX5_pour_140 : decode cX5_pour 140 = .ok (.iload 9, 2) := z_row zl_cX5_pour 140 1640725 (Nat.le_of_ble_eq_true rfl) (by decide +kernel) z_o21 (by decide +kernel)
theorem dX5_pour_142 : decode cX5_pour 142 = .ok (.aload 8, 2) := z_row zl_cX5_pour 142 12453913 (Nat.le_of_ble_eq_true rfl) (by decide +kernel) z_o25 (by decide +kernel)
theorem dX5_pour_144 : decode cX5_pour 144 = .ok (.arraylength, 1) := z_row zl_cX5_pour 144 41662 (Nat.le_of_ble_eq_true rfl) (by decide +kernel) z_o190 (by decide +kernel)
theorem dX5_pour_145 : decode cX5_pour 145 = .ok (.if_icmp .ge 35, 3) := z_row zl_cX5_pour 145 2293922 (Nat.le_of_ble_eq_true rfl) (by decide +kernel) z_o162 (by decide +kernel)
theorem dX5_pour_148 : decode cX5_pour 148 = .ok (.aload 8, 2) := z_row zl_cX5_pour 148 1378329 (Nat.le_of_ble_eq_true rfl) (by decide +kernel) z_o25 (by decide +kernel)
theorem dX5_pour_150 : decode cX5_pour 150 = .ok (.iload 9, 2) := z_row zl_cX5_pour 150 2754837 (Nat.le_of_ble_eq_true rfl) (by decide +kernel) z_o21 (by decide +kernel)
theorem dX5_pour_152 : decode cX5_pour 152 = .ok (.aload_n 0, 1) := z_row zl_cX5_pour 152 399658 (Nat.le_of_ble_eq_true rfl) (by decide +kernel) z_o42 (by decide +kernel)
theorem dX5_pour_153 : decode cX5_pour 153 = .ok (.aload 6, 2) := z_row zl_cX5_pour 153 1377817 (Nat.le_of_ble_eq_true rfl) (by decide +kernel) z_o25 (by decide +kernel)
theorem dX5_pour_155 : decode cX5_pour 155 = .ok (.iload 9, 2) := z_row zl_cX5_pour 155 3016981 (Nat.le_of_ble_eq_true rfl) (by decide +kernel) z_o21 (by decide +kernel)
theorem dX5_pour_157 : decode cX5_pour 157 = .ok (.iaload, 1) := z_row zl_cX5_pour 157 2786606 (Nat.le_of_ble_eq_true rfl) (by decide +kernel) z_o46 (by decide +kernel)
theorem dX5_pour_158 : decode cX5_pour 158 = .ok (.i2l, 1) := z_row zl_cX5_pour 158 11807365 (Nat.le_of_ble_eq_true rfl) (by decide +kernel) z_o133 (by decide +kernel)
theorem dX5_pour_159 : decode cX5_pour 159 = .ok (.aload_n 0, 1) := z_row zl_cX5_pour 159 46122 (Nat.le_of_ble_eq_true rfl) (by decide +kernel) z_o42 (by decide +kernel)
theorem dX5_pour_160 : decode cX5_pour 160 = .ok (.getfield 22, 3) := z_row zl_cX5_pour 160 1441972 (Nat.le_of_ble_eq_true rfl) (by decide +kernel) z_o180 (by decide +kernel)
theorem dX5_pour_163 : decode cX5_pour 163 = .ok (.iload_n 1, 1) := z_row zl_cX5_pour 163 1389083 (Nat.le_of_ble_eq_true rfl) (by decide +kernel) z_o27 (by decide +kernel)
theorem dX5_pour_164 : decode cX5_pour 164 = .ok (.aaload, 1) := z_row zl_cX5_pour 164 595250 (Nat.le_of_ble_eq_true rfl) (by decide +kernel) z_o50 (by decide +kernel)
theorem dX5_pour_165 : decode cX5_pour 165 = .ok (.iload 9, 2) := z_row zl_cX5_pour 165 3016981 (Nat.le_of_ble_eq_true rfl) (by decide +kernel) z_o21 (by decide +kernel)
theorem dX5_pour_167 : decode cX5_pour 167 = .ok (.iaload, 1) := z_row zl_cX5_pour 167 6391086 (Nat.le_of_ble_eq_true rfl) (by decide +kernel) z_o46 (by decide +kernel)
theorem dX5_pour_168 : decode cX5_pour 168 = .ok (.i2l, 1) := z_row zl_cX5_pour 168 11952517 (Nat.le_of_ble_eq_true rfl) (by decide +kernel) z_o133 (by decide +kernel)
theorem dX5_pour_169 : decode cX5_pour 169 = .ok (.ladd, 1) := z_row zl_cX5_pour 169 46689 (Nat.le_of_ble_eq_true rfl) (by decide +kernel) z_o97 (by decide +kernel)
theorem dX5_pour_170 : decode cX5_pour 170 = .ok (.invokevirtual 55, 3) := z_row zl_cX5_pour 170 3604662 (Nat.le_of_ble_eq_true rfl) (by decide +kernel) z_o182 (by decide +kernel)
theorem dX5_pour_173 : decode cX5_pour 173 = .ok (.iastore, 1) := z_row zl_cX5_pour 173 623695 (Nat.le_of_ble_eq_true rfl) (by decide +kernel) z_o79 (by decide +kernel)
theorem dX5_pour_174 : decode cX5_pour 174 = .ok (.iinc 9 1, 3) := z_row zl_cX5_pour 174 67972 (Nat.le_of_ble_eq_true rfl) (by decide +kernel) z_o132 (by decide +kernel)
theorem dX5_pour_177 : decode cX5_pour 177 = .ok (.goto (-42), 3) := z_row zl_cX5_pour 177 14090151 (Nat.le_of_ble_eq_true rfl) (by decide +kernel) z_o167 (by decide +kernel)
theorem dX5_pour_180 : decode cX5_pour 180 = .ok (.aload_n 0, 1) := z_row zl_cX5_pour 180 2759466 (Nat.le_of_ble_eq_true rfl) (by decide +kernel) z_o42 (by decide +kernel)
theorem dX5_pour_181 : decode cX5_pour 181 = .ok (.iload_n 1, 1) := z_row zl_cX5_pour 181 11807259 (Nat.le_of_ble_eq_true rfl) (by decide +kernel) z_o27 (by decide +kernel)
theorem dX5_pour_182 : decode cX5_pour 182 = .ok (.aload_n 0, 1) := z_row zl_cX5_pour 182 46122 (Nat.le_of_ble_eq_true rfl) (by decide +kernel) z_o42 (by decide +kernel)
theorem dX5_pour_183 : decode cX5_pour 183 = .ok (.getfield 13, 3) := z_row zl_cX5_pour 183 852148 (Nat.le_of_ble_eq_true rfl) (by decide +kernel) z_o180 (by decide +kernel)
theorem dX5_pour_186 : decode cX5_pour 186 = .ok (.iload_n 1, 1) := z_row zl_cX5_pour 186 1650203 (Nat.le_of_ble_eq_true rfl) (by decide +kernel) z_o27 (by decide +kernel)
theorem dX5_pour_187 : decode cX5_pour 187 = .ok (.iaload, 1) := z_row zl_cX5_pour 187 465198 (Nat.le_of_ble_eq_true rfl) (by decide +kernel) z_o46 (by decide +kernel)
theorem dX5_pour_188 : decode cX5_pour 188 = .ok (.aload 7, 2) := z_row zl_cX5_pour 188 1640217 (Nat.le_of_ble_eq_true rfl) (by decide +kernel) z_o25 (by decide +kernel)
theorem dX5_pour_190 : decode cX5_pour 190 = .ok (.aload 8, 2) := z_row zl_cX5_pour 190 11929625 (Nat.le_of_ble_eq_true rfl) (by decide +kernel) z_o25 (by decide +kernel)
theorem dX5_pour_192 : decode cX5_pour 192 = .ok (.invokevirtual 140, 3) := z_row zl_cX5_pour 192 9175222 (Nat.le_of_ble_eq_true rfl) (by decide +kernel) z_o182 (by decide +kernel)
set_option maxRecDepth 100000 in
theorem dX5_pour_195 : decode cX5_pour 195 = .ok (.ireturn, 1) := by decide +kernel
set_option maxRecDepth 100000 in
theorem dX5_areNoDeals_0 : decode cX5_areNoDeals 0 = .ok (.iload_n 1, 1) := by decide +kernel
set_option maxRecDepth 100000 in
theorem dX5_areNoDeals_1 : decode cX5_areNoDeals 1 = .ok (.invokestatic 129, 3) := by decide +kernel
set_option maxRecDepth 100000 in
theorem dX5_areNoDeals_4 : decode cX5_areNoDeals 4 = .ok (.ifCond .ne 17, 3) := by decide +kernel
set_option maxRecDepth 100000 in
theorem dX5_areNoDeals_7 : decode cX5_areNoDeals 7 = .ok (.iload_n 2, 1) := by decide +kernel
set_option maxRecDepth 100000 in
theorem dX5_areNoDeals_8 : decode cX5_areNoDeals 8 = .ok (.invokestatic 129, 3) := by decide +kernel
set_option maxRecDepth 100000 in
theorem dX5_areNoDeals_11 : decode cX5_areNoDeals 11 = .ok (.ifCond .ne 10, 3) := by decide +kernel
set_option maxRecDepth 100000 in
theorem dX5_areNoDeals_14 : decode cX5_areNoDeals 14 = .ok (.iload_n 3, 1) := by decide +kernel
set_option maxRecDepth 100000 in
theorem dX5_areNoDeals_15 : decode cX5_areNoDeals 15 = .ok (.invokestatic 129, 3) := by decide +kernel
set_option maxRecDepth 100000 in
theorem dX5_areNoDeals_18 : decode cX5_areNoDeals 18 = .ok (.ifCond .eq 7, 3) := by decide +kernel
set_option maxRecDepth 100000 in
theorem dX5_areNoDeals_21 : decode cX5_areNoDeals 21 = .ok (.iconst 1, 1) := by decide +kernel
set_option maxRecDepth 100000 in
theorem dX5_areNoDeals_22 : decode cX5_areNoDeals 22 = .ok (.goto 4, 3) := by decide +kernel
set_option maxRecDepth 100000 in
theorem dX5_areNoDeals_25 : decode cX5_areNoDeals 25 = .ok (.iconst 0, 1) := by decide +kernel
set_option maxRecDepth 100000 in
theorem dX5_areNoDeals_26 : decode cX5_areNoDeals 26 = .ok (.ireturn, 1) := by decide +kernel
set_option maxRecDepth 100000 in
theorem dX5_of_0 : decode cX5_of 0 = .ok (.iload_n 1, 1) := by decide +kernel
set_option maxRecDepth 100000 in
theorem dX5_of_1 : decode cX5_of 1 = .ok (.aload_n 0, 1) := by decide +kernel
set_option maxRecDepth 100000 in
theorem dX5_of_2 : decode cX5_of 2 = .ok (.arraylength, 1) := by decide +kernel
set_option maxRecDepth 100000 in
theorem dX5_of_3 : decode cX5_of 3 = .ok (.if_icmp .ge 9, 3) := by decide +kernel
set_option maxRecDepth 100000 in
theorem dX5_of_6 : decode cX5_of 6 = .ok (.aload_n 0, 1) := by decide +kernel
set_option maxRecDepth 100000 in
theorem dX5_of_7 : decode cX5_of 7 = .ok (.iload_n 1, 1) := by decide +kernel
set_option maxRecDepth 100000 in
theorem dX5_of_8 : decode cX5_of 8 = .ok (.iaload, 1) := by decide +kernel
set_option maxRecDepth 100000 in
theorem dX5_of_9 : decode cX5_of 9 = .ok (.goto 4, 3) := by decide +kernel
set_option maxRecDepth 100000 in
theorem dX5_of_12 : decode cX5_of 12 = .ok (.iconst 0, 1) := by decide +kernel
set_option maxRecDepth 100000 in
theorem dX5_of_13 : decode cX5_of 13 = .ok (.ireturn, 1) := by decide +kernel
set_option maxRecDepth 100000 in
theorem dX5_joined_0 : decode cX5_joined 0 = .ok (.aload_n 0, 1) := by decide +kernel
set_option maxRecDepth 100000 in
theorem dX5_joined_1 : decode cX5_joined 1 = .ok (.iload_n 1, 1) := by decide +kernel
set_option maxRecDepth 100000 in
theorem dX5_joined_2 : decode cX5_joined 2 = .ok (.invokevirtual 113, 3) := by decide +kernel
set_option maxRecDepth 100000 in
theorem dX5_joined_5 : decode cX5_joined 5 = .ok (.ifCond .ne 11, 3) := by decide +kernel
set_option maxRecDepth 100000 in
theorem dX5_joined_8 : decode cX5_joined 8 = .ok (.aload_n 0, 1) := by decide +kernel
set_option maxRecDepth 100000 in
theorem dX5_joined_9 : decode cX5_joined 9 = .ok (.iload_n 2, 1) := by decide +kernel
set_option maxRecDepth 100000 in
theorem dX5_joined_10 : decode cX5_joined 10 = .ok (.invokevirtual 113, 3) := by decide +kernel
set_option maxRecDepth 100000 in
theorem dX5_joined_13 : decode cX5_joined 13 = .ok (.ifCond .eq 6, 3) := by decide +kernel
set_option maxRecDepth 100000 in
theorem dX5_joined_16 : decode cX5_joined 16 = .ok (.bipush (-9), 2) := by decide +kernel
set_option maxRecDepth 100000 in
theorem dX5_joined_18 : decode cX5_joined 18 = .ok (.ireturn, 1) := by decide +kernel
set_option maxRecDepth 100000 in
theorem dX5_joined_19 : decode cX5_joined 19 = .ok (.aload_n 0, 1) := by decide +kernel
set_option maxRecDepth 100000 in
theorem dX5_joined_20 : decode cX5_joined 20 = .ok (.getfield 13, 3) := by decide +kernel
set_option maxRecDepth 100000 in
theorem dX5_joined_23 : decode cX5_joined 23 = .ok (.iload_n 1, 1) := by decide +kernel
def zN_cX5_joined : Nat := 0xac8c00b60719061905151d2accffa70108844f3700b66185689700b80815321c1600b42a0415859700b80815321b1600b42a2a081507192e00a3051508153500c60719083603073a0abc600405150900a7010700c7321c1600b42a0c00c6321b1600b42ab6ffa70107844f3700b66185682e0715321c1200b42a0415852e0715321b1200b42a2a1f00a7020700a0022e0715321c1200b42a10009f022e0715321b1200b42a071506194800a2be06190715073603063a0abc60043400b62a05369400b82e1c0d00b42a2e1b0d00b42aacf7100600997100b61c2a0b009a7100b61b2a
set_option maxRecDepth 100000 in
theorem zl_cX5_joined : cX5_joined.data.toList = z_un 226 zN_cX5_joined := eq_of_beq (by decide +kernel)
theorem dX5_joined_24 : decode cX5_joined 24 = .ok (.iaload, 1) := z_row zl_cX5_joined 24 11807278 (Nat.le_of_ble_eq_true rfl) (by decide +kernel) z_o46 (by decide +kernel)
theorem dX5_joined_25 : decode cX5_joined 25 = .ok (.aload_n 0, 1) := z_row zl_cX5_joined 25 46122 (Nat.le_of_ble_eq_true rfl) (by decide +kernel) z_o42 (by decide +kernel)
theorem dX5_joined_26 : decode cX5_joined 26 = .ok (.getfield 13, 3) := z_row zl_cX5_joined 26 852148 (Nat.le_of_ble_eq_true rfl) (by decide +kernel) z_o180 (by decide +kernel)
theorem dX5_joined_29 : decode cX5_joined 29 = .ok (.iload_n 2, 1) := z_row zl_cX5_joined 29 12070428 (Nat.le_of_ble_eq_true rfl) (by decide +kernel) z_o28 (by decide +kernel)
theorem dX5_joined_30 : decode cX5_joined 30 = .ok (.iaload, 1) := z_row zl_cX5_joined 30 47150 (Nat.le_of_ble_eq_true rfl) (by decide +kernel) z_o46 (by decide +kernel)
theorem dX5_joined_31 : decode cX5_joined 31 = .ok (.invokestatic 148, 3) := z_row zl_cX5_joined 31 9699512 (Nat.le_of_ble_eq_true rfl) (by decide +kernel) z_o184 (by decide +kernel)
theorem dX5_joined_34 : decode cX5_joined 34 = .ok (.istore 5, 2) := z_row zl_cX5_joined 34 2753846 (Nat.le_of_ble_eq_true rfl) (by decide +kernel) z_o54 (by decide +kernel)
theorem dX5_joined_36 : decode cX5_joined 36 = .ok (.aload_n 0, 1) := z_row zl_cX5_joined 36 46634 (Nat.le_of_ble_eq_true rfl) (by decide +kernel) z_o42 (by decide +kernel)
theorem dX5_joined_37 : decode cX5_joined 37 = .ok (.invokevirtual 52, 3) := z_row zl_cX5_joined 37 3408054 (Nat.le_of_ble_eq_true rfl) (by decide +kernel) z_o182 (by decide +kernel)
theorem dX5_joined_40 : decode cX5_joined 40 = .ok (.iconst 1, 1) := z_row zl_cX5_joined 40 12345348 (Nat.le_of_ble_eq_true rfl) (by decide +kernel) z_o4 (by decide +kernel)
theorem dX5_joined_41 : decode cX5_joined 41 = .ok (.iadd, 1) := z_row zl_cX5_joined 41 703584 (Nat.le_of_ble_eq_true rfl) (by decide +kernel) z_o96 (by decide +kernel)
set_option maxRecDepth 100000 in
theorem dX5_joined_42 : decode cX5_joined 42 = .ok (.newarray .int, 2) := by decide +kernel
theorem dX5_joined_44 : decode cX5_joined 44 = .ok (.astore 6, 2) := z_row zl_cX5_joined 44 198202 (Nat.le_of_ble_eq_true rfl) (by decide +kernel) z_o58 (by decide +kernel)
theorem dX5_joined_46 : decode cX5_joined 46 = .ok (.iconst 0, 1) := z_row zl_cX5_joined 46 472579 (Nat.le_of_ble_eq_true rfl) (by decide +kernel) z_o3 (by decide +kernel)
theorem dX5_joined_47 : decode cX5_joined 47 = .ok (.istore 7, 2) := z_row zl_cX5_joined 47 1378102 (Nat.le_of_ble_eq_true rfl) (by decide +kernel) z_o54 (by decide +kernel)
theorem dX5_joined_49 : decode cX5_joined 49 = .ok (.iload 7, 2) := z_row zl_cX5_joined 49 1640213 (Nat.le_of_ble_eq_true rfl) (by decide +kernel) z_o21 (by decide +kernel)
theorem dX5_joined_51 : decode cX5_joined 51 = .ok (.aload 6, 2) := z_row zl_cX5_joined 51 12453401 (Nat.le_of_ble_eq_true rfl) (by decide +kernel) z_o25 (by decide +kernel)
theorem dX5_joined_53 : decode cX5_joined 53 = .ok (.arraylength, 1) := z_row zl_cX5_joined 53 41662 (Nat.le_of_ble_eq_true rfl) (by decide +kernel) z_o190 (by decide +kernel)
theorem dX5_joined_54 : decode cX5_joined 54 = .ok (.if_icmp .ge 72, 3) := z_row zl_cX5_joined 54 4718754 (Nat.le_of_ble_eq_true rfl) (by decide +kernel) z_o162 (by decide +kernel)
theorem dX5_joined_57 : decode cX5_joined 57 = .ok (.aload 6, 2) := z_row zl_cX5_joined 57 1377817 (Nat.le_of_ble_eq_true rfl) (by decide +kernel) z_o25 (by decide +kernel)
theorem dX5_joined_59 : decode cX5_joined 59 = .ok (.iload 7, 2) := z_row zl_cX5_joined 59 2754325 (Nat.le_of_ble_eq_true rfl) (by decide +kernel) z_o21 (by decide +kernel)
theorem dX5_joined_61 : decode cX5_joined 61 = .ok (.aload_n 0, 1) := z_row zl_cX5_joined 61 46122 (Nat.le_of_ble_eq_true rfl) (by decide +kernel) z_o42 (by decide +kernel)
theorem dX5_joined_62 : decode cX5_joined 62 = .ok (.getfield 18, 3) := z_row zl_cX5_joined 62 1179828 (Nat.le_of_ble_eq_true rfl) (by decide +kernel) z_o180 (by decide +kernel)
theorem dX5_joined_65 : decode cX5_joined 65 = .ok (.iload_n 1, 1) := z_row zl_cX5_joined 65 1389083 (Nat.le_of_ble_eq_true rfl) (by decide +kernel) z_o27 (by decide +kernel)
theorem dX5_joined_66 : decode cX5_joined 66 = .ok (.aaload, 1) := z_row zl_cX5_joined 66 464178 (Nat.le_of_ble_eq_true rfl) (by decide +kernel) z_o50 (by decide +kernel)
theorem dX5_joined_67 : decode cX5_joined 67 = .ok (.iload 7, 2) := z_row zl_cX5_joined 67 3016469 (Nat.le_of_ble_eq_true rfl) (by decide +kernel) z_o21 (by decide +kernel)
theorem dX5_joined_69 : decode cX5_joined 69 = .ok (.iaload, 1) := z_row zl_cX5_joined 69 10420782 (Nat.le_of_ble_eq_true rfl) (by decide +kernel) z_o46 (by decide +kernel)
theorem dX5_joined_70 : decode cX5_joined 70 = .ok (.iconst (-1), 1) := z_row zl_cX5_joined 70 40706 (Nat.le_of_ble_eq_true rfl) (by decide +kernel) z_o2 (by decide +kernel)
theorem dX5_joined_71 : decode cX5_joined 71 = .ok (.if_icmp .eq 16, 3) := z_row zl_cX5_joined 71 1048735 (Nat.le_of_ble_eq_true rfl) (by decide +kernel) z_o159 (by decide +kernel)
theorem dX5_joined_74 : decode cX5_joined 74 = .ok (.aload_n 0, 1) := z_row zl_cX5_joined 74 46122 (Nat.le_of_ble_eq_true rfl) (by decide +kernel) z_o42 (by decide +kernel)
theorem dX5_joined_75 : decode cX5_joined 75 = .ok (.getfield 18, 3) := z_row zl_cX5_joined 75 1179828 (Nat.le_of_ble_eq_true rfl) (by decide +kernel) z_o180 (by decide +kernel)
theorem dX5_joined_78 : decode cX5_joined 78 = .ok (.iload_n 2, 1) := z_row zl_cX5_joined 78 1389084 (Nat.le_of_ble_eq_true rfl) (by decide +kernel) z_o28 (by decide +kernel)
theorem dX5_joined_79 : decode cX5_joined 79 = .ok (.aaload, 1) := z_row zl_cX5_joined 79 464178 (Nat.le_of_ble_eq_true rfl) (by decide +kernel) z_o50 (by decide +kernel)
theorem dX5_joined_80 : decode cX5_joined 80 = .ok (.iload 7, 2) := z_row zl_cX5_joined 80 3016469 (Nat.le_of_ble_eq_true rfl) (by decide +kernel) z_o21 (by decide +kernel)
theorem dX5_joined_82 : decode cX5_joined 82 = .ok (.iaload, 1) := z_row zl_cX5_joined 82 10486318 (Nat.le_of_ble_eq_true rfl) (by decide +kernel) z_o46 (by decide +kernel)
theorem dX5_joined_83 : decode cX5_joined 83 = .ok (.iconst (-1), 1) := z_row zl_cX5_joined 83 40962 (Nat.le_of_ble_eq_true rfl) (by decide +kernel) z_o2 (by decide +kernel)
theorem dX5_joined_84 : decode cX5_joined 84 = .ok (.if_icmp .ne 7, 3) := z_row zl_cX5_joined 84 458912 (Nat.le_of_ble_eq_true rfl) (by decide +kernel) z_o160 (by decide +kernel)
theorem dX5_joined_87 : decode cX5_joined 87 = .ok (.iconst (-1), 1) := z_row zl_cX5_joined 87 42754 (Nat.le_of_ble_eq_true rfl) (by decide +kernel) z_o2 (by decide +kernel)
theorem dX5_joined_88 : decode cX5_joined 88 = .ok (.goto 31, 3) := z_row zl_cX5_joined 88 2031783 (Nat.le_of_ble_eq_true rfl) (by decide +kernel) z_o167 (by decide +kernel)
theorem dX5_joined_91 : decode cX5_joined 91 = .ok (.aload_n 0, 1) := z_row zl_cX5_joined 91 11807274 (Nat.le_of_ble_eq_true rfl) (by decide +kernel) z_o42 (by decide +kernel)
theorem dX5_joined_92 : decode cX5_joined 92 = .ok (.aload_n 0, 1) := z_row zl_cX5_joined 92 46122 (Nat.le_of_ble_eq_true rfl) (by decide +kernel) z_o42 (by decide +kernel)
theorem dX5_joined_93 : decode cX5_joined 93 = .ok (.getfield 18, 3) := z_row zl_cX5_joined 93 1179828 (Nat.le_of_ble_eq_true rfl) (by decide +kernel) z_o180 (by decide +kernel)
theorem dX5_joined_96 : decode cX5_joined 96 = .ok (.iload_n 1, 1) := z_row zl_cX5_joined 96 1389083 (Nat.le_of_ble_eq_true rfl) (by decide +kernel) z_o27 (by decide +kernel)
theorem dX5_joined_97 : decode cX5_joined 97 = .ok (.aaload, 1) := z_row zl_cX5_joined 97 464178 (Nat.le_of_ble_eq_true rfl) (by decide +kernel) z_o50 (by decide +kernel)
theorem dX5_joined_98 : decode cX5_joined 98 = .ok (.iload 7, 2) := z_row zl_cX5_joined 98 3016469 (Nat.le_of_ble_eq_true rfl) (by decide +kernel) z_o21 (by decide +kernel)
theorem dX5_joined_100 : decode cX5_joined 100 = .ok (.iaload, 1) := z_row zl_cX5_joined 100 1410350 (Nat.le_of_ble_eq_true rfl) (by decide +kernel) z_o46 (by decide +kernel)
theorem dX5_joined_101 : decode cX5_joined 101 = .ok (.i2l, 1) := z_row zl_cX5_joined 101 267653 (Nat.le_of_ble_eq_true rfl) (by decide +kernel) z_o133 (by decide +kernel)
theorem dX5_joined_102 : decode cX5_joined 102 = .ok (.iload 4, 2) := z_row zl_cX5_joined 102 2753557 (Nat.le_of_ble_eq_true rfl) (by decide +kernel) z_o21 (by decide +kernel)
theorem dX5_joined_104 : decode cX5_joined 104 = .ok (.aload_n 0, 1) := z_row zl_cX5_joined 104 46122 (Nat.le_of_ble_eq_true rfl) (by decide +kernel) z_o42 (by decide +kernel)
theorem dX5_joined_105 : decode cX5_joined 105 = .ok (.getfield 18, 3) := z_row zl_cX5_joined 105 1179828 (Nat.le_of_ble_eq_true rfl) (by decide +kernel) z_o180 (by decide +kernel)
theorem dX5_joined_108 : decode cX5_joined 108 = .ok (.iload_n 2, 1) := z_row zl_cX5_joined 108 1389084 (Nat.le_of_ble_eq_true rfl) (by decide +kernel) z_o28 (by decide +kernel)
theorem dX5_joined_109 : decode cX5_joined 109 = .ok (.aaload, 1) := z_row zl_cX5_joined 109 464178 (Nat.le_of_ble_eq_true rfl) (by decide +kernel) z_o50 (by decide +kernel)
theorem dX5_joined_110 : decode cX5_joined 110 = .ok (.iload 7, 2) := z_row zl_cX5_joined 110 3016469 (Nat.le_of_ble_eq_true rfl) (by decide +kernel) z_o21 (by decide +kernel)
theorem dX5_joined_112 : decode cX5_joined 112 = .ok (.iaload, 1) := z_row zl_cX5_joined 112 8742958 (Nat.le_of_ble_eq_true rfl) (by decide +kernel) z_o46 (by decide +kernel)
theorem dX5_joined_113 : decode cX5_joined 113 = .ok (.imul, 1) := z_row zl_cX5_joined 113 6391144 (Nat.le_of_ble_eq_true rfl) (by decide +kernel) z_o104 (by decide +kernel)
theorem dX5_joined_114 : decode cX5_joined 114 = .ok (.i2l, 1) := z_row zl_cX5_joined 114 11952517 (Nat.le_of_ble_eq_true rfl) (by decide +kernel) z_o133 (by decide +kernel)
theorem dX5_joined_115 : decode cX5_joined 115 = .ok (.ladd, 1) := z_row zl_cX5_joined 115 46689 (Nat.le_of_ble_eq_true rfl) (by decide +kernel) z_o97 (by decide +kernel)
theorem dX5_joined_116 : decode cX5_joined 116 = .ok (.invokevirtual 55, 3) := z_row zl_cX5_joined 116 3604662 (Nat.le_of_ble_eq_true rfl) (by decide +kernel) z_o182 (by decide +kernel)
theorem dX5_joined_119 : decode cX5_joined 119 = .ok (.iastore, 1) := z_row zl_cX5_joined 119 492623 (Nat.le_of_ble_eq_true rfl) (by decide +kernel) z_o79 (by decide +kernel)
theorem dX5_joined_120 : decode cX5_joined 120 = .ok (.iinc 7 1, 3) := z_row zl_cX5_joined 120 67460 (Nat.le_of_ble_eq_true rfl) (by decide +kernel) z_o132 (by decide +kernel)
theorem dX5_joined_123 : decode cX5_joined 123 = .ok (.goto (-74), 3) := z_row zl_cX5_joined 123 11992999 (Nat.le_of_ble_eq_true rfl) (by decide +kernel) z_o167 (by decide +kernel)
theorem dX5_joined_126 : decode cX5_joined 126 = .ok (.aload_n 0, 1) := z_row zl_cX5_joined 126 46122 (Nat.le_of_ble_eq_true rfl) (by decide +kernel) z_o42 (by decide +kernel)
theorem dX5_joined_127 : decode cX5_joined 127 = .ok (.getfield 22, 3) := z_row zl_cX5_joined 127 1441972 (Nat.le_of_ble_eq_true rfl) (by decide +kernel) z_o180 (by decide +kernel)
theorem dX5_joined_130 : decode cX5_joined 130 = .ok (.iload_n 1, 1) := z_row zl_cX5_joined 130 12988955 (Nat.le_of_ble_eq_true rfl) (by decide +kernel) z_o27 (by decide +kernel)
theorem dX5_joined_131 : decode cX5_joined 131 = .ok (.aaload, 1) := z_row zl_cX5_joined 131 50738 (Nat.le_of_ble_eq_true rfl) (by decide +kernel) z_o50 (by decide +kernel)
theorem dX5_joined_132 : decode cX5_joined 132 = .ok (.ifnull 12, 3) := z_row zl_cX5_joined 132 786630 (Nat.le_of_ble_eq_true rfl) (by decide +kernel) z_o198 (by decide +kernel)
theorem dX5_joined_135 : decode cX5_joined 135 = .ok (.aload_n 0, 1) := z_row zl_cX5_joined 135 46122 (Nat.le_of_ble_eq_true rfl) (by decide +kernel) z_o42 (by decide +kernel)
theorem dX5_joined_136 : decode cX5_joined 136 = .ok (.getfield 22, 3) := z_row zl_cX5_joined 136 1441972 (Nat.le_of_ble_eq_true rfl) (by decide +kernel) z_o180 (by decide +kernel)
theorem dX5_joined_139 : decode cX5_joined 139 = .ok (.iload_n 2, 1) := z_row zl_cX5_joined 139 13054492 (Nat.le_of_ble_eq_true rfl) (by decide +kernel) z_o28 (by decide +kernel)
theorem dX5_joined_140 : decode cX5_joined 140 = .ok (.aaload, 1) := z_row zl_cX5_joined 140 50994 (Nat.le_of_ble_eq_true rfl) (by decide +kernel) z_o50 (by decide +kernel)
theorem dX5_joined_141 : decode cX5_joined 141 = .ok (.ifnonnull 7, 3) := z_row zl_cX5_joined 141 458951 (Nat.le_of_ble_eq_true rfl) (by decide +kernel) z_o199 (by decide +kernel)
theorem dX5_joined_144 : decode cX5_joined 144 = .ok (.aconst_null, 1) := z_row zl_cX5_joined 144 42753 (Nat.le_of_ble_eq_true rfl) (by decide +kernel) z_o1 (by decide +kernel)
theorem dX5_joined_145 : decode cX5_joined 145 = .ok (.goto 9, 3) := z_row zl_cX5_joined 145 589991 (Nat.le_of_ble_eq_true rfl) (by decide +kernel) z_o167 (by decide +kernel)
theorem dX5_joined_148 : decode cX5_joined 148 = .ok (.iload 5, 2) := z_row zl_cX5_joined 148 263445 (Nat.le_of_ble_eq_true rfl) (by decide +kernel) z_o21 (by decide +kernel)
theorem dX5_joined_150 : decode cX5_joined 150 = .ok (.iconst 1, 1) := z_row zl_cX5_joined 150 12345348 (Nat.le_of_ble_eq_true rfl) (by decide +kernel) z_o4 (by decide +kernel)
theorem dX5_joined_151 : decode cX5_joined 151 = .ok (.iadd, 1) := z_row zl_cX5_joined 151 703584 (Nat.le_of_ble_eq_true rfl) (by decide +kernel) z_o96 (by decide +kernel)
set_option maxRecDepth 100000 in
theorem dX5_joined_152 : decode cX5_joined 152 = .ok (.newarray .int, 2) := by decide +kernel
theorem dX5_joined_154 : decode cX5_joined 154 = .ok (.astore 7, 2) := z_row zl_cX5_joined 154 198458 (Nat.le_of_ble_eq_true rfl) (by decide +kernel) z_o58 (by decide +kernel)
theorem dX5_joined_156 : decode cX5_joined 156 = .ok (.iconst 0, 1) := z_row zl_cX5_joined 156 538115 (Nat.le_of_ble_eq_true rfl) (by decide +kernel) z_o3 (by decide +kernel)
theorem dX5_joined_157 : decode cX5_joined 157 = .ok (.istore 8, 2) := z_row zl_cX5_joined 157 1640502 (Nat.le_of_ble_eq_true rfl) (by decide +kernel) z_o54 (by decide +kernel)
theorem dX5_joined_159 : decode cX5_joined 159 = .ok (.aload 7, 2) := z_row zl_cX5_joined 159 12977945 (Nat.le_of_ble_eq_true rfl) (by decide +kernel) z_o25 (by decide +kernel)
theorem dX5_joined_161 : decode cX5_joined 161 = .ok (.ifnull 53, 3) := z_row zl_cX5_joined 161 3473606 (Nat.le_of_ble_eq_true rfl) (by decide +kernel) z_o198 (by decide +kernel)
theorem dX5_joined_164 : decode cX5_joined 164 = .ok (.iload 8, 2) := z_row zl_cX5_joined 164 1378325 (Nat.le_of_ble_eq_true rfl) (by decide +kernel) z_o21 (by decide +kernel)
theorem dX5_joined_166 : decode cX5_joined 166 = .ok (.iload 5, 2) := z_row zl_cX5_joined 166 10683669 (Nat.le_of_ble_eq_true rfl) (by decide +kernel) z_o21 (by decide +kernel)
theorem dX5_joined_168 : decode cX5_joined 168 = .ok (.if_icmp .gt 46, 3) := z_row zl_cX5_joined 168 3014819 (Nat.le_of_ble_eq_true rfl) (by decide +kernel) z_o163 (by decide +kernel)
theorem dX5_joined_171 : decode cX5_joined 171 = .ok (.aload 7, 2) := z_row zl_cX5_joined 171 1378073 (Nat.le_of_ble_eq_true rfl) (by decide +kernel) z_o25 (by decide +kernel)
theorem dX5_joined_173 : decode cX5_joined 173 = .ok (.iload 8, 2) := z_row zl_cX5_joined 173 2754581 (Nat.le_of_ble_eq_true rfl) (by decide +kernel) z_o21 (by decide +kernel)
theorem dX5_joined_175 : decode cX5_joined 175 = .ok (.aload_n 0, 1) := z_row zl_cX5_joined 175 11807274 (Nat.le_of_ble_eq_true rfl) (by decide +kernel) z_o42 (by decide +kernel)
theorem dX5_joined_176 : decode cX5_joined 176 = .ok (.aload_n 0, 1) := z_row zl_cX5_joined 176 46122 (Nat.le_of_ble_eq_true rfl) (by decide +kernel) z_o42 (by decide +kernel)
theorem dX5_joined_177 : decode cX5_joined 177 = .ok (.getfield 22, 3) := z_row zl_cX5_joined 177 1441972 (Nat.le_of_ble_eq_true rfl) (by decide +kernel) z_o180 (by decide +kernel)
theorem dX5_joined_180 : decode cX5_joined 180 = .ok (.iload_n 1, 1) := z_row zl_cX5_joined 180 1389083 (Nat.le_of_ble_eq_true rfl) (by decide +kernel) z_o27 (by decide +kernel)
theorem dX5_joined_181 : decode cX5_joined 181 = .ok (.aaload, 1) := z_row zl_cX5_joined 181 529714 (Nat.le_of_ble_eq_true rfl) (by decide +kernel) z_o50 (by decide +kernel)
theorem dX5_joined_182 : decode cX5_joined 182 = .ok (.iload 8, 2) := z_row zl_cX5_joined 182 12060693 (Nat.le_of_ble_eq_true rfl) (by decide +kernel) z_o21 (by decide +kernel)
theorem dX5_joined_184 : decode cX5_joined 184 = .ok (.invokestatic 151, 3) := z_row zl_cX5_joined 184 9896120 (Nat.le_of_ble_eq_true rfl) (by decide +kernel) z_o184 (by decide +kernel)
theorem dX5_joined_187 : decode cX5_joined 187 = .ok (.i2l, 1) := z_row zl_cX5_joined 187 267653 (Nat.le_of_ble_eq_true rfl) (by decide +kernel) z_o133 (by decide +kernel)
theorem dX5_joined_188 : decode cX5_joined 188 = .ok (.iload 4, 2) := z_row zl_cX5_joined 188 2753557 (Nat.le_of_ble_eq_true rfl) (by decide +kernel) z_o21 (by decide +kernel)
theorem dX5_joined_190 : decode cX5_joined 190 = .ok (.aload_n 0, 1) := z_row zl_cX5_joined 190 46122 (Nat.le_of_ble_eq_true rfl) (by decide +kernel) z_o42 (by decide +kernel)
theorem dX5_joined_191 : decode cX5_joined 191 = .ok (.getfield 22, 3) := z_row zl_cX5_joined 191 1441972 (Nat.le_of_ble_eq_true rfl) (by decide +kernel) z_o180 (by decide +kernel)
theorem dX5_joined_194 : decode cX5_joined 194 = .ok (.iload_n 2, 1) := z_row zl_cX5_joined 194 1389084 (Nat.le_of_ble_eq_true rfl) (by decide +kernel) z_o28 (by decide +kernel)
theorem dX5_joined_195 : decode cX5_joined 195 = .ok (.aaload, 1) := z_row zl_cX5_joined 195 529714 (Nat.le_of_ble_eq_true rfl) (by decide +kernel) z_o50 (by decide +kernel)
theorem dX5_joined_196 : decode cX5_joined 196 = .ok (.iload 8, 2) := z_row zl_cX5_joined 196 12060693 (Nat.le_of_ble_eq_true rfl) (by decide +kernel) z_o21 (by decide +kernel)
theorem dX5_joined_198 : decode cX5_joined 198 = .ok (.invokestatic 151, 3) := z_row zl_cX5_joined 198 9896120 (Nat.le_of_ble_eq_true rfl) (by decide +kernel) z_o184 (by decide +kernel)
theorem dX5_joined_201 : decode cX5_joined 201 = .ok (.imul, 1) := z_row zl_cX5_joined 201 6391144 (Nat.le_of_ble_eq_true rfl) (by decide +kernel) z_o104 (by decide +kernel)
theorem dX5_joined_202 : decode cX5_joined 202 = .ok (.i2l, 1) := z_row zl_cX5_joined 202 11952517 (Nat.le_of_ble_eq_true rfl) (by decide +kernel) z_o133 (by decide +kernel)
theorem dX5_joined_203 : decode cX5_joined 203 = .ok (.ladd, 1) := z_row zl_cX5_joined 203 46689 (Nat.le_of_ble_eq_true rfl) (by decide +kernel) z_o97 (by decide +kernel)
theorem dX5_joined_204 : decode cX5_joined 204 = .ok (.invokevirtual 55, 3) := z_row zl_cX5_joined 204 3604662 (Nat.le_of_ble_eq_true rfl) (by decide +kernel) z_o182 (by decide +kernel)
theorem dX5_joined_207 : decode cX5_joined 207 = .ok (.iastore, 1) := z_row zl_cX5_joined 207 558159 (Nat.le_of_ble_eq_true rfl) (by decide +kernel) z_o79 (by decide +kernel)
theorem dX5_joined_208 : decode cX5_joined 208 = .ok (.iinc 8 1, 3) := z_row zl_cX5_joined 208 67716 (Nat.le_of_ble_eq_true rfl) (by decide +kernel) z_o132 (by decide +kernel)
theorem dX5_joined_211 : decode cX5_joined 211 = .ok (.goto (-52), 3) := z_row zl_cX5_joined 211 13434791 (Nat.le_of_ble_eq_true rfl) (by decide +kernel) z_o167 (by decide +kernel)
theorem dX5_joined_214 : decode cX5_joined 214 = .ok (.aload_n 0, 1) := z_row zl_cX5_joined 214 1383722 (Nat.le_of_ble_eq_true rfl) (by decide +kernel) z_o42 (by decide +kernel)
theorem dX5_joined_215 : decode cX5_joined 215 = .ok (.iload_n 3, 1) := z_row zl_cX5_joined 215 333085 (Nat.le_of_ble_eq_true rfl) (by decide +kernel) z_o29 (by decide +kernel)
theorem dX5_joined_216 : decode cX5_joined 216 = .ok (.iload 5, 2) := z_row zl_cX5_joined 216 1639701 (Nat.le_of_ble_eq_true rfl) (by decide +kernel) z_o21 (by decide +kernel)
theorem dX5_joined_218 : decode cX5_joined 218 = .ok (.aload 6, 2) := z_row zl_cX5_joined 218 1639961 (Nat.le_of_ble_eq_true rfl) (by decide +kernel) z_o25 (by decide +kernel)
theorem dX5_joined_220 : decode cX5_joined 220 = .ok (.aload 7, 2) := z_row zl_cX5_joined 220 11929369 (Nat.le_of_ble_eq_true rfl) (by decide +kernel) z_o25 (by decide +kernel)
theorem dX5_joined_222 : decode cX5_joined 222 = .ok (.invokevirtual 140, 3) := z_row zl_cX5_joined 222 9175222 (Nat.le_of_ble_eq_true rfl) (by decide +kernel) z_o182 (by decide +kernel)
set_option maxRecDepth 100000 in
theorem dX5_joined_225 : decode cX5_joined 225 = .ok (.ireturn, 1) := by decide +kernel
set_option maxRecDepth 100000 in
theorem dX5_plus_0 : decode cX5_plus 0 = .ok (.aload_n 0, 1) := by decide +kernel
set_option maxRecDepth 100000 in
theorem dX5_plus_1 : decode cX5_plus 1 = .ok (.aload_n 0, 1) := by decide +kernel
set_option maxRecDepth 100000 in
theorem dX5_plus_2 : decode cX5_plus 2 = .ok (.iload_n 1, 1) := by decide +kernel
set_option maxRecDepth 100000 in
theorem dX5_plus_3 : decode cX5_plus 3 = .ok (.iload_n 2, 1) := by decide +kernel
set_option maxRecDepth 100000 in
theorem dX5_plus_4 : decode cX5_plus 4 = .ok (.iload_n 3, 1) := by decide +kernel
set_option maxRecDepth 100000 in
theorem dX5_plus_5 : decode cX5_plus 5 = .ok (.invokevirtual 154, 3) := by decide +kernel
set_option maxRecDepth 100000 in
theorem dX5_plus_8 : decode cX5_plus 8 = .ok (.iconst 1, 1) := by decide +kernel
set_option maxRecDepth 100000 in
theorem dX5_plus_9 : decode cX5_plus 9 = .ok (.invokevirtual 69, 3) := by decide +kernel
set_option maxRecDepth 100000 in
theorem dX5_plus_12 : decode cX5_plus 12 = .ok (.ifCond .eq 7, 3) := by decide +kernel
set_option maxRecDepth 100000 in
theorem dX5_plus_15 : decode cX5_plus 15 = .ok (.iconst 0, 1) := by decide +kernel
set_option maxRecDepth 100000 in
theorem dX5_plus_16 : decode cX5_plus 16 = .ok (.goto 11, 3) := by decide +kernel
set_option maxRecDepth 100000 in
theorem dX5_plus_19 : decode cX5_plus 19 = .ok (.aload_n 0, 1) := by decide +kernel
set_option maxRecDepth 100000 in
theorem dX5_plus_20 : decode cX5_plus 20 = .ok (.iload_n 1, 1) := by decide +kernel
set_option maxRecDepth 100000 in
theorem dX5_plus_21 : decode cX5_plus 21 = .ok (.iload_n 2, 1) := by decide +kernel
set_option maxRecDepth 100000 in
theorem dX5_plus_22 : decode cX5_plus 22 = .ok (.iload_n 3, 1) := by decide +kernel
set_option maxRecDepth 100000 in
theorem dX5_plus_23 : decode cX5_plus 23 = .ok (.iconst 1, 1) := by decide +kernel
def zN_cX5_plus : Nat := 0xac9d00b6041d1c1b2a0b00a7030700994500b6049a00b61d1c1b2a2a
set_option maxRecDepth 100000 in
theorem zl_cX5_plus : cX5_plus.data.toList = z_un 28 zN_cX5_plus := eq_of_beq (by decide +kernel)
theorem dX5_plus_24 : decode cX5_plus 24 = .ok (.invokevirtual 157, 3) := z_row zl_cX5_plus 24 10289334 (Nat.le_of_ble_eq_true rfl) (by decide +kernel) z_o182 (by decide +kernel)
set_option maxRecDepth 100000 in
theorem dX5_plus_27 : decode cX5_plus 27 = .ok (.ireturn, 1) := by decide +kernel
set_option maxRecDepth 100000 in
theorem dX5_less_0 : decode cX5_less 0 = .ok (.aload_n 0, 1) := by decide +kernel
set_option maxRecDepth 100000 in
theorem dX5_less_1 : decode cX5_less 1 = .ok (.aload_n 0, 1) := by decide +kernel
set_option maxRecDepth 100000 in
theorem dX5_less_2 : decode cX5_less 2 = .ok (.iload_n 1, 1) := by decide +kernel
set_option maxRecDepth 100000 in
theorem dX5_less_3 : decode cX5_less 3 = .ok (.iload_n 2, 1) := by decide +kernel
set_option maxRecDepth 100000 in
theorem dX5_less_4 : decode cX5_less 4 = .ok (.iload_n 3, 1) := by decide +kernel
set_option maxRecDepth 100000 in
theorem dX5_less_5 : decode cX5_less 5 = .ok (.invokevirtual 154, 3) := by decide +kernel
set_option maxRecDepth 100000 in
theorem dX5_less_8 : decode cX5_less 8 = .ok (.iconst 1, 1) := by decide +kernel
set_option maxRecDepth 100000 in
theorem dX5_less_9 : decode cX5_less 9 = .ok (.invokevirtual 69, 3) := by decide +kernel
set_option maxRecDepth 100000 in
theorem dX5_less_12 : decode cX5_less 12 = .ok (.ifCond .eq 7, 3) := by decide +kernel
set_option maxRecDepth 100000 in
theorem dX5_less_15 : decode cX5_less 15 = .ok (.iconst 0, 1) := by decide +kernel
set_option maxRecDepth 100000 in
theorem dX5_less_16 : decode cX5_less 16 = .ok (.goto 11, 3) := by decide +kernel
set_option maxRecDepth 100000 in
theorem dX5_less_19 : decode cX5_less 19 = .ok (.aload_n 0, 1) := by decide +kernel
set_option maxRecDepth 100000 in
theorem dX5_less_20 : decode cX5_less 20 = .ok (.iload_n 1, 1) := by decide +kernel
set_option maxRecDepth 100000 in
theorem dX5_less_21 : decode cX5_less 21 = .ok (.iload_n 2, 1) := by decide +kernel
set_option maxRecDepth 100000 in
theorem dX5_less_22 : decode cX5_less 22 = .ok (.iload_n 3, 1) := by decide +kernel
set_option maxRecDepth 100000 in
theorem dX5_less_23 : decode cX5_less 23 = .ok (.iconst (-1), 1) := by decide +kernel
def zN_cX5_less : Nat := 0xac9d00b6021d1c1b2a0b00a7030700994500b6049a00b61d1c1b2a2a
set_option maxRecDepth 100000 in
theorem zl_cX5_less : cX5_less.data.toList = z_un 28 zN_cX5_less := eq_of_beq (by decide +kernel)
theorem dX5_less_24 : decode cX5_less 24 = .ok (.invokevirtual 157, 3) := z_row zl_cX5_less 24 10289334 (Nat.le_of_ble_eq_true rfl) (by decide +kernel) z_o182 (by decide +kernel)
set_option maxRecDepth 100000 in
theorem dX5_less_27 : decode cX5_less 27 = .ok (.ireturn, 1) := by decide +kernel
set_option maxRecDepth 100000 in
theorem dX5_times_0 : decode cX5_times 0 = .ok (.aload_n 0, 1) := by decide +kernel
set_option maxRecDepth 100000 in
theorem dX5_times_1 : decode cX5_times 1 = .ok (.aload_n 0, 1) := by decide +kernel
set_option maxRecDepth 100000 in
theorem dX5_times_2 : decode cX5_times 2 = .ok (.iload_n 1, 1) := by decide +kernel
set_option maxRecDepth 100000 in
theorem dX5_times_3 : decode cX5_times 3 = .ok (.iload_n 2, 1) := by decide +kernel
set_option maxRecDepth 100000 in
theorem dX5_times_4 : decode cX5_times 4 = .ok (.iload_n 3, 1) := by decide +kernel
set_option maxRecDepth 100000 in
theorem dX5_times_5 : decode cX5_times 5 = .ok (.invokevirtual 154, 3) := by decide +kernel
set_option maxRecDepth 100000 in
theorem dX5_times_8 : decode cX5_times 8 = .ok (.iconst 1, 1) := by decide +kernel
set_option maxRecDepth 100000 in
theorem dX5_times_9 : decode cX5_times 9 = .ok (.invokevirtual 69, 3) := by decide +kernel
set_option maxRecDepth 100000 in
theorem dX5_times_12 : decode cX5_times 12 = .ok (.ifCond .eq 5, 3) := by decide +kernel
set_option maxRecDepth 100000 in
theorem dX5_times_15 : decode cX5_times 15 = .ok (.iconst 0, 1) := by decide +kernel
set_option maxRecDepth 100000 in
theorem dX5_times_16 : decode cX5_times 16 = .ok (.ireturn, 1) := by decide +kernel
set_option maxRecDepth 100000 in
theorem dX5_times_17 : decode cX5_times 17 = .ok (.aload_n 0, 1) := by decide +kernel
set_option maxRecDepth 100000 in
theorem dX5_times_18 : decode cX5_times 18 = .ok (.iload_n 1, 1) := by decide +kernel
set_option maxRecDepth 100000 in
theorem dX5_times_19 : decode cX5_times 19 = .ok (.invokevirtual 113, 3) := by decide +kernel
set_option maxRecDepth 100000 in
theorem dX5_times_22 : decode cX5_times 22 = .ok (.ifCond .ne 29, 3) := by decide +kernel
def zN_cX5_times : Nat := 0xac8c00b6010419602e1c0d00b42a2e1b0d00b42a1d2ab9ffa70105844f3700b669852e0515321c1200b42a852e0515321b1200b42a2a1c00a7020700a0022e0515321c1200b42a10009f022e0515321b1200b42a051504194500a2be04190515053603043a0abc60043400b62aacf7100600a40610602e1c0d00b42a2e1b0d00b42a15009a7100b61c2a1d009a7100b61b2aac030500994500b6049a00b61d1c1b2a2a
set_option maxRecDepth 100000 in
theorem zl_cX5_times : cX5_times.data.toList = z_un 163 zN_cX5_times := eq_of_beq (by decide +kernel)
theorem dX5_times_25 : decode cX5_times 25 = .ok (.aload_n 0, 1) := z_row zl_cX5_times 25 11934762 (Nat.le_of_ble_eq_true rfl) (by decide +kernel) z_o42 (by decide +kernel)
theorem dX5_times_26 : decode cX5_times 26 = .ok (.iload_n 2, 1) := z_row zl_cX5_times 26 46620 (Nat.le_of_ble_eq_true rfl) (by decide +kernel) z_o28 (by decide +kernel)
theorem dX5_times_27 : decode cX5_times 27 = .ok (.invokevirtual 113, 3) := z_row zl_cX5_times 27 7405750 (Nat.le_of_ble_eq_true rfl) (by decide +kernel) z_o182 (by decide +kernel)
theorem dX5_times_30 : decode cX5_times 30 = .ok (.ifCond .ne 21, 3) := z_row zl_cX5_times 30 1376410 (Nat.le_of_ble_eq_true rfl) (by decide +kernel) z_o154 (by decide +kernel)
theorem dX5_times_33 : decode cX5_times 33 = .ok (.aload_n 0, 1) := z_row zl_cX5_times 33 46122 (Nat.le_of_ble_eq_true rfl) (by decide +kernel) z_o42 (by decide +kernel)
theorem dX5_times_34 : decode cX5_times 34 = .ok (.getfield 13, 3) := z_row zl_cX5_times 34 852148 (Nat.le_of_ble_eq_true rfl) (by decide +kernel) z_o180 (by decide +kernel)
theorem dX5_times_37 : decode cX5_times 37 = .ok (.iload_n 1, 1) := z_row zl_cX5_times 37 2764315 (Nat.le_of_ble_eq_true rfl) (by decide +kernel) z_o27 (by decide +kernel)
theorem dX5_times_38 : decode cX5_times 38 = .ok (.iaload, 1) := z_row zl_cX5_times 38 11807278 (Nat.le_of_ble_eq_true rfl) (by decide +kernel) z_o46 (by decide +kernel)
theorem dX5_times_39 : decode cX5_times 39 = .ok (.aload_n 0, 1) := z_row zl_cX5_times 39 46122 (Nat.le_of_ble_eq_true rfl) (by decide +kernel) z_o42 (by decide +kernel)
theorem dX5_times_40 : decode cX5_times 40 = .ok (.getfield 13, 3) := z_row zl_cX5_times 40 852148 (Nat.le_of_ble_eq_true rfl) (by decide +kernel) z_o180 (by decide +kernel)
theorem dX5_times_43 : decode cX5_times 43 = .ok (.iload_n 2, 1) := z_row zl_cX5_times 43 6303260 (Nat.le_of_ble_eq_true rfl) (by decide +kernel) z_o28 (by decide +kernel)
theorem dX5_times_44 : decode cX5_times 44 = .ok (.iaload, 1) := z_row zl_cX5_times 44 1073198 (Nat.le_of_ble_eq_true rfl) (by decide +kernel) z_o46 (by decide +kernel)
theorem dX5_times_45 : decode cX5_times 45 = .ok (.iadd, 1) := z_row zl_cX5_times 45 397408 (Nat.le_of_ble_eq_true rfl) (by decide +kernel) z_o96 (by decide +kernel)
theorem dX5_times_46 : decode cX5_times 46 = .ok (.bipush 6, 2) := z_row zl_cX5_times 46 10749456 (Nat.le_of_ble_eq_true rfl) (by decide +kernel) z_o16 (by decide +kernel)
theorem dX5_times_48 : decode cX5_times 48 = .ok (.if_icmp .le 6, 3) := z_row zl_cX5_times 48 393380 (Nat.le_of_ble_eq_true rfl) (by decide +kernel) z_o164 (by decide +kernel)
theorem dX5_times_51 : decode cX5_times 51 = .ok (.bipush (-9), 2) := z_row zl_cX5_times 51 11335440 (Nat.le_of_ble_eq_true rfl) (by decide +kernel) z_o16 (by decide +kernel)
theorem dX5_times_53 : decode cX5_times 53 = .ok (.ireturn, 1) := z_row zl_cX5_times 53 11938476 (Nat.le_of_ble_eq_true rfl) (by decide +kernel) z_o172 (by decide +kernel)
theorem dX5_times_54 : decode cX5_times 54 = .ok (.aload_n 0, 1) := z_row zl_cX5_times 54 46634 (Nat.le_of_ble_eq_true rfl) (by decide +kernel) z_o42 (by decide +kernel)
theorem dX5_times_55 : decode cX5_times 55 = .ok (.invokevirtual 52, 3) := z_row zl_cX5_times 55 3408054 (Nat.le_of_ble_eq_true rfl) (by decide +kernel) z_o182 (by decide +kernel)
theorem dX5_times_58 : decode cX5_times 58 = .ok (.iconst 1, 1) := z_row zl_cX5_times 58 12345348 (Nat.le_of_ble_eq_true rfl) (by decide +kernel) z_o4 (by decide +kernel)
theorem dX5_times_59 : decode cX5_times 59 = .ok (.iadd, 1) := z_row zl_cX5_times 59 703584 (Nat.le_of_ble_eq_true rfl) (by decide +kernel) z_o96 (by decide +kernel)
set_option maxRecDepth 100000 in
theorem dX5_times_60 : decode cX5_times 60 = .ok (.newarray .int, 2) := by decide +kernel
theorem dX5_times_62 : decode cX5_times 62 = .ok (.astore 4, 2) := z_row zl_cX5_times 62 197690 (Nat.le_of_ble_eq_true rfl) (by decide +kernel) z_o58 (by decide +kernel)
theorem dX5_times_64 : decode cX5_times 64 = .ok (.iconst 0, 1) := z_row zl_cX5_times 64 341507 (Nat.le_of_ble_eq_true rfl) (by decide +kernel) z_o3 (by decide +kernel)
theorem dX5_times_65 : decode cX5_times 65 = .ok (.istore 5, 2) := z_row zl_cX5_times 65 1377590 (Nat.le_of_ble_eq_true rfl) (by decide +kernel) z_o54 (by decide +kernel)
theorem dX5_times_67 : decode cX5_times 67 = .ok (.iload 5, 2) := z_row zl_cX5_times 67 1639701 (Nat.le_of_ble_eq_true rfl) (by decide +kernel) z_o21 (by decide +kernel)
theorem dX5_times_69 : decode cX5_times 69 = .ok (.aload 4, 2) := z_row zl_cX5_times 69 12452889 (Nat.le_of_ble_eq_true rfl) (by decide +kernel) z_o25 (by decide +kernel)
theorem dX5_times_71 : decode cX5_times 71 = .ok (.arraylength, 1) := z_row zl_cX5_times 71 41662 (Nat.le_of_ble_eq_true rfl) (by decide +kernel) z_o190 (by decide +kernel)
theorem dX5_times_72 : decode cX5_times 72 = .ok (.if_icmp .ge 69, 3) := z_row zl_cX5_times 72 4522146 (Nat.le_of_ble_eq_true rfl) (by decide +kernel) z_o162 (by decide +kernel)
theorem dX5_times_75 : decode cX5_times 75 = .ok (.aload 4, 2) := z_row zl_cX5_times 75 1377305 (Nat.le_of_ble_eq_true rfl) (by decide +kernel) z_o25 (by decide +kernel)
theorem dX5_times_77 : decode cX5_times 77 = .ok (.iload 5, 2) := z_row zl_cX5_times 77 2753813 (Nat.le_of_ble_eq_true rfl) (by decide +kernel) z_o21 (by decide +kernel)
theorem dX5_times_79 : decode cX5_times 79 = .ok (.aload_n 0, 1) := z_row zl_cX5_times 79 46122 (Nat.le_of_ble_eq_true rfl) (by decide +kernel) z_o42 (by decide +kernel)
theorem dX5_times_80 : decode cX5_times 80 = .ok (.getfield 18, 3) := z_row zl_cX5_times 80 1179828 (Nat.le_of_ble_eq_true rfl) (by decide +kernel) z_o180 (by decide +kernel)
theorem dX5_times_83 : decode cX5_times 83 = .ok (.iload_n 1, 1) := z_row zl_cX5_times 83 1389083 (Nat.le_of_ble_eq_true rfl) (by decide +kernel) z_o27 (by decide +kernel)
theorem dX5_times_84 : decode cX5_times 84 = .ok (.aaload, 1) := z_row zl_cX5_times 84 333106 (Nat.le_of_ble_eq_true rfl) (by decide +kernel) z_o50 (by decide +kernel)
theorem dX5_times_85 : decode cX5_times 85 = .ok (.iload 5, 2) := z_row zl_cX5_times 85 3015957 (Nat.le_of_ble_eq_true rfl) (by decide +kernel) z_o21 (by decide +kernel)
theorem dX5_times_87 : decode cX5_times 87 = .ok (.iaload, 1) := z_row zl_cX5_times 87 10420782 (Nat.le_of_ble_eq_true rfl) (by decide +kernel) z_o46 (by decide +kernel)
theorem dX5_times_88 : decode cX5_times 88 = .ok (.iconst (-1), 1) := z_row zl_cX5_times 88 40706 (Nat.le_of_ble_eq_true rfl) (by decide +kernel) z_o2 (by decide +kernel)
theorem dX5_times_89 : decode cX5_times 89 = .ok (.if_icmp .eq 16, 3) := z_row zl_cX5_times 89 1048735 (Nat.le_of_ble_eq_true rfl) (by decide +kernel) z_o159 (by decide +kernel)
theorem dX5_times_92 : decode cX5_times 92 = .ok (.aload_n 0, 1) := z_row zl_cX5_times 92 46122 (Nat.le_of_ble_eq_true rfl) (by decide +kernel) z_o42 (by decide +kernel)
theorem dX5_times_93 : decode cX5_times 93 = .ok (.getfield 18, 3) := z_row zl_cX5_times 93 1179828 (Nat.le_of_ble_eq_true rfl) (by decide +kernel) z_o180 (by decide +kernel)
theorem dX5_times_96 : decode cX5_times 96 = .ok (.iload_n 2, 1) := z_row zl_cX5_times 96 1389084 (Nat.le_of_ble_eq_true rfl) (by decide +kernel) z_o28 (by decide +kernel)
theorem dX5_times_97 : decode cX5_times 97 = .ok (.aaload, 1) := z_row zl_cX5_times 97 333106 (Nat.le_of_ble_eq_true rfl) (by decide +kernel) z_o50 (by decide +kernel)
theorem dX5_times_98 : decode cX5_times 98 = .ok (.iload 5, 2) := z_row zl_cX5_times 98 3015957 (Nat.le_of_ble_eq_true rfl) (by decide +kernel) z_o21 (by decide +kernel)
theorem dX5_times_100 : decode cX5_times 100 = .ok (.iaload, 1) := z_row zl_cX5_times 100 10486318 (Nat.le_of_ble_eq_true rfl) (by decide +kernel) z_o46 (by decide +kernel)
theorem dX5_times_101 : decode cX5_times 101 = .ok (.iconst (-1), 1) := z_row zl_cX5_times 101 40962 (Nat.le_of_ble_eq_true rfl) (by decide +kernel) z_o2 (by decide +kernel)
theorem dX5_times_102 : decode cX5_times 102 = .ok (.if_icmp .ne 7, 3) := z_row zl_cX5_times 102 458912 (Nat.le_of_ble_eq_true rfl) (by decide +kernel) z_o160 (by decide +kernel)
theorem dX5_times_105 : decode cX5_times 105 = .ok (.iconst (-1), 1) := z_row zl_cX5_times 105 42754 (Nat.le_of_ble_eq_true rfl) (by decide +kernel) z_o2 (by decide +kernel)
theorem dX5_times_106 : decode cX5_times 106 = .ok (.goto 28, 3) := z_row zl_cX5_times 106 1835175 (Nat.le_of_ble_eq_true rfl) (by decide +kernel) z_o167 (by decide +kernel)
theorem dX5_times_109 : decode cX5_times 109 = .ok (.aload_n 0, 1) := z_row zl_cX5_times 109 11807274 (Nat.le_of_ble_eq_true rfl) (by decide +kernel) z_o42 (by decide +kernel)
theorem dX5_times_110 : decode cX5_times 110 = .ok (.aload_n 0, 1) := z_row zl_cX5_times 110 46122 (Nat.le_of_ble_eq_true rfl) (by decide +kernel) z_o42 (by decide +kernel)
theorem dX5_times_111 : decode cX5_times 111 = .ok (.getfield 18, 3) := z_row zl_cX5_times 111 1179828 (Nat.le_of_ble_eq_true rfl) (by decide +kernel) z_o180 (by decide +kernel)
theorem dX5_times_114 : decode cX5_times 114 = .ok (.iload_n 1, 1) := z_row zl_cX5_times 114 1389083 (Nat.le_of_ble_eq_true rfl) (by decide +kernel) z_o27 (by decide +kernel)
theorem dX5_times_115 : decode cX5_times 115 = .ok (.aaload, 1) := z_row zl_cX5_times 115 333106 (Nat.le_of_ble_eq_true rfl) (by decide +kernel) z_o50 (by decide +kernel)
theorem dX5_times_116 : decode cX5_times 116 = .ok (.iload 5, 2) := z_row zl_cX5_times 116 3015957 (Nat.le_of_ble_eq_true rfl) (by decide +kernel) z_o21 (by decide +kernel)
theorem dX5_times_118 : decode cX5_times 118 = .ok (.iaload, 1) := z_row zl_cX5_times 118 2786606 (Nat.le_of_ble_eq_true rfl) (by decide +kernel) z_o46 (by decide +kernel)
theorem dX5_times_119 : decode cX5_times 119 = .ok (.i2l, 1) := z_row zl_cX5_times 119 11807365 (Nat.le_of_ble_eq_true rfl) (by decide +kernel) z_o133 (by decide +kernel)
theorem dX5_times_120 : decode cX5_times 120 = .ok (.aload_n 0, 1) := z_row zl_cX5_times 120 46122 (Nat.le_of_ble_eq_true rfl) (by decide +kernel) z_o42 (by decide +kernel)
theorem dX5_times_121 : decode cX5_times 121 = .ok (.getfield 18, 3) := z_row zl_cX5_times 121 1179828 (Nat.le_of_ble_eq_true rfl) (by decide +kernel) z_o180 (by decide +kernel)
theorem dX5_times_124 : decode cX5_times 124 = .ok (.iload_n 2, 1) := z_row zl_cX5_times 124 1389084 (Nat.le_of_ble_eq_true rfl) (by decide +kernel) z_o28 (by decide +kernel)
theorem dX5_times_125 : decode cX5_times 125 = .ok (.aaload, 1) := z_row zl_cX5_times 125 333106 (Nat.le_of_ble_eq_true rfl) (by decide +kernel) z_o50 (by decide +kernel)
theorem dX5_times_126 : decode cX5_times 126 = .ok (.iload 5, 2) := z_row zl_cX5_times 126 3015957 (Nat.le_of_ble_eq_true rfl) (by decide +kernel) z_o21 (by decide +kernel)
theorem dX5_times_128 : decode cX5_times 128 = .ok (.iaload, 1) := z_row zl_cX5_times 128 6915374 (Nat.le_of_ble_eq_true rfl) (by decide +kernel) z_o46 (by decide +kernel)
theorem dX5_times_129 : decode cX5_times 129 = .ok (.i2l, 1) := z_row zl_cX5_times 129 11954565 (Nat.le_of_ble_eq_true rfl) (by decide +kernel) z_o133 (by decide +kernel)
theorem dX5_times_130 : decode cX5_times 130 = .ok (.lmul, 1) := z_row zl_cX5_times 130 46697 (Nat.le_of_ble_eq_true rfl) (by decide +kernel) z_o105 (by decide +kernel)
theorem dX5_times_131 : decode cX5_times 131 = .ok (.invokevirtual 55, 3) := z_row zl_cX5_times 131 3604662 (Nat.le_of_ble_eq_true rfl) (by decide +kernel) z_o182 (by decide +kernel)
theorem dX5_times_134 : decode cX5_times 134 = .ok (.iastore, 1) := z_row zl_cX5_times 134 361551 (Nat.le_of_ble_eq_true rfl) (by decide +kernel) z_o79 (by decide +kernel)
theorem dX5_times_135 : decode cX5_times 135 = .ok (.iinc 5 1, 3) := z_row zl_cX5_times 135 66948 (Nat.le_of_ble_eq_true rfl) (by decide +kernel) z_o132 (by decide +kernel)
theorem dX5_times_138 : decode cX5_times 138 = .ok (.goto (-71), 3) := z_row zl_cX5_times 138 12189607 (Nat.le_of_ble_eq_true rfl) (by decide +kernel) z_o167 (by decide +kernel)
theorem dX5_times_141 : decode cX5_times 141 = .ok (.aload_n 0, 1) := z_row zl_cX5_times 141 2759978 (Nat.le_of_ble_eq_true rfl) (by decide +kernel) z_o42 (by decide +kernel)
theorem dX5_times_142 : decode cX5_times 142 = .ok (.iload_n 3, 1) := z_row zl_cX5_times 142 11807261 (Nat.le_of_ble_eq_true rfl) (by decide +kernel) z_o29 (by decide +kernel)
theorem dX5_times_143 : decode cX5_times 143 = .ok (.aload_n 0, 1) := z_row zl_cX5_times 143 46122 (Nat.le_of_ble_eq_true rfl) (by decide +kernel) z_o42 (by decide +kernel)
theorem dX5_times_144 : decode cX5_times 144 = .ok (.getfield 13, 3) := z_row zl_cX5_times 144 852148 (Nat.le_of_ble_eq_true rfl) (by decide +kernel) z_o180 (by decide +kernel)
theorem dX5_times_147 : decode cX5_times 147 = .ok (.iload_n 1, 1) := z_row zl_cX5_times 147 2764315 (Nat.le_of_ble_eq_true rfl) (by decide +kernel) z_o27 (by decide +kernel)
theorem dX5_times_148 : decode cX5_times 148 = .ok (.iaload, 1) := z_row zl_cX5_times 148 11807278 (Nat.le_of_ble_eq_true rfl) (by decide +kernel) z_o46 (by decide +kernel)
theorem dX5_times_149 : decode cX5_times 149 = .ok (.aload_n 0, 1) := z_row zl_cX5_times 149 46122 (Nat.le_of_ble_eq_true rfl) (by decide +kernel) z_o42 (by decide +kernel)
theorem dX5_times_150 : decode cX5_times 150 = .ok (.getfield 13, 3) := z_row zl_cX5_times 150 852148 (Nat.le_of_ble_eq_true rfl) (by decide +kernel) z_o180 (by decide +kernel)
theorem dX5_times_153 : decode cX5_times 153 = .ok (.iload_n 2, 1) := z_row zl_cX5_times 153 6303260 (Nat.le_of_ble_eq_true rfl) (by decide +kernel) z_o28 (by decide +kernel)
theorem dX5_times_154 : decode cX5_times 154 = .ok (.iaload, 1) := z_row zl_cX5_times 154 1663022 (Nat.le_of_ble_eq_true rfl) (by decide +kernel) z_o46 (by decide +kernel)
theorem dX5_times_155 : decode cX5_times 155 = .ok (.iadd, 1) := z_row zl_cX5_times 155 268640 (Nat.le_of_ble_eq_true rfl) (by decide +kernel) z_o96 (by decide +kernel)
theorem dX5_times_156 : decode cX5_times 156 = .ok (.aload 4, 2) := z_row zl_cX5_times 156 66585 (Nat.le_of_ble_eq_true rfl) (by decide +kernel) z_o25 (by decide +kernel)
theorem dX5_times_158 : decode cX5_times 158 = .ok (.aconst_null, 1) := z_row zl_cX5_times 158 46593 (Nat.le_of_ble_eq_true rfl) (by decide +kernel) z_o1 (by decide +kernel)
theorem dX5_times_159 : decode cX5_times 159 = .ok (.invokevirtual 140, 3) := z_row zl_cX5_times 159 9175222 (Nat.le_of_ble_eq_true rfl) (by decide +kernel) z_o182 (by decide +kernel)
set_option maxRecDepth 100000 in
theorem dX5_times_162 : decode cX5_times 162 = .ok (.ireturn, 1) := by decide +kernel
set_option maxRecDepth 100000 in
theorem dX5_scale_0 : decode cX5_scale 0 = .ok (.aload_n 0, 1) := by decide +kernel
set_option maxRecDepth 100000 in
theorem dX5_scale_1 : decode cX5_scale 1 = .ok (.iload_n 1, 1) := by decide +kernel
set_option maxRecDepth 100000 in
theorem dX5_scale_2 : decode cX5_scale 2 = .ok (.invokestatic 129, 3) := by decide +kernel
set_option maxRecDepth 100000 in
theorem dX5_scale_5 : decode cX5_scale 5 = .ok (.ifCond .ne 10, 3) := by decide +kernel
set_option maxRecDepth 100000 in
theorem dX5_scale_8 : decode cX5_scale 8 = .ok (.iload_n 3, 1) := by decide +kernel
set_option maxRecDepth 100000 in
theorem dX5_scale_9 : decode cX5_scale 9 = .ok (.invokestatic 129, 3) := by decide +kernel
set_option maxRecDepth 100000 in
theorem dX5_scale_12 : decode cX5_scale 12 = .ok (.ifCond .eq 7, 3) := by decide +kernel
set_option maxRecDepth 100000 in
theorem dX5_scale_15 : decode cX5_scale 15 = .ok (.iconst 1, 1) := by decide +kernel
set_option maxRecDepth 100000 in
theorem dX5_scale_16 : decode cX5_scale 16 = .ok (.goto 4, 3) := by decide +kernel
set_option maxRecDepth 100000 in
theorem dX5_scale_19 : decode cX5_scale 19 = .ok (.iconst 0, 1) := by decide +kernel
set_option maxRecDepth 100000 in
theorem dX5_scale_20 : decode cX5_scale 20 = .ok (.iconst 1, 1) := by decide +kernel
set_option maxRecDepth 100000 in
theorem dX5_scale_21 : decode cX5_scale 21 = .ok (.invokevirtual 69, 3) := by decide +kernel
def zN_cX5_scale : Nat := 0xac8c00b6051904192e1b0d00b42a1d2ad9ffa70106844f3700b669853700b6851c2a852e061505192a061505192000a2be051906152800c60519063603d5ffa70106844f3700b669853700b6851c2a852e061504192a061504191a009f022e061504192900a2be04190615063604053a1100c09000b6321b1600b42a0f00a7010700c7321b1600b42a043a1100c09000b6321b1200b42aacf7100600997100b61b2aac030500994500b604030400a7040700998100b81d0a009a8100b81b2a
set_option maxRecDepth 100000 in
theorem zl_cX5_scale : cX5_scale.data.toList = z_un 191 zN_cX5_scale := eq_of_beq (by decide +kernel)
theorem dX5_scale_24 : decode cX5_scale 24 = .ok (.ifCond .eq 5, 3) := z_row zl_cX5_scale 24 327833 (Nat.le_of_ble_eq_true rfl) (by decide +kernel) z_o153 (by decide +kernel)
theorem dX5_scale_27 : decode cX5_scale 27 = .ok (.iconst 0, 1) := z_row zl_cX5_scale 27 2796547 (Nat.le_of_ble_eq_true rfl) (by decide +kernel) z_o3 (by decide +kernel)
theorem dX5_scale_28 : decode cX5_scale 28 = .ok (.ireturn, 1) := z_row zl_cX5_scale 28 1780396 (Nat.le_of_ble_eq_true rfl) (by decide +kernel) z_o172 (by decide +kernel)
theorem dX5_scale_29 : decode cX5_scale 29 = .ok (.aload_n 0, 1) := z_row zl_cX5_scale 29 11934506 (Nat.le_of_ble_eq_true rfl) (by decide +kernel) z_o42 (by decide +kernel)
theorem dX5_scale_30 : decode cX5_scale 30 = .ok (.iload_n 1, 1) := z_row zl_cX5_scale 30 46619 (Nat.le_of_ble_eq_true rfl) (by decide +kernel) z_o27 (by decide +kernel)
theorem dX5_scale_31 : decode cX5_scale 31 = .ok (.invokevirtual 113, 3) := z_row zl_cX5_scale 31 7405750 (Nat.le_of_ble_eq_true rfl) (by decide +kernel) z_o182 (by decide +kernel)
theorem dX5_scale_34 : decode cX5_scale 34 = .ok (.ifCond .eq 6, 3) := z_row zl_cX5_scale 34 393369 (Nat.le_of_ble_eq_true rfl) (by decide +kernel) z_o153 (by decide +kernel)
theorem dX5_scale_37 : decode cX5_scale 37 = .ok (.bipush (-9), 2) := z_row zl_cX5_scale 37 11335440 (Nat.le_of_ble_eq_true rfl) (by decide +kernel) z_o16 (by decide +kernel)
theorem dX5_scale_39 : decode cX5_scale 39 = .ok (.ireturn, 1) := z_row zl_cX5_scale 39 11807404 (Nat.le_of_ble_eq_true rfl) (by decide +kernel) z_o172 (by decide +kernel)
theorem dX5_scale_40 : decode cX5_scale 40 = .ok (.aload_n 0, 1) := z_row zl_cX5_scale 40 46122 (Nat.le_of_ble_eq_true rfl) (by decide +kernel) z_o42 (by decide +kernel)
theorem dX5_scale_41 : decode cX5_scale 41 = .ok (.getfield 18, 3) := z_row zl_cX5_scale 41 1179828 (Nat.le_of_ble_eq_true rfl) (by decide +kernel) z_o180 (by decide +kernel)
theorem dX5_scale_44 : decode cX5_scale 44 = .ok (.iload_n 1, 1) := z_row zl_cX5_scale 44 11940379 (Nat.le_of_ble_eq_true rfl) (by decide +kernel) z_o27 (by decide +kernel)
theorem dX5_scale_45 : decode cX5_scale 45 = .ok (.aaload, 1) := z_row zl_cX5_scale 45 46642 (Nat.le_of_ble_eq_true rfl) (by decide +kernel) z_o50 (by decide +kernel)
theorem dX5_scale_46 : decode cX5_scale 46 = .ok (.invokevirtual 144, 3) := z_row zl_cX5_scale 46 9437366 (Nat.le_of_ble_eq_true rfl) (by decide +kernel) z_o182 (by decide +kernel)
theorem dX5_scale_49 : decode cX5_scale 49 = .ok (.checkcast 17, 3) := z_row zl_cX5_scale 49 1114304 (Nat.le_of_ble_eq_true rfl) (by decide +kernel) z_o192 (by decide +kernel)
theorem dX5_scale_52 : decode cX5_scale 52 = .ok (.astore 4, 2) := z_row zl_cX5_scale 52 2753594 (Nat.le_of_ble_eq_true rfl) (by decide +kernel) z_o58 (by decide +kernel)
theorem dX5_scale_54 : decode cX5_scale 54 = .ok (.aload_n 0, 1) := z_row zl_cX5_scale 54 46122 (Nat.le_of_ble_eq_true rfl) (by decide +kernel) z_o42 (by decide +kernel)
theorem dX5_scale_55 : decode cX5_scale 55 = .ok (.getfield 22, 3) := z_row zl_cX5_scale 55 1441972 (Nat.le_of_ble_eq_true rfl) (by decide +kernel) z_o180 (by decide +kernel)
theorem dX5_scale_58 : decode cX5_scale 58 = .ok (.iload_n 1, 1) := z_row zl_cX5_scale 58 13054491 (Nat.le_of_ble_eq_true rfl) (by decide +kernel) z_o27 (by decide +kernel)
theorem dX5_scale_59 : decode cX5_scale 59 = .ok (.aaload, 1) := z_row zl_cX5_scale 59 50994 (Nat.le_of_ble_eq_true rfl) (by decide +kernel) z_o50 (by decide +kernel)
theorem dX5_scale_60 : decode cX5_scale 60 = .ok (.ifnonnull 7, 3) := z_row zl_cX5_scale 60 458951 (Nat.le_of_ble_eq_true rfl) (by decide +kernel) z_o199 (by decide +kernel)
theorem dX5_scale_63 : decode cX5_scale 63 = .ok (.aconst_null, 1) := z_row zl_cX5_scale 63 42753 (Nat.le_of_ble_eq_true rfl) (by decide +kernel) z_o1 (by decide +kernel)
theorem dX5_scale_64 : decode cX5_scale 64 = .ok (.goto 15, 3) := z_row zl_cX5_scale 64 983207 (Nat.le_of_ble_eq_true rfl) (by decide +kernel) z_o167 (by decide +kernel)
theorem dX5_scale_67 : decode cX5_scale 67 = .ok (.aload_n 0, 1) := z_row zl_cX5_scale 67 46122 (Nat.le_of_ble_eq_true rfl) (by decide +kernel) z_o42 (by decide +kernel)
theorem dX5_scale_68 : decode cX5_scale 68 = .ok (.getfield 22, 3) := z_row zl_cX5_scale 68 1441972 (Nat.le_of_ble_eq_true rfl) (by decide +kernel) z_o180 (by decide +kernel)
theorem dX5_scale_71 : decode cX5_scale 71 = .ok (.iload_n 1, 1) := z_row zl_cX5_scale 71 11940379 (Nat.le_of_ble_eq_true rfl) (by decide +kernel) z_o27 (by decide +kernel)
theorem dX5_scale_72 : decode cX5_scale 72 = .ok (.aaload, 1) := z_row zl_cX5_scale 72 46642 (Nat.le_of_ble_eq_true rfl) (by decide +kernel) z_o50 (by decide +kernel)
theorem dX5_scale_73 : decode cX5_scale 73 = .ok (.invokevirtual 144, 3) := z_row zl_cX5_scale 73 9437366 (Nat.le_of_ble_eq_true rfl) (by decide +kernel) z_o182 (by decide +kernel)
theorem dX5_scale_76 : decode cX5_scale 76 = .ok (.checkcast 17, 3) := z_row zl_cX5_scale 76 1114304 (Nat.le_of_ble_eq_true rfl) (by decide +kernel) z_o192 (by decide +kernel)
theorem dX5_scale_79 : decode cX5_scale 79 = .ok (.astore 5, 2) := z_row zl_cX5_scale 79 263482 (Nat.le_of_ble_eq_true rfl) (by decide +kernel) z_o58 (by decide +kernel)
theorem dX5_scale_81 : decode cX5_scale 81 = .ok (.iconst 1, 1) := z_row zl_cX5_scale 81 407044 (Nat.le_of_ble_eq_true rfl) (by decide +kernel) z_o4 (by decide +kernel)
theorem dX5_scale_82 : decode cX5_scale 82 = .ok (.istore 6, 2) := z_row zl_cX5_scale 82 1377846 (Nat.le_of_ble_eq_true rfl) (by decide +kernel) z_o54 (by decide +kernel)
theorem dX5_scale_84 : decode cX5_scale 84 = .ok (.iload 6, 2) := z_row zl_cX5_scale 84 1639957 (Nat.le_of_ble_eq_true rfl) (by decide +kernel) z_o21 (by decide +kernel)
theorem dX5_scale_86 : decode cX5_scale 86 = .ok (.aload 4, 2) := z_row zl_cX5_scale 86 12452889 (Nat.le_of_ble_eq_true rfl) (by decide +kernel) z_o25 (by decide +kernel)
theorem dX5_scale_88 : decode cX5_scale 88 = .ok (.arraylength, 1) := z_row zl_cX5_scale 88 41662 (Nat.le_of_ble_eq_true rfl) (by decide +kernel) z_o190 (by decide +kernel)
theorem dX5_scale_89 : decode cX5_scale 89 = .ok (.if_icmp .ge 41, 3) := z_row zl_cX5_scale 89 2687138 (Nat.le_of_ble_eq_true rfl) (by decide +kernel) z_o162 (by decide +kernel)
theorem dX5_scale_92 : decode cX5_scale 92 = .ok (.aload 4, 2) := z_row zl_cX5_scale 92 1377305 (Nat.le_of_ble_eq_true rfl) (by decide +kernel) z_o25 (by decide +kernel)
theorem dX5_scale_94 : decode cX5_scale 94 = .ok (.iload 6, 2) := z_row zl_cX5_scale 94 3016213 (Nat.le_of_ble_eq_true rfl) (by decide +kernel) z_o21 (by decide +kernel)
theorem dX5_scale_96 : decode cX5_scale 96 = .ok (.iaload, 1) := z_row zl_cX5_scale 96 10420782 (Nat.le_of_ble_eq_true rfl) (by decide +kernel) z_o46 (by decide +kernel)
theorem dX5_scale_97 : decode cX5_scale 97 = .ok (.iconst (-1), 1) := z_row zl_cX5_scale 97 40706 (Nat.le_of_ble_eq_true rfl) (by decide +kernel) z_o2 (by decide +kernel)
theorem dX5_scale_98 : decode cX5_scale 98 = .ok (.if_icmp .eq 26, 3) := z_row zl_cX5_scale 98 1704095 (Nat.le_of_ble_eq_true rfl) (by decide +kernel) z_o159 (by decide +kernel)
theorem dX5_scale_101 : decode cX5_scale 101 = .ok (.aload 4, 2) := z_row zl_cX5_scale 101 1377305 (Nat.le_of_ble_eq_true rfl) (by decide +kernel) z_o25 (by decide +kernel)
theorem dX5_scale_103 : decode cX5_scale 103 = .ok (.iload 6, 2) := z_row zl_cX5_scale 103 2754069 (Nat.le_of_ble_eq_true rfl) (by decide +kernel) z_o21 (by decide +kernel)
theorem dX5_scale_105 : decode cX5_scale 105 = .ok (.aload_n 0, 1) := z_row zl_cX5_scale 105 268586 (Nat.le_of_ble_eq_true rfl) (by decide +kernel) z_o42 (by decide +kernel)
theorem dX5_scale_106 : decode cX5_scale 106 = .ok (.aload 4, 2) := z_row zl_cX5_scale 106 1377305 (Nat.le_of_ble_eq_true rfl) (by decide +kernel) z_o25 (by decide +kernel)
theorem dX5_scale_108 : decode cX5_scale 108 = .ok (.iload 6, 2) := z_row zl_cX5_scale 108 3016213 (Nat.le_of_ble_eq_true rfl) (by decide +kernel) z_o21 (by decide +kernel)
theorem dX5_scale_110 : decode cX5_scale 110 = .ok (.iaload, 1) := z_row zl_cX5_scale 110 2786606 (Nat.le_of_ble_eq_true rfl) (by decide +kernel) z_o46 (by decide +kernel)
theorem dX5_scale_111 : decode cX5_scale 111 = .ok (.i2l, 1) := z_row zl_cX5_scale 111 1845893 (Nat.le_of_ble_eq_true rfl) (by decide +kernel) z_o133 (by decide +kernel)
theorem dX5_scale_112 : decode cX5_scale 112 = .ok (.aload_n 0, 1) := z_row zl_cX5_scale 112 8723498 (Nat.le_of_ble_eq_true rfl) (by decide +kernel) z_o42 (by decide +kernel)
theorem dX5_scale_113 : decode cX5_scale 113 = .ok (.iload_n 2, 1) := z_row zl_cX5_scale 113 11961628 (Nat.le_of_ble_eq_true rfl) (by decide +kernel) z_o28 (by decide +kernel)
theorem dX5_scale_114 : decode cX5_scale 114 = .ok (.i2l, 1) := z_row zl_cX5_scale 114 46725 (Nat.le_of_ble_eq_true rfl) (by decide +kernel) z_o133 (by decide +kernel)
theorem dX5_scale_115 : decode cX5_scale 115 = .ok (.invokevirtual 55, 3) := z_row zl_cX5_scale 115 3604662 (Nat.le_of_ble_eq_true rfl) (by decide +kernel) z_o182 (by decide +kernel)
theorem dX5_scale_118 : decode cX5_scale 118 = .ok (.i2l, 1) := z_row zl_cX5_scale 118 11954565 (Nat.le_of_ble_eq_true rfl) (by decide +kernel) z_o133 (by decide +kernel)
theorem dX5_scale_119 : decode cX5_scale 119 = .ok (.lmul, 1) := z_row zl_cX5_scale 119 46697 (Nat.le_of_ble_eq_true rfl) (by decide +kernel) z_o105 (by decide +kernel)
theorem dX5_scale_120 : decode cX5_scale 120 = .ok (.invokevirtual 55, 3) := z_row zl_cX5_scale 120 3604662 (Nat.le_of_ble_eq_true rfl) (by decide +kernel) z_o182 (by decide +kernel)
theorem dX5_scale_123 : decode cX5_scale 123 = .ok (.iastore, 1) := z_row zl_cX5_scale 123 427087 (Nat.le_of_ble_eq_true rfl) (by decide +kernel) z_o79 (by decide +kernel)
theorem dX5_scale_124 : decode cX5_scale 124 = .ok (.iinc 6 1, 3) := z_row zl_cX5_scale 124 67204 (Nat.le_of_ble_eq_true rfl) (by decide +kernel) z_o132 (by decide +kernel)
theorem dX5_scale_127 : decode cX5_scale 127 = .ok (.goto (-43), 3) := z_row zl_cX5_scale 127 14024615 (Nat.le_of_ble_eq_true rfl) (by decide +kernel) z_o167 (by decide +kernel)
theorem dX5_scale_130 : decode cX5_scale 130 = .ok (.iconst 0, 1) := z_row zl_cX5_scale 130 407043 (Nat.le_of_ble_eq_true rfl) (by decide +kernel) z_o3 (by decide +kernel)
theorem dX5_scale_131 : decode cX5_scale 131 = .ok (.istore 6, 2) := z_row zl_cX5_scale 131 1639990 (Nat.le_of_ble_eq_true rfl) (by decide +kernel) z_o54 (by decide +kernel)
theorem dX5_scale_133 : decode cX5_scale 133 = .ok (.aload 5, 2) := z_row zl_cX5_scale 133 12977433 (Nat.le_of_ble_eq_true rfl) (by decide +kernel) z_o25 (by decide +kernel)
theorem dX5_scale_135 : decode cX5_scale 135 = .ok (.ifnull 40, 3) := z_row zl_cX5_scale 135 2621638 (Nat.le_of_ble_eq_true rfl) (by decide +kernel) z_o198 (by decide +kernel)
theorem dX5_scale_138 : decode cX5_scale 138 = .ok (.iload 6, 2) := z_row zl_cX5_scale 138 1639957 (Nat.le_of_ble_eq_true rfl) (by decide +kernel) z_o21 (by decide +kernel)
theorem dX5_scale_140 : decode cX5_scale 140 = .ok (.aload 5, 2) := z_row zl_cX5_scale 140 12453145 (Nat.le_of_ble_eq_true rfl) (by decide +kernel) z_o25 (by decide +kernel)
theorem dX5_scale_142 : decode cX5_scale 142 = .ok (.arraylength, 1) := z_row zl_cX5_scale 142 41662 (Nat.le_of_ble_eq_true rfl) (by decide +kernel) z_o190 (by decide +kernel)
theorem dX5_scale_143 : decode cX5_scale 143 = .ok (.if_icmp .ge 32, 3) := z_row zl_cX5_scale 143 2097314 (Nat.le_of_ble_eq_true rfl) (by decide +kernel) z_o162 (by decide +kernel)
theorem dX5_scale_146 : decode cX5_scale 146 = .ok (.aload 5, 2) := z_row zl_cX5_scale 146 1377561 (Nat.le_of_ble_eq_true rfl) (by decide +kernel) z_o25 (by decide +kernel)
theorem dX5_scale_148 : decode cX5_scale 148 = .ok (.iload 6, 2) := z_row zl_cX5_scale 148 2754069 (Nat.le_of_ble_eq_true rfl) (by decide +kernel) z_o21 (by decide +kernel)
theorem dX5_scale_150 : decode cX5_scale 150 = .ok (.aload_n 0, 1) := z_row zl_cX5_scale 150 334122 (Nat.le_of_ble_eq_true rfl) (by decide +kernel) z_o42 (by decide +kernel)
theorem dX5_scale_151 : decode cX5_scale 151 = .ok (.aload 5, 2) := z_row zl_cX5_scale 151 1377561 (Nat.le_of_ble_eq_true rfl) (by decide +kernel) z_o25 (by decide +kernel)
theorem dX5_scale_153 : decode cX5_scale 153 = .ok (.iload 6, 2) := z_row zl_cX5_scale 153 3016213 (Nat.le_of_ble_eq_true rfl) (by decide +kernel) z_o21 (by decide +kernel)
theorem dX5_scale_155 : decode cX5_scale 155 = .ok (.iaload, 1) := z_row zl_cX5_scale 155 2786606 (Nat.le_of_ble_eq_true rfl) (by decide +kernel) z_o46 (by decide +kernel)
theorem dX5_scale_156 : decode cX5_scale 156 = .ok (.i2l, 1) := z_row zl_cX5_scale 156 1845893 (Nat.le_of_ble_eq_true rfl) (by decide +kernel) z_o133 (by decide +kernel)
theorem dX5_scale_157 : decode cX5_scale 157 = .ok (.aload_n 0, 1) := z_row zl_cX5_scale 157 8723498 (Nat.le_of_ble_eq_true rfl) (by decide +kernel) z_o42 (by decide +kernel)
theorem dX5_scale_158 : decode cX5_scale 158 = .ok (.iload_n 2, 1) := z_row zl_cX5_scale 158 11961628 (Nat.le_of_ble_eq_true rfl) (by decide +kernel) z_o28 (by decide +kernel)
theorem dX5_scale_159 : decode cX5_scale 159 = .ok (.i2l, 1) := z_row zl_cX5_scale 159 46725 (Nat.le_of_ble_eq_true rfl) (by decide +kernel) z_o133 (by decide +kernel)
theorem dX5_scale_160 : decode cX5_scale 160 = .ok (.invokevirtual 55, 3) := z_row zl_cX5_scale 160 3604662 (Nat.le_of_ble_eq_true rfl) (by decide +kernel) z_o182 (by decide +kernel)
theorem dX5_scale_163 : decode cX5_scale 163 = .ok (.i2l, 1) := z_row zl_cX5_scale 163 11954565 (Nat.le_of_ble_eq_true rfl) (by decide +kernel) z_o133 (by decide +kernel)
theorem dX5_scale_164 : decode cX5_scale 164 = .ok (.lmul, 1) := z_row zl_cX5_scale 164 46697 (Nat.le_of_ble_eq_true rfl) (by decide +kernel) z_o105 (by decide +kernel)
theorem dX5_scale_165 : decode cX5_scale 165 = .ok (.invokevirtual 55, 3) := z_row zl_cX5_scale 165 3604662 (Nat.le_of_ble_eq_true rfl) (by decide +kernel) z_o182 (by decide +kernel)
theorem dX5_scale_168 : decode cX5_scale 168 = .ok (.iastore, 1) := z_row zl_cX5_scale 168 427087 (Nat.le_of_ble_eq_true rfl) (by decide +kernel) z_o79 (by decide +kernel)
theorem dX5_scale_169 : decode cX5_scale 169 = .ok (.iinc 6 1, 3) := z_row zl_cX5_scale 169 67204 (Nat.le_of_ble_eq_true rfl) (by decide +kernel) z_o132 (by decide +kernel)
theorem dX5_scale_172 : decode cX5_scale 172 = .ok (.goto (-39), 3) := z_row zl_cX5_scale 172 14286759 (Nat.le_of_ble_eq_true rfl) (by decide +kernel) z_o167 (by decide +kernel)
theorem dX5_scale_175 : decode cX5_scale 175 = .ok (.aload_n 0, 1) := z_row zl_cX5_scale 175 2759978 (Nat.le_of_ble_eq_true rfl) (by decide +kernel) z_o42 (by decide +kernel)
theorem dX5_scale_176 : decode cX5_scale 176 = .ok (.iload_n 3, 1) := z_row zl_cX5_scale 176 11807261 (Nat.le_of_ble_eq_true rfl) (by decide +kernel) z_o29 (by decide +kernel)
theorem dX5_scale_177 : decode cX5_scale 177 = .ok (.aload_n 0, 1) := z_row zl_cX5_scale 177 46122 (Nat.le_of_ble_eq_true rfl) (by decide +kernel) z_o42 (by decide +kernel)
theorem dX5_scale_178 : decode cX5_scale 178 = .ok (.getfield 13, 3) := z_row zl_cX5_scale 178 852148 (Nat.le_of_ble_eq_true rfl) (by decide +kernel) z_o180 (by decide +kernel)
theorem dX5_scale_181 : decode cX5_scale 181 = .ok (.iload_n 1, 1) := z_row zl_cX5_scale 181 1650203 (Nat.le_of_ble_eq_true rfl) (by decide +kernel) z_o27 (by decide +kernel)
theorem dX5_scale_182 : decode cX5_scale 182 = .ok (.iaload, 1) := z_row zl_cX5_scale 182 268590 (Nat.le_of_ble_eq_true rfl) (by decide +kernel) z_o46 (by decide +kernel)
theorem dX5_scale_183 : decode cX5_scale 183 = .ok (.aload 4, 2) := z_row zl_cX5_scale 183 1639449 (Nat.le_of_ble_eq_true rfl) (by decide +kernel) z_o25 (by decide +kernel)
theorem dX5_scale_185 : decode cX5_scale 185 = .ok (.aload 5, 2) := z_row zl_cX5_scale 185 11928857 (Nat.le_of_ble_eq_true rfl) (by decide +kernel) z_o25 (by decide +kernel)
theorem dX5_scale_187 : decode cX5_scale 187 = .ok (.invokevirtual 140, 3) := z_row zl_cX5_scale 187 9175222 (Nat.le_of_ble_eq_true rfl) (by decide +kernel) z_o182 (by decide +kernel)
set_option maxRecDepth 100000 in
theorem dX5_scale_190 : decode cX5_scale 190 = .ok (.ireturn, 1) := by decide +kernel
set_option maxRecDepth 100000 in
theorem dX5_handOn_0 : decode cX5_handOn 0 = .ok (.aload_n 0, 1) := by decide +kernel
set_option maxRecDepth 100000 in
theorem dX5_handOn_1 : decode cX5_handOn 1 = .ok (.iload_n 1, 1) := by decide +kernel
set_option maxRecDepth 100000 in
theorem dX5_handOn_2 : decode cX5_handOn 2 = .ok (.invokestatic 129, 3) := by decide +kernel
set_option maxRecDepth 100000 in
theorem dX5_handOn_5 : decode cX5_handOn 5 = .ok (.ifCond .ne 10, 3) := by decide +kernel
set_option maxRecDepth 100000 in
theorem dX5_handOn_8 : decode cX5_handOn 8 = .ok (.iload_n 3, 1) := by decide +kernel
set_option maxRecDepth 100000 in
theorem dX5_handOn_9 : decode cX5_handOn 9 = .ok (.invokestatic 129, 3) := by decide +kernel
set_option maxRecDepth 100000 in
theorem dX5_handOn_12 : decode cX5_handOn 12 = .ok (.ifCond .eq 7, 3) := by decide +kernel
set_option maxRecDepth 100000 in
theorem dX5_handOn_15 : decode cX5_handOn 15 = .ok (.iconst 1, 1) := by decide +kernel
set_option maxRecDepth 100000 in
theorem dX5_handOn_16 : decode cX5_handOn 16 = .ok (.goto 4, 3) := by decide +kernel
set_option maxRecDepth 100000 in
theorem dX5_handOn_19 : decode cX5_handOn 19 = .ok (.iconst 0, 1) := by decide +kernel
set_option maxRecDepth 100000 in
theorem dX5_handOn_20 : decode cX5_handOn 20 = .ok (.iconst 1, 1) := by decide +kernel
set_option maxRecDepth 100000 in
theorem dX5_handOn_21 : decode cX5_handOn 21 = .ok (.invokevirtual 69, 3) := by decide +kernel
def zN_cX5_handOn : Nat := 0xac8c00b607198800b607192a04151d2ac0ffa70109844f6a00b6031c08192a09150719ddffa7010a844f3700b6616985091585061569850a158505152a0a1508192100a2be08190a150a36043f00a304150915093604083a0abc60043400b62a4f6a00b6031c321b1200b42a2a030719073a0abc60040415acf71006009aa100b61c1b2aac030500991c00b605030400a70407009a3000b8060304150d009a6700b61c2a2a22009a4500b604030400a7040700998100b81d0a009a8100b81b2a
set_option maxRecDepth 100000 in
theorem zl_cX5_handOn : cX5_handOn.data.toList = z_un 192 zN_cX5_handOn := eq_of_beq (by decide +kernel)
theorem dX5_handOn_24 : decode cX5_handOn 24 = .ok (.ifCond .ne 34, 3) := z_row zl_cX5_handOn 24 2228378 (Nat.le_of_ble_eq_true rfl) (by decide +kernel) z_o154 (by decide +kernel)
theorem dX5_handOn_27 : decode cX5_handOn 27 = .ok (.aload_n 0, 1) := z_row zl_cX5_handOn 27 1845802 (Nat.le_of_ble_eq_true rfl) (by decide +kernel) z_o42 (by decide +kernel)
theorem dX5_handOn_28 : decode cX5_handOn 28 = .ok (.aload_n 0, 1) := z_row zl_cX5_handOn 28 11934762 (Nat.le_of_ble_eq_true rfl) (by decide +kernel) z_o42 (by decide +kernel)
theorem dX5_handOn_29 : decode cX5_handOn 29 = .ok (.iload_n 2, 1) := z_row zl_cX5_handOn 29 46620 (Nat.le_of_ble_eq_true rfl) (by decide +kernel) z_o28 (by decide +kernel)
theorem dX5_handOn_30 : decode cX5_handOn 30 = .ok (.invokevirtual 103, 3) := z_row zl_cX5_handOn 30 6750390 (Nat.le_of_ble_eq_true rfl) (by decide +kernel) z_o182 (by decide +kernel)
theorem dX5_handOn_33 : decode cX5_handOn 33 = .ok (.ifCond .ne 13, 3) := z_row zl_cX5_handOn 33 852122 (Nat.le_of_ble_eq_true rfl) (by decide +kernel) z_o154 (by decide +kernel)
theorem dX5_handOn_36 : decode cX5_handOn 36 = .ok (.iload 4, 2) := z_row zl_cX5_handOn 36 197653 (Nat.le_of_ble_eq_true rfl) (by decide +kernel) z_o21 (by decide +kernel)
theorem dX5_handOn_38 : decode cX5_handOn 38 = .ok (.iconst 0, 1) := z_row zl_cX5_handOn 38 12060163 (Nat.le_of_ble_eq_true rfl) (by decide +kernel) z_o3 (by decide +kernel)
theorem dX5_handOn_39 : decode cX5_handOn 39 = .ok (.iconst 3, 1) := z_row zl_cX5_handOn 39 47110 (Nat.le_of_ble_eq_true rfl) (by decide +kernel) z_o6 (by decide +kernel)
theorem dX5_handOn_40 : decode cX5_handOn 40 = .ok (.invokestatic 48, 3) := z_row zl_cX5_handOn 40 3145912 (Nat.le_of_ble_eq_true rfl) (by decide +kernel) z_o184 (by decide +kernel)
theorem dX5_handOn_43 : decode cX5_handOn 43 = .ok (.ifCond .ne 7, 3) := z_row zl_cX5_handOn 43 458906 (Nat.le_of_ble_eq_true rfl) (by decide +kernel) z_o154 (by decide +kernel)
theorem dX5_handOn_46 : decode cX5_handOn 46 = .ok (.iconst 1, 1) := z_row zl_cX5_handOn 46 42756 (Nat.le_of_ble_eq_true rfl) (by decide +kernel) z_o4 (by decide +kernel)
theorem dX5_handOn_47 : decode cX5_handOn 47 = .ok (.goto 4, 3) := z_row zl_cX5_handOn 47 262311 (Nat.le_of_ble_eq_true rfl) (by decide +kernel) z_o167 (by decide +kernel)
theorem dX5_handOn_50 : decode cX5_handOn 50 = .ok (.iconst 0, 1) := z_row zl_cX5_handOn 50 11928835 (Nat.le_of_ble_eq_true rfl) (by decide +kernel) z_o3 (by decide +kernel)
theorem dX5_handOn_51 : decode cX5_handOn 51 = .ok (.iconst 2, 1) := z_row zl_cX5_handOn 51 46597 (Nat.le_of_ble_eq_true rfl) (by decide +kernel) z_o5 (by decide +kernel)
theorem dX5_handOn_52 : decode cX5_handOn 52 = .ok (.invokevirtual 28, 3) := z_row zl_cX5_handOn 52 1835190 (Nat.le_of_ble_eq_true rfl) (by decide +kernel) z_o182 (by decide +kernel)
theorem dX5_handOn_55 : decode cX5_handOn 55 = .ok (.ifCond .eq 5, 3) := z_row zl_cX5_handOn 55 327833 (Nat.le_of_ble_eq_true rfl) (by decide +kernel) z_o153 (by decide +kernel)
theorem dX5_handOn_58 : decode cX5_handOn 58 = .ok (.iconst 0, 1) := z_row zl_cX5_handOn 58 2796547 (Nat.le_of_ble_eq_true rfl) (by decide +kernel) z_o3 (by decide +kernel)
theorem dX5_handOn_59 : decode cX5_handOn 59 = .ok (.ireturn, 1) := z_row zl_cX5_handOn 59 1780396 (Nat.le_of_ble_eq_true rfl) (by decide +kernel) z_o172 (by decide +kernel)
theorem dX5_handOn_60 : decode cX5_handOn 60 = .ok (.aload_n 0, 1) := z_row zl_cX5_handOn 60 1841962 (Nat.le_of_ble_eq_true rfl) (by decide +kernel) z_o42 (by decide +kernel)
theorem dX5_handOn_61 : decode cX5_handOn 61 = .ok (.iload_n 1, 1) := z_row zl_cX5_handOn 61 11934747 (Nat.le_of_ble_eq_true rfl) (by decide +kernel) z_o27 (by decide +kernel)
theorem dX5_handOn_62 : decode cX5_handOn 62 = .ok (.iload_n 2, 1) := z_row zl_cX5_handOn 62 46620 (Nat.le_of_ble_eq_true rfl) (by decide +kernel) z_o28 (by decide +kernel)
theorem dX5_handOn_63 : decode cX5_handOn 63 = .ok (.invokevirtual 161, 3) := z_row zl_cX5_handOn 63 10551478 (Nat.le_of_ble_eq_true rfl) (by decide +kernel) z_o182 (by decide +kernel)
theorem dX5_handOn_66 : decode cX5_handOn 66 = .ok (.ifCond .ne 6, 3) := z_row zl_cX5_handOn 66 393370 (Nat.le_of_ble_eq_true rfl) (by decide +kernel) z_o154 (by decide +kernel)
theorem dX5_handOn_69 : decode cX5_handOn 69 = .ok (.bipush (-9), 2) := z_row zl_cX5_handOn 69 11335440 (Nat.le_of_ble_eq_true rfl) (by decide +kernel) z_o16 (by decide +kernel)
theorem dX5_handOn_71 : decode cX5_handOn 71 = .ok (.ireturn, 1) := z_row zl_cX5_handOn 71 267692 (Nat.le_of_ble_eq_true rfl) (by decide +kernel) z_o172 (by decide +kernel)
theorem dX5_handOn_72 : decode cX5_handOn 72 = .ok (.iload 4, 2) := z_row zl_cX5_handOn 72 263189 (Nat.le_of_ble_eq_true rfl) (by decide +kernel) z_o21 (by decide +kernel)
theorem dX5_handOn_74 : decode cX5_handOn 74 = .ok (.iconst 1, 1) := z_row zl_cX5_handOn 74 12345348 (Nat.le_of_ble_eq_true rfl) (by decide +kernel) z_o4 (by decide +kernel)
theorem dX5_handOn_75 : decode cX5_handOn 75 = .ok (.iadd, 1) := z_row zl_cX5_handOn 75 703584 (Nat.le_of_ble_eq_true rfl) (by decide +kernel) z_o96 (by decide +kernel)
set_option maxRecDepth 100000 in
theorem dX5_handOn_76 : decode cX5_handOn 76 = .ok (.newarray .int, 2) := by decide +kernel
theorem dX5_handOn_78 : decode cX5_handOn 78 = .ok (.astore 7, 2) := z_row zl_cX5_handOn 78 1640250 (Nat.le_of_ble_eq_true rfl) (by decide +kernel) z_o58 (by decide +kernel)
theorem dX5_handOn_80 : decode cX5_handOn 80 = .ok (.aload 7, 2) := z_row zl_cX5_handOn 80 198425 (Nat.le_of_ble_eq_true rfl) (by decide +kernel) z_o25 (by decide +kernel)
theorem dX5_handOn_82 : decode cX5_handOn 82 = .ok (.iconst 0, 1) := z_row zl_cX5_handOn 82 2763267 (Nat.le_of_ble_eq_true rfl) (by decide +kernel) z_o3 (by decide +kernel)
theorem dX5_handOn_83 : decode cX5_handOn 83 = .ok (.aload_n 0, 1) := z_row zl_cX5_handOn 83 11807274 (Nat.le_of_ble_eq_true rfl) (by decide +kernel) z_o42 (by decide +kernel)
theorem dX5_handOn_84 : decode cX5_handOn 84 = .ok (.aload_n 0, 1) := z_row zl_cX5_handOn 84 46122 (Nat.le_of_ble_eq_true rfl) (by decide +kernel) z_o42 (by decide +kernel)
theorem dX5_handOn_85 : decode cX5_handOn 85 = .ok (.getfield 18, 3) := z_row zl_cX5_handOn 85 1179828 (Nat.le_of_ble_eq_true rfl) (by decide +kernel) z_o180 (by decide +kernel)
theorem dX5_handOn_88 : decode cX5_handOn 88 = .ok (.iload_n 1, 1) := z_row zl_cX5_handOn 88 1847835 (Nat.le_of_ble_eq_true rfl) (by decide +kernel) z_o27 (by decide +kernel)
theorem dX5_handOn_89 : decode cX5_handOn 89 = .ok (.aaload, 1) := z_row zl_cX5_handOn 89 203826 (Nat.le_of_ble_eq_true rfl) (by decide +kernel) z_o50 (by decide +kernel)
theorem dX5_handOn_90 : decode cX5_handOn 90 = .ok (.iload_n 2, 1) := z_row zl_cX5_handOn 90 11928348 (Nat.le_of_ble_eq_true rfl) (by decide +kernel) z_o28 (by decide +kernel)
theorem dX5_handOn_91 : decode cX5_handOn 91 = .ok (.iconst 0, 1) := z_row zl_cX5_handOn 91 46595 (Nat.le_of_ble_eq_true rfl) (by decide +kernel) z_o3 (by decide +kernel)
theorem dX5_handOn_92 : decode cX5_handOn 92 = .ok (.invokevirtual 106, 3) := z_row zl_cX5_handOn 92 6946998 (Nat.le_of_ble_eq_true rfl) (by decide +kernel) z_o182 (by decide +kernel)
theorem dX5_handOn_95 : decode cX5_handOn 95 = .ok (.iastore, 1) := z_row zl_cX5_handOn 95 11938383 (Nat.le_of_ble_eq_true rfl) (by decide +kernel) z_o79 (by decide +kernel)
theorem dX5_handOn_96 : decode cX5_handOn 96 = .ok (.aload_n 0, 1) := z_row zl_cX5_handOn 96 46634 (Nat.le_of_ble_eq_true rfl) (by decide +kernel) z_o42 (by decide +kernel)
theorem dX5_handOn_97 : decode cX5_handOn 97 = .ok (.invokevirtual 52, 3) := z_row zl_cX5_handOn 97 3408054 (Nat.le_of_ble_eq_true rfl) (by decide +kernel) z_o182 (by decide +kernel)
theorem dX5_handOn_100 : decode cX5_handOn 100 = .ok (.iconst 1, 1) := z_row zl_cX5_handOn 100 12345348 (Nat.le_of_ble_eq_true rfl) (by decide +kernel) z_o4 (by decide +kernel)
theorem dX5_handOn_101 : decode cX5_handOn 101 = .ok (.iadd, 1) := z_row zl_cX5_handOn 101 703584 (Nat.le_of_ble_eq_true rfl) (by decide +kernel) z_o96 (by decide +kernel)
set_option maxRecDepth 100000 in
theorem dX5_handOn_102 : decode cX5_handOn 102 = .ok (.newarray .int, 2) := by decide +kernel
theorem dX5_handOn_104 : decode cX5_handOn 104 = .ok (.astore 8, 2) := z_row zl_cX5_handOn 104 264250 (Nat.le_of_ble_eq_true rfl) (by decide +kernel) z_o58 (by decide +kernel)
theorem dX5_handOn_106 : decode cX5_handOn 106 = .ok (.iconst 1, 1) := z_row zl_cX5_handOn 106 603652 (Nat.le_of_ble_eq_true rfl) (by decide +kernel) z_o4 (by decide +kernel)
theorem dX5_handOn_107 : decode cX5_handOn 107 = .ok (.istore 9, 2) := z_row zl_cX5_handOn 107 1378614 (Nat.le_of_ble_eq_true rfl) (by decide +kernel) z_o54 (by decide +kernel)
theorem dX5_handOn_109 : decode cX5_handOn 109 = .ok (.iload 9, 2) := z_row zl_cX5_handOn 109 1378581 (Nat.le_of_ble_eq_true rfl) (by decide +kernel) z_o21 (by decide +kernel)
theorem dX5_handOn_111 : decode cX5_handOn 111 = .ok (.iload 4, 2) := z_row zl_cX5_handOn 111 10683413 (Nat.le_of_ble_eq_true rfl) (by decide +kernel) z_o21 (by decide +kernel)
theorem dX5_handOn_113 : decode cX5_handOn 113 = .ok (.if_icmp .gt 63, 3) := z_row zl_cX5_handOn 113 4128931 (Nat.le_of_ble_eq_true rfl) (by decide +kernel) z_o163 (by decide +kernel)
theorem dX5_handOn_116 : decode cX5_handOn 116 = .ok (.iconst 1, 1) := z_row zl_cX5_handOn 116 669188 (Nat.le_of_ble_eq_true rfl) (by decide +kernel) z_o4 (by decide +kernel)
theorem dX5_handOn_117 : decode cX5_handOn 117 = .ok (.istore 10, 2) := z_row zl_cX5_handOn 117 1378870 (Nat.le_of_ble_eq_true rfl) (by decide +kernel) z_o54 (by decide +kernel)
theorem dX5_handOn_119 : decode cX5_handOn 119 = .ok (.iload 10, 2) := z_row zl_cX5_handOn 119 1640981 (Nat.le_of_ble_eq_true rfl) (by decide +kernel) z_o21 (by decide +kernel)
theorem dX5_handOn_121 : decode cX5_handOn 121 = .ok (.aload 8, 2) := z_row zl_cX5_handOn 121 12453913 (Nat.le_of_ble_eq_true rfl) (by decide +kernel) z_o25 (by decide +kernel)
theorem dX5_handOn_123 : decode cX5_handOn 123 = .ok (.arraylength, 1) := z_row zl_cX5_handOn 123 41662 (Nat.le_of_ble_eq_true rfl) (by decide +kernel) z_o190 (by decide +kernel)
theorem dX5_handOn_124 : decode cX5_handOn 124 = .ok (.if_icmp .ge 33, 3) := z_row zl_cX5_handOn 124 2162850 (Nat.le_of_ble_eq_true rfl) (by decide +kernel) z_o162 (by decide +kernel)
theorem dX5_handOn_127 : decode cX5_handOn 127 = .ok (.aload 8, 2) := z_row zl_cX5_handOn 127 1378329 (Nat.le_of_ble_eq_true rfl) (by decide +kernel) z_o25 (by decide +kernel)
theorem dX5_handOn_129 : decode cX5_handOn 129 = .ok (.iload 10, 2) := z_row zl_cX5_handOn 129 2755093 (Nat.le_of_ble_eq_true rfl) (by decide +kernel) z_o21 (by decide +kernel)
theorem dX5_handOn_131 : decode cX5_handOn 131 = .ok (.aload_n 0, 1) := z_row zl_cX5_handOn 131 333098 (Nat.le_of_ble_eq_true rfl) (by decide +kernel) z_o42 (by decide +kernel)
theorem dX5_handOn_132 : decode cX5_handOn 132 = .ok (.iload 5, 2) := z_row zl_cX5_handOn 132 8717589 (Nat.le_of_ble_eq_true rfl) (by decide +kernel) z_o21 (by decide +kernel)
theorem dX5_handOn_134 : decode cX5_handOn 134 = .ok (.i2l, 1) := z_row zl_cX5_handOn 134 660869 (Nat.le_of_ble_eq_true rfl) (by decide +kernel) z_o133 (by decide +kernel)
theorem dX5_handOn_135 : decode cX5_handOn 135 = .ok (.iload 10, 2) := z_row zl_cX5_handOn 135 8718869 (Nat.le_of_ble_eq_true rfl) (by decide +kernel) z_o21 (by decide +kernel)
theorem dX5_handOn_137 : decode cX5_handOn 137 = .ok (.i2l, 1) := z_row zl_cX5_handOn 137 1403269 (Nat.le_of_ble_eq_true rfl) (by decide +kernel) z_o133 (by decide +kernel)
theorem dX5_handOn_138 : decode cX5_handOn 138 = .ok (.lmul, 1) := z_row zl_cX5_handOn 138 398697 (Nat.le_of_ble_eq_true rfl) (by decide +kernel) z_o105 (by decide +kernel)
theorem dX5_handOn_139 : decode cX5_handOn 139 = .ok (.iload 6, 2) := z_row zl_cX5_handOn 139 8717845 (Nat.le_of_ble_eq_true rfl) (by decide +kernel) z_o21 (by decide +kernel)
theorem dX5_handOn_141 : decode cX5_handOn 141 = .ok (.i2l, 1) := z_row zl_cX5_handOn 141 595333 (Nat.le_of_ble_eq_true rfl) (by decide +kernel) z_o133 (by decide +kernel)
theorem dX5_handOn_142 : decode cX5_handOn 142 = .ok (.iload 9, 2) := z_row zl_cX5_handOn 142 8718613 (Nat.le_of_ble_eq_true rfl) (by decide +kernel) z_o21 (by decide +kernel)
theorem dX5_handOn_144 : decode cX5_handOn 144 = .ok (.i2l, 1) := z_row zl_cX5_handOn 144 6384005 (Nat.le_of_ble_eq_true rfl) (by decide +kernel) z_o133 (by decide +kernel)
theorem dX5_handOn_145 : decode cX5_handOn 145 = .ok (.lmul, 1) := z_row zl_cX5_handOn 145 11952489 (Nat.le_of_ble_eq_true rfl) (by decide +kernel) z_o105 (by decide +kernel)
theorem dX5_handOn_146 : decode cX5_handOn 146 = .ok (.ladd, 1) := z_row zl_cX5_handOn 146 46689 (Nat.le_of_ble_eq_true rfl) (by decide +kernel) z_o97 (by decide +kernel)
theorem dX5_handOn_147 : decode cX5_handOn 147 = .ok (.invokevirtual 55, 3) := z_row zl_cX5_handOn 147 3604662 (Nat.le_of_ble_eq_true rfl) (by decide +kernel) z_o182 (by decide +kernel)
theorem dX5_handOn_150 : decode cX5_handOn 150 = .ok (.iastore, 1) := z_row zl_cX5_handOn 150 689231 (Nat.le_of_ble_eq_true rfl) (by decide +kernel) z_o79 (by decide +kernel)
theorem dX5_handOn_151 : decode cX5_handOn 151 = .ok (.iinc 10 1, 3) := z_row zl_cX5_handOn 151 68228 (Nat.le_of_ble_eq_true rfl) (by decide +kernel) z_o132 (by decide +kernel)
theorem dX5_handOn_154 : decode cX5_handOn 154 = .ok (.goto (-35), 3) := z_row zl_cX5_handOn 154 14548903 (Nat.le_of_ble_eq_true rfl) (by decide +kernel) z_o167 (by decide +kernel)
theorem dX5_handOn_157 : decode cX5_handOn 157 = .ok (.aload 7, 2) := z_row zl_cX5_handOn 157 1378073 (Nat.le_of_ble_eq_true rfl) (by decide +kernel) z_o25 (by decide +kernel)
theorem dX5_handOn_159 : decode cX5_handOn 159 = .ok (.iload 9, 2) := z_row zl_cX5_handOn 159 2754837 (Nat.le_of_ble_eq_true rfl) (by decide +kernel) z_o21 (by decide +kernel)
theorem dX5_handOn_161 : decode cX5_handOn 161 = .ok (.aload_n 0, 1) := z_row zl_cX5_handOn 161 530730 (Nat.le_of_ble_eq_true rfl) (by decide +kernel) z_o42 (by decide +kernel)
theorem dX5_handOn_162 : decode cX5_handOn 162 = .ok (.aload 8, 2) := z_row zl_cX5_handOn 162 1837081 (Nat.le_of_ble_eq_true rfl) (by decide +kernel) z_o25 (by decide +kernel)
theorem dX5_handOn_164 : decode cX5_handOn 164 = .ok (.iload_n 2, 1) := z_row zl_cX5_handOn 164 11928348 (Nat.le_of_ble_eq_true rfl) (by decide +kernel) z_o28 (by decide +kernel)
theorem dX5_handOn_165 : decode cX5_handOn 165 = .ok (.iconst 0, 1) := z_row zl_cX5_handOn 165 46595 (Nat.le_of_ble_eq_true rfl) (by decide +kernel) z_o3 (by decide +kernel)
theorem dX5_handOn_166 : decode cX5_handOn 166 = .ok (.invokevirtual 106, 3) := z_row zl_cX5_handOn 166 6946998 (Nat.le_of_ble_eq_true rfl) (by decide +kernel) z_o182 (by decide +kernel)
theorem dX5_handOn_169 : decode cX5_handOn 169 = .ok (.iastore, 1) := z_row zl_cX5_handOn 169 623695 (Nat.le_of_ble_eq_true rfl) (by decide +kernel) z_o79 (by decide +kernel)
theorem dX5_handOn_170 : decode cX5_handOn 170 = .ok (.iinc 9 1, 3) := z_row zl_cX5_handOn 170 67972 (Nat.le_of_ble_eq_true rfl) (by decide +kernel) z_o132 (by decide +kernel)
theorem dX5_handOn_173 : decode cX5_handOn 173 = .ok (.goto (-64), 3) := z_row zl_cX5_handOn 173 12648359 (Nat.le_of_ble_eq_true rfl) (by decide +kernel) z_o167 (by decide +kernel)
theorem dX5_handOn_176 : decode cX5_handOn 176 = .ok (.aload_n 0, 1) := z_row zl_cX5_handOn 176 1383722 (Nat.le_of_ble_eq_true rfl) (by decide +kernel) z_o42 (by decide +kernel)
theorem dX5_handOn_177 : decode cX5_handOn 177 = .ok (.iload_n 3, 1) := z_row zl_cX5_handOn 177 267549 (Nat.le_of_ble_eq_true rfl) (by decide +kernel) z_o29 (by decide +kernel)
theorem dX5_handOn_178 : decode cX5_handOn 178 = .ok (.iload 4, 2) := z_row zl_cX5_handOn 178 2753557 (Nat.le_of_ble_eq_true rfl) (by decide +kernel) z_o21 (by decide +kernel)
theorem dX5_handOn_180 : decode cX5_handOn 180 = .ok (.aload_n 0, 1) := z_row zl_cX5_handOn 180 465194 (Nat.le_of_ble_eq_true rfl) (by decide +kernel) z_o42 (by decide +kernel)
theorem dX5_handOn_181 : decode cX5_handOn 181 = .ok (.aload 7, 2) := z_row zl_cX5_handOn 181 11929369 (Nat.le_of_ble_eq_true rfl) (by decide +kernel) z_o25 (by decide +kernel)
theorem dX5_handOn_183 : decode cX5_handOn 183 = .ok (.invokevirtual 136, 3) := z_row zl_cX5_handOn 183 8913078 (Nat.le_of_ble_eq_true rfl) (by decide +kernel) z_o182 (by decide +kernel)
theorem dX5_handOn_186 : decode cX5_handOn 186 = .ok (.aload 7, 2) := z_row zl_cX5_handOn 186 11929369 (Nat.le_of_ble_eq_true rfl) (by decide +kernel) z_o25 (by decide +kernel)
theorem dX5_handOn_188 : decode cX5_handOn 188 = .ok (.invokevirtual 140, 3) := z_row zl_cX5_handOn 188 9175222 (Nat.le_of_ble_eq_true rfl) (by decide +kernel) z_o182 (by decide +kernel)
set_option maxRecDepth 100000 in
theorem dX5_handOn_191 : decode cX5_handOn 191 = .ok (.ireturn, 1) := by decide +kernel
set_option maxRecDepth 100000 in
theorem dX5_put_0 : decode cX5_put 0 = .ok (.aload_n 0, 1) := by decide +kernel
set_option maxRecDepth 100000 in
theorem dX5_put_1 : decode cX5_put 1 = .ok (.getfield 18, 3) := by decide +kernel
set_option maxRecDepth 100000 in
theorem dX5_put_4 : decode cX5_put 4 = .ok (.iload_n 1, 1) := by decide +kernel
set_option maxRecDepth 100000 in
theorem dX5_put_5 : decode cX5_put 5 = .ok (.aaload, 1) := by decide +kernel
set_option maxRecDepth 100000 in
theorem dX5_put_6 : decode cX5_put 6 = .ok (.invokevirtual 144, 3) := by decide +kernel
set_option maxRecDepth 100000 in
theorem dX5_put_9 : decode cX5_put 9 = .ok (.checkcast 17, 3) := by decide +kernel
set_option maxRecDepth 100000 in
theorem dX5_put_12 : decode cX5_put 12 = .ok (.astore 4, 2) := by decide +kernel
set_option maxRecDepth 100000 in
theorem dX5_put_14 : decode cX5_put 14 = .ok (.aload 4, 2) := by decide +kernel
set_option maxRecDepth 100000 in
theorem dX5_put_16 : decode cX5_put 16 = .ok (.iload_n 2, 1) := by decide +kernel
set_option maxRecDepth 100000 in
theorem dX5_put_17 : decode cX5_put 17 = .ok (.iload_n 3, 1) := by decide +kernel
set_option maxRecDepth 100000 in
theorem dX5_put_18 : decode cX5_put 18 = .ok (.iastore, 1) := by decide +kernel
set_option maxRecDepth 100000 in
theorem dX5_put_19 : decode cX5_put 19 = .ok (.aload_n 0, 1) := by decide +kernel
set_option maxRecDepth 100000 in
theorem dX5_put_20 : decode cX5_put 20 = .ok (.getfield 18, 3) := by decide +kernel
set_option maxRecDepth 100000 in
theorem dX5_put_23 : decode cX5_put 23 = .ok (.iload_n 1, 1) := by decide +kernel
def zN_cX5_put : Nat := 0xb15304191b1200b42a4f1d1c0419043a1100c09000b6321b1200b42a
set_option maxRecDepth 100000 in
theorem zl_cX5_put : cX5_put.data.toList = z_un 28 zN_cX5_put := eq_of_beq (by decide +kernel)
theorem dX5_put_24 : decode cX5_put 24 = .ok (.aload 4, 2) := z_row zl_cX5_put 24 5440537 (Nat.le_of_ble_eq_true rfl) (by decide +kernel) z_o25 (by decide +kernel)
set_option maxRecDepth 100000 in
theorem dX5_put_26 : decode cX5_put 26 = .ok (.aastore, 1) := by decide +kernel
set_option maxRecDepth 100000 in
theorem dX5_put_27 : decode cX5_put 27 = .ok (.return_, 1) := by decide +kernel
set_option maxRecDepth 100000 in
theorem dX5_lose_0 : decode cX5_lose 0 = .ok (.aload_n 0, 1) := by decide +kernel
set_option maxRecDepth 100000 in
theorem dX5_lose_1 : decode cX5_lose 1 = .ok (.iload_n 1, 1) := by decide +kernel
set_option maxRecDepth 100000 in
theorem dX5_lose_2 : decode cX5_lose 2 = .ok (.invokestatic 129, 3) := by decide +kernel
set_option maxRecDepth 100000 in
theorem dX5_lose_5 : decode cX5_lose 5 = .ok (.ifCond .ne 11, 3) := by decide +kernel
set_option maxRecDepth 100000 in
theorem dX5_lose_8 : decode cX5_lose 8 = .ok (.aload_n 0, 1) := by decide +kernel
set_option maxRecDepth 100000 in
theorem dX5_lose_9 : decode cX5_lose 9 = .ok (.iload_n 2, 1) := by decide +kernel
set_option maxRecDepth 100000 in
theorem dX5_lose_10 : decode cX5_lose 10 = .ok (.invokevirtual 99, 3) := by decide +kernel
set_option maxRecDepth 100000 in
theorem dX5_lose_13 : decode cX5_lose 13 = .ok (.ifCond .eq 7, 3) := by decide +kernel
set_option maxRecDepth 100000 in
theorem dX5_lose_16 : decode cX5_lose 16 = .ok (.iconst 1, 1) := by decide +kernel
set_option maxRecDepth 100000 in
theorem dX5_lose_17 : decode cX5_lose 17 = .ok (.goto 4, 3) := by decide +kernel
set_option maxRecDepth 100000 in
theorem dX5_lose_20 : decode cX5_lose 20 = .ok (.iconst 0, 1) := by decide +kernel
set_option maxRecDepth 100000 in
theorem dX5_lose_21 : decode cX5_lose 21 = .ok (.iconst 1, 1) := by decide +kernel
set_option maxRecDepth 100000 in
theorem dX5_lose_22 : decode cX5_lose 22 = .ok (.invokevirtual 69, 3) := by decide +kernel
def zN_cX5_lose : Nat := 0xac1da400b6021c1b2a3e2e1c321b1200b42aacf71006009a5700b81c7400b61b2aac030500994500b604030400a7040700996300b61c2a0b009a8100b81b2a
set_option maxRecDepth 100000 in
theorem zl_cX5_lose : cX5_lose.data.toList = z_un 63 zN_cX5_lose := eq_of_beq (by decide +kernel)
theorem dX5_lose_25 : decode cX5_lose 25 = .ok (.ifCond .eq 5, 3) := z_row zl_cX5_lose 25 327833 (Nat.le_of_ble_eq_true rfl) (by decide +kernel) z_o153 (by decide +kernel)
theorem dX5_lose_28 : decode cX5_lose 28 = .ok (.iconst 0, 1) := z_row zl_cX5_lose 28 2796547 (Nat.le_of_ble_eq_true rfl) (by decide +kernel) z_o3 (by decide +kernel)
theorem dX5_lose_29 : decode cX5_lose 29 = .ok (.ireturn, 1) := z_row zl_cX5_lose 29 1780396 (Nat.le_of_ble_eq_true rfl) (by decide +kernel) z_o172 (by decide +kernel)
theorem dX5_lose_30 : decode cX5_lose 30 = .ok (.aload_n 0, 1) := z_row zl_cX5_lose 30 11934506 (Nat.le_of_ble_eq_true rfl) (by decide +kernel) z_o42 (by decide +kernel)
theorem dX5_lose_31 : decode cX5_lose 31 = .ok (.iload_n 1, 1) := z_row zl_cX5_lose 31 46619 (Nat.le_of_ble_eq_true rfl) (by decide +kernel) z_o27 (by decide +kernel)
theorem dX5_lose_32 : decode cX5_lose 32 = .ok (.invokevirtual 116, 3) := z_row zl_cX5_lose 32 7602358 (Nat.le_of_ble_eq_true rfl) (by decide +kernel) z_o182 (by decide +kernel)
theorem dX5_lose_35 : decode cX5_lose 35 = .ok (.iload_n 2, 1) := z_row zl_cX5_lose 35 47132 (Nat.le_of_ble_eq_true rfl) (by decide +kernel) z_o28 (by decide +kernel)
theorem dX5_lose_36 : decode cX5_lose 36 = .ok (.invokestatic 87, 3) := z_row zl_cX5_lose 36 5701816 (Nat.le_of_ble_eq_true rfl) (by decide +kernel) z_o184 (by decide +kernel)
theorem dX5_lose_39 : decode cX5_lose 39 = .ok (.ifCond .ne 6, 3) := z_row zl_cX5_lose 39 393370 (Nat.le_of_ble_eq_true rfl) (by decide +kernel) z_o154 (by decide +kernel)
theorem dX5_lose_42 : decode cX5_lose 42 = .ok (.bipush (-9), 2) := z_row zl_cX5_lose 42 11335440 (Nat.le_of_ble_eq_true rfl) (by decide +kernel) z_o16 (by decide +kernel)
theorem dX5_lose_44 : decode cX5_lose 44 = .ok (.ireturn, 1) := z_row zl_cX5_lose 44 11807404 (Nat.le_of_ble_eq_true rfl) (by decide +kernel) z_o172 (by decide +kernel)
theorem dX5_lose_45 : decode cX5_lose 45 = .ok (.aload_n 0, 1) := z_row zl_cX5_lose 45 46122 (Nat.le_of_ble_eq_true rfl) (by decide +kernel) z_o42 (by decide +kernel)
theorem dX5_lose_46 : decode cX5_lose 46 = .ok (.getfield 18, 3) := z_row zl_cX5_lose 46 1179828 (Nat.le_of_ble_eq_true rfl) (by decide +kernel) z_o180 (by decide +kernel)
theorem dX5_lose_49 : decode cX5_lose 49 = .ok (.iload_n 1, 1) := z_row zl_cX5_lose 49 1847835 (Nat.le_of_ble_eq_true rfl) (by decide +kernel) z_o27 (by decide +kernel)
theorem dX5_lose_50 : decode cX5_lose 50 = .ok (.aaload, 1) := z_row zl_cX5_lose 50 3021874 (Nat.le_of_ble_eq_true rfl) (by decide +kernel) z_o50 (by decide +kernel)
theorem dX5_lose_51 : decode cX5_lose 51 = .ok (.iload_n 2, 1) := z_row zl_cX5_lose 51 4075036 (Nat.le_of_ble_eq_true rfl) (by decide +kernel) z_o28 (by decide +kernel)
theorem dX5_lose_52 : decode cX5_lose 52 = .ok (.iaload, 1) := z_row zl_cX5_lose 52 2768430 (Nat.le_of_ble_eq_true rfl) (by decide +kernel) z_o46 (by decide +kernel)
theorem dX5_lose_53 : decode cX5_lose 53 = .ok (.istore_n 3, 1) := z_row zl_cX5_lose 53 1780286 (Nat.le_of_ble_eq_true rfl) (by decide +kernel) z_o62 (by decide +kernel)
theorem dX5_lose_54 : decode cX5_lose 54 = .ok (.aload_n 0, 1) := z_row zl_cX5_lose 54 1841962 (Nat.le_of_ble_eq_true rfl) (by decide +kernel) z_o42 (by decide +kernel)
theorem dX5_lose_55 : decode cX5_lose 55 = .ok (.iload_n 1, 1) := z_row zl_cX5_lose 55 138267 (Nat.le_of_ble_eq_true rfl) (by decide +kernel) z_o27 (by decide +kernel)
theorem dX5_lose_56 : decode cX5_lose 56 = .ok (.iload_n 2, 1) := z_row zl_cX5_lose 56 11928092 (Nat.le_of_ble_eq_true rfl) (by decide +kernel) z_o28 (by decide +kernel)
theorem dX5_lose_57 : decode cX5_lose 57 = .ok (.iconst (-1), 1) := z_row zl_cX5_lose 57 46594 (Nat.le_of_ble_eq_true rfl) (by decide +kernel) z_o2 (by decide +kernel)
theorem dX5_lose_58 : decode cX5_lose 58 = .ok (.invokevirtual 164, 3) := z_row zl_cX5_lose 58 10748086 (Nat.le_of_ble_eq_true rfl) (by decide +kernel) z_o182 (by decide +kernel)
set_option maxRecDepth 100000 in
theorem dX5_lose_61 : decode cX5_lose 61 = .ok (.iload_n 3, 1) := by decide +kernel
set_option maxRecDepth 100000 in
theorem dX5_lose_62 : decode cX5_lose 62 = .ok (.ireturn, 1) := by decide +kernel
set_option maxRecDepth 100000 in
theorem dX5_give_0 : decode cX5_give 0 = .ok (.aload_n 0, 1) := by decide +kernel
set_option maxRecDepth 100000 in
theorem dX5_give_1 : decode cX5_give 1 = .ok (.iload_n 1, 1) := by decide +kernel
set_option maxRecDepth 100000 in
theorem dX5_give_2 : decode cX5_give 2 = .ok (.invokestatic 129, 3) := by decide +kernel
set_option maxRecDepth 100000 in
theorem dX5_give_5 : decode cX5_give 5 = .ok (.ifCond .ne 11, 3) := by decide +kernel
set_option maxRecDepth 100000 in
theorem dX5_give_8 : decode cX5_give 8 = .ok (.aload_n 0, 1) := by decide +kernel
set_option maxRecDepth 100000 in
theorem dX5_give_9 : decode cX5_give 9 = .ok (.iload_n 2, 1) := by decide +kernel
set_option maxRecDepth 100000 in
theorem dX5_give_10 : decode cX5_give 10 = .ok (.invokevirtual 99, 3) := by decide +kernel
set_option maxRecDepth 100000 in
theorem dX5_give_13 : decode cX5_give 13 = .ok (.ifCond .eq 7, 3) := by decide +kernel
set_option maxRecDepth 100000 in
theorem dX5_give_16 : decode cX5_give 16 = .ok (.iconst 1, 1) := by decide +kernel
set_option maxRecDepth 100000 in
theorem dX5_give_17 : decode cX5_give 17 = .ok (.goto 4, 3) := by decide +kernel
set_option maxRecDepth 100000 in
theorem dX5_give_20 : decode cX5_give 20 = .ok (.iconst 0, 1) := by decide +kernel
set_option maxRecDepth 100000 in
theorem dX5_give_21 : decode cX5_give 21 = .ok (.iconst 1, 1) := by decide +kernel
set_option maxRecDepth 100000 in
theorem dX5_give_22 : decode cX5_give 22 = .ok (.invokevirtual 69, 3) := by decide +kernel
def zN_cX5_give : Nat := 0xac0415a400b63700b6851d2a1c1b2a04362e1c321b1200b42aacf7100600997100b61b2aac030500994500b604030400a7040700996300b61c2a0b009a8100b81b2a
set_option maxRecDepth 100000 in
theorem zl_cX5_give : cX5_give.data.toList = z_un 66 zN_cX5_give := eq_of_beq (by decide +kernel)
theorem dX5_give_25 : decode cX5_give 25 = .ok (.ifCond .eq 5, 3) := z_row zl_cX5_give 25 327833 (Nat.le_of_ble_eq_true rfl) (by decide +kernel) z_o153 (by decide +kernel)
theorem dX5_give_28 : decode cX5_give 28 = .ok (.iconst 0, 1) := z_row zl_cX5_give 28 2796547 (Nat.le_of_ble_eq_true rfl) (by decide +kernel) z_o3 (by decide +kernel)
theorem dX5_give_29 : decode cX5_give 29 = .ok (.ireturn, 1) := z_row zl_cX5_give 29 1780396 (Nat.le_of_ble_eq_true rfl) (by decide +kernel) z_o172 (by decide +kernel)
theorem dX5_give_30 : decode cX5_give 30 = .ok (.aload_n 0, 1) := z_row zl_cX5_give 30 11934506 (Nat.le_of_ble_eq_true rfl) (by decide +kernel) z_o42 (by decide +kernel)
theorem dX5_give_31 : decode cX5_give 31 = .ok (.iload_n 1, 1) := z_row zl_cX5_give 31 46619 (Nat.le_of_ble_eq_true rfl) (by decide +kernel) z_o27 (by decide +kernel)
theorem dX5_give_32 : decode cX5_give 32 = .ok (.invokevirtual 113, 3) := z_row zl_cX5_give 32 7405750 (Nat.le_of_ble_eq_true rfl) (by decide +kernel) z_o182 (by decide +kernel)
theorem dX5_give_35 : decode cX5_give 35 = .ok (.ifCond .eq 6, 3) := z_row zl_cX5_give 35 393369 (Nat.le_of_ble_eq_true rfl) (by decide +kernel) z_o153 (by decide +kernel)
theorem dX5_give_38 : decode cX5_give 38 = .ok (.bipush (-9), 2) := z_row zl_cX5_give 38 11335440 (Nat.le_of_ble_eq_true rfl) (by decide +kernel) z_o16 (by decide +kernel)
theorem dX5_give_40 : decode cX5_give 40 = .ok (.ireturn, 1) := z_row zl_cX5_give 40 11807404 (Nat.le_of_ble_eq_true rfl) (by decide +kernel) z_o172 (by decide +kernel)
theorem dX5_give_41 : decode cX5_give 41 = .ok (.aload_n 0, 1) := z_row zl_cX5_give 41 46122 (Nat.le_of_ble_eq_true rfl) (by decide +kernel) z_o42 (by decide +kernel)
theorem dX5_give_42 : decode cX5_give 42 = .ok (.getfield 18, 3) := z_row zl_cX5_give 42 1179828 (Nat.le_of_ble_eq_true rfl) (by decide +kernel) z_o180 (by decide +kernel)
theorem dX5_give_45 : decode cX5_give 45 = .ok (.iload_n 1, 1) := z_row zl_cX5_give 45 1847835 (Nat.le_of_ble_eq_true rfl) (by decide +kernel) z_o27 (by decide +kernel)
theorem dX5_give_46 : decode cX5_give 46 = .ok (.aaload, 1) := z_row zl_cX5_give 46 3021874 (Nat.le_of_ble_eq_true rfl) (by decide +kernel) z_o50 (by decide +kernel)
theorem dX5_give_47 : decode cX5_give 47 = .ok (.iload_n 2, 1) := z_row zl_cX5_give 47 3550748 (Nat.le_of_ble_eq_true rfl) (by decide +kernel) z_o28 (by decide +kernel)
theorem dX5_give_48 : decode cX5_give 48 = .ok (.iaload, 1) := z_row zl_cX5_give 48 276014 (Nat.le_of_ble_eq_true rfl) (by decide +kernel) z_o46 (by decide +kernel)
theorem dX5_give_49 : decode cX5_give 49 = .ok (.istore 4, 2) := z_row zl_cX5_give 49 2753590 (Nat.le_of_ble_eq_true rfl) (by decide +kernel) z_o54 (by decide +kernel)
theorem dX5_give_51 : decode cX5_give 51 = .ok (.aload_n 0, 1) := z_row zl_cX5_give 51 1841962 (Nat.le_of_ble_eq_true rfl) (by decide +kernel) z_o42 (by decide +kernel)
theorem dX5_give_52 : decode cX5_give 52 = .ok (.iload_n 1, 1) := z_row zl_cX5_give 52 2759707 (Nat.le_of_ble_eq_true rfl) (by decide +kernel) z_o27 (by decide +kernel)
theorem dX5_give_53 : decode cX5_give 53 = .ok (.iload_n 2, 1) := z_row zl_cX5_give 53 1911324 (Nat.le_of_ble_eq_true rfl) (by decide +kernel) z_o28 (by decide +kernel)
theorem dX5_give_54 : decode cX5_give 54 = .ok (.aload_n 0, 1) := z_row zl_cX5_give 54 8723754 (Nat.le_of_ble_eq_true rfl) (by decide +kernel) z_o42 (by decide +kernel)
theorem dX5_give_55 : decode cX5_give 55 = .ok (.iload_n 3, 1) := z_row zl_cX5_give 55 11961629 (Nat.le_of_ble_eq_true rfl) (by decide +kernel) z_o29 (by decide +kernel)
theorem dX5_give_56 : decode cX5_give 56 = .ok (.i2l, 1) := z_row zl_cX5_give 56 46725 (Nat.le_of_ble_eq_true rfl) (by decide +kernel) z_o133 (by decide +kernel)
theorem dX5_give_57 : decode cX5_give 57 = .ok (.invokevirtual 55, 3) := z_row zl_cX5_give 57 3604662 (Nat.le_of_ble_eq_true rfl) (by decide +kernel) z_o182 (by decide +kernel)
theorem dX5_give_60 : decode cX5_give 60 = .ok (.invokevirtual 164, 3) := z_row zl_cX5_give 60 10748086 (Nat.le_of_ble_eq_true rfl) (by decide +kernel) z_o182 (by decide +kernel)
theorem dX5_give_63 : decode cX5_give 63 = .ok (.iload 4, 2) := z_row zl_cX5_give 63 11273237 (Nat.le_of_ble_eq_true rfl) (by decide +kernel) z_o21 (by decide +kernel)
set_option maxRecDepth 100000 in
theorem dX5_give_65 : decode cX5_give 65 = .ok (.ireturn, 1) := by decide +kernel
set_option maxRecDepth 100000 in
theorem dX5_regain_0 : decode cX5_regain 0 = .ok (.aload_n 0, 1) := by decide +kernel
set_option maxRecDepth 100000 in
theorem dX5_regain_1 : decode cX5_regain 1 = .ok (.iload_n 1, 1) := by decide +kernel
set_option maxRecDepth 100000 in
theorem dX5_regain_2 : decode cX5_regain 2 = .ok (.invokestatic 129, 3) := by decide +kernel
set_option maxRecDepth 100000 in
theorem dX5_regain_5 : decode cX5_regain 5 = .ok (.ifCond .ne 11, 3) := by decide +kernel
set_option maxRecDepth 100000 in
theorem dX5_regain_8 : decode cX5_regain 8 = .ok (.aload_n 0, 1) := by decide +kernel
set_option maxRecDepth 100000 in
theorem dX5_regain_9 : decode cX5_regain 9 = .ok (.iload_n 2, 1) := by decide +kernel
set_option maxRecDepth 100000 in
theorem dX5_regain_10 : decode cX5_regain 10 = .ok (.invokevirtual 99, 3) := by decide +kernel
set_option maxRecDepth 100000 in
theorem dX5_regain_13 : decode cX5_regain 13 = .ok (.ifCond .eq 7, 3) := by decide +kernel
set_option maxRecDepth 100000 in
theorem dX5_regain_16 : decode cX5_regain 16 = .ok (.iconst 1, 1) := by decide +kernel
set_option maxRecDepth 100000 in
theorem dX5_regain_17 : decode cX5_regain 17 = .ok (.goto 4, 3) := by decide +kernel
set_option maxRecDepth 100000 in
theorem dX5_regain_20 : decode cX5_regain 20 = .ok (.iconst 0, 1) := by decide +kernel
set_option maxRecDepth 100000 in
theorem dX5_regain_21 : decode cX5_regain 21 = .ok (.iconst 1, 1) := by decide +kernel
set_option maxRecDepth 100000 in
theorem dX5_regain_22 : decode cX5_regain 22 = .ok (.invokevirtual 69, 3) := by decide +kernel
def zN_cX5_regain : Nat := 0xac2e1c321b1200b42aa400b66a00b61c1d321b1200b42a2a1c1b2aacf71006009aa100b61d1b2aac030500991c00b6056700b61d2a2a10009a4500b604030400a7040700996300b61c2a0b009a8100b81b2a
set_option maxRecDepth 100000 in
theorem zl_cX5_regain : cX5_regain.data.toList = z_un 82 zN_cX5_regain := eq_of_beq (by decide +kernel)
theorem dX5_regain_25 : decode cX5_regain 25 = .ok (.ifCond .ne 16, 3) := z_row zl_cX5_regain 25 1048730 (Nat.le_of_ble_eq_true rfl) (by decide +kernel) z_o154 (by decide +kernel)
theorem dX5_regain_28 : decode cX5_regain 28 = .ok (.aload_n 0, 1) := z_row zl_cX5_regain 28 1911338 (Nat.le_of_ble_eq_true rfl) (by decide +kernel) z_o42 (by decide +kernel)
theorem dX5_regain_29 : decode cX5_regain 29 = .ok (.aload_n 0, 1) := z_row zl_cX5_regain 29 11935018 (Nat.le_of_ble_eq_true rfl) (by decide +kernel) z_o42 (by decide +kernel)
theorem dX5_regain_30 : decode cX5_regain 30 = .ok (.iload_n 3, 1) := z_row zl_cX5_regain 30 46621 (Nat.le_of_ble_eq_true rfl) (by decide +kernel) z_o29 (by decide +kernel)
theorem dX5_regain_31 : decode cX5_regain 31 = .ok (.invokevirtual 103, 3) := z_row zl_cX5_regain 31 6750390 (Nat.le_of_ble_eq_true rfl) (by decide +kernel) z_o182 (by decide +kernel)
theorem dX5_regain_34 : decode cX5_regain 34 = .ok (.iconst 2, 1) := z_row zl_cX5_regain 34 46597 (Nat.le_of_ble_eq_true rfl) (by decide +kernel) z_o5 (by decide +kernel)
theorem dX5_regain_35 : decode cX5_regain 35 = .ok (.invokevirtual 28, 3) := z_row zl_cX5_regain 35 1835190 (Nat.le_of_ble_eq_true rfl) (by decide +kernel) z_o182 (by decide +kernel)
theorem dX5_regain_38 : decode cX5_regain 38 = .ok (.ifCond .eq 5, 3) := z_row zl_cX5_regain 38 327833 (Nat.le_of_ble_eq_true rfl) (by decide +kernel) z_o153 (by decide +kernel)
theorem dX5_regain_41 : decode cX5_regain 41 = .ok (.iconst 0, 1) := z_row zl_cX5_regain 41 2796547 (Nat.le_of_ble_eq_true rfl) (by decide +kernel) z_o3 (by decide +kernel)
theorem dX5_regain_42 : decode cX5_regain 42 = .ok (.ireturn, 1) := z_row zl_cX5_regain 42 1780396 (Nat.le_of_ble_eq_true rfl) (by decide +kernel) z_o172 (by decide +kernel)
theorem dX5_regain_43 : decode cX5_regain 43 = .ok (.aload_n 0, 1) := z_row zl_cX5_regain 43 1907498 (Nat.le_of_ble_eq_true rfl) (by decide +kernel) z_o42 (by decide +kernel)
theorem dX5_regain_44 : decode cX5_regain 44 = .ok (.iload_n 1, 1) := z_row zl_cX5_regain 44 11935003 (Nat.le_of_ble_eq_true rfl) (by decide +kernel) z_o27 (by decide +kernel)
theorem dX5_regain_45 : decode cX5_regain 45 = .ok (.iload_n 3, 1) := z_row zl_cX5_regain 45 46621 (Nat.le_of_ble_eq_true rfl) (by decide +kernel) z_o29 (by decide +kernel)
theorem dX5_regain_46 : decode cX5_regain 46 = .ok (.invokevirtual 161, 3) := z_row zl_cX5_regain 46 10551478 (Nat.le_of_ble_eq_true rfl) (by decide +kernel) z_o182 (by decide +kernel)
theorem dX5_regain_49 : decode cX5_regain 49 = .ok (.ifCond .ne 6, 3) := z_row zl_cX5_regain 49 393370 (Nat.le_of_ble_eq_true rfl) (by decide +kernel) z_o154 (by decide +kernel)
theorem dX5_regain_52 : decode cX5_regain 52 = .ok (.bipush (-9), 2) := z_row zl_cX5_regain 52 11335440 (Nat.le_of_ble_eq_true rfl) (by decide +kernel) z_o16 (by decide +kernel)
theorem dX5_regain_54 : decode cX5_regain 54 = .ok (.ireturn, 1) := z_row zl_cX5_regain 54 1780396 (Nat.le_of_ble_eq_true rfl) (by decide +kernel) z_o172 (by decide +kernel)
theorem dX5_regain_55 : decode cX5_regain 55 = .ok (.aload_n 0, 1) := z_row zl_cX5_regain 55 1841962 (Nat.le_of_ble_eq_true rfl) (by decide +kernel) z_o42 (by decide +kernel)
theorem dX5_regain_56 : decode cX5_regain 56 = .ok (.iload_n 1, 1) := z_row zl_cX5_regain 56 2759707 (Nat.le_of_ble_eq_true rfl) (by decide +kernel) z_o27 (by decide +kernel)
theorem dX5_regain_57 : decode cX5_regain 57 = .ok (.iload_n 2, 1) := z_row zl_cX5_regain 57 2763292 (Nat.le_of_ble_eq_true rfl) (by decide +kernel) z_o28 (by decide +kernel)
theorem dX5_regain_58 : decode cX5_regain 58 = .ok (.aload_n 0, 1) := z_row zl_cX5_regain 58 11807274 (Nat.le_of_ble_eq_true rfl) (by decide +kernel) z_o42 (by decide +kernel)
theorem dX5_regain_59 : decode cX5_regain 59 = .ok (.aload_n 0, 1) := z_row zl_cX5_regain 59 46122 (Nat.le_of_ble_eq_true rfl) (by decide +kernel) z_o42 (by decide +kernel)
theorem dX5_regain_60 : decode cX5_regain 60 = .ok (.getfield 18, 3) := z_row zl_cX5_regain 60 1179828 (Nat.le_of_ble_eq_true rfl) (by decide +kernel) z_o180 (by decide +kernel)
theorem dX5_regain_63 : decode cX5_regain 63 = .ok (.iload_n 1, 1) := z_row zl_cX5_regain 63 1913371 (Nat.le_of_ble_eq_true rfl) (by decide +kernel) z_o27 (by decide +kernel)
theorem dX5_regain_64 : decode cX5_regain 64 = .ok (.aaload, 1) := z_row zl_cX5_regain 64 1842482 (Nat.le_of_ble_eq_true rfl) (by decide +kernel) z_o50 (by decide +kernel)
theorem dX5_regain_65 : decode cX5_regain 65 = .ok (.iload_n 3, 1) := z_row zl_cX5_regain 65 11934749 (Nat.le_of_ble_eq_true rfl) (by decide +kernel) z_o29 (by decide +kernel)
theorem dX5_regain_66 : decode cX5_regain 66 = .ok (.iload_n 2, 1) := z_row zl_cX5_regain 66 46620 (Nat.le_of_ble_eq_true rfl) (by decide +kernel) z_o28 (by decide +kernel)
theorem dX5_regain_67 : decode cX5_regain 67 = .ok (.invokevirtual 106, 3) := z_row zl_cX5_regain 67 6946998 (Nat.le_of_ble_eq_true rfl) (by decide +kernel) z_o182 (by decide +kernel)
theorem dX5_regain_70 : decode cX5_regain 70 = .ok (.invokevirtual 164, 3) := z_row zl_cX5_regain 70 10748086 (Nat.le_of_ble_eq_true rfl) (by decide +kernel) z_o182 (by decide +kernel)
theorem dX5_regain_73 : decode cX5_regain 73 = .ok (.aload_n 0, 1) := z_row zl_cX5_regain 73 46122 (Nat.le_of_ble_eq_true rfl) (by decide +kernel) z_o42 (by decide +kernel)
theorem dX5_regain_74 : decode cX5_regain 74 = .ok (.getfield 18, 3) := z_row zl_cX5_regain 74 1179828 (Nat.le_of_ble_eq_true rfl) (by decide +kernel) z_o180 (by decide +kernel)
theorem dX5_regain_77 : decode cX5_regain 77 = .ok (.iload_n 1, 1) := z_row zl_cX5_regain 77 1847835 (Nat.le_of_ble_eq_true rfl) (by decide +kernel) z_o27 (by decide +kernel)
theorem dX5_regain_78 : decode cX5_regain 78 = .ok (.aaload, 1) := z_row zl_cX5_regain 78 3021874 (Nat.le_of_ble_eq_true rfl) (by decide +kernel) z_o50 (by decide +kernel)
theorem dX5_regain_79 : decode cX5_regain 79 = .ok (.iload_n 2, 1) := z_row zl_cX5_regain 79 11283996 (Nat.le_of_ble_eq_true rfl) (by decide +kernel) z_o28 (by decide +kernel)
set_option maxRecDepth 100000 in
theorem dX5_regain_80 : decode cX5_regain 80 = .ok (.iaload, 1) := by decide +kernel
set_option maxRecDepth 100000 in
theorem dX5_regain_81 : decode cX5_regain 81 = .ok (.ireturn, 1) := by decide +kernel
set_option maxRecDepth 100000 in
theorem dX5_suspectsOf_0 : decode cX5_suspectsOf 0 = .ok (.aload_n 0, 1) := by decide +kernel
set_option maxRecDepth 100000 in
theorem dX5_suspectsOf_1 : decode cX5_suspectsOf 1 = .ok (.iload_n 1, 1) := by decide +kernel
set_option maxRecDepth 100000 in
theorem dX5_suspectsOf_2 : decode cX5_suspectsOf 2 = .ok (.invokevirtual 116, 3) := by decide +kernel
set_option maxRecDepth 100000 in
theorem dX5_suspectsOf_5 : decode cX5_suspectsOf 5 = .ok (.istore_n 2, 1) := by decide +kernel
set_option maxRecDepth 100000 in
theorem dX5_suspectsOf_6 : decode cX5_suspectsOf 6 = .ok (.iconst 0, 1) := by decide +kernel
set_option maxRecDepth 100000 in
theorem dX5_suspectsOf_7 : decode cX5_suspectsOf 7 = .ok (.istore_n 3, 1) := by decide +kernel
set_option maxRecDepth 100000 in
theorem dX5_suspectsOf_8 : decode cX5_suspectsOf 8 = .ok (.iconst 1, 1) := by decide +kernel
set_option maxRecDepth 100000 in
theorem dX5_suspectsOf_9 : decode cX5_suspectsOf 9 = .ok (.istore 4, 2) := by decide +kernel
set_option maxRecDepth 100000 in
theorem dX5_suspectsOf_11 : decode cX5_suspectsOf 11 = .ok (.iload 4, 2) := by decide +kernel
set_option maxRecDepth 100000 in
theorem dX5_suspectsOf_13 : decode cX5_suspectsOf 13 = .ok (.aload_n 0, 1) := by decide +kernel
set_option maxRecDepth 100000 in
theorem dX5_suspectsOf_14 : decode cX5_suspectsOf 14 = .ok (.invokevirtual 52, 3) := by decide +kernel
set_option maxRecDepth 100000 in
theorem dX5_suspectsOf_17 : decode cX5_suspectsOf 17 = .ok (.if_icmp .gt 43, 3) := by decide +kernel
set_option maxRecDepth 100000 in
theorem dX5_suspectsOf_20 : decode cX5_suspectsOf 20 = .ok (.iload_n 2, 1) := by decide +kernel
set_option maxRecDepth 100000 in
theorem dX5_suspectsOf_21 : decode cX5_suspectsOf 21 = .ok (.iload 4, 2) := by decide +kernel
set_option maxRecDepth 100000 in
theorem dX5_suspectsOf_23 : decode cX5_suspectsOf 23 = .ok (.invokestatic 87, 3) := by decide +kernel
def zN_cX5_suspectsOf : Nat := 0xac1dd2ffa70104843e607864040415041d0c0099a800b6647864040415041c1b2a1c00995700b804151c2b00a33400b62a04150436043e033d7400b61b2a
set_option maxRecDepth 100000 in
theorem zl_cX5_suspectsOf : cX5_suspectsOf.data.toList = z_un 62 zN_cX5_suspectsOf := eq_of_beq (by decide +kernel)
theorem dX5_suspectsOf_26 : decode cX5_suspectsOf 26 = .ok (.ifCond .eq 28, 3) := z_row zl_cX5_suspectsOf 26 1835161 (Nat.le_of_ble_eq_true rfl) (by decide +kernel) z_o153 (by decide +kernel)
theorem dX5_suspectsOf_29 : decode cX5_suspectsOf 29 = .ok (.aload_n 0, 1) := z_row zl_cX5_suspectsOf 29 1841962 (Nat.le_of_ble_eq_true rfl) (by decide +kernel) z_o42 (by decide +kernel)
theorem dX5_suspectsOf_30 : decode cX5_suspectsOf 30 = .ok (.iload_n 1, 1) := z_row zl_cX5_suspectsOf 30 269339 (Nat.le_of_ble_eq_true rfl) (by decide +kernel) z_o27 (by decide +kernel)
theorem dX5_suspectsOf_31 : decode cX5_suspectsOf 31 = .ok (.iload_n 2, 1) := z_row zl_cX5_suspectsOf 31 1377308 (Nat.le_of_ble_eq_true rfl) (by decide +kernel) z_o28 (by decide +kernel)
theorem dX5_suspectsOf_32 : decode cX5_suspectsOf 32 = .ok (.iconst 1, 1) := z_row zl_cX5_suspectsOf 32 267524 (Nat.le_of_ble_eq_true rfl) (by decide +kernel) z_o4 (by decide +kernel)
theorem dX5_suspectsOf_33 : decode cX5_suspectsOf 33 = .ok (.iload 4, 2) := z_row zl_cX5_suspectsOf 33 263189 (Nat.le_of_ble_eq_true rfl) (by decide +kernel) z_o21 (by decide +kernel)
theorem dX5_suspectsOf_35 : decode cX5_suspectsOf 35 = .ok (.iconst 1, 1) := z_row zl_cX5_suspectsOf 35 7889924 (Nat.le_of_ble_eq_true rfl) (by decide +kernel) z_o4 (by decide +kernel)
theorem dX5_suspectsOf_36 : decode cX5_suspectsOf 36 = .ok (.isub, 1) := z_row zl_cX5_suspectsOf 36 6584420 (Nat.le_of_ble_eq_true rfl) (by decide +kernel) z_o100 (by decide +kernel)
theorem dX5_suspectsOf_37 : decode cX5_suspectsOf 37 = .ok (.ishl, 1) := z_row zl_cX5_suspectsOf 37 11953272 (Nat.le_of_ble_eq_true rfl) (by decide +kernel) z_o120 (by decide +kernel)
theorem dX5_suspectsOf_38 : decode cX5_suspectsOf 38 = .ok (.isub, 1) := z_row zl_cX5_suspectsOf 38 46692 (Nat.le_of_ble_eq_true rfl) (by decide +kernel) z_o100 (by decide +kernel)
theorem dX5_suspectsOf_39 : decode cX5_suspectsOf 39 = .ok (.invokevirtual 168, 3) := z_row zl_cX5_suspectsOf 39 11010230 (Nat.le_of_ble_eq_true rfl) (by decide +kernel) z_o182 (by decide +kernel)
theorem dX5_suspectsOf_42 : decode cX5_suspectsOf 42 = .ok (.ifCond .eq 12, 3) := z_row zl_cX5_suspectsOf 42 786585 (Nat.le_of_ble_eq_true rfl) (by decide +kernel) z_o153 (by decide +kernel)
theorem dX5_suspectsOf_45 : decode cX5_suspectsOf 45 = .ok (.iload_n 3, 1) := z_row zl_cX5_suspectsOf 45 1377309 (Nat.le_of_ble_eq_true rfl) (by decide +kernel) z_o29 (by decide +kernel)
theorem dX5_suspectsOf_46 : decode cX5_suspectsOf 46 = .ok (.iconst 1, 1) := z_row zl_cX5_suspectsOf 46 267524 (Nat.le_of_ble_eq_true rfl) (by decide +kernel) z_o4 (by decide +kernel)
theorem dX5_suspectsOf_47 : decode cX5_suspectsOf 47 = .ok (.iload 4, 2) := z_row zl_cX5_suspectsOf 47 263189 (Nat.le_of_ble_eq_true rfl) (by decide +kernel) z_o21 (by decide +kernel)
theorem dX5_suspectsOf_49 : decode cX5_suspectsOf 49 = .ok (.iconst 1, 1) := z_row zl_cX5_suspectsOf 49 7889924 (Nat.le_of_ble_eq_true rfl) (by decide +kernel) z_o4 (by decide +kernel)
theorem dX5_suspectsOf_50 : decode cX5_suspectsOf 50 = .ok (.isub, 1) := z_row zl_cX5_suspectsOf 50 6322276 (Nat.le_of_ble_eq_true rfl) (by decide +kernel) z_o100 (by decide +kernel)
theorem dX5_suspectsOf_51 : decode cX5_suspectsOf 51 = .ok (.ishl, 1) := z_row zl_cX5_suspectsOf 51 4087928 (Nat.le_of_ble_eq_true rfl) (by decide +kernel) z_o120 (by decide +kernel)
theorem dX5_suspectsOf_52 : decode cX5_suspectsOf 52 = .ok (.iadd, 1) := z_row zl_cX5_suspectsOf 52 8666720 (Nat.le_of_ble_eq_true rfl) (by decide +kernel) z_o96 (by decide +kernel)
theorem dX5_suspectsOf_53 : decode cX5_suspectsOf 53 = .ok (.istore_n 3, 1) := z_row zl_cX5_suspectsOf 53 295998 (Nat.le_of_ble_eq_true rfl) (by decide +kernel) z_o62 (by decide +kernel)
theorem dX5_suspectsOf_54 : decode cX5_suspectsOf 54 = .ok (.iinc 4 1, 3) := z_row zl_cX5_suspectsOf 54 66692 (Nat.le_of_ble_eq_true rfl) (by decide +kernel) z_o132 (by decide +kernel)
theorem dX5_suspectsOf_57 : decode cX5_suspectsOf 57 = .ok (.goto (-46), 3) := z_row zl_cX5_suspectsOf 57 13828007 (Nat.le_of_ble_eq_true rfl) (by decide +kernel) z_o167 (by decide +kernel)
set_option maxRecDepth 100000 in
theorem dX5_suspectsOf_60 : decode cX5_suspectsOf 60 = .ok (.iload_n 3, 1) := by decide +kernel
set_option maxRecDepth 100000 in
theorem dX5_suspectsOf_61 : decode cX5_suspectsOf 61 = .ok (.ireturn, 1) := by decide +kernel
set_option maxRecDepth 100000 in
theorem dX5_wrongOf_0 : decode cX5_wrongOf 0 = .ok (.aload_n 0, 1) := by decide +kernel
set_option maxRecDepth 100000 in
theorem dX5_wrongOf_1 : decode cX5_wrongOf 1 = .ok (.iload_n 1, 1) := by decide +kernel
set_option maxRecDepth 100000 in
theorem dX5_wrongOf_2 : decode cX5_wrongOf 2 = .ok (.invokevirtual 113, 3) := by decide +kernel
set_option maxRecDepth 100000 in
theorem dX5_wrongOf_5 : decode cX5_wrongOf 5 = .ok (.ifCond .eq 6, 3) := by decide +kernel
set_option maxRecDepth 100000 in
theorem dX5_wrongOf_8 : decode cX5_wrongOf 8 = .ok (.bipush (-9), 2) := by decide +kernel
set_option maxRecDepth 100000 in
theorem dX5_wrongOf_10 : decode cX5_wrongOf 10 = .ok (.ireturn, 1) := by decide +kernel
set_option maxRecDepth 100000 in
theorem dX5_wrongOf_11 : decode cX5_wrongOf 11 = .ok (.aload_n 0, 1) := by decide +kernel
set_option maxRecDepth 100000 in
theorem dX5_wrongOf_12 : decode cX5_wrongOf 12 = .ok (.iload_n 1, 1) := by decide +kernel
set_option maxRecDepth 100000 in
theorem dX5_wrongOf_13 : decode cX5_wrongOf 13 = .ok (.aload_n 0, 1) := by decide +kernel
set_option maxRecDepth 100000 in
theorem dX5_wrongOf_14 : decode cX5_wrongOf 14 = .ok (.iload_n 1, 1) := by decide +kernel
set_option maxRecDepth 100000 in
theorem dX5_wrongOf_15 : decode cX5_wrongOf 15 = .ok (.invokevirtual 116, 3) := by decide +kernel
set_option maxRecDepth 100000 in
theorem dX5_wrongOf_18 : decode cX5_wrongOf 18 = .ok (.invokevirtual 168, 3) := by decide +kernel
set_option maxRecDepth 100000 in
theorem dX5_wrongOf_21 : decode cX5_wrongOf 21 = .ok (.ifCond .eq 5, 3) := by decide +kernel
def zN_cX5_wrongOf : Nat := 0xacf710ebffa7010384ac1d0500995700b81d1c1300a33400b62a1d3e043dab00b61b2aacf7100600a260062e1b0d00b42a7700b87400b61b2aac03050099a800b67400b61b2a1b2aacf7100600997100b61b2a
set_option maxRecDepth 100000 in
theorem zl_cX5_wrongOf : cX5_wrongOf.data.toList = z_un 83 zN_cX5_wrongOf := eq_of_beq (by decide +kernel)
theorem dX5_wrongOf_24 : decode cX5_wrongOf 24 = .ok (.iconst 0, 1) := z_row zl_cX5_wrongOf 24 2796547 (Nat.le_of_ble_eq_true rfl) (by decide +kernel) z_o3 (by decide +kernel)
theorem dX5_wrongOf_25 : decode cX5_wrongOf 25 = .ok (.ireturn, 1) := z_row zl_cX5_wrongOf 25 1780396 (Nat.le_of_ble_eq_true rfl) (by decide +kernel) z_o172 (by decide +kernel)
theorem dX5_wrongOf_26 : decode cX5_wrongOf 26 = .ok (.aload_n 0, 1) := z_row zl_cX5_wrongOf 26 11934506 (Nat.le_of_ble_eq_true rfl) (by decide +kernel) z_o42 (by decide +kernel)
theorem dX5_wrongOf_27 : decode cX5_wrongOf 27 = .ok (.iload_n 1, 1) := z_row zl_cX5_wrongOf 27 46619 (Nat.le_of_ble_eq_true rfl) (by decide +kernel) z_o27 (by decide +kernel)
theorem dX5_wrongOf_28 : decode cX5_wrongOf 28 = .ok (.invokevirtual 116, 3) := z_row zl_cX5_wrongOf 28 7602358 (Nat.le_of_ble_eq_true rfl) (by decide +kernel) z_o182 (by decide +kernel)
theorem dX5_wrongOf_31 : decode cX5_wrongOf 31 = .ok (.invokestatic 119, 3) := z_row zl_cX5_wrongOf 31 7798968 (Nat.le_of_ble_eq_true rfl) (by decide +kernel) z_o184 (by decide +kernel)
theorem dX5_wrongOf_34 : decode cX5_wrongOf 34 = .ok (.aload_n 0, 1) := z_row zl_cX5_wrongOf 34 46122 (Nat.le_of_ble_eq_true rfl) (by decide +kernel) z_o42 (by decide +kernel)
theorem dX5_wrongOf_35 : decode cX5_wrongOf 35 = .ok (.getfield 13, 3) := z_row zl_cX5_wrongOf 35 852148 (Nat.le_of_ble_eq_true rfl) (by decide +kernel) z_o180 (by decide +kernel)
theorem dX5_wrongOf_38 : decode cX5_wrongOf 38 = .ok (.iload_n 1, 1) := z_row zl_cX5_wrongOf 38 405019 (Nat.le_of_ble_eq_true rfl) (by decide +kernel) z_o27 (by decide +kernel)
theorem dX5_wrongOf_39 : decode cX5_wrongOf 39 = .ok (.iaload, 1) := z_row zl_cX5_wrongOf 39 6293038 (Nat.le_of_ble_eq_true rfl) (by decide +kernel) z_o46 (by decide +kernel)
theorem dX5_wrongOf_40 : decode cX5_wrongOf 40 = .ok (.iconst 3, 1) := z_row zl_cX5_wrongOf 40 10641414 (Nat.le_of_ble_eq_true rfl) (by decide +kernel) z_o6 (by decide +kernel)
theorem dX5_wrongOf_41 : decode cX5_wrongOf 41 = .ok (.iadd, 1) := z_row zl_cX5_wrongOf 41 41568 (Nat.le_of_ble_eq_true rfl) (by decide +kernel) z_o96 (by decide +kernel)
theorem dX5_wrongOf_42 : decode cX5_wrongOf 42 = .ok (.if_icmp .ge 6, 3) := z_row zl_cX5_wrongOf 42 393378 (Nat.le_of_ble_eq_true rfl) (by decide +kernel) z_o162 (by decide +kernel)
theorem dX5_wrongOf_45 : decode cX5_wrongOf 45 = .ok (.bipush (-9), 2) := z_row zl_cX5_wrongOf 45 11335440 (Nat.le_of_ble_eq_true rfl) (by decide +kernel) z_o16 (by decide +kernel)
theorem dX5_wrongOf_47 : decode cX5_wrongOf 47 = .ok (.ireturn, 1) := z_row zl_cX5_wrongOf 47 1780396 (Nat.le_of_ble_eq_true rfl) (by decide +kernel) z_o172 (by decide +kernel)
theorem dX5_wrongOf_48 : decode cX5_wrongOf 48 = .ok (.aload_n 0, 1) := z_row zl_cX5_wrongOf 48 11934506 (Nat.le_of_ble_eq_true rfl) (by decide +kernel) z_o42 (by decide +kernel)
theorem dX5_wrongOf_49 : decode cX5_wrongOf 49 = .ok (.iload_n 1, 1) := z_row zl_cX5_wrongOf 49 46619 (Nat.le_of_ble_eq_true rfl) (by decide +kernel) z_o27 (by decide +kernel)
theorem dX5_wrongOf_50 : decode cX5_wrongOf 50 = .ok (.invokevirtual 171, 3) := z_row zl_cX5_wrongOf 50 11206838 (Nat.le_of_ble_eq_true rfl) (by decide +kernel) z_o182 (by decide +kernel)
theorem dX5_wrongOf_53 : decode cX5_wrongOf 53 = .ok (.istore_n 2, 1) := z_row zl_cX5_wrongOf 53 4064317 (Nat.le_of_ble_eq_true rfl) (by decide +kernel) z_o61 (by decide +kernel)
theorem dX5_wrongOf_54 : decode cX5_wrongOf 54 = .ok (.iconst 1, 1) := z_row zl_cX5_wrongOf 54 1916420 (Nat.le_of_ble_eq_true rfl) (by decide +kernel) z_o4 (by decide +kernel)
theorem dX5_wrongOf_55 : decode cX5_wrongOf 55 = .ok (.istore_n 3, 1) := z_row zl_cX5_wrongOf 55 2759998 (Nat.le_of_ble_eq_true rfl) (by decide +kernel) z_o62 (by decide +kernel)
theorem dX5_wrongOf_56 : decode cX5_wrongOf 56 = .ok (.iload_n 3, 1) := z_row zl_cX5_wrongOf 56 11938333 (Nat.le_of_ble_eq_true rfl) (by decide +kernel) z_o29 (by decide +kernel)
theorem dX5_wrongOf_57 : decode cX5_wrongOf 57 = .ok (.aload_n 0, 1) := z_row zl_cX5_wrongOf 57 46634 (Nat.le_of_ble_eq_true rfl) (by decide +kernel) z_o42 (by decide +kernel)
theorem dX5_wrongOf_58 : decode cX5_wrongOf 58 = .ok (.invokevirtual 52, 3) := z_row zl_cX5_wrongOf 58 3408054 (Nat.le_of_ble_eq_true rfl) (by decide +kernel) z_o182 (by decide +kernel)
theorem dX5_wrongOf_61 : decode cX5_wrongOf 61 = .ok (.if_icmp .gt 19, 3) := z_row zl_cX5_wrongOf 61 1245347 (Nat.le_of_ble_eq_true rfl) (by decide +kernel) z_o163 (by decide +kernel)
theorem dX5_wrongOf_64 : decode cX5_wrongOf 64 = .ok (.iload_n 2, 1) := z_row zl_cX5_wrongOf 64 12066076 (Nat.le_of_ble_eq_true rfl) (by decide +kernel) z_o28 (by decide +kernel)
theorem dX5_wrongOf_65 : decode cX5_wrongOf 65 = .ok (.iload_n 3, 1) := z_row zl_cX5_wrongOf 65 47133 (Nat.le_of_ble_eq_true rfl) (by decide +kernel) z_o29 (by decide +kernel)
theorem dX5_wrongOf_66 : decode cX5_wrongOf 66 = .ok (.invokestatic 87, 3) := z_row zl_cX5_wrongOf 66 5701816 (Nat.le_of_ble_eq_true rfl) (by decide +kernel) z_o184 (by decide +kernel)
theorem dX5_wrongOf_69 : decode cX5_wrongOf 69 = .ok (.ifCond .eq 5, 3) := z_row zl_cX5_wrongOf 69 327833 (Nat.le_of_ble_eq_true rfl) (by decide +kernel) z_o153 (by decide +kernel)
theorem dX5_wrongOf_72 : decode cX5_wrongOf 72 = .ok (.iload_n 3, 1) := z_row zl_cX5_wrongOf 72 8694813 (Nat.le_of_ble_eq_true rfl) (by decide +kernel) z_o29 (by decide +kernel)
theorem dX5_wrongOf_73 : decode cX5_wrongOf 73 = .ok (.ireturn, 1) := z_row zl_cX5_wrongOf 73 230572 (Nat.le_of_ble_eq_true rfl) (by decide +kernel) z_o172 (by decide +kernel)
theorem dX5_wrongOf_74 : decode cX5_wrongOf 74 = .ok (.iinc 3 1, 3) := z_row zl_cX5_wrongOf 74 66436 (Nat.le_of_ble_eq_true rfl) (by decide +kernel) z_o132 (by decide +kernel)
theorem dX5_wrongOf_77 : decode cX5_wrongOf 77 = .ok (.goto (-21), 3) := z_row zl_cX5_wrongOf 77 15466407 (Nat.le_of_ble_eq_true rfl) (by decide +kernel) z_o167 (by decide +kernel)
theorem dX5_wrongOf_80 : decode cX5_wrongOf 80 = .ok (.bipush (-9), 2) := z_row zl_cX5_wrongOf 80 11335440 (Nat.le_of_ble_eq_true rfl) (by decide +kernel) z_o16 (by decide +kernel)
set_option maxRecDepth 100000 in
theorem dX5_wrongOf_82 : decode cX5_wrongOf 82 = .ok (.ireturn, 1) := by decide +kernel
set_option maxRecDepth 100000 in
theorem dX5_mend_0 : decode cX5_mend 0 = .ok (.aload_n 0, 1) := by decide +kernel
set_option maxRecDepth 100000 in
theorem dX5_mend_1 : decode cX5_mend 1 = .ok (.iload_n 1, 1) := by decide +kernel
set_option maxRecDepth 100000 in
theorem dX5_mend_2 : decode cX5_mend 2 = .ok (.invokestatic 129, 3) := by decide +kernel
set_option maxRecDepth 100000 in
theorem dX5_mend_5 : decode cX5_mend 5 = .ok (.iconst 1, 1) := by decide +kernel
set_option maxRecDepth 100000 in
theorem dX5_mend_6 : decode cX5_mend 6 = .ok (.invokevirtual 69, 3) := by decide +kernel
set_option maxRecDepth 100000 in
theorem dX5_mend_9 : decode cX5_mend 9 = .ok (.ifCond .eq 5, 3) := by decide +kernel
set_option maxRecDepth 100000 in
theorem dX5_mend_12 : decode cX5_mend 12 = .ok (.iconst 0, 1) := by decide +kernel
set_option maxRecDepth 100000 in
theorem dX5_mend_13 : decode cX5_mend 13 = .ok (.ireturn, 1) := by decide +kernel
set_option maxRecDepth 100000 in
theorem dX5_mend_14 : decode cX5_mend 14 = .ok (.aload_n 0, 1) := by decide +kernel
set_option maxRecDepth 100000 in
theorem dX5_mend_15 : decode cX5_mend 15 = .ok (.iload_n 1, 1) := by decide +kernel
set_option maxRecDepth 100000 in
theorem dX5_mend_16 : decode cX5_mend 16 = .ok (.invokevirtual 174, 3) := by decide +kernel
set_option maxRecDepth 100000 in
theorem dX5_mend_19 : decode cX5_mend 19 = .ok (.istore_n 2, 1) := by decide +kernel
set_option maxRecDepth 100000 in
theorem dX5_mend_20 : decode cX5_mend 20 = .ok (.iload_n 2, 1) := by decide +kernel
set_option maxRecDepth 100000 in
theorem dX5_mend_21 : decode cX5_mend 21 = .ok (.ifCond .le 31, 3) := by decide +kernel
def zN_cX5_mend : Nat := 0xac1ca400b66a00b61c647864041c047400b61b2a321b1200b42a2a1c1b2a1f009e1c3dae00b61b2aac030500994500b6048100b81b2a
set_option maxRecDepth 100000 in
theorem zl_cX5_mend : cX5_mend.data.toList = z_un 54 zN_cX5_mend := eq_of_beq (by decide +kernel)
theorem dX5_mend_24 : decode cX5_mend 24 = .ok (.aload_n 0, 1) := z_row zl_cX5_mend 24 1841962 (Nat.le_of_ble_eq_true rfl) (by decide +kernel) z_o42 (by decide +kernel)
theorem dX5_mend_25 : decode cX5_mend 25 = .ok (.iload_n 1, 1) := z_row zl_cX5_mend 25 2759707 (Nat.le_of_ble_eq_true rfl) (by decide +kernel) z_o27 (by decide +kernel)
theorem dX5_mend_26 : decode cX5_mend 26 = .ok (.iload_n 2, 1) := z_row zl_cX5_mend 26 2763292 (Nat.le_of_ble_eq_true rfl) (by decide +kernel) z_o28 (by decide +kernel)
theorem dX5_mend_27 : decode cX5_mend 27 = .ok (.aload_n 0, 1) := z_row zl_cX5_mend 27 11807274 (Nat.le_of_ble_eq_true rfl) (by decide +kernel) z_o42 (by decide +kernel)
theorem dX5_mend_28 : decode cX5_mend 28 = .ok (.aload_n 0, 1) := z_row zl_cX5_mend 28 46122 (Nat.le_of_ble_eq_true rfl) (by decide +kernel) z_o42 (by decide +kernel)
theorem dX5_mend_29 : decode cX5_mend 29 = .ok (.getfield 18, 3) := z_row zl_cX5_mend 29 1179828 (Nat.le_of_ble_eq_true rfl) (by decide +kernel) z_o180 (by decide +kernel)
theorem dX5_mend_32 : decode cX5_mend 32 = .ok (.iload_n 1, 1) := z_row zl_cX5_mend 32 2765339 (Nat.le_of_ble_eq_true rfl) (by decide +kernel) z_o27 (by decide +kernel)
theorem dX5_mend_33 : decode cX5_mend 33 = .ok (.aaload, 1) := z_row zl_cX5_mend 33 1780274 (Nat.le_of_ble_eq_true rfl) (by decide +kernel) z_o50 (by decide +kernel)
theorem dX5_mend_34 : decode cX5_mend 34 = .ok (.aload_n 0, 1) := z_row zl_cX5_mend 34 11934506 (Nat.le_of_ble_eq_true rfl) (by decide +kernel) z_o42 (by decide +kernel)
theorem dX5_mend_35 : decode cX5_mend 35 = .ok (.iload_n 1, 1) := z_row zl_cX5_mend 35 46619 (Nat.le_of_ble_eq_true rfl) (by decide +kernel) z_o27 (by decide +kernel)
theorem dX5_mend_36 : decode cX5_mend 36 = .ok (.invokevirtual 116, 3) := z_row zl_cX5_mend 36 7602358 (Nat.le_of_ble_eq_true rfl) (by decide +kernel) z_o182 (by decide +kernel)
theorem dX5_mend_39 : decode cX5_mend 39 = .ok (.iconst 1, 1) := z_row zl_cX5_mend 39 269316 (Nat.le_of_ble_eq_true rfl) (by decide +kernel) z_o4 (by decide +kernel)
theorem dX5_mend_40 : decode cX5_mend 40 = .ok (.iload_n 2, 1) := z_row zl_cX5_mend 40 6554652 (Nat.le_of_ble_eq_true rfl) (by decide +kernel) z_o28 (by decide +kernel)
theorem dX5_mend_41 : decode cX5_mend 41 = .ok (.iconst 1, 1) := z_row zl_cX5_mend 41 7889924 (Nat.le_of_ble_eq_true rfl) (by decide +kernel) z_o4 (by decide +kernel)
theorem dX5_mend_42 : decode cX5_mend 42 = .ok (.isub, 1) := z_row zl_cX5_mend 42 6584420 (Nat.le_of_ble_eq_true rfl) (by decide +kernel) z_o100 (by decide +kernel)
theorem dX5_mend_43 : decode cX5_mend 43 = .ok (.ishl, 1) := z_row zl_cX5_mend 43 1860728 (Nat.le_of_ble_eq_true rfl) (by decide +kernel) z_o120 (by decide +kernel)
theorem dX5_mend_44 : decode cX5_mend 44 = .ok (.isub, 1) := z_row zl_cX5_mend 44 11934820 (Nat.le_of_ble_eq_true rfl) (by decide +kernel) z_o100 (by decide +kernel)
theorem dX5_mend_45 : decode cX5_mend 45 = .ok (.iload_n 2, 1) := z_row zl_cX5_mend 45 46620 (Nat.le_of_ble_eq_true rfl) (by decide +kernel) z_o28 (by decide +kernel)
theorem dX5_mend_46 : decode cX5_mend 46 = .ok (.invokevirtual 106, 3) := z_row zl_cX5_mend 46 6946998 (Nat.le_of_ble_eq_true rfl) (by decide +kernel) z_o182 (by decide +kernel)
theorem dX5_mend_49 : decode cX5_mend 49 = .ok (.invokevirtual 164, 3) := z_row zl_cX5_mend 49 10748086 (Nat.le_of_ble_eq_true rfl) (by decide +kernel) z_o182 (by decide +kernel)
set_option maxRecDepth 100000 in
theorem dX5_mend_52 : decode cX5_mend 52 = .ok (.iload_n 2, 1) := by decide +kernel
set_option maxRecDepth 100000 in
theorem dX5_mend_53 : decode cX5_mend 53 = .ok (.ireturn, 1) := by decide +kernel
set_option maxRecDepth 100000 in
theorem dX5_copy_0 : decode cX5_copy 0 = .ok (.aload_n 0, 1) := by decide +kernel
set_option maxRecDepth 100000 in
theorem dX5_copy_1 : decode cX5_copy 1 = .ok (.iload_n 1, 1) := by decide +kernel
set_option maxRecDepth 100000 in
theorem dX5_copy_2 : decode cX5_copy 2 = .ok (.invokestatic 129, 3) := by decide +kernel
set_option maxRecDepth 100000 in
theorem dX5_copy_5 : decode cX5_copy 5 = .ok (.ifCond .ne 10, 3) := by decide +kernel
set_option maxRecDepth 100000 in
theorem dX5_copy_8 : decode cX5_copy 8 = .ok (.iload_n 2, 1) := by decide +kernel
set_option maxRecDepth 100000 in
theorem dX5_copy_9 : decode cX5_copy 9 = .ok (.invokestatic 129, 3) := by decide +kernel
set_option maxRecDepth 100000 in
theorem dX5_copy_12 : decode cX5_copy 12 = .ok (.ifCond .eq 7, 3) := by decide +kernel
set_option maxRecDepth 100000 in
theorem dX5_copy_15 : decode cX5_copy 15 = .ok (.iconst 1, 1) := by decide +kernel
set_option maxRecDepth 100000 in
theorem dX5_copy_16 : decode cX5_copy 16 = .ok (.goto 4, 3) := by decide +kernel
set_option maxRecDepth 100000 in
theorem dX5_copy_19 : decode cX5_copy 19 = .ok (.iconst 0, 1) := by decide +kernel
set_option maxRecDepth 100000 in
theorem dX5_copy_20 : decode cX5_copy 20 = .ok (.iconst 1, 1) := by decide +kernel
set_option maxRecDepth 100000 in
theorem dX5_copy_21 : decode cX5_copy 21 = .ok (.invokevirtual 69, 3) := by decide +kernel
def zN_cX5_copy : Nat := 0xac8c00b6321b1600b42a321b1200b42a2e1b0d00b42a1c2aac030500994500b604030400a7040700998100b81c0a009a8100b81b2a
set_option maxRecDepth 100000 in
theorem zl_cX5_copy : cX5_copy.data.toList = z_un 53 zN_cX5_copy := eq_of_beq (by decide +kernel)
theorem dX5_copy_24 : decode cX5_copy 24 = .ok (.ifCond .eq 5, 3) := z_row zl_cX5_copy 24 327833 (Nat.le_of_ble_eq_true rfl) (by decide +kernel) z_o153 (by decide +kernel)
theorem dX5_copy_27 : decode cX5_copy 27 = .ok (.iconst 0, 1) := z_row zl_cX5_copy 27 2796547 (Nat.le_of_ble_eq_true rfl) (by decide +kernel) z_o3 (by decide +kernel)
theorem dX5_copy_28 : decode cX5_copy 28 = .ok (.ireturn, 1) := z_row zl_cX5_copy 28 1845932 (Nat.le_of_ble_eq_true rfl) (by decide +kernel) z_o172 (by decide +kernel)
theorem dX5_copy_29 : decode cX5_copy 29 = .ok (.aload_n 0, 1) := z_row zl_cX5_copy 29 2759722 (Nat.le_of_ble_eq_true rfl) (by decide +kernel) z_o42 (by decide +kernel)
theorem dX5_copy_30 : decode cX5_copy 30 = .ok (.iload_n 2, 1) := z_row zl_cX5_copy 30 11807260 (Nat.le_of_ble_eq_true rfl) (by decide +kernel) z_o28 (by decide +kernel)
theorem dX5_copy_31 : decode cX5_copy 31 = .ok (.aload_n 0, 1) := z_row zl_cX5_copy 31 46122 (Nat.le_of_ble_eq_true rfl) (by decide +kernel) z_o42 (by decide +kernel)
theorem dX5_copy_32 : decode cX5_copy 32 = .ok (.getfield 13, 3) := z_row zl_cX5_copy 32 852148 (Nat.le_of_ble_eq_true rfl) (by decide +kernel) z_o180 (by decide +kernel)
theorem dX5_copy_35 : decode cX5_copy 35 = .ok (.iload_n 1, 1) := z_row zl_cX5_copy 35 2764315 (Nat.le_of_ble_eq_true rfl) (by decide +kernel) z_o27 (by decide +kernel)
theorem dX5_copy_36 : decode cX5_copy 36 = .ok (.iaload, 1) := z_row zl_cX5_copy 36 11807278 (Nat.le_of_ble_eq_true rfl) (by decide +kernel) z_o46 (by decide +kernel)
theorem dX5_copy_37 : decode cX5_copy 37 = .ok (.aload_n 0, 1) := z_row zl_cX5_copy 37 46122 (Nat.le_of_ble_eq_true rfl) (by decide +kernel) z_o42 (by decide +kernel)
theorem dX5_copy_38 : decode cX5_copy 38 = .ok (.getfield 18, 3) := z_row zl_cX5_copy 38 1179828 (Nat.le_of_ble_eq_true rfl) (by decide +kernel) z_o180 (by decide +kernel)
theorem dX5_copy_41 : decode cX5_copy 41 = .ok (.iload_n 1, 1) := z_row zl_cX5_copy 41 2765339 (Nat.le_of_ble_eq_true rfl) (by decide +kernel) z_o27 (by decide +kernel)
theorem dX5_copy_42 : decode cX5_copy 42 = .ok (.aaload, 1) := z_row zl_cX5_copy 42 11807282 (Nat.le_of_ble_eq_true rfl) (by decide +kernel) z_o50 (by decide +kernel)
theorem dX5_copy_43 : decode cX5_copy 43 = .ok (.aload_n 0, 1) := z_row zl_cX5_copy 43 46122 (Nat.le_of_ble_eq_true rfl) (by decide +kernel) z_o42 (by decide +kernel)
theorem dX5_copy_44 : decode cX5_copy 44 = .ok (.getfield 22, 3) := z_row zl_cX5_copy 44 1441972 (Nat.le_of_ble_eq_true rfl) (by decide +kernel) z_o180 (by decide +kernel)
theorem dX5_copy_47 : decode cX5_copy 47 = .ok (.iload_n 1, 1) := z_row zl_cX5_copy 47 11940379 (Nat.le_of_ble_eq_true rfl) (by decide +kernel) z_o27 (by decide +kernel)
theorem dX5_copy_48 : decode cX5_copy 48 = .ok (.aaload, 1) := z_row zl_cX5_copy 48 46642 (Nat.le_of_ble_eq_true rfl) (by decide +kernel) z_o50 (by decide +kernel)
theorem dX5_copy_49 : decode cX5_copy 49 = .ok (.invokevirtual 140, 3) := z_row zl_cX5_copy 49 9175222 (Nat.le_of_ble_eq_true rfl) (by decide +kernel) z_o182 (by decide +kernel)
set_option maxRecDepth 100000 in
theorem dX5_copy_52 : decode cX5_copy 52 = .ok (.ireturn, 1) := by decide +kernel
set_option maxRecDepth 100000 in
theorem dX5_drop_0 : decode cX5_drop 0 = .ok (.aload_n 0, 1) := by decide +kernel
set_option maxRecDepth 100000 in
theorem dX5_drop_1 : decode cX5_drop 1 = .ok (.iload_n 1, 1) := by decide +kernel
set_option maxRecDepth 100000 in
theorem dX5_drop_2 : decode cX5_drop 2 = .ok (.invokestatic 129, 3) := by decide +kernel
set_option maxRecDepth 100000 in
theorem dX5_drop_5 : decode cX5_drop 5 = .ok (.iconst 1, 1) := by decide +kernel
set_option maxRecDepth 100000 in
theorem dX5_drop_6 : decode cX5_drop 6 = .ok (.invokevirtual 69, 3) := by decide +kernel
set_option maxRecDepth 100000 in
theorem dX5_drop_9 : decode cX5_drop 9 = .ok (.ifCond .eq 5, 3) := by decide +kernel
set_option maxRecDepth 100000 in
theorem dX5_drop_12 : decode cX5_drop 12 = .ok (.iconst 0, 1) := by decide +kernel
set_option maxRecDepth 100000 in
theorem dX5_drop_13 : decode cX5_drop 13 = .ok (.ireturn, 1) := by decide +kernel
set_option maxRecDepth 100000 in
theorem dX5_drop_14 : decode cX5_drop 14 = .ok (.aload_n 0, 1) := by decide +kernel
set_option maxRecDepth 100000 in
theorem dX5_drop_15 : decode cX5_drop 15 = .ok (.iload_n 1, 1) := by decide +kernel
set_option maxRecDepth 100000 in
theorem dX5_drop_16 : decode cX5_drop 16 = .ok (.invokevirtual 116, 3) := by decide +kernel
set_option maxRecDepth 100000 in
theorem dX5_drop_19 : decode cX5_drop 19 = .ok (.invokestatic 119, 3) := by decide +kernel
set_option maxRecDepth 100000 in
theorem dX5_drop_22 : decode cX5_drop 22 = .ok (.istore_n 2, 1) := by decide +kernel
set_option maxRecDepth 100000 in
theorem dX5_drop_23 : decode cX5_drop 23 = .ok (.aload_n 0, 1) := by decide +kernel
def zN_cX5_drop : Nat := 0xac1c4800b61b2a3d7700b87400b61b2aac030500994500b6048100b81b2a
set_option maxRecDepth 100000 in
theorem zl_cX5_drop : cX5_drop.data.toList = z_un 30 zN_cX5_drop := eq_of_beq (by decide +kernel)
theorem dX5_drop_24 : decode cX5_drop 24 = .ok (.iload_n 1, 1) := z_row zl_cX5_drop 24 46619 (Nat.le_of_ble_eq_true rfl) (by decide +kernel) z_o27 (by decide +kernel)
theorem dX5_drop_25 : decode cX5_drop 25 = .ok (.invokevirtual 72, 3) := z_row zl_cX5_drop 25 4718774 (Nat.le_of_ble_eq_true rfl) (by decide +kernel) z_o182 (by decide +kernel)
set_option maxRecDepth 100000 in
theorem dX5_drop_28 : decode cX5_drop 28 = .ok (.iload_n 2, 1) := by decide +kernel
set_option maxRecDepth 100000 in
theorem dX5_drop_29 : decode cX5_drop 29 = .ok (.ireturn, 1) := by decide +kernel
set_option maxRecDepth 100000 in
theorem dX5_knock_0 : decode cX5_knock 0 = .ok (.aload_n 0, 1) := by decide +kernel
set_option maxRecDepth 100000 in
theorem dX5_knock_1 : decode cX5_knock 1 = .ok (.iconst 0, 1) := by decide +kernel
set_option maxRecDepth 100000 in
theorem dX5_knock_2 : decode cX5_knock 2 = .ok (.putfield 25, 3) := by decide +kernel
set_option maxRecDepth 100000 in
theorem dX5_knock_5 : decode cX5_knock 5 = .ok (.aload_n 0, 1) := by decide +kernel
set_option maxRecDepth 100000 in
theorem dX5_knock_6 : decode cX5_knock 6 = .ok (.dup, 1) := by decide +kernel
set_option maxRecDepth 100000 in
theorem dX5_knock_7 : decode cX5_knock 7 = .ok (.getfield 177, 3) := by decide +kernel
set_option maxRecDepth 100000 in
theorem dX5_knock_10 : decode cX5_knock 10 = .ok (.iconst 1, 1) := by decide +kernel
set_option maxRecDepth 100000 in
theorem dX5_knock_11 : decode cX5_knock 11 = .ok (.iadd, 1) := by decide +kernel
set_option maxRecDepth 100000 in
theorem dX5_knock_12 : decode cX5_knock 12 = .ok (.putfield 177, 3) := by decide +kernel
set_option maxRecDepth 100000 in
theorem dX5_knock_15 : decode cX5_knock 15 = .ok (.aload_n 0, 1) := by decide +kernel
set_option maxRecDepth 100000 in
theorem dX5_knock_16 : decode cX5_knock 16 = .ok (.getfield 177, 3) := by decide +kernel
set_option maxRecDepth 100000 in
theorem dX5_knock_19 : decode cX5_knock 19 = .ok (.ireturn, 1) := by decide +kernel
set_option maxRecDepth 100000 in
theorem dX5_shareOf_0 : decode cX5_shareOf 0 = .ok (.aload_n 0, 1) := by decide +kernel
set_option maxRecDepth 100000 in
theorem dX5_shareOf_1 : decode cX5_shareOf 1 = .ok (.iload_n 1, 1) := by decide +kernel
set_option maxRecDepth 100000 in
theorem dX5_shareOf_2 : decode cX5_shareOf 2 = .ok (.invokevirtual 113, 3) := by decide +kernel
set_option maxRecDepth 100000 in
theorem dX5_shareOf_5 : decode cX5_shareOf 5 = .ok (.ifCond .eq 7, 3) := by decide +kernel
set_option maxRecDepth 100000 in
theorem dX5_shareOf_8 : decode cX5_shareOf 8 = .ok (.iconst (-1), 1) := by decide +kernel
set_option maxRecDepth 100000 in
theorem dX5_shareOf_9 : decode cX5_shareOf 9 = .ok (.goto 11, 3) := by decide +kernel
set_option maxRecDepth 100000 in
theorem dX5_shareOf_12 : decode cX5_shareOf 12 = .ok (.aload_n 0, 1) := by decide +kernel
set_option maxRecDepth 100000 in
theorem dX5_shareOf_13 : decode cX5_shareOf 13 = .ok (.getfield 18, 3) := by decide +kernel
set_option maxRecDepth 100000 in
theorem dX5_shareOf_16 : decode cX5_shareOf 16 = .ok (.iload_n 1, 1) := by decide +kernel
set_option maxRecDepth 100000 in
theorem dX5_shareOf_17 : decode cX5_shareOf 17 = .ok (.aaload, 1) := by decide +kernel
set_option maxRecDepth 100000 in
theorem dX5_shareOf_18 : decode cX5_shareOf 18 = .ok (.iload_n 2, 1) := by decide +kernel
set_option maxRecDepth 100000 in
theorem dX5_shareOf_19 : decode cX5_shareOf 19 = .ok (.iaload, 1) := by decide +kernel
set_option maxRecDepth 100000 in
theorem dX5_shareOf_20 : decode cX5_shareOf 20 = .ok (.ireturn, 1) := by decide +kernel
set_option maxRecDepth 100000 in
theorem dX5_share_0 : decode cX5_share 0 = .ok (.aload_n 0, 1) := by decide +kernel
set_option maxRecDepth 100000 in
theorem dX5_share_1 : decode cX5_share 1 = .ok (.iload_n 1, 1) := by decide +kernel
set_option maxRecDepth 100000 in
theorem dX5_share_2 : decode cX5_share 2 = .ok (.invokestatic 129, 3) := by decide +kernel
set_option maxRecDepth 100000 in
theorem dX5_share_5 : decode cX5_share 5 = .ok (.ifCond .ne 11, 3) := by decide +kernel
set_option maxRecDepth 100000 in
theorem dX5_share_8 : decode cX5_share 8 = .ok (.aload_n 0, 1) := by decide +kernel
set_option maxRecDepth 100000 in
theorem dX5_share_9 : decode cX5_share 9 = .ok (.iload_n 2, 1) := by decide +kernel
set_option maxRecDepth 100000 in
theorem dX5_share_10 : decode cX5_share 10 = .ok (.invokevirtual 99, 3) := by decide +kernel
set_option maxRecDepth 100000 in
theorem dX5_share_13 : decode cX5_share 13 = .ok (.ifCond .eq 7, 3) := by decide +kernel
set_option maxRecDepth 100000 in
theorem dX5_share_16 : decode cX5_share 16 = .ok (.iconst 1, 1) := by decide +kernel
set_option maxRecDepth 100000 in
theorem dX5_share_17 : decode cX5_share 17 = .ok (.goto 4, 3) := by decide +kernel
set_option maxRecDepth 100000 in
theorem dX5_share_20 : decode cX5_share 20 = .ok (.iconst 0, 1) := by decide +kernel
set_option maxRecDepth 100000 in
theorem dX5_share_21 : decode cX5_share 21 = .ok (.iconst 1, 1) := by decide +kernel
set_option maxRecDepth 100000 in
theorem dX5_share_22 : decode cX5_share 22 = .ok (.invokevirtual 69, 3) := by decide +kernel
def zN_cX5_share : Nat := 0xacb400b61c1b2a0900a7030700994500b604030400a7040700996300b61c2a0b009a8100b81b2a
set_option maxRecDepth 100000 in
theorem zl_cX5_share : cX5_share.data.toList = z_un 39 zN_cX5_share := eq_of_beq (by decide +kernel)
theorem dX5_share_25 : decode cX5_share 25 = .ok (.ifCond .eq 7, 3) := z_row zl_cX5_share 25 458905 (Nat.le_of_ble_eq_true rfl) (by decide +kernel) z_o153 (by decide +kernel)
theorem dX5_share_28 : decode cX5_share 28 = .ok (.iconst 0, 1) := z_row zl_cX5_share 28 42755 (Nat.le_of_ble_eq_true rfl) (by decide +kernel) z_o3 (by decide +kernel)
theorem dX5_share_29 : decode cX5_share 29 = .ok (.goto 9, 3) := z_row zl_cX5_share 29 589991 (Nat.le_of_ble_eq_true rfl) (by decide +kernel) z_o167 (by decide +kernel)
theorem dX5_share_32 : decode cX5_share 32 = .ok (.aload_n 0, 1) := z_row zl_cX5_share 32 1841962 (Nat.le_of_ble_eq_true rfl) (by decide +kernel) z_o42 (by decide +kernel)
theorem dX5_share_33 : decode cX5_share 33 = .ok (.iload_n 1, 1) := z_row zl_cX5_share 33 11934747 (Nat.le_of_ble_eq_true rfl) (by decide +kernel) z_o27 (by decide +kernel)
theorem dX5_share_34 : decode cX5_share 34 = .ok (.iload_n 2, 1) := z_row zl_cX5_share 34 46620 (Nat.le_of_ble_eq_true rfl) (by decide +kernel) z_o28 (by decide +kernel)
theorem dX5_share_35 : decode cX5_share 35 = .ok (.invokevirtual 180, 3) := z_row zl_cX5_share 35 11796662 (Nat.le_of_ble_eq_true rfl) (by decide +kernel) z_o182 (by decide +kernel)
set_option maxRecDepth 100000 in
theorem dX5_share_38 : decode cX5_share 38 = .ok (.ireturn, 1) := by decide +kernel
set_option maxRecDepth 100000 in
theorem dX5_firstOf_0 : decode cX5_firstOf 0 = .ok (.iconst 0, 1) := by decide +kernel
set_option maxRecDepth 100000 in
theorem dX5_firstOf_1 : decode cX5_firstOf 1 = .ok (.istore_n 2, 1) := by decide +kernel
set_option maxRecDepth 100000 in
theorem dX5_firstOf_2 : decode cX5_firstOf 2 = .ok (.iconst 1, 1) := by decide +kernel
set_option maxRecDepth 100000 in
theorem dX5_firstOf_3 : decode cX5_firstOf 3 = .ok (.istore_n 3, 1) := by decide +kernel
set_option maxRecDepth 100000 in
theorem dX5_firstOf_4 : decode cX5_firstOf 4 = .ok (.iload_n 3, 1) := by decide +kernel
set_option maxRecDepth 100000 in
theorem dX5_firstOf_5 : decode cX5_firstOf 5 = .ok (.aload_n 0, 1) := by decide +kernel
set_option maxRecDepth 100000 in
theorem dX5_firstOf_6 : decode cX5_firstOf 6 = .ok (.invokevirtual 52, 3) := by decide +kernel
set_option maxRecDepth 100000 in
theorem dX5_firstOf_9 : decode cX5_firstOf 9 = .ok (.if_icmp .gt 42, 3) := by decide +kernel
set_option maxRecDepth 100000 in
theorem dX5_firstOf_12 : decode cX5_firstOf 12 = .ok (.aload_n 0, 1) := by decide +kernel
set_option maxRecDepth 100000 in
theorem dX5_firstOf_13 : decode cX5_firstOf 13 = .ok (.iload_n 1, 1) := by decide +kernel
set_option maxRecDepth 100000 in
theorem dX5_firstOf_14 : decode cX5_firstOf 14 = .ok (.invokevirtual 116, 3) := by decide +kernel
set_option maxRecDepth 100000 in
theorem dX5_firstOf_17 : decode cX5_firstOf 17 = .ok (.iload_n 3, 1) := by decide +kernel
set_option maxRecDepth 100000 in
theorem dX5_firstOf_18 : decode cX5_firstOf 18 = .ok (.invokestatic 87, 3) := by decide +kernel
set_option maxRecDepth 100000 in
theorem dX5_firstOf_21 : decode cX5_firstOf 21 = .ok (.ifCond .eq 24, 3) := by decide +kernel
def zN_cX5_firstOf : Nat := 0xac030400a71c0700a42e1b0d00b42a7700b81cd4ffa70103843d607864041d041c0b00a32e1b0d00b42a7700b81c1800995700b81d7400b61b2a2a00a33400b62a1d3e043d03
set_option maxRecDepth 100000 in
theorem zl_cX5_firstOf : cX5_firstOf.data.toList = z_un 70 zN_cX5_firstOf := eq_of_beq (by decide +kernel)
theorem dX5_firstOf_24 : decode cX5_firstOf 24 = .ok (.iload_n 2, 1) := z_row zl_cX5_firstOf 24 47132 (Nat.le_of_ble_eq_true rfl) (by decide +kernel) z_o28 (by decide +kernel)
theorem dX5_firstOf_25 : decode cX5_firstOf 25 = .ok (.invokestatic 119, 3) := z_row zl_cX5_firstOf 25 7798968 (Nat.le_of_ble_eq_true rfl) (by decide +kernel) z_o184 (by decide +kernel)
theorem dX5_firstOf_28 : decode cX5_firstOf 28 = .ok (.aload_n 0, 1) := z_row zl_cX5_firstOf 28 46122 (Nat.le_of_ble_eq_true rfl) (by decide +kernel) z_o42 (by decide +kernel)
theorem dX5_firstOf_29 : decode cX5_firstOf 29 = .ok (.getfield 13, 3) := z_row zl_cX5_firstOf 29 852148 (Nat.le_of_ble_eq_true rfl) (by decide +kernel) z_o180 (by decide +kernel)
theorem dX5_firstOf_32 : decode cX5_firstOf 32 = .ok (.iload_n 1, 1) := z_row zl_cX5_firstOf 32 10694171 (Nat.le_of_ble_eq_true rfl) (by decide +kernel) z_o27 (by decide +kernel)
theorem dX5_firstOf_33 : decode cX5_firstOf 33 = .ok (.iaload, 1) := z_row zl_cX5_firstOf 33 41774 (Nat.le_of_ble_eq_true rfl) (by decide +kernel) z_o46 (by decide +kernel)
theorem dX5_firstOf_34 : decode cX5_firstOf 34 = .ok (.if_icmp .gt 11, 3) := z_row zl_cX5_firstOf 34 721059 (Nat.le_of_ble_eq_true rfl) (by decide +kernel) z_o163 (by decide +kernel)
theorem dX5_firstOf_37 : decode cX5_firstOf 37 = .ok (.iload_n 2, 1) := z_row zl_cX5_firstOf 37 1901596 (Nat.le_of_ble_eq_true rfl) (by decide +kernel) z_o28 (by decide +kernel)
theorem dX5_firstOf_38 : decode cX5_firstOf 38 = .ok (.iconst 1, 1) := z_row zl_cX5_firstOf 38 269572 (Nat.le_of_ble_eq_true rfl) (by decide +kernel) z_o4 (by decide +kernel)
theorem dX5_firstOf_39 : decode cX5_firstOf 39 = .ok (.iload_n 3, 1) := z_row zl_cX5_firstOf 39 6554653 (Nat.le_of_ble_eq_true rfl) (by decide +kernel) z_o29 (by decide +kernel)
theorem dX5_firstOf_40 : decode cX5_firstOf 40 = .ok (.iconst 1, 1) := z_row zl_cX5_firstOf 40 7889924 (Nat.le_of_ble_eq_true rfl) (by decide +kernel) z_o4 (by decide +kernel)
theorem dX5_firstOf_41 : decode cX5_firstOf 41 = .ok (.isub, 1) := z_row zl_cX5_firstOf 41 6322276 (Nat.le_of_ble_eq_true rfl) (by decide +kernel) z_o100 (by decide +kernel)
theorem dX5_firstOf_42 : decode cX5_firstOf 42 = .ok (.ishl, 1) := z_row zl_cX5_firstOf 42 4022392 (Nat.le_of_ble_eq_true rfl) (by decide +kernel) z_o120 (by decide +kernel)
theorem dX5_firstOf_43 : decode cX5_firstOf 43 = .ok (.iadd, 1) := z_row zl_cX5_firstOf 43 8666464 (Nat.le_of_ble_eq_true rfl) (by decide +kernel) z_o96 (by decide +kernel)
theorem dX5_firstOf_44 : decode cX5_firstOf 44 = .ok (.istore_n 2, 1) := z_row zl_cX5_firstOf 44 230461 (Nat.le_of_ble_eq_true rfl) (by decide +kernel) z_o61 (by decide +kernel)
theorem dX5_firstOf_45 : decode cX5_firstOf 45 = .ok (.iinc 3 1, 3) := z_row zl_cX5_firstOf 45 66436 (Nat.le_of_ble_eq_true rfl) (by decide +kernel) z_o132 (by decide +kernel)
theorem dX5_firstOf_48 : decode cX5_firstOf 48 = .ok (.goto (-44), 3) := z_row zl_cX5_firstOf 48 13959079 (Nat.le_of_ble_eq_true rfl) (by decide +kernel) z_o167 (by decide +kernel)
theorem dX5_firstOf_51 : decode cX5_firstOf 51 = .ok (.iload_n 2, 1) := z_row zl_cX5_firstOf 51 47132 (Nat.le_of_ble_eq_true rfl) (by decide +kernel) z_o28 (by decide +kernel)
theorem dX5_firstOf_52 : decode cX5_firstOf 52 = .ok (.invokestatic 119, 3) := z_row zl_cX5_firstOf 52 7798968 (Nat.le_of_ble_eq_true rfl) (by decide +kernel) z_o184 (by decide +kernel)
theorem dX5_firstOf_55 : decode cX5_firstOf 55 = .ok (.aload_n 0, 1) := z_row zl_cX5_firstOf 55 46122 (Nat.le_of_ble_eq_true rfl) (by decide +kernel) z_o42 (by decide +kernel)
theorem dX5_firstOf_56 : decode cX5_firstOf 56 = .ok (.getfield 13, 3) := z_row zl_cX5_firstOf 56 852148 (Nat.le_of_ble_eq_true rfl) (by decide +kernel) z_o180 (by decide +kernel)
theorem dX5_firstOf_59 : decode cX5_firstOf 59 = .ok (.iload_n 1, 1) := z_row zl_cX5_firstOf 59 10759707 (Nat.le_of_ble_eq_true rfl) (by decide +kernel) z_o27 (by decide +kernel)
theorem dX5_firstOf_60 : decode cX5_firstOf 60 = .ok (.iaload, 1) := z_row zl_cX5_firstOf 60 42030 (Nat.le_of_ble_eq_true rfl) (by decide +kernel) z_o46 (by decide +kernel)
theorem dX5_firstOf_61 : decode cX5_firstOf 61 = .ok (.if_icmp .le 7, 3) := z_row zl_cX5_firstOf 61 458916 (Nat.le_of_ble_eq_true rfl) (by decide +kernel) z_o164 (by decide +kernel)
theorem dX5_firstOf_64 : decode cX5_firstOf 64 = .ok (.iload_n 2, 1) := z_row zl_cX5_firstOf 64 42780 (Nat.le_of_ble_eq_true rfl) (by decide +kernel) z_o28 (by decide +kernel)
theorem dX5_firstOf_65 : decode cX5_firstOf 65 = .ok (.goto 4, 3) := z_row zl_cX5_firstOf 65 262311 (Nat.le_of_ble_eq_true rfl) (by decide +kernel) z_o167 (by decide +kernel)
set_option maxRecDepth 100000 in
theorem dX5_firstOf_68 : decode cX5_firstOf 68 = .ok (.iconst 0, 1) := by decide +kernel
set_option maxRecDepth 100000 in
theorem dX5_firstOf_69 : decode cX5_firstOf 69 = .ok (.ireturn, 1) := by decide +kernel
set_option maxRecDepth 100000 in
theorem dX5_dealTold_0 : decode cX5_dealTold 0 = .ok (.iload_n 2, 1) := by decide +kernel
set_option maxRecDepth 100000 in
theorem dX5_dealTold_1 : decode cX5_dealTold 1 = .ok (.ifCond .ne 10, 3) := by decide +kernel
set_option maxRecDepth 100000 in
theorem dX5_dealTold_4 : decode cX5_dealTold 4 = .ok (.aload_n 0, 1) := by decide +kernel
set_option maxRecDepth 100000 in
theorem dX5_dealTold_5 : decode cX5_dealTold 5 = .ok (.getfield 13, 3) := by decide +kernel
set_option maxRecDepth 100000 in
theorem dX5_dealTold_8 : decode cX5_dealTold 8 = .ok (.iload_n 1, 1) := by decide +kernel
set_option maxRecDepth 100000 in
theorem dX5_dealTold_9 : decode cX5_dealTold 9 = .ok (.iaload, 1) := by decide +kernel
set_option maxRecDepth 100000 in
theorem dX5_dealTold_10 : decode cX5_dealTold 10 = .ok (.ireturn, 1) := by decide +kernel
set_option maxRecDepth 100000 in
theorem dX5_dealTold_11 : decode cX5_dealTold 11 = .ok (.iload_n 2, 1) := by decide +kernel
set_option maxRecDepth 100000 in
theorem dX5_dealTold_12 : decode cX5_dealTold 12 = .ok (.iconst 1, 1) := by decide +kernel
set_option maxRecDepth 100000 in
theorem dX5_dealTold_13 : decode cX5_dealTold 13 = .ok (.if_icmp .ne 12, 3) := by decide +kernel
set_option maxRecDepth 100000 in
theorem dX5_dealTold_16 : decode cX5_dealTold 16 = .ok (.aload_n 0, 1) := by decide +kernel
set_option maxRecDepth 100000 in
theorem dX5_dealTold_17 : decode cX5_dealTold 17 = .ok (.iload_n 1, 1) := by decide +kernel
set_option maxRecDepth 100000 in
theorem dX5_dealTold_18 : decode cX5_dealTold 18 = .ok (.invokevirtual 116, 3) := by decide +kernel
set_option maxRecDepth 100000 in
theorem dX5_dealTold_21 : decode cX5_dealTold 21 = .ok (.invokestatic 119, 3) := by decide +kernel
def zN_cX5_dealTold : Nat := 0xac6a00b603b700b61b2a321b1200b42a2a1300a70207009ab700b61b2a0b009a7100b61b2aac5000b8030400a704070099a800b67400b61b2a1b2a14009a7100b61b2a2100a0071cac5000b8030400a7040700c6321b1600b42a1500a0061cac7400b61b2a0900a0051cac7700b87400b61b2a0c00a0041cac2e1b0d00b42a0a009a1c
set_option maxRecDepth 100000 in
theorem zl_cX5_dealTold : cX5_dealTold.data.toList = z_un 131 zN_cX5_dealTold := eq_of_beq (by decide +kernel)
theorem dX5_dealTold_24 : decode cX5_dealTold 24 = .ok (.ireturn, 1) := z_row zl_cX5_dealTold 24 335020 (Nat.le_of_ble_eq_true rfl) (by decide +kernel) z_o172 (by decide +kernel)
theorem dX5_dealTold_25 : decode cX5_dealTold 25 = .ok (.iload_n 2, 1) := z_row zl_cX5_dealTold 25 10487068 (Nat.le_of_ble_eq_true rfl) (by decide +kernel) z_o28 (by decide +kernel)
theorem dX5_dealTold_26 : decode cX5_dealTold 26 = .ok (.iconst 2, 1) := z_row zl_cX5_dealTold 26 40965 (Nat.le_of_ble_eq_true rfl) (by decide +kernel) z_o5 (by decide +kernel)
theorem dX5_dealTold_27 : decode cX5_dealTold 27 = .ok (.if_icmp .ne 9, 3) := z_row zl_cX5_dealTold 27 589984 (Nat.le_of_ble_eq_true rfl) (by decide +kernel) z_o160 (by decide +kernel)
theorem dX5_dealTold_30 : decode cX5_dealTold 30 = .ok (.aload_n 0, 1) := z_row zl_cX5_dealTold 30 11934506 (Nat.le_of_ble_eq_true rfl) (by decide +kernel) z_o42 (by decide +kernel)
theorem dX5_dealTold_31 : decode cX5_dealTold 31 = .ok (.iload_n 1, 1) := z_row zl_cX5_dealTold 31 46619 (Nat.le_of_ble_eq_true rfl) (by decide +kernel) z_o27 (by decide +kernel)
theorem dX5_dealTold_32 : decode cX5_dealTold 32 = .ok (.invokevirtual 116, 3) := z_row zl_cX5_dealTold 32 7602358 (Nat.le_of_ble_eq_true rfl) (by decide +kernel) z_o182 (by decide +kernel)
theorem dX5_dealTold_35 : decode cX5_dealTold 35 = .ok (.ireturn, 1) := z_row zl_cX5_dealTold 35 400556 (Nat.le_of_ble_eq_true rfl) (by decide +kernel) z_o172 (by decide +kernel)
theorem dX5_dealTold_36 : decode cX5_dealTold 36 = .ok (.iload_n 2, 1) := z_row zl_cX5_dealTold 36 10487324 (Nat.le_of_ble_eq_true rfl) (by decide +kernel) z_o28 (by decide +kernel)
theorem dX5_dealTold_37 : decode cX5_dealTold 37 = .ok (.iconst 3, 1) := z_row zl_cX5_dealTold 37 40966 (Nat.le_of_ble_eq_true rfl) (by decide +kernel) z_o6 (by decide +kernel)
theorem dX5_dealTold_38 : decode cX5_dealTold 38 = .ok (.if_icmp .ne 21, 3) := z_row zl_cX5_dealTold 38 1376416 (Nat.le_of_ble_eq_true rfl) (by decide +kernel) z_o160 (by decide +kernel)
theorem dX5_dealTold_41 : decode cX5_dealTold 41 = .ok (.aload_n 0, 1) := z_row zl_cX5_dealTold 41 46122 (Nat.le_of_ble_eq_true rfl) (by decide +kernel) z_o42 (by decide +kernel)
theorem dX5_dealTold_42 : decode cX5_dealTold 42 = .ok (.getfield 22, 3) := z_row zl_cX5_dealTold 42 1441972 (Nat.le_of_ble_eq_true rfl) (by decide +kernel) z_o180 (by decide +kernel)
theorem dX5_dealTold_45 : decode cX5_dealTold 45 = .ok (.iload_n 1, 1) := z_row zl_cX5_dealTold 45 12988955 (Nat.le_of_ble_eq_true rfl) (by decide +kernel) z_o27 (by decide +kernel)
theorem dX5_dealTold_46 : decode cX5_dealTold 46 = .ok (.aaload, 1) := z_row zl_cX5_dealTold 46 50738 (Nat.le_of_ble_eq_true rfl) (by decide +kernel) z_o50 (by decide +kernel)
theorem dX5_dealTold_47 : decode cX5_dealTold 47 = .ok (.ifnull 7, 3) := z_row zl_cX5_dealTold 47 458950 (Nat.le_of_ble_eq_true rfl) (by decide +kernel) z_o198 (by decide +kernel)
theorem dX5_dealTold_50 : decode cX5_dealTold 50 = .ok (.iconst 1, 1) := z_row zl_cX5_dealTold 50 42756 (Nat.le_of_ble_eq_true rfl) (by decide +kernel) z_o4 (by decide +kernel)
theorem dX5_dealTold_51 : decode cX5_dealTold 51 = .ok (.goto 4, 3) := z_row zl_cX5_dealTold 51 262311 (Nat.le_of_ble_eq_true rfl) (by decide +kernel) z_o167 (by decide +kernel)
theorem dX5_dealTold_54 : decode cX5_dealTold 54 = .ok (.iconst 0, 1) := z_row zl_cX5_dealTold 54 47107 (Nat.le_of_ble_eq_true rfl) (by decide +kernel) z_o3 (by decide +kernel)
theorem dX5_dealTold_55 : decode cX5_dealTold 55 = .ok (.invokestatic 80, 3) := z_row zl_cX5_dealTold 55 5243064 (Nat.le_of_ble_eq_true rfl) (by decide +kernel) z_o184 (by decide +kernel)
theorem dX5_dealTold_58 : decode cX5_dealTold 58 = .ok (.ireturn, 1) := z_row zl_cX5_dealTold 58 466092 (Nat.le_of_ble_eq_true rfl) (by decide +kernel) z_o172 (by decide +kernel)
theorem dX5_dealTold_59 : decode cX5_dealTold 59 = .ok (.iload_n 2, 1) := z_row zl_cX5_dealTold 59 10487580 (Nat.le_of_ble_eq_true rfl) (by decide +kernel) z_o28 (by decide +kernel)
theorem dX5_dealTold_60 : decode cX5_dealTold 60 = .ok (.iconst 4, 1) := z_row zl_cX5_dealTold 60 40967 (Nat.le_of_ble_eq_true rfl) (by decide +kernel) z_o7 (by decide +kernel)
theorem dX5_dealTold_61 : decode cX5_dealTold 61 = .ok (.if_icmp .ne 33, 3) := z_row zl_cX5_dealTold 61 2162848 (Nat.le_of_ble_eq_true rfl) (by decide +kernel) z_o160 (by decide +kernel)
theorem dX5_dealTold_64 : decode cX5_dealTold 64 = .ok (.aload_n 0, 1) := z_row zl_cX5_dealTold 64 11934506 (Nat.le_of_ble_eq_true rfl) (by decide +kernel) z_o42 (by decide +kernel)
theorem dX5_dealTold_65 : decode cX5_dealTold 65 = .ok (.iload_n 1, 1) := z_row zl_cX5_dealTold 65 46619 (Nat.le_of_ble_eq_true rfl) (by decide +kernel) z_o27 (by decide +kernel)
theorem dX5_dealTold_66 : decode cX5_dealTold 66 = .ok (.invokevirtual 113, 3) := z_row zl_cX5_dealTold 66 7405750 (Nat.le_of_ble_eq_true rfl) (by decide +kernel) z_o182 (by decide +kernel)
theorem dX5_dealTold_69 : decode cX5_dealTold 69 = .ok (.ifCond .ne 20, 3) := z_row zl_cX5_dealTold 69 1310874 (Nat.le_of_ble_eq_true rfl) (by decide +kernel) z_o154 (by decide +kernel)
theorem dX5_dealTold_72 : decode cX5_dealTold 72 = .ok (.aload_n 0, 1) := z_row zl_cX5_dealTold 72 2759466 (Nat.le_of_ble_eq_true rfl) (by decide +kernel) z_o42 (by decide +kernel)
theorem dX5_dealTold_73 : decode cX5_dealTold 73 = .ok (.iload_n 1, 1) := z_row zl_cX5_dealTold 73 1780251 (Nat.le_of_ble_eq_true rfl) (by decide +kernel) z_o27 (by decide +kernel)
theorem dX5_dealTold_74 : decode cX5_dealTold 74 = .ok (.aload_n 0, 1) := z_row zl_cX5_dealTold 74 11934506 (Nat.le_of_ble_eq_true rfl) (by decide +kernel) z_o42 (by decide +kernel)
theorem dX5_dealTold_75 : decode cX5_dealTold 75 = .ok (.iload_n 1, 1) := z_row zl_cX5_dealTold 75 46619 (Nat.le_of_ble_eq_true rfl) (by decide +kernel) z_o27 (by decide +kernel)
theorem dX5_dealTold_76 : decode cX5_dealTold 76 = .ok (.invokevirtual 116, 3) := z_row zl_cX5_dealTold 76 7602358 (Nat.le_of_ble_eq_true rfl) (by decide +kernel) z_o182 (by decide +kernel)
theorem dX5_dealTold_79 : decode cX5_dealTold 79 = .ok (.invokevirtual 168, 3) := z_row zl_cX5_dealTold 79 11010230 (Nat.le_of_ble_eq_true rfl) (by decide +kernel) z_o182 (by decide +kernel)
theorem dX5_dealTold_82 : decode cX5_dealTold 82 = .ok (.ifCond .eq 7, 3) := z_row zl_cX5_dealTold 82 458905 (Nat.le_of_ble_eq_true rfl) (by decide +kernel) z_o153 (by decide +kernel)
theorem dX5_dealTold_85 : decode cX5_dealTold 85 = .ok (.iconst 1, 1) := z_row zl_cX5_dealTold 85 42756 (Nat.le_of_ble_eq_true rfl) (by decide +kernel) z_o4 (by decide +kernel)
theorem dX5_dealTold_86 : decode cX5_dealTold 86 = .ok (.goto 4, 3) := z_row zl_cX5_dealTold 86 262311 (Nat.le_of_ble_eq_true rfl) (by decide +kernel) z_o167 (by decide +kernel)
theorem dX5_dealTold_89 : decode cX5_dealTold 89 = .ok (.iconst 0, 1) := z_row zl_cX5_dealTold 89 47107 (Nat.le_of_ble_eq_true rfl) (by decide +kernel) z_o3 (by decide +kernel)
theorem dX5_dealTold_90 : decode cX5_dealTold 90 = .ok (.invokestatic 80, 3) := z_row zl_cX5_dealTold 90 5243064 (Nat.le_of_ble_eq_true rfl) (by decide +kernel) z_o184 (by decide +kernel)
theorem dX5_dealTold_93 : decode cX5_dealTold 93 = .ok (.ireturn, 1) := z_row zl_cX5_dealTold 93 1780396 (Nat.le_of_ble_eq_true rfl) (by decide +kernel) z_o172 (by decide +kernel)
theorem dX5_dealTold_94 : decode cX5_dealTold 94 = .ok (.aload_n 0, 1) := z_row zl_cX5_dealTold 94 11934506 (Nat.le_of_ble_eq_true rfl) (by decide +kernel) z_o42 (by decide +kernel)
theorem dX5_dealTold_95 : decode cX5_dealTold 95 = .ok (.iload_n 1, 1) := z_row zl_cX5_dealTold 95 46619 (Nat.le_of_ble_eq_true rfl) (by decide +kernel) z_o27 (by decide +kernel)
theorem dX5_dealTold_96 : decode cX5_dealTold 96 = .ok (.invokevirtual 113, 3) := z_row zl_cX5_dealTold 96 7405750 (Nat.le_of_ble_eq_true rfl) (by decide +kernel) z_o182 (by decide +kernel)
theorem dX5_dealTold_99 : decode cX5_dealTold 99 = .ok (.ifCond .ne 11, 3) := z_row zl_cX5_dealTold 99 721050 (Nat.le_of_ble_eq_true rfl) (by decide +kernel) z_o154 (by decide +kernel)
theorem dX5_dealTold_102 : decode cX5_dealTold 102 = .ok (.aload_n 0, 1) := z_row zl_cX5_dealTold 102 11934506 (Nat.le_of_ble_eq_true rfl) (by decide +kernel) z_o42 (by decide +kernel)
theorem dX5_dealTold_103 : decode cX5_dealTold 103 = .ok (.iload_n 1, 1) := z_row zl_cX5_dealTold 103 46619 (Nat.le_of_ble_eq_true rfl) (by decide +kernel) z_o27 (by decide +kernel)
theorem dX5_dealTold_104 : decode cX5_dealTold 104 = .ok (.invokevirtual 183, 3) := z_row zl_cX5_dealTold 104 11993270 (Nat.le_of_ble_eq_true rfl) (by decide +kernel) z_o182 (by decide +kernel)
theorem dX5_dealTold_107 : decode cX5_dealTold 107 = .ok (.ifCond .ne 7, 3) := z_row zl_cX5_dealTold 107 458906 (Nat.le_of_ble_eq_true rfl) (by decide +kernel) z_o154 (by decide +kernel)
theorem dX5_dealTold_110 : decode cX5_dealTold 110 = .ok (.iconst (-1), 1) := z_row zl_cX5_dealTold 110 42754 (Nat.le_of_ble_eq_true rfl) (by decide +kernel) z_o2 (by decide +kernel)
theorem dX5_dealTold_111 : decode cX5_dealTold 111 = .ok (.goto 19, 3) := z_row zl_cX5_dealTold 111 1245351 (Nat.le_of_ble_eq_true rfl) (by decide +kernel) z_o167 (by decide +kernel)
theorem dX5_dealTold_114 : decode cX5_dealTold 114 = .ok (.aload_n 0, 1) := z_row zl_cX5_dealTold 114 11807274 (Nat.le_of_ble_eq_true rfl) (by decide +kernel) z_o42 (by decide +kernel)
theorem dX5_dealTold_115 : decode cX5_dealTold 115 = .ok (.aload_n 0, 1) := z_row zl_cX5_dealTold 115 46122 (Nat.le_of_ble_eq_true rfl) (by decide +kernel) z_o42 (by decide +kernel)
theorem dX5_dealTold_116 : decode cX5_dealTold 116 = .ok (.getfield 18, 3) := z_row zl_cX5_dealTold 116 1179828 (Nat.le_of_ble_eq_true rfl) (by decide +kernel) z_o180 (by decide +kernel)
theorem dX5_dealTold_119 : decode cX5_dealTold 119 = .ok (.iload_n 1, 1) := z_row zl_cX5_dealTold 119 2765339 (Nat.le_of_ble_eq_true rfl) (by decide +kernel) z_o27 (by decide +kernel)
theorem dX5_dealTold_120 : decode cX5_dealTold 120 = .ok (.aaload, 1) := z_row zl_cX5_dealTold 120 1780274 (Nat.le_of_ble_eq_true rfl) (by decide +kernel) z_o50 (by decide +kernel)
theorem dX5_dealTold_121 : decode cX5_dealTold 121 = .ok (.aload_n 0, 1) := z_row zl_cX5_dealTold 121 11934506 (Nat.le_of_ble_eq_true rfl) (by decide +kernel) z_o42 (by decide +kernel)
theorem dX5_dealTold_122 : decode cX5_dealTold 122 = .ok (.iload_n 1, 1) := z_row zl_cX5_dealTold 122 46619 (Nat.le_of_ble_eq_true rfl) (by decide +kernel) z_o27 (by decide +kernel)
theorem dX5_dealTold_123 : decode cX5_dealTold 123 = .ok (.invokevirtual 183, 3) := z_row zl_cX5_dealTold 123 11993270 (Nat.le_of_ble_eq_true rfl) (by decide +kernel) z_o182 (by decide +kernel)
theorem dX5_dealTold_126 : decode cX5_dealTold 126 = .ok (.iconst 0, 1) := z_row zl_cX5_dealTold 126 46595 (Nat.le_of_ble_eq_true rfl) (by decide +kernel) z_o3 (by decide +kernel)
theorem dX5_dealTold_127 : decode cX5_dealTold 127 = .ok (.invokevirtual 106, 3) := z_row zl_cX5_dealTold 127 6946998 (Nat.le_of_ble_eq_true rfl) (by decide +kernel) z_o182 (by decide +kernel)
set_option maxRecDepth 100000 in
theorem dX5_dealTold_130 : decode cX5_dealTold 130 = .ok (.ireturn, 1) := by decide +kernel
set_option maxRecDepth 100000 in
theorem dX5_ofDeal_0 : decode cX5_ofDeal 0 = .ok (.aload_n 0, 1) := by decide +kernel
set_option maxRecDepth 100000 in
theorem dX5_ofDeal_1 : decode cX5_ofDeal 1 = .ok (.iload_n 1, 1) := by decide +kernel
set_option maxRecDepth 100000 in
theorem dX5_ofDeal_2 : decode cX5_ofDeal 2 = .ok (.invokestatic 129, 3) := by decide +kernel
set_option maxRecDepth 100000 in
theorem dX5_ofDeal_5 : decode cX5_ofDeal 5 = .ok (.iconst 1, 1) := by decide +kernel
set_option maxRecDepth 100000 in
theorem dX5_ofDeal_6 : decode cX5_ofDeal 6 = .ok (.invokevirtual 69, 3) := by decide +kernel
set_option maxRecDepth 100000 in
theorem dX5_ofDeal_9 : decode cX5_ofDeal 9 = .ok (.ifCond .ne 25, 3) := by decide +kernel
set_option maxRecDepth 100000 in
theorem dX5_ofDeal_12 : decode cX5_ofDeal 12 = .ok (.aload_n 0, 1) := by decide +kernel
set_option maxRecDepth 100000 in
theorem dX5_ofDeal_13 : decode cX5_ofDeal 13 = .ok (.iload_n 2, 1) := by decide +kernel
set_option maxRecDepth 100000 in
theorem dX5_ofDeal_14 : decode cX5_ofDeal 14 = .ok (.iconst 0, 1) := by decide +kernel
set_option maxRecDepth 100000 in
theorem dX5_ofDeal_15 : decode cX5_ofDeal 15 = .ok (.iconst 5, 1) := by decide +kernel
set_option maxRecDepth 100000 in
theorem dX5_ofDeal_16 : decode cX5_ofDeal 16 = .ok (.invokestatic 48, 3) := by decide +kernel
set_option maxRecDepth 100000 in
theorem dX5_ofDeal_19 : decode cX5_ofDeal 19 = .ok (.ifCond .ne 7, 3) := by decide +kernel
set_option maxRecDepth 100000 in
theorem dX5_ofDeal_22 : decode cX5_ofDeal 22 = .ok (.iconst 1, 1) := by decide +kernel
set_option maxRecDepth 100000 in
theorem dX5_ofDeal_23 : decode cX5_ofDeal 23 = .ok (.goto 4, 3) := by decide +kernel
def zN_cX5_ofDeal : Nat := 0xacba00b61c1b2a0900a7030700991c00b605030400a70407009a3000b808031c2a19009a4500b6048100b81b2a
set_option maxRecDepth 100000 in
theorem zl_cX5_ofDeal : cX5_ofDeal.data.toList = z_un 45 zN_cX5_ofDeal := eq_of_beq (by decide +kernel)
theorem dX5_ofDeal_26 : decode cX5_ofDeal 26 = .ok (.iconst 0, 1) := z_row zl_cX5_ofDeal 26 11928835 (Nat.le_of_ble_eq_true rfl) (by decide +kernel) z_o3 (by decide +kernel)
theorem dX5_ofDeal_27 : decode cX5_ofDeal 27 = .ok (.iconst 2, 1) := z_row zl_cX5_ofDeal 27 46597 (Nat.le_of_ble_eq_true rfl) (by decide +kernel) z_o5 (by decide +kernel)
theorem dX5_ofDeal_28 : decode cX5_ofDeal 28 = .ok (.invokevirtual 28, 3) := z_row zl_cX5_ofDeal 28 1835190 (Nat.le_of_ble_eq_true rfl) (by decide +kernel) z_o182 (by decide +kernel)
theorem dX5_ofDeal_31 : decode cX5_ofDeal 31 = .ok (.ifCond .eq 7, 3) := z_row zl_cX5_ofDeal 31 458905 (Nat.le_of_ble_eq_true rfl) (by decide +kernel) z_o153 (by decide +kernel)
theorem dX5_ofDeal_34 : decode cX5_ofDeal 34 = .ok (.iconst 0, 1) := z_row zl_cX5_ofDeal 34 42755 (Nat.le_of_ble_eq_true rfl) (by decide +kernel) z_o3 (by decide +kernel)
theorem dX5_ofDeal_35 : decode cX5_ofDeal 35 = .ok (.goto 9, 3) := z_row zl_cX5_ofDeal 35 589991 (Nat.le_of_ble_eq_true rfl) (by decide +kernel) z_o167 (by decide +kernel)
theorem dX5_ofDeal_38 : decode cX5_ofDeal 38 = .ok (.aload_n 0, 1) := z_row zl_cX5_ofDeal 38 1841962 (Nat.le_of_ble_eq_true rfl) (by decide +kernel) z_o42 (by decide +kernel)
theorem dX5_ofDeal_39 : decode cX5_ofDeal 39 = .ok (.iload_n 1, 1) := z_row zl_cX5_ofDeal 39 11934747 (Nat.le_of_ble_eq_true rfl) (by decide +kernel) z_o27 (by decide +kernel)
theorem dX5_ofDeal_40 : decode cX5_ofDeal 40 = .ok (.iload_n 2, 1) := z_row zl_cX5_ofDeal 40 46620 (Nat.le_of_ble_eq_true rfl) (by decide +kernel) z_o28 (by decide +kernel)
theorem dX5_ofDeal_41 : decode cX5_ofDeal 41 = .ok (.invokevirtual 186, 3) := z_row zl_cX5_ofDeal 41 12189878 (Nat.le_of_ble_eq_true rfl) (by decide +kernel) z_o182 (by decide +kernel)
set_option maxRecDepth 100000 in
theorem dX5_ofDeal_44 : decode cX5_ofDeal 44 = .ok (.ireturn, 1) := by decide +kernel
set_option maxRecDepth 100000 in
theorem dX5_isNo_0 : decode cX5_isNo 0 = .ok (.aload_n 0, 1) := by decide +kernel
set_option maxRecDepth 100000 in
theorem dX5_isNo_1 : decode cX5_isNo 1 = .ok (.iload_n 1, 1) := by decide +kernel
set_option maxRecDepth 100000 in
theorem dX5_isNo_2 : decode cX5_isNo 2 = .ok (.invokestatic 129, 3) := by decide +kernel
set_option maxRecDepth 100000 in
theorem dX5_isNo_5 : decode cX5_isNo 5 = .ok (.iconst 1, 1) := by decide +kernel
set_option maxRecDepth 100000 in
theorem dX5_isNo_6 : decode cX5_isNo 6 = .ok (.invokevirtual 69, 3) := by decide +kernel
set_option maxRecDepth 100000 in
theorem dX5_isNo_9 : decode cX5_isNo 9 = .ok (.ifCond .ne 16, 3) := by decide +kernel
set_option maxRecDepth 100000 in
theorem dX5_isNo_12 : decode cX5_isNo 12 = .ok (.aload_n 0, 1) := by decide +kernel
set_option maxRecDepth 100000 in
theorem dX5_isNo_13 : decode cX5_isNo 13 = .ok (.aload_n 0, 1) := by decide +kernel
set_option maxRecDepth 100000 in
theorem dX5_isNo_14 : decode cX5_isNo 14 = .ok (.iload_n 2, 1) := by decide +kernel
set_option maxRecDepth 100000 in
theorem dX5_isNo_15 : decode cX5_isNo 15 = .ok (.invokevirtual 103, 3) := by decide +kernel
set_option maxRecDepth 100000 in
theorem dX5_isNo_18 : decode cX5_isNo 18 = .ok (.iconst 2, 1) := by decide +kernel
set_option maxRecDepth 100000 in
theorem dX5_isNo_19 : decode cX5_isNo 19 = .ok (.invokevirtual 28, 3) := by decide +kernel
set_option maxRecDepth 100000 in
theorem dX5_isNo_22 : decode cX5_isNo 22 = .ok (.ifCond .eq 7, 3) := by decide +kernel
def zN_cX5_isNo : Nat := 0xac030400a7040700991c00b6056700b61c2a2a10009a4500b6048100b81b2a
set_option maxRecDepth 100000 in
theorem zl_cX5_isNo : cX5_isNo.data.toList = z_un 31 zN_cX5_isNo := eq_of_beq (by decide +kernel)
theorem dX5_isNo_25 : decode cX5_isNo 25 = .ok (.iconst 1, 1) := z_row zl_cX5_isNo 25 42756 (Nat.le_of_ble_eq_true rfl) (by decide +kernel) z_o4 (by decide +kernel)
theorem dX5_isNo_26 : decode cX5_isNo 26 = .ok (.goto 4, 3) := z_row zl_cX5_isNo 26 262311 (Nat.le_of_ble_eq_true rfl) (by decide +kernel) z_o167 (by decide +kernel)
set_option maxRecDepth 100000 in
theorem dX5_isNo_29 : decode cX5_isNo 29 = .ok (.iconst 0, 1) := by decide +kernel
set_option maxRecDepth 100000 in
theorem dX5_isNo_30 : decode cX5_isNo 30 = .ok (.ireturn, 1) := by decide +kernel
set_option maxRecDepth 100000 in
theorem dX5_told_0 : decode cX5_told 0 = .ok (.aload_n 0, 1) := by decide +kernel
set_option maxRecDepth 100000 in
theorem dX5_told_1 : decode cX5_told 1 = .ok (.iload_n 1, 1) := by decide +kernel
set_option maxRecDepth 100000 in
theorem dX5_told_2 : decode cX5_told 2 = .ok (.iload_n 2, 1) := by decide +kernel
set_option maxRecDepth 100000 in
theorem dX5_told_3 : decode cX5_told 3 = .ok (.invokevirtual 189, 3) := by decide +kernel
set_option maxRecDepth 100000 in
theorem dX5_told_6 : decode cX5_told 6 = .ok (.ifCond .eq 5, 3) := by decide +kernel
set_option maxRecDepth 100000 in
theorem dX5_told_9 : decode cX5_told 9 = .ok (.iconst 0, 1) := by decide +kernel
set_option maxRecDepth 100000 in
theorem dX5_told_10 : decode cX5_told 10 = .ok (.ireturn, 1) := by decide +kernel
set_option maxRecDepth 100000 in
theorem dX5_told_11 : decode cX5_told 11 = .ok (.aload_n 0, 1) := by decide +kernel
set_option maxRecDepth 100000 in
theorem dX5_told_12 : decode cX5_told 12 = .ok (.iload_n 1, 1) := by decide +kernel
set_option maxRecDepth 100000 in
theorem dX5_told_13 : decode cX5_told 13 = .ok (.iload_n 2, 1) := by decide +kernel
set_option maxRecDepth 100000 in
theorem dX5_told_14 : decode cX5_told 14 = .ok (.invokevirtual 122, 3) := by decide +kernel
set_option maxRecDepth 100000 in
theorem dX5_told_17 : decode cX5_told 17 = .ok (.ifCond .eq 18, 3) := by decide +kernel
set_option maxRecDepth 100000 in
theorem dX5_told_20 : decode cX5_told 20 = .ok (.aload_n 0, 1) := by decide +kernel
set_option maxRecDepth 100000 in
theorem dX5_told_21 : decode cX5_told 21 = .ok (.aload_n 0, 1) := by decide +kernel
set_option maxRecDepth 100000 in
theorem dX5_told_22 : decode cX5_told 22 = .ok (.getfield 18, 3) := by decide +kernel
def zN_cX5_told : Nat := 0xacf7100500a76a00b61d1c321b1200b42a2a1200997a00b61c1b2aac03050099bd00b61c1b2a
set_option maxRecDepth 100000 in
theorem zl_cX5_told : cX5_told.data.toList = z_un 38 zN_cX5_told := eq_of_beq (by decide +kernel)
theorem dX5_told_25 : decode cX5_told 25 = .ok (.iload_n 1, 1) := z_row zl_cX5_told 25 1847835 (Nat.le_of_ble_eq_true rfl) (by decide +kernel) z_o27 (by decide +kernel)
theorem dX5_told_26 : decode cX5_told 26 = .ok (.aaload, 1) := z_row zl_cX5_told 26 1907762 (Nat.le_of_ble_eq_true rfl) (by decide +kernel) z_o50 (by decide +kernel)
theorem dX5_told_27 : decode cX5_told 27 = .ok (.iload_n 2, 1) := z_row zl_cX5_told 27 11935004 (Nat.le_of_ble_eq_true rfl) (by decide +kernel) z_o28 (by decide +kernel)
theorem dX5_told_28 : decode cX5_told 28 = .ok (.iload_n 3, 1) := z_row zl_cX5_told 28 46621 (Nat.le_of_ble_eq_true rfl) (by decide +kernel) z_o29 (by decide +kernel)
theorem dX5_told_29 : decode cX5_told 29 = .ok (.invokevirtual 106, 3) := z_row zl_cX5_told 29 6946998 (Nat.le_of_ble_eq_true rfl) (by decide +kernel) z_o182 (by decide +kernel)
theorem dX5_told_32 : decode cX5_told 32 = .ok (.goto 5, 3) := z_row zl_cX5_told 32 327847 (Nat.le_of_ble_eq_true rfl) (by decide +kernel) z_o167 (by decide +kernel)
theorem dX5_told_35 : decode cX5_told 35 = .ok (.bipush (-9), 2) := z_row zl_cX5_told 35 11335440 (Nat.le_of_ble_eq_true rfl) (by decide +kernel) z_o16 (by decide +kernel)
set_option maxRecDepth 100000 in
theorem dX5_told_37 : decode cX5_told 37 = .ok (.ireturn, 1) := by decide +kernel
set_option maxRecDepth 100000 in
theorem dX5_open_0 : decode cX5_open 0 = .ok (.aload_n 0, 1) := by decide +kernel
set_option maxRecDepth 100000 in
theorem dX5_open_1 : decode cX5_open 1 = .ok (.iload_n 1, 1) := by decide +kernel
set_option maxRecDepth 100000 in
theorem dX5_open_2 : decode cX5_open 2 = .ok (.iload_n 2, 1) := by decide +kernel
set_option maxRecDepth 100000 in
theorem dX5_open_3 : decode cX5_open 3 = .ok (.invokevirtual 189, 3) := by decide +kernel
set_option maxRecDepth 100000 in
theorem dX5_open_6 : decode cX5_open 6 = .ok (.ifCond .eq 5, 3) := by decide +kernel
set_option maxRecDepth 100000 in
theorem dX5_open_9 : decode cX5_open 9 = .ok (.iconst 0, 1) := by decide +kernel
set_option maxRecDepth 100000 in
theorem dX5_open_10 : decode cX5_open 10 = .ok (.ireturn, 1) := by decide +kernel
set_option maxRecDepth 100000 in
theorem dX5_open_11 : decode cX5_open 11 = .ok (.aload_n 0, 1) := by decide +kernel
set_option maxRecDepth 100000 in
theorem dX5_open_12 : decode cX5_open 12 = .ok (.iload_n 1, 1) := by decide +kernel
set_option maxRecDepth 100000 in
theorem dX5_open_13 : decode cX5_open 13 = .ok (.iload_n 2, 1) := by decide +kernel
set_option maxRecDepth 100000 in
theorem dX5_open_14 : decode cX5_open 14 = .ok (.invokevirtual 161, 3) := by decide +kernel
set_option maxRecDepth 100000 in
theorem dX5_open_17 : decode cX5_open 17 = .ok (.ifCond .eq 18, 3) := by decide +kernel
set_option maxRecDepth 100000 in
theorem dX5_open_20 : decode cX5_open 20 = .ok (.aload_n 0, 1) := by decide +kernel
set_option maxRecDepth 100000 in
theorem dX5_open_21 : decode cX5_open 21 = .ok (.aload_n 0, 1) := by decide +kernel
set_option maxRecDepth 100000 in
theorem dX5_open_22 : decode cX5_open 22 = .ok (.getfield 18, 3) := by decide +kernel
def zN_cX5_open : Nat := 0xacf7100500a76a00b6031c321b1200b42a2a120099a100b61c1b2aac03050099bd00b61c1b2a
set_option maxRecDepth 100000 in
theorem zl_cX5_open : cX5_open.data.toList = z_un 38 zN_cX5_open := eq_of_beq (by decide +kernel)
theorem dX5_open_25 : decode cX5_open 25 = .ok (.iload_n 1, 1) := z_row zl_cX5_open 25 1847835 (Nat.le_of_ble_eq_true rfl) (by decide +kernel) z_o27 (by decide +kernel)
theorem dX5_open_26 : decode cX5_open 26 = .ok (.aaload, 1) := z_row zl_cX5_open 26 203826 (Nat.le_of_ble_eq_true rfl) (by decide +kernel) z_o50 (by decide +kernel)
theorem dX5_open_27 : decode cX5_open 27 = .ok (.iload_n 2, 1) := z_row zl_cX5_open 27 11928348 (Nat.le_of_ble_eq_true rfl) (by decide +kernel) z_o28 (by decide +kernel)
theorem dX5_open_28 : decode cX5_open 28 = .ok (.iconst 0, 1) := z_row zl_cX5_open 28 46595 (Nat.le_of_ble_eq_true rfl) (by decide +kernel) z_o3 (by decide +kernel)
theorem dX5_open_29 : decode cX5_open 29 = .ok (.invokevirtual 106, 3) := z_row zl_cX5_open 29 6946998 (Nat.le_of_ble_eq_true rfl) (by decide +kernel) z_o182 (by decide +kernel)
theorem dX5_open_32 : decode cX5_open 32 = .ok (.goto 5, 3) := z_row zl_cX5_open 32 327847 (Nat.le_of_ble_eq_true rfl) (by decide +kernel) z_o167 (by decide +kernel)
theorem dX5_open_35 : decode cX5_open 35 = .ok (.bipush (-9), 2) := z_row zl_cX5_open 35 11335440 (Nat.le_of_ble_eq_true rfl) (by decide +kernel) z_o16 (by decide +kernel)
set_option maxRecDepth 100000 in
theorem dX5_open_37 : decode cX5_open 37 = .ok (.ireturn, 1) := by decide +kernel
set_option maxRecDepth 100000 in
theorem dX5_coefficient_0 : decode cX5_coefficient 0 = .ok (.aload_n 0, 1) := by decide +kernel
set_option maxRecDepth 100000 in
theorem dX5_coefficient_1 : decode cX5_coefficient 1 = .ok (.iload_n 1, 1) := by decide +kernel
set_option maxRecDepth 100000 in
theorem dX5_coefficient_2 : decode cX5_coefficient 2 = .ok (.iload_n 2, 1) := by decide +kernel
set_option maxRecDepth 100000 in
theorem dX5_coefficient_3 : decode cX5_coefficient 3 = .ok (.invokevirtual 189, 3) := by decide +kernel
set_option maxRecDepth 100000 in
theorem dX5_coefficient_6 : decode cX5_coefficient 6 = .ok (.ifCond .ne 26, 3) := by decide +kernel
set_option maxRecDepth 100000 in
theorem dX5_coefficient_9 : decode cX5_coefficient 9 = .ok (.aload_n 0, 1) := by decide +kernel
set_option maxRecDepth 100000 in
theorem dX5_coefficient_10 : decode cX5_coefficient 10 = .ok (.iload_n 3, 1) := by decide +kernel
set_option maxRecDepth 100000 in
theorem dX5_coefficient_11 : decode cX5_coefficient 11 = .ok (.iconst 0, 1) := by decide +kernel
set_option maxRecDepth 100000 in
theorem dX5_coefficient_12 : decode cX5_coefficient 12 = .ok (.bipush 6, 2) := by decide +kernel
set_option maxRecDepth 100000 in
theorem dX5_coefficient_14 : decode cX5_coefficient 14 = .ok (.invokestatic 48, 3) := by decide +kernel
set_option maxRecDepth 100000 in
theorem dX5_coefficient_17 : decode cX5_coefficient 17 = .ok (.ifCond .ne 7, 3) := by decide +kernel
set_option maxRecDepth 100000 in
theorem dX5_coefficient_20 : decode cX5_coefficient 20 = .ok (.iconst 1, 1) := by decide +kernel
set_option maxRecDepth 100000 in
theorem dX5_coefficient_21 : decode cX5_coefficient 21 = .ok (.goto 4, 3) := by decide +kernel
def zN_cX5_coefficient : Nat := 0xacf7100500a72e1d5f00b61c321b1200b42a2a1300997a00b61c1b2aac030500991c00b605030400a70407009a3000b80610031d2a1a009abd00b61c1b2a
set_option maxRecDepth 100000 in
theorem zl_cX5_coefficient : cX5_coefficient.data.toList = z_un 62 zN_cX5_coefficient := eq_of_beq (by decide +kernel)
theorem dX5_coefficient_24 : decode cX5_coefficient 24 = .ok (.iconst 0, 1) := z_row zl_cX5_coefficient 24 11928835 (Nat.le_of_ble_eq_true rfl) (by decide +kernel) z_o3 (by decide +kernel)
theorem dX5_coefficient_25 : decode cX5_coefficient 25 = .ok (.iconst 2, 1) := z_row zl_cX5_coefficient 25 46597 (Nat.le_of_ble_eq_true rfl) (by decide +kernel) z_o5 (by decide +kernel)
theorem dX5_coefficient_26 : decode cX5_coefficient 26 = .ok (.invokevirtual 28, 3) := z_row zl_cX5_coefficient 26 1835190 (Nat.le_of_ble_eq_true rfl) (by decide +kernel) z_o182 (by decide +kernel)
theorem dX5_coefficient_29 : decode cX5_coefficient 29 = .ok (.ifCond .eq 5, 3) := z_row zl_cX5_coefficient 29 327833 (Nat.le_of_ble_eq_true rfl) (by decide +kernel) z_o153 (by decide +kernel)
theorem dX5_coefficient_32 : decode cX5_coefficient 32 = .ok (.iconst 0, 1) := z_row zl_cX5_coefficient 32 2796547 (Nat.le_of_ble_eq_true rfl) (by decide +kernel) z_o3 (by decide +kernel)
theorem dX5_coefficient_33 : decode cX5_coefficient 33 = .ok (.ireturn, 1) := z_row zl_cX5_coefficient 33 1780396 (Nat.le_of_ble_eq_true rfl) (by decide +kernel) z_o172 (by decide +kernel)
theorem dX5_coefficient_34 : decode cX5_coefficient 34 = .ok (.aload_n 0, 1) := z_row zl_cX5_coefficient 34 1841962 (Nat.le_of_ble_eq_true rfl) (by decide +kernel) z_o42 (by decide +kernel)
theorem dX5_coefficient_35 : decode cX5_coefficient 35 = .ok (.iload_n 1, 1) := z_row zl_cX5_coefficient 35 11934747 (Nat.le_of_ble_eq_true rfl) (by decide +kernel) z_o27 (by decide +kernel)
theorem dX5_coefficient_36 : decode cX5_coefficient 36 = .ok (.iload_n 2, 1) := z_row zl_cX5_coefficient 36 46620 (Nat.le_of_ble_eq_true rfl) (by decide +kernel) z_o28 (by decide +kernel)
theorem dX5_coefficient_37 : decode cX5_coefficient 37 = .ok (.invokevirtual 122, 3) := z_row zl_cX5_coefficient 37 7995574 (Nat.le_of_ble_eq_true rfl) (by decide +kernel) z_o182 (by decide +kernel)
theorem dX5_coefficient_40 : decode cX5_coefficient 40 = .ok (.ifCond .eq 19, 3) := z_row zl_cX5_coefficient 40 1245337 (Nat.le_of_ble_eq_true rfl) (by decide +kernel) z_o153 (by decide +kernel)
theorem dX5_coefficient_43 : decode cX5_coefficient 43 = .ok (.aload_n 0, 1) := z_row zl_cX5_coefficient 43 11807274 (Nat.le_of_ble_eq_true rfl) (by decide +kernel) z_o42 (by decide +kernel)
theorem dX5_coefficient_44 : decode cX5_coefficient 44 = .ok (.aload_n 0, 1) := z_row zl_cX5_coefficient 44 46122 (Nat.le_of_ble_eq_true rfl) (by decide +kernel) z_o42 (by decide +kernel)
theorem dX5_coefficient_45 : decode cX5_coefficient 45 = .ok (.getfield 18, 3) := z_row zl_cX5_coefficient 45 1179828 (Nat.le_of_ble_eq_true rfl) (by decide +kernel) z_o180 (by decide +kernel)
theorem dX5_coefficient_48 : decode cX5_coefficient 48 = .ok (.iload_n 1, 1) := z_row zl_cX5_coefficient 48 1847835 (Nat.le_of_ble_eq_true rfl) (by decide +kernel) z_o27 (by decide +kernel)
theorem dX5_coefficient_49 : decode cX5_coefficient 49 = .ok (.aaload, 1) := z_row zl_cX5_coefficient 49 11934770 (Nat.le_of_ble_eq_true rfl) (by decide +kernel) z_o50 (by decide +kernel)
theorem dX5_coefficient_50 : decode cX5_coefficient 50 = .ok (.iload_n 2, 1) := z_row zl_cX5_coefficient 50 46620 (Nat.le_of_ble_eq_true rfl) (by decide +kernel) z_o28 (by decide +kernel)
theorem dX5_coefficient_51 : decode cX5_coefficient 51 = .ok (.invokevirtual 95, 3) := z_row zl_cX5_coefficient 51 6226102 (Nat.le_of_ble_eq_true rfl) (by decide +kernel) z_o182 (by decide +kernel)
theorem dX5_coefficient_54 : decode cX5_coefficient 54 = .ok (.iload_n 3, 1) := z_row zl_cX5_coefficient 54 10956317 (Nat.le_of_ble_eq_true rfl) (by decide +kernel) z_o29 (by decide +kernel)
theorem dX5_coefficient_55 : decode cX5_coefficient 55 = .ok (.iaload, 1) := z_row zl_cX5_coefficient 55 42798 (Nat.le_of_ble_eq_true rfl) (by decide +kernel) z_o46 (by decide +kernel)
theorem dX5_coefficient_56 : decode cX5_coefficient 56 = .ok (.goto 5, 3) := z_row zl_cX5_coefficient 56 327847 (Nat.le_of_ble_eq_true rfl) (by decide +kernel) z_o167 (by decide +kernel)
theorem dX5_coefficient_59 : decode cX5_coefficient 59 = .ok (.bipush (-9), 2) := z_row zl_cX5_coefficient 59 11335440 (Nat.le_of_ble_eq_true rfl) (by decide +kernel) z_o16 (by decide +kernel)
set_option maxRecDepth 100000 in
theorem dX5_coefficient_61 : decode cX5_coefficient 61 = .ok (.ireturn, 1) := by decide +kernel
set_option maxRecDepth 100000 in
theorem dX5_degreeBy_0 : decode cX5_degreeBy 0 = .ok (.aload_n 0, 1) := by decide +kernel
set_option maxRecDepth 100000 in
theorem dX5_degreeBy_1 : decode cX5_degreeBy 1 = .ok (.iload_n 1, 1) := by decide +kernel
set_option maxRecDepth 100000 in
theorem dX5_degreeBy_2 : decode cX5_degreeBy 2 = .ok (.iload_n 2, 1) := by decide +kernel
set_option maxRecDepth 100000 in
theorem dX5_degreeBy_3 : decode cX5_degreeBy 3 = .ok (.invokevirtual 189, 3) := by decide +kernel
set_option maxRecDepth 100000 in
theorem dX5_degreeBy_6 : decode cX5_degreeBy 6 = .ok (.ifCond .eq 5, 3) := by decide +kernel
set_option maxRecDepth 100000 in
theorem dX5_degreeBy_9 : decode cX5_degreeBy 9 = .ok (.iconst 0, 1) := by decide +kernel
set_option maxRecDepth 100000 in
theorem dX5_degreeBy_10 : decode cX5_degreeBy 10 = .ok (.ireturn, 1) := by decide +kernel
set_option maxRecDepth 100000 in
theorem dX5_degreeBy_11 : decode cX5_degreeBy 11 = .ok (.aload_n 0, 1) := by decide +kernel
set_option maxRecDepth 100000 in
theorem dX5_degreeBy_12 : decode cX5_degreeBy 12 = .ok (.iload_n 1, 1) := by decide +kernel
set_option maxRecDepth 100000 in
theorem dX5_degreeBy_13 : decode cX5_degreeBy 13 = .ok (.iload_n 2, 1) := by decide +kernel
set_option maxRecDepth 100000 in
theorem dX5_degreeBy_14 : decode cX5_degreeBy 14 = .ok (.invokevirtual 122, 3) := by decide +kernel
set_option maxRecDepth 100000 in
theorem dX5_degreeBy_17 : decode cX5_degreeBy 17 = .ok (.ifCond .eq 20, 3) := by decide +kernel
set_option maxRecDepth 100000 in
theorem dX5_degreeBy_20 : decode cX5_degreeBy 20 = .ok (.aload_n 0, 1) := by decide +kernel
set_option maxRecDepth 100000 in
theorem dX5_degreeBy_21 : decode cX5_degreeBy 21 = .ok (.aload_n 0, 1) := by decide +kernel
set_option maxRecDepth 100000 in
theorem dX5_degreeBy_22 : decode cX5_degreeBy 22 = .ok (.getfield 18, 3) := by decide +kernel
def zN_cX5_degreeBy : Nat := 0xacf7100500a77d00b85f00b61c321b1200b42a2a1400997a00b61c1b2aac03050099bd00b61c1b2a
set_option maxRecDepth 100000 in
theorem zl_cX5_degreeBy : cX5_degreeBy.data.toList = z_un 40 zN_cX5_degreeBy := eq_of_beq (by decide +kernel)
theorem dX5_degreeBy_25 : decode cX5_degreeBy 25 = .ok (.iload_n 1, 1) := z_row zl_cX5_degreeBy 25 1847835 (Nat.le_of_ble_eq_true rfl) (by decide +kernel) z_o27 (by decide +kernel)
theorem dX5_degreeBy_26 : decode cX5_degreeBy 26 = .ok (.aaload, 1) := z_row zl_cX5_degreeBy 26 11934770 (Nat.le_of_ble_eq_true rfl) (by decide +kernel) z_o50 (by decide +kernel)
theorem dX5_degreeBy_27 : decode cX5_degreeBy 27 = .ok (.iload_n 2, 1) := z_row zl_cX5_degreeBy 27 46620 (Nat.le_of_ble_eq_true rfl) (by decide +kernel) z_o28 (by decide +kernel)
theorem dX5_degreeBy_28 : decode cX5_degreeBy 28 = .ok (.invokevirtual 95, 3) := z_row zl_cX5_degreeBy 28 6226102 (Nat.le_of_ble_eq_true rfl) (by decide +kernel) z_o182 (by decide +kernel)
theorem dX5_degreeBy_31 : decode cX5_degreeBy 31 = .ok (.invokestatic 125, 3) := z_row zl_cX5_degreeBy 31 8192184 (Nat.le_of_ble_eq_true rfl) (by decide +kernel) z_o184 (by decide +kernel)
theorem dX5_degreeBy_34 : decode cX5_degreeBy 34 = .ok (.goto 5, 3) := z_row zl_cX5_degreeBy 34 327847 (Nat.le_of_ble_eq_true rfl) (by decide +kernel) z_o167 (by decide +kernel)
theorem dX5_degreeBy_37 : decode cX5_degreeBy 37 = .ok (.bipush (-9), 2) := z_row zl_cX5_degreeBy 37 11335440 (Nat.le_of_ble_eq_true rfl) (by decide +kernel) z_o16 (by decide +kernel)
set_option maxRecDepth 100000 in
theorem dX5_degreeBy_39 : decode cX5_degreeBy 39 = .ok (.ireturn, 1) := by decide +kernel
set_option maxRecDepth 100000 in
theorem dX5_agrees_0 : decode cX5_agrees 0 = .ok (.aload_n 0, 1) := by decide +kernel
set_option maxRecDepth 100000 in
theorem dX5_agrees_1 : decode cX5_agrees 1 = .ok (.iload_n 1, 1) := by decide +kernel
set_option maxRecDepth 100000 in
theorem dX5_agrees_2 : decode cX5_agrees 2 = .ok (.iload_n 2, 1) := by decide +kernel
set_option maxRecDepth 100000 in
theorem dX5_agrees_3 : decode cX5_agrees 3 = .ok (.invokevirtual 189, 3) := by decide +kernel
set_option maxRecDepth 100000 in
theorem dX5_agrees_6 : decode cX5_agrees 6 = .ok (.ifCond .eq 5, 3) := by decide +kernel
set_option maxRecDepth 100000 in
theorem dX5_agrees_9 : decode cX5_agrees 9 = .ok (.iconst 0, 1) := by decide +kernel
set_option maxRecDepth 100000 in
theorem dX5_agrees_10 : decode cX5_agrees 10 = .ok (.ireturn, 1) := by decide +kernel
set_option maxRecDepth 100000 in
theorem dX5_agrees_11 : decode cX5_agrees 11 = .ok (.aload_n 0, 1) := by decide +kernel
set_option maxRecDepth 100000 in
theorem dX5_agrees_12 : decode cX5_agrees 12 = .ok (.iload_n 1, 1) := by decide +kernel
set_option maxRecDepth 100000 in
theorem dX5_agrees_13 : decode cX5_agrees 13 = .ok (.iload_n 2, 1) := by decide +kernel
set_option maxRecDepth 100000 in
theorem dX5_agrees_14 : decode cX5_agrees 14 = .ok (.invokevirtual 122, 3) := by decide +kernel
set_option maxRecDepth 100000 in
theorem dX5_agrees_17 : decode cX5_agrees 17 = .ok (.ifCond .eq 15, 3) := by decide +kernel
set_option maxRecDepth 100000 in
theorem dX5_agrees_20 : decode cX5_agrees 20 = .ok (.aload_n 0, 1) := by decide +kernel
set_option maxRecDepth 100000 in
theorem dX5_agrees_21 : decode cX5_agrees 21 = .ok (.iload_n 1, 1) := by decide +kernel
set_option maxRecDepth 100000 in
theorem dX5_agrees_22 : decode cX5_agrees 22 = .ok (.iload_n 2, 1) := by decide +kernel
set_option maxRecDepth 100000 in
theorem dX5_agrees_23 : decode cX5_agrees 23 = .ok (.invokevirtual 168, 3) := by decide +kernel
def zN_cX5_agrees : Nat := 0xacf7100500a75000b8a800b61c1b2a0f00997a00b61c1b2aac03050099bd00b61c1b2a
set_option maxRecDepth 100000 in
theorem zl_cX5_agrees : cX5_agrees.data.toList = z_un 35 zN_cX5_agrees := eq_of_beq (by decide +kernel)
theorem dX5_agrees_26 : decode cX5_agrees 26 = .ok (.invokestatic 80, 3) := z_row zl_cX5_agrees 26 5243064 (Nat.le_of_ble_eq_true rfl) (by decide +kernel) z_o184 (by decide +kernel)
theorem dX5_agrees_29 : decode cX5_agrees 29 = .ok (.goto 5, 3) := z_row zl_cX5_agrees 29 327847 (Nat.le_of_ble_eq_true rfl) (by decide +kernel) z_o167 (by decide +kernel)
theorem dX5_agrees_32 : decode cX5_agrees 32 = .ok (.bipush (-9), 2) := z_row zl_cX5_agrees 32 11335440 (Nat.le_of_ble_eq_true rfl) (by decide +kernel) z_o16 (by decide +kernel)
set_option maxRecDepth 100000 in
theorem dX5_agrees_34 : decode cX5_agrees 34 = .ok (.ireturn, 1) := by decide +kernel
set_option maxRecDepth 100000 in
theorem dX5_suspects_0 : decode cX5_suspects 0 = .ok (.aload_n 0, 1) := by decide +kernel
set_option maxRecDepth 100000 in
theorem dX5_suspects_1 : decode cX5_suspects 1 = .ok (.iload_n 1, 1) := by decide +kernel
set_option maxRecDepth 100000 in
theorem dX5_suspects_2 : decode cX5_suspects 2 = .ok (.invokestatic 129, 3) := by decide +kernel
set_option maxRecDepth 100000 in
theorem dX5_suspects_5 : decode cX5_suspects 5 = .ok (.iconst 1, 1) := by decide +kernel
set_option maxRecDepth 100000 in
theorem dX5_suspects_6 : decode cX5_suspects 6 = .ok (.invokevirtual 69, 3) := by decide +kernel
set_option maxRecDepth 100000 in
theorem dX5_suspects_9 : decode cX5_suspects 9 = .ok (.ifCond .eq 5, 3) := by decide +kernel
set_option maxRecDepth 100000 in
theorem dX5_suspects_12 : decode cX5_suspects 12 = .ok (.iconst 0, 1) := by decide +kernel
set_option maxRecDepth 100000 in
theorem dX5_suspects_13 : decode cX5_suspects 13 = .ok (.ireturn, 1) := by decide +kernel
set_option maxRecDepth 100000 in
theorem dX5_suspects_14 : decode cX5_suspects 14 = .ok (.aload_n 0, 1) := by decide +kernel
set_option maxRecDepth 100000 in
theorem dX5_suspects_15 : decode cX5_suspects 15 = .ok (.iload_n 1, 1) := by decide +kernel
set_option maxRecDepth 100000 in
theorem dX5_suspects_16 : decode cX5_suspects 16 = .ok (.invokevirtual 113, 3) := by decide +kernel
set_option maxRecDepth 100000 in
theorem dX5_suspects_19 : decode cX5_suspects 19 = .ok (.ifCond .eq 8, 3) := by decide +kernel
set_option maxRecDepth 100000 in
theorem dX5_suspects_22 : decode cX5_suspects 22 = .ok (.bipush (-9), 2) := by decide +kernel
def zN_cX5_suspects : Nat := 0xacab00b61b2a0800a7f7100800997100b61b2aac030500994500b6048100b81b2a
set_option maxRecDepth 100000 in
theorem zl_cX5_suspects : cX5_suspects.data.toList = z_un 33 zN_cX5_suspects := eq_of_beq (by decide +kernel)
theorem dX5_suspects_24 : decode cX5_suspects 24 = .ok (.goto 8, 3) := z_row zl_cX5_suspects 24 524455 (Nat.le_of_ble_eq_true rfl) (by decide +kernel) z_o167 (by decide +kernel)
theorem dX5_suspects_27 : decode cX5_suspects 27 = .ok (.aload_n 0, 1) := z_row zl_cX5_suspects 27 11934506 (Nat.le_of_ble_eq_true rfl) (by decide +kernel) z_o42 (by decide +kernel)
theorem dX5_suspects_28 : decode cX5_suspects 28 = .ok (.iload_n 1, 1) := z_row zl_cX5_suspects 28 46619 (Nat.le_of_ble_eq_true rfl) (by decide +kernel) z_o27 (by decide +kernel)
theorem dX5_suspects_29 : decode cX5_suspects 29 = .ok (.invokevirtual 171, 3) := z_row zl_cX5_suspects 29 11206838 (Nat.le_of_ble_eq_true rfl) (by decide +kernel) z_o182 (by decide +kernel)
set_option maxRecDepth 100000 in
theorem dX5_suspects_32 : decode cX5_suspects 32 = .ok (.ireturn, 1) := by decide +kernel
set_option maxRecDepth 100000 in
theorem dX5_wrong_0 : decode cX5_wrong 0 = .ok (.aload_n 0, 1) := by decide +kernel
set_option maxRecDepth 100000 in
theorem dX5_wrong_1 : decode cX5_wrong 1 = .ok (.iload_n 1, 1) := by decide +kernel
set_option maxRecDepth 100000 in
theorem dX5_wrong_2 : decode cX5_wrong 2 = .ok (.invokestatic 129, 3) := by decide +kernel
set_option maxRecDepth 100000 in
theorem dX5_wrong_5 : decode cX5_wrong 5 = .ok (.iconst 1, 1) := by decide +kernel
set_option maxRecDepth 100000 in
theorem dX5_wrong_6 : decode cX5_wrong 6 = .ok (.invokevirtual 69, 3) := by decide +kernel
set_option maxRecDepth 100000 in
theorem dX5_wrong_9 : decode cX5_wrong 9 = .ok (.ifCond .eq 7, 3) := by decide +kernel
set_option maxRecDepth 100000 in
theorem dX5_wrong_12 : decode cX5_wrong 12 = .ok (.iconst 0, 1) := by decide +kernel
set_option maxRecDepth 100000 in
theorem dX5_wrong_13 : decode cX5_wrong 13 = .ok (.goto 8, 3) := by decide +kernel
set_option maxRecDepth 100000 in
theorem dX5_wrong_16 : decode cX5_wrong 16 = .ok (.aload_n 0, 1) := by decide +kernel
set_option maxRecDepth 100000 in
theorem dX5_wrong_17 : decode cX5_wrong 17 = .ok (.iload_n 1, 1) := by decide +kernel
set_option maxRecDepth 100000 in
theorem dX5_wrong_18 : decode cX5_wrong 18 = .ok (.invokevirtual 174, 3) := by decide +kernel
set_option maxRecDepth 100000 in
theorem dX5_wrong_21 : decode cX5_wrong 21 = .ok (.ireturn, 1) := by decide +kernel
set_option maxRecDepth 100000 in
theorem dX5_ways_0 : decode cX5_ways 0 = .ok (.aload_n 0, 1) := by decide +kernel
set_option maxRecDepth 100000 in
theorem dX5_ways_1 : decode cX5_ways 1 = .ok (.iload_n 1, 1) := by decide +kernel
set_option maxRecDepth 100000 in
theorem dX5_ways_2 : decode cX5_ways 2 = .ok (.iload_n 2, 1) := by decide +kernel
set_option maxRecDepth 100000 in
theorem dX5_ways_3 : decode cX5_ways 3 = .ok (.invokevirtual 189, 3) := by decide +kernel
set_option maxRecDepth 100000 in
theorem dX5_ways_6 : decode cX5_ways 6 = .ok (.ifCond .eq 5, 3) := by decide +kernel
set_option maxRecDepth 100000 in
theorem dX5_ways_9 : decode cX5_ways 9 = .ok (.iconst 0, 1) := by decide +kernel
set_option maxRecDepth 100000 in
theorem dX5_ways_10 : decode cX5_ways 10 = .ok (.ireturn, 1) := by decide +kernel
set_option maxRecDepth 100000 in
theorem dX5_ways_11 : decode cX5_ways 11 = .ok (.aload_n 0, 1) := by decide +kernel
set_option maxRecDepth 100000 in
theorem dX5_ways_12 : decode cX5_ways 12 = .ok (.iload_n 1, 1) := by decide +kernel
set_option maxRecDepth 100000 in
theorem dX5_ways_13 : decode cX5_ways 13 = .ok (.iload_n 2, 1) := by decide +kernel
set_option maxRecDepth 100000 in
theorem dX5_ways_14 : decode cX5_ways 14 = .ok (.invokevirtual 122, 3) := by decide +kernel
set_option maxRecDepth 100000 in
theorem dX5_ways_17 : decode cX5_ways 17 = .ok (.ifCond .ne 6, 3) := by decide +kernel
set_option maxRecDepth 100000 in
theorem dX5_ways_20 : decode cX5_ways 20 = .ok (.bipush (-9), 2) := by decide +kernel
set_option maxRecDepth 100000 in
theorem dX5_ways_22 : decode cX5_ways 22 = .ok (.ireturn, 1) := by decide +kernel
set_option maxRecDepth 100000 in
theorem dX5_ways_23 : decode cX5_ways 23 = .ok (.lconst 1, 1) := by decide +kernel
def zN_cX5_ways : Nat := 0xac071584ffa70108840736605000b80a150715cdffa7010b840a367e030400a7040700a02e0b15321b1200b42a5b00b60b1506192a1700995700b80b151c0a153000a33400b62a0b150b36040a3604e0ffa7010a8409366c2600b62a09154f702600b62a09150a1506191e00a2be06190a150a36040936081579009c9404168508150836030736034f3700b6851d2a030619063a0abc60042e1b0d00b42aacf71006009e94c000140416dfffa7010684043769852600b62a041613009d94c0001404161c00a22e1b0d00b42a061506360304370aacf71006009a7a00b61c1b2aac03050099bd00b61c1b2a
set_option maxRecDepth 100000 in
theorem zl_cX5_ways : cX5_ways.data.toList = z_un 235 zN_cX5_ways := eq_of_beq (by decide +kernel)
theorem dX5_ways_24 : decode cX5_ways 24 = .ok (.lstore 4, 2) := z_row zl_cX5_ways 24 197687 (Nat.le_of_ble_eq_true rfl) (by decide +kernel) z_o55 (by decide +kernel)
theorem dX5_ways_26 : decode cX5_ways 26 = .ok (.iconst 0, 1) := z_row zl_cX5_ways 26 407043 (Nat.le_of_ble_eq_true rfl) (by decide +kernel) z_o3 (by decide +kernel)
theorem dX5_ways_27 : decode cX5_ways 27 = .ok (.istore 6, 2) := z_row zl_cX5_ways 27 1377846 (Nat.le_of_ble_eq_true rfl) (by decide +kernel) z_o54 (by decide +kernel)
theorem dX5_ways_29 : decode cX5_ways 29 = .ok (.iload 6, 2) := z_row zl_cX5_ways 29 2754069 (Nat.le_of_ble_eq_true rfl) (by decide +kernel) z_o21 (by decide +kernel)
theorem dX5_ways_31 : decode cX5_ways 31 = .ok (.aload_n 0, 1) := z_row zl_cX5_ways 31 46122 (Nat.le_of_ble_eq_true rfl) (by decide +kernel) z_o42 (by decide +kernel)
theorem dX5_ways_32 : decode cX5_ways 32 = .ok (.getfield 13, 3) := z_row zl_cX5_ways 32 852148 (Nat.le_of_ble_eq_true rfl) (by decide +kernel) z_o180 (by decide +kernel)
theorem dX5_ways_35 : decode cX5_ways 35 = .ok (.iload_n 1, 1) := z_row zl_cX5_ways 35 10628635 (Nat.le_of_ble_eq_true rfl) (by decide +kernel) z_o27 (by decide +kernel)
theorem dX5_ways_36 : decode cX5_ways 36 = .ok (.iaload, 1) := z_row zl_cX5_ways 36 41518 (Nat.le_of_ble_eq_true rfl) (by decide +kernel) z_o46 (by decide +kernel)
theorem dX5_ways_37 : decode cX5_ways 37 = .ok (.if_icmp .ge 28, 3) := z_row zl_cX5_ways 37 1835170 (Nat.le_of_ble_eq_true rfl) (by decide +kernel) z_o162 (by decide +kernel)
theorem dX5_ways_40 : decode cX5_ways 40 = .ok (.lload 4, 2) := z_row zl_cX5_ways 40 1311766 (Nat.le_of_ble_eq_true rfl) (by decide +kernel) z_o22 (by decide +kernel)
theorem dX5_ways_42 : decode cX5_ways 42 = .ok (.ldc2_w 192, 3) := z_row zl_cX5_ways 42 12582932 (Nat.le_of_ble_eq_true rfl) (by decide +kernel) z_o20 (by decide +kernel)
theorem dX5_ways_45 : decode cX5_ways 45 = .ok (.lcmp, 1) := z_row zl_cX5_ways 45 40340 (Nat.le_of_ble_eq_true rfl) (by decide +kernel) z_o148 (by decide +kernel)
theorem dX5_ways_46 : decode cX5_ways 46 = .ok (.ifCond .gt 19, 3) := z_row zl_cX5_ways 46 1245341 (Nat.le_of_ble_eq_true rfl) (by decide +kernel) z_o157 (by decide +kernel)
theorem dX5_ways_49 : decode cX5_ways 49 = .ok (.lload 4, 2) := z_row zl_cX5_ways 49 2753558 (Nat.le_of_ble_eq_true rfl) (by decide +kernel) z_o22 (by decide +kernel)
theorem dX5_ways_51 : decode cX5_ways 51 = .ok (.aload_n 0, 1) := z_row zl_cX5_ways 51 46634 (Nat.le_of_ble_eq_true rfl) (by decide +kernel) z_o42 (by decide +kernel)
theorem dX5_ways_52 : decode cX5_ways 52 = .ok (.invokevirtual 38, 3) := z_row zl_cX5_ways 52 2490550 (Nat.le_of_ble_eq_true rfl) (by decide +kernel) z_o182 (by decide +kernel)
theorem dX5_ways_55 : decode cX5_ways 55 = .ok (.i2l, 1) := z_row zl_cX5_ways 55 3631493 (Nat.le_of_ble_eq_true rfl) (by decide +kernel) z_o133 (by decide +kernel)
theorem dX5_ways_56 : decode cX5_ways 56 = .ok (.lmul, 1) := z_row zl_cX5_ways 56 276329 (Nat.le_of_ble_eq_true rfl) (by decide +kernel) z_o105 (by decide +kernel)
theorem dX5_ways_57 : decode cX5_ways 57 = .ok (.lstore 4, 2) := z_row zl_cX5_ways 57 8651831 (Nat.le_of_ble_eq_true rfl) (by decide +kernel) z_o55 (by decide +kernel)
theorem dX5_ways_59 : decode cX5_ways 59 = .ok (.iinc 6 1, 3) := z_row zl_cX5_ways 59 67204 (Nat.le_of_ble_eq_true rfl) (by decide +kernel) z_o132 (by decide +kernel)
theorem dX5_ways_62 : decode cX5_ways 62 = .ok (.goto (-33), 3) := z_row zl_cX5_ways 62 14679975 (Nat.le_of_ble_eq_true rfl) (by decide +kernel) z_o167 (by decide +kernel)
theorem dX5_ways_65 : decode cX5_ways 65 = .ok (.lload 4, 2) := z_row zl_cX5_ways 65 1311766 (Nat.le_of_ble_eq_true rfl) (by decide +kernel) z_o22 (by decide +kernel)
theorem dX5_ways_67 : decode cX5_ways 67 = .ok (.ldc2_w 192, 3) := z_row zl_cX5_ways 67 12582932 (Nat.le_of_ble_eq_true rfl) (by decide +kernel) z_o20 (by decide +kernel)
theorem dX5_ways_70 : decode cX5_ways 70 = .ok (.lcmp, 1) := z_row zl_cX5_ways 70 40596 (Nat.le_of_ble_eq_true rfl) (by decide +kernel) z_o148 (by decide +kernel)
theorem dX5_ways_71 : decode cX5_ways 71 = .ok (.ifCond .le 6, 3) := z_row zl_cX5_ways 71 393374 (Nat.le_of_ble_eq_true rfl) (by decide +kernel) z_o158 (by decide +kernel)
theorem dX5_ways_74 : decode cX5_ways 74 = .ok (.bipush (-9), 2) := z_row zl_cX5_ways 74 11335440 (Nat.le_of_ble_eq_true rfl) (by decide +kernel) z_o16 (by decide +kernel)
theorem dX5_ways_76 : decode cX5_ways 76 = .ok (.ireturn, 1) := z_row zl_cX5_ways 76 11807404 (Nat.le_of_ble_eq_true rfl) (by decide +kernel) z_o172 (by decide +kernel)
theorem dX5_ways_77 : decode cX5_ways 77 = .ok (.aload_n 0, 1) := z_row zl_cX5_ways 77 46122 (Nat.le_of_ble_eq_true rfl) (by decide +kernel) z_o42 (by decide +kernel)
theorem dX5_ways_78 : decode cX5_ways 78 = .ok (.getfield 13, 3) := z_row zl_cX5_ways 78 852148 (Nat.le_of_ble_eq_true rfl) (by decide +kernel) z_o180 (by decide +kernel)
theorem dX5_ways_81 : decode cX5_ways 81 = .ok (.iload_n 1, 1) := z_row zl_cX5_ways 81 273947 (Nat.le_of_ble_eq_true rfl) (by decide +kernel) z_o27 (by decide +kernel)
theorem dX5_ways_82 : decode cX5_ways 82 = .ok (.iaload, 1) := z_row zl_cX5_ways 82 6292526 (Nat.le_of_ble_eq_true rfl) (by decide +kernel) z_o46 (by decide +kernel)
theorem dX5_ways_83 : decode cX5_ways 83 = .ok (.iconst 1, 1) := z_row zl_cX5_ways 83 12345348 (Nat.le_of_ble_eq_true rfl) (by decide +kernel) z_o4 (by decide +kernel)
theorem dX5_ways_84 : decode cX5_ways 84 = .ok (.iadd, 1) := z_row zl_cX5_ways 84 703584 (Nat.le_of_ble_eq_true rfl) (by decide +kernel) z_o96 (by decide +kernel)
set_option maxRecDepth 100000 in
theorem dX5_ways_85 : decode cX5_ways 85 = .ok (.newarray .int, 2) := by decide +kernel
theorem dX5_ways_87 : decode cX5_ways 87 = .ok (.astore 6, 2) := z_row zl_cX5_ways 87 1639994 (Nat.le_of_ble_eq_true rfl) (by decide +kernel) z_o58 (by decide +kernel)
theorem dX5_ways_89 : decode cX5_ways 89 = .ok (.aload 6, 2) := z_row zl_cX5_ways 89 198169 (Nat.le_of_ble_eq_true rfl) (by decide +kernel) z_o25 (by decide +kernel)
theorem dX5_ways_91 : decode cX5_ways 91 = .ok (.iconst 0, 1) := z_row zl_cX5_ways 91 1911299 (Nat.le_of_ble_eq_true rfl) (by decide +kernel) z_o3 (by decide +kernel)
theorem dX5_ways_92 : decode cX5_ways 92 = .ok (.aload_n 0, 1) := z_row zl_cX5_ways 92 8723754 (Nat.le_of_ble_eq_true rfl) (by decide +kernel) z_o42 (by decide +kernel)
theorem dX5_ways_93 : decode cX5_ways 93 = .ok (.iload_n 3, 1) := z_row zl_cX5_ways 93 11961629 (Nat.le_of_ble_eq_true rfl) (by decide +kernel) z_o29 (by decide +kernel)
theorem dX5_ways_94 : decode cX5_ways 94 = .ok (.i2l, 1) := z_row zl_cX5_ways 94 46725 (Nat.le_of_ble_eq_true rfl) (by decide +kernel) z_o133 (by decide +kernel)
theorem dX5_ways_95 : decode cX5_ways 95 = .ok (.invokevirtual 55, 3) := z_row zl_cX5_ways 95 3604662 (Nat.le_of_ble_eq_true rfl) (by decide +kernel) z_o182 (by decide +kernel)
theorem dX5_ways_98 : decode cX5_ways 98 = .ok (.iastore, 1) := z_row zl_cX5_ways 98 3539791 (Nat.le_of_ble_eq_true rfl) (by decide +kernel) z_o79 (by decide +kernel)
theorem dX5_ways_99 : decode cX5_ways 99 = .ok (.iconst 0, 1) := z_row zl_cX5_ways 99 472579 (Nat.le_of_ble_eq_true rfl) (by decide +kernel) z_o3 (by decide +kernel)
theorem dX5_ways_100 : decode cX5_ways 100 = .ok (.istore 7, 2) := z_row zl_cX5_ways 100 198454 (Nat.le_of_ble_eq_true rfl) (by decide +kernel) z_o54 (by decide +kernel)
theorem dX5_ways_102 : decode cX5_ways 102 = .ok (.iconst 0, 1) := z_row zl_cX5_ways 102 538115 (Nat.le_of_ble_eq_true rfl) (by decide +kernel) z_o3 (by decide +kernel)
theorem dX5_ways_103 : decode cX5_ways 103 = .ok (.istore 8, 2) := z_row zl_cX5_ways 103 1378358 (Nat.le_of_ble_eq_true rfl) (by decide +kernel) z_o54 (by decide +kernel)
theorem dX5_ways_105 : decode cX5_ways 105 = .ok (.iload 8, 2) := z_row zl_cX5_ways 105 8718357 (Nat.le_of_ble_eq_true rfl) (by decide +kernel) z_o21 (by decide +kernel)
theorem dX5_ways_107 : decode cX5_ways 107 = .ok (.i2l, 1) := z_row zl_cX5_ways 107 267909 (Nat.le_of_ble_eq_true rfl) (by decide +kernel) z_o133 (by decide +kernel)
theorem dX5_ways_108 : decode cX5_ways 108 = .ok (.lload 4, 2) := z_row zl_cX5_ways 108 9700374 (Nat.le_of_ble_eq_true rfl) (by decide +kernel) z_o22 (by decide +kernel)
theorem dX5_ways_110 : decode cX5_ways 110 = .ok (.lcmp, 1) := z_row zl_cX5_ways 110 40084 (Nat.le_of_ble_eq_true rfl) (by decide +kernel) z_o148 (by decide +kernel)
theorem dX5_ways_111 : decode cX5_ways 111 = .ok (.ifCond .ge 121, 3) := z_row zl_cX5_ways 111 7930012 (Nat.le_of_ble_eq_true rfl) (by decide +kernel) z_o156 (by decide +kernel)
theorem dX5_ways_114 : decode cX5_ways 114 = .ok (.iload 8, 2) := z_row zl_cX5_ways 114 3541013 (Nat.le_of_ble_eq_true rfl) (by decide +kernel) z_o21 (by decide +kernel)
theorem dX5_ways_116 : decode cX5_ways 116 = .ok (.istore 9, 2) := z_row zl_cX5_ways 116 264502 (Nat.le_of_ble_eq_true rfl) (by decide +kernel) z_o54 (by decide +kernel)
theorem dX5_ways_118 : decode cX5_ways 118 = .ok (.iconst 1, 1) := z_row zl_cX5_ways 118 669188 (Nat.le_of_ble_eq_true rfl) (by decide +kernel) z_o4 (by decide +kernel)
theorem dX5_ways_119 : decode cX5_ways 119 = .ok (.istore 10, 2) := z_row zl_cX5_ways 119 1378870 (Nat.le_of_ble_eq_true rfl) (by decide +kernel) z_o54 (by decide +kernel)
theorem dX5_ways_121 : decode cX5_ways 121 = .ok (.iload 10, 2) := z_row zl_cX5_ways 121 1640981 (Nat.le_of_ble_eq_true rfl) (by decide +kernel) z_o21 (by decide +kernel)
theorem dX5_ways_123 : decode cX5_ways 123 = .ok (.aload 6, 2) := z_row zl_cX5_ways 123 12453401 (Nat.le_of_ble_eq_true rfl) (by decide +kernel) z_o25 (by decide +kernel)
theorem dX5_ways_125 : decode cX5_ways 125 = .ok (.arraylength, 1) := z_row zl_cX5_ways 125 41662 (Nat.le_of_ble_eq_true rfl) (by decide +kernel) z_o190 (by decide +kernel)
theorem dX5_ways_126 : decode cX5_ways 126 = .ok (.if_icmp .ge 30, 3) := z_row zl_cX5_ways 126 1966242 (Nat.le_of_ble_eq_true rfl) (by decide +kernel) z_o162 (by decide +kernel)
theorem dX5_ways_129 : decode cX5_ways 129 = .ok (.aload 6, 2) := z_row zl_cX5_ways 129 1377817 (Nat.le_of_ble_eq_true rfl) (by decide +kernel) z_o25 (by decide +kernel)
theorem dX5_ways_131 : decode cX5_ways 131 = .ok (.iload 10, 2) := z_row zl_cX5_ways 131 1378837 (Nat.le_of_ble_eq_true rfl) (by decide +kernel) z_o21 (by decide +kernel)
theorem dX5_ways_133 : decode cX5_ways 133 = .ok (.iload 9, 2) := z_row zl_cX5_ways 133 2754837 (Nat.le_of_ble_eq_true rfl) (by decide +kernel) z_o21 (by decide +kernel)
theorem dX5_ways_135 : decode cX5_ways 135 = .ok (.aload_n 0, 1) := z_row zl_cX5_ways 135 46634 (Nat.le_of_ble_eq_true rfl) (by decide +kernel) z_o42 (by decide +kernel)
theorem dX5_ways_136 : decode cX5_ways 136 = .ok (.invokevirtual 38, 3) := z_row zl_cX5_ways 136 2490550 (Nat.le_of_ble_eq_true rfl) (by decide +kernel) z_o182 (by decide +kernel)
theorem dX5_ways_139 : decode cX5_ways 139 = .ok (.irem, 1) := z_row zl_cX5_ways 139 1396592 (Nat.le_of_ble_eq_true rfl) (by decide +kernel) z_o112 (by decide +kernel)
theorem dX5_ways_140 : decode cX5_ways 140 = .ok (.iastore, 1) := z_row zl_cX5_ways 140 595279 (Nat.le_of_ble_eq_true rfl) (by decide +kernel) z_o79 (by decide +kernel)
theorem dX5_ways_141 : decode cX5_ways 141 = .ok (.iload 9, 2) := z_row zl_cX5_ways 141 2754837 (Nat.le_of_ble_eq_true rfl) (by decide +kernel) z_o21 (by decide +kernel)
theorem dX5_ways_143 : decode cX5_ways 143 = .ok (.aload_n 0, 1) := z_row zl_cX5_ways 143 46634 (Nat.le_of_ble_eq_true rfl) (by decide +kernel) z_o42 (by decide +kernel)
theorem dX5_ways_144 : decode cX5_ways 144 = .ok (.invokevirtual 38, 3) := z_row zl_cX5_ways 144 2490550 (Nat.le_of_ble_eq_true rfl) (by decide +kernel) z_o182 (by decide +kernel)
theorem dX5_ways_147 : decode cX5_ways 147 = .ok (.idiv, 1) := z_row zl_cX5_ways 147 603756 (Nat.le_of_ble_eq_true rfl) (by decide +kernel) z_o108 (by decide +kernel)
theorem dX5_ways_148 : decode cX5_ways 148 = .ok (.istore 9, 2) := z_row zl_cX5_ways 148 8653110 (Nat.le_of_ble_eq_true rfl) (by decide +kernel) z_o54 (by decide +kernel)
theorem dX5_ways_150 : decode cX5_ways 150 = .ok (.iinc 10 1, 3) := z_row zl_cX5_ways 150 68228 (Nat.le_of_ble_eq_true rfl) (by decide +kernel) z_o132 (by decide +kernel)
theorem dX5_ways_153 : decode cX5_ways 153 = .ok (.goto (-32), 3) := z_row zl_cX5_ways 153 14745511 (Nat.le_of_ble_eq_true rfl) (by decide +kernel) z_o167 (by decide +kernel)
theorem dX5_ways_156 : decode cX5_ways 156 = .ok (.iconst 1, 1) := z_row zl_cX5_ways 156 669188 (Nat.le_of_ble_eq_true rfl) (by decide +kernel) z_o4 (by decide +kernel)
theorem dX5_ways_157 : decode cX5_ways 157 = .ok (.istore 10, 2) := z_row zl_cX5_ways 157 264758 (Nat.le_of_ble_eq_true rfl) (by decide +kernel) z_o54 (by decide +kernel)
theorem dX5_ways_159 : decode cX5_ways 159 = .ok (.iconst 1, 1) := z_row zl_cX5_ways 159 734724 (Nat.le_of_ble_eq_true rfl) (by decide +kernel) z_o4 (by decide +kernel)
theorem dX5_ways_160 : decode cX5_ways 160 = .ok (.istore 11, 2) := z_row zl_cX5_ways 160 1379126 (Nat.le_of_ble_eq_true rfl) (by decide +kernel) z_o54 (by decide +kernel)
theorem dX5_ways_162 : decode cX5_ways 162 = .ok (.iload 11, 2) := z_row zl_cX5_ways 162 2755349 (Nat.le_of_ble_eq_true rfl) (by decide +kernel) z_o21 (by decide +kernel)
theorem dX5_ways_164 : decode cX5_ways 164 = .ok (.aload_n 0, 1) := z_row zl_cX5_ways 164 46634 (Nat.le_of_ble_eq_true rfl) (by decide +kernel) z_o42 (by decide +kernel)
theorem dX5_ways_165 : decode cX5_ways 165 = .ok (.invokevirtual 52, 3) := z_row zl_cX5_ways 165 3408054 (Nat.le_of_ble_eq_true rfl) (by decide +kernel) z_o182 (by decide +kernel)
theorem dX5_ways_168 : decode cX5_ways 168 = .ok (.if_icmp .gt 48, 3) := z_row zl_cX5_ways 168 3145891 (Nat.le_of_ble_eq_true rfl) (by decide +kernel) z_o163 (by decide +kernel)
theorem dX5_ways_171 : decode cX5_ways 171 = .ok (.iload 10, 2) := z_row zl_cX5_ways 171 1837589 (Nat.le_of_ble_eq_true rfl) (by decide +kernel) z_o21 (by decide +kernel)
theorem dX5_ways_173 : decode cX5_ways 173 = .ok (.iload_n 2, 1) := z_row zl_cX5_ways 173 726300 (Nat.le_of_ble_eq_true rfl) (by decide +kernel) z_o28 (by decide +kernel)
theorem dX5_ways_174 : decode cX5_ways 174 = .ok (.iload 11, 2) := z_row zl_cX5_ways 174 12061461 (Nat.le_of_ble_eq_true rfl) (by decide +kernel) z_o21 (by decide +kernel)
theorem dX5_ways_176 : decode cX5_ways 176 = .ok (.invokestatic 87, 3) := z_row zl_cX5_ways 176 5701816 (Nat.le_of_ble_eq_true rfl) (by decide +kernel) z_o184 (by decide +kernel)
theorem dX5_ways_179 : decode cX5_ways 179 = .ok (.ifCond .eq 23, 3) := z_row zl_cX5_ways 179 1507481 (Nat.le_of_ble_eq_true rfl) (by decide +kernel) z_o153 (by decide +kernel)
theorem dX5_ways_182 : decode cX5_ways 182 = .ok (.aload_n 0, 1) := z_row zl_cX5_ways 182 399658 (Nat.le_of_ble_eq_true rfl) (by decide +kernel) z_o42 (by decide +kernel)
theorem dX5_ways_183 : decode cX5_ways 183 = .ok (.aload 6, 2) := z_row zl_cX5_ways 183 1377817 (Nat.le_of_ble_eq_true rfl) (by decide +kernel) z_o25 (by decide +kernel)
theorem dX5_ways_185 : decode cX5_ways 185 = .ok (.iload 11, 2) := z_row zl_cX5_ways 185 11930389 (Nat.le_of_ble_eq_true rfl) (by decide +kernel) z_o21 (by decide +kernel)
theorem dX5_ways_187 : decode cX5_ways 187 = .ok (.invokevirtual 91, 3) := z_row zl_cX5_ways 187 5963958 (Nat.le_of_ble_eq_true rfl) (by decide +kernel) z_o182 (by decide +kernel)
theorem dX5_ways_190 : decode cX5_ways 190 = .ok (.aload_n 0, 1) := z_row zl_cX5_ways 190 46122 (Nat.le_of_ble_eq_true rfl) (by decide +kernel) z_o42 (by decide +kernel)
theorem dX5_ways_191 : decode cX5_ways 191 = .ok (.getfield 18, 3) := z_row zl_cX5_ways 191 1179828 (Nat.le_of_ble_eq_true rfl) (by decide +kernel) z_o180 (by decide +kernel)
theorem dX5_ways_194 : decode cX5_ways 194 = .ok (.iload_n 1, 1) := z_row zl_cX5_ways 194 1389083 (Nat.le_of_ble_eq_true rfl) (by decide +kernel) z_o27 (by decide +kernel)
theorem dX5_ways_195 : decode cX5_ways 195 = .ok (.aaload, 1) := z_row zl_cX5_ways 195 726322 (Nat.le_of_ble_eq_true rfl) (by decide +kernel) z_o50 (by decide +kernel)
theorem dX5_ways_196 : decode cX5_ways 196 = .ok (.iload 11, 2) := z_row zl_cX5_ways 196 3017493 (Nat.le_of_ble_eq_true rfl) (by decide +kernel) z_o21 (by decide +kernel)
theorem dX5_ways_198 : decode cX5_ways 198 = .ok (.iaload, 1) := z_row zl_cX5_ways 198 41006 (Nat.le_of_ble_eq_true rfl) (by decide +kernel) z_o46 (by decide +kernel)
theorem dX5_ways_199 : decode cX5_ways 199 = .ok (.if_icmp .ne 7, 3) := z_row zl_cX5_ways 199 458912 (Nat.le_of_ble_eq_true rfl) (by decide +kernel) z_o160 (by decide +kernel)
theorem dX5_ways_202 : decode cX5_ways 202 = .ok (.iconst 1, 1) := z_row zl_cX5_ways 202 42756 (Nat.le_of_ble_eq_true rfl) (by decide +kernel) z_o4 (by decide +kernel)
theorem dX5_ways_203 : decode cX5_ways 203 = .ok (.goto 4, 3) := z_row zl_cX5_ways 203 262311 (Nat.le_of_ble_eq_true rfl) (by decide +kernel) z_o167 (by decide +kernel)
theorem dX5_ways_206 : decode cX5_ways 206 = .ok (.iconst 0, 1) := z_row zl_cX5_ways 206 3571203 (Nat.le_of_ble_eq_true rfl) (by decide +kernel) z_o3 (by decide +kernel)
theorem dX5_ways_207 : decode cX5_ways 207 = .ok (.iand, 1) := z_row zl_cX5_ways 207 669310 (Nat.le_of_ble_eq_true rfl) (by decide +kernel) z_o126 (by decide +kernel)
theorem dX5_ways_208 : decode cX5_ways 208 = .ok (.istore 10, 2) := z_row zl_cX5_ways 208 8653366 (Nat.le_of_ble_eq_true rfl) (by decide +kernel) z_o54 (by decide +kernel)
theorem dX5_ways_210 : decode cX5_ways 210 = .ok (.iinc 11 1, 3) := z_row zl_cX5_ways 210 68484 (Nat.le_of_ble_eq_true rfl) (by decide +kernel) z_o132 (by decide +kernel)
theorem dX5_ways_213 : decode cX5_ways 213 = .ok (.goto (-51), 3) := z_row zl_cX5_ways 213 13500327 (Nat.le_of_ble_eq_true rfl) (by decide +kernel) z_o167 (by decide +kernel)
theorem dX5_ways_216 : decode cX5_ways 216 = .ok (.iload 7, 2) := z_row zl_cX5_ways 216 1378069 (Nat.le_of_ble_eq_true rfl) (by decide +kernel) z_o21 (by decide +kernel)
theorem dX5_ways_218 : decode cX5_ways 218 = .ok (.iload 10, 2) := z_row zl_cX5_ways 218 12061205 (Nat.le_of_ble_eq_true rfl) (by decide +kernel) z_o21 (by decide +kernel)
theorem dX5_ways_220 : decode cX5_ways 220 = .ok (.invokestatic 80, 3) := z_row zl_cX5_ways 220 5243064 (Nat.le_of_ble_eq_true rfl) (by decide +kernel) z_o184 (by decide +kernel)
theorem dX5_ways_223 : decode cX5_ways 223 = .ok (.iadd, 1) := z_row zl_cX5_ways 223 472672 (Nat.le_of_ble_eq_true rfl) (by decide +kernel) z_o96 (by decide +kernel)
theorem dX5_ways_224 : decode cX5_ways 224 = .ok (.istore 7, 2) := z_row zl_cX5_ways 224 8652598 (Nat.le_of_ble_eq_true rfl) (by decide +kernel) z_o54 (by decide +kernel)
theorem dX5_ways_226 : decode cX5_ways 226 = .ok (.iinc 8 1, 3) := z_row zl_cX5_ways 226 67716 (Nat.le_of_ble_eq_true rfl) (by decide +kernel) z_o132 (by decide +kernel)
theorem dX5_ways_229 : decode cX5_ways 229 = .ok (.goto (-124), 3) := z_row zl_cX5_ways 229 8716199 (Nat.le_of_ble_eq_true rfl) (by decide +kernel) z_o167 (by decide +kernel)
theorem dX5_ways_232 : decode cX5_ways 232 = .ok (.iload 7, 2) := z_row zl_cX5_ways 232 11274005 (Nat.le_of_ble_eq_true rfl) (by decide +kernel) z_o21 (by decide +kernel)
set_option maxRecDepth 100000 in
theorem dX5_ways_234 : decode cX5_ways 234 = .ok (.ireturn, 1) := by decide +kernel
set_option maxRecDepth 100000 in
theorem dX5_total_0 : decode cX5_total 0 = .ok (.aload_n 0, 1) := by decide +kernel
set_option maxRecDepth 100000 in
theorem dX5_total_1 : decode cX5_total 1 = .ok (.iload_n 1, 1) := by decide +kernel
set_option maxRecDepth 100000 in
theorem dX5_total_2 : decode cX5_total 2 = .ok (.iload_n 2, 1) := by decide +kernel
set_option maxRecDepth 100000 in
theorem dX5_total_3 : decode cX5_total 3 = .ok (.invokevirtual 189, 3) := by decide +kernel
set_option maxRecDepth 100000 in
theorem dX5_total_6 : decode cX5_total 6 = .ok (.ifCond .eq 5, 3) := by decide +kernel
set_option maxRecDepth 100000 in
theorem dX5_total_9 : decode cX5_total 9 = .ok (.iconst 0, 1) := by decide +kernel
set_option maxRecDepth 100000 in
theorem dX5_total_10 : decode cX5_total 10 = .ok (.ireturn, 1) := by decide +kernel
set_option maxRecDepth 100000 in
theorem dX5_total_11 : decode cX5_total 11 = .ok (.aload_n 0, 1) := by decide +kernel
set_option maxRecDepth 100000 in
theorem dX5_total_12 : decode cX5_total 12 = .ok (.iload_n 1, 1) := by decide +kernel
set_option maxRecDepth 100000 in
theorem dX5_total_13 : decode cX5_total 13 = .ok (.iload_n 2, 1) := by decide +kernel
set_option maxRecDepth 100000 in
theorem dX5_total_14 : decode cX5_total 14 = .ok (.invokevirtual 122, 3) := by decide +kernel
set_option maxRecDepth 100000 in
theorem dX5_total_17 : decode cX5_total 17 = .ok (.ifCond .ne 6, 3) := by decide +kernel
set_option maxRecDepth 100000 in
theorem dX5_total_20 : decode cX5_total 20 = .ok (.bipush (-9), 2) := by decide +kernel
set_option maxRecDepth 100000 in
theorem dX5_total_22 : decode cX5_total 22 = .ok (.ireturn, 1) := by decide +kernel
set_option maxRecDepth 100000 in
theorem dX5_total_23 : decode cX5_total 23 = .ok (.iconst 0, 1) := by decide +kernel
def zN_cX5_total : Nat := 0xac1ddbffa70104843e60030400a72e0415321b1200b42a0f00995700b804151c1d2200a33400b62a04150436043e03acf71006009a7a00b61c1b2aac03050099bd00b61c1b2a
set_option maxRecDepth 100000 in
theorem zl_cX5_total : cX5_total.data.toList = z_un 70 zN_cX5_total := eq_of_beq (by decide +kernel)
theorem dX5_total_24 : decode cX5_total 24 = .ok (.istore_n 3, 1) := z_row zl_cX5_total 24 3540030 (Nat.le_of_ble_eq_true rfl) (by decide +kernel) z_o62 (by decide +kernel)
theorem dX5_total_25 : decode cX5_total 25 = .ok (.iconst 1, 1) := z_row zl_cX5_total 25 275972 (Nat.le_of_ble_eq_true rfl) (by decide +kernel) z_o4 (by decide +kernel)
theorem dX5_total_26 : decode cX5_total 26 = .ok (.istore 4, 2) := z_row zl_cX5_total 26 1377334 (Nat.le_of_ble_eq_true rfl) (by decide +kernel) z_o54 (by decide +kernel)
theorem dX5_total_28 : decode cX5_total 28 = .ok (.iload 4, 2) := z_row zl_cX5_total 28 2753557 (Nat.le_of_ble_eq_true rfl) (by decide +kernel) z_o21 (by decide +kernel)
theorem dX5_total_30 : decode cX5_total 30 = .ok (.aload_n 0, 1) := z_row zl_cX5_total 30 46634 (Nat.le_of_ble_eq_true rfl) (by decide +kernel) z_o42 (by decide +kernel)
theorem dX5_total_31 : decode cX5_total 31 = .ok (.invokevirtual 52, 3) := z_row zl_cX5_total 31 3408054 (Nat.le_of_ble_eq_true rfl) (by decide +kernel) z_o182 (by decide +kernel)
theorem dX5_total_34 : decode cX5_total 34 = .ok (.if_icmp .gt 34, 3) := z_row zl_cX5_total 34 2228387 (Nat.le_of_ble_eq_true rfl) (by decide +kernel) z_o163 (by decide +kernel)
theorem dX5_total_37 : decode cX5_total 37 = .ok (.iload_n 3, 1) := z_row zl_cX5_total 37 1383453 (Nat.le_of_ble_eq_true rfl) (by decide +kernel) z_o29 (by decide +kernel)
theorem dX5_total_38 : decode cX5_total 38 = .ok (.iload_n 2, 1) := z_row zl_cX5_total 38 267548 (Nat.le_of_ble_eq_true rfl) (by decide +kernel) z_o28 (by decide +kernel)
theorem dX5_total_39 : decode cX5_total 39 = .ok (.iload 4, 2) := z_row zl_cX5_total 39 12059669 (Nat.le_of_ble_eq_true rfl) (by decide +kernel) z_o21 (by decide +kernel)
theorem dX5_total_41 : decode cX5_total 41 = .ok (.invokestatic 87, 3) := z_row zl_cX5_total 41 5701816 (Nat.le_of_ble_eq_true rfl) (by decide +kernel) z_o184 (by decide +kernel)
theorem dX5_total_44 : decode cX5_total 44 = .ok (.ifCond .eq 15, 3) := z_row zl_cX5_total 44 983193 (Nat.le_of_ble_eq_true rfl) (by decide +kernel) z_o153 (by decide +kernel)
theorem dX5_total_47 : decode cX5_total 47 = .ok (.aload_n 0, 1) := z_row zl_cX5_total 47 46122 (Nat.le_of_ble_eq_true rfl) (by decide +kernel) z_o42 (by decide +kernel)
theorem dX5_total_48 : decode cX5_total 48 = .ok (.getfield 18, 3) := z_row zl_cX5_total 48 1179828 (Nat.le_of_ble_eq_true rfl) (by decide +kernel) z_o180 (by decide +kernel)
theorem dX5_total_51 : decode cX5_total 51 = .ok (.iload_n 1, 1) := z_row zl_cX5_total 51 1389083 (Nat.le_of_ble_eq_true rfl) (by decide +kernel) z_o27 (by decide +kernel)
theorem dX5_total_52 : decode cX5_total 52 = .ok (.aaload, 1) := z_row zl_cX5_total 52 267570 (Nat.le_of_ble_eq_true rfl) (by decide +kernel) z_o50 (by decide +kernel)
theorem dX5_total_53 : decode cX5_total 53 = .ok (.iload 4, 2) := z_row zl_cX5_total 53 3015701 (Nat.le_of_ble_eq_true rfl) (by decide +kernel) z_o21 (by decide +kernel)
theorem dX5_total_55 : decode cX5_total 55 = .ok (.iaload, 1) := z_row zl_cX5_total 55 42798 (Nat.le_of_ble_eq_true rfl) (by decide +kernel) z_o46 (by decide +kernel)
theorem dX5_total_56 : decode cX5_total 56 = .ok (.goto 4, 3) := z_row zl_cX5_total 56 262311 (Nat.le_of_ble_eq_true rfl) (by decide +kernel) z_o167 (by decide +kernel)
theorem dX5_total_59 : decode cX5_total 59 = .ok (.iconst 0, 1) := z_row zl_cX5_total 59 4087811 (Nat.le_of_ble_eq_true rfl) (by decide +kernel) z_o3 (by decide +kernel)
theorem dX5_total_60 : decode cX5_total 60 = .ok (.iadd, 1) := z_row zl_cX5_total 60 8666720 (Nat.le_of_ble_eq_true rfl) (by decide +kernel) z_o96 (by decide +kernel)
theorem dX5_total_61 : decode cX5_total 61 = .ok (.istore_n 3, 1) := z_row zl_cX5_total 61 295998 (Nat.le_of_ble_eq_true rfl) (by decide +kernel) z_o62 (by decide +kernel)
theorem dX5_total_62 : decode cX5_total 62 = .ok (.iinc 4 1, 3) := z_row zl_cX5_total 62 66692 (Nat.le_of_ble_eq_true rfl) (by decide +kernel) z_o132 (by decide +kernel)
theorem dX5_total_65 : decode cX5_total 65 = .ok (.goto (-37), 3) := z_row zl_cX5_total 65 14417831 (Nat.le_of_ble_eq_true rfl) (by decide +kernel) z_o167 (by decide +kernel)
set_option maxRecDepth 100000 in
theorem dX5_total_68 : decode cX5_total 68 = .ok (.iload_n 3, 1) := by decide +kernel
set_option maxRecDepth 100000 in
theorem dX5_total_69 : decode cX5_total 69 = .ok (.ireturn, 1) := by decide +kernel
set_option maxRecDepth 100000 in
theorem dX5_sealTold_0 : decode cX5_sealTold 0 = .ok (.aload_n 0, 1) := by decide +kernel
set_option maxRecDepth 100000 in
theorem dX5_sealTold_1 : decode cX5_sealTold 1 = .ok (.getfield 22, 3) := by decide +kernel
set_option maxRecDepth 100000 in
theorem dX5_sealTold_4 : decode cX5_sealTold 4 = .ok (.iload_n 1, 1) := by decide +kernel
set_option maxRecDepth 100000 in
theorem dX5_sealTold_5 : decode cX5_sealTold 5 = .ok (.aaload, 1) := by decide +kernel
set_option maxRecDepth 100000 in
theorem dX5_sealTold_6 : decode cX5_sealTold 6 = .ok (.ifnull 14, 3) := by decide +kernel
set_option maxRecDepth 100000 in
theorem dX5_sealTold_9 : decode cX5_sealTold 9 = .ok (.iload_n 2, 1) := by decide +kernel
set_option maxRecDepth 100000 in
theorem dX5_sealTold_10 : decode cX5_sealTold 10 = .ok (.aload_n 0, 1) := by decide +kernel
set_option maxRecDepth 100000 in
theorem dX5_sealTold_11 : decode cX5_sealTold 11 = .ok (.getfield 22, 3) := by decide +kernel
set_option maxRecDepth 100000 in
theorem dX5_sealTold_14 : decode cX5_sealTold 14 = .ok (.iload_n 1, 1) := by decide +kernel
set_option maxRecDepth 100000 in
theorem dX5_sealTold_15 : decode cX5_sealTold 15 = .ok (.aaload, 1) := by decide +kernel
set_option maxRecDepth 100000 in
theorem dX5_sealTold_16 : decode cX5_sealTold 16 = .ok (.arraylength, 1) := by decide +kernel
set_option maxRecDepth 100000 in
theorem dX5_sealTold_17 : decode cX5_sealTold 17 = .ok (.if_icmp .lt 7, 3) := by decide +kernel
set_option maxRecDepth 100000 in
theorem dX5_sealTold_20 : decode cX5_sealTold 20 = .ok (.iconst (-1), 1) := by decide +kernel
set_option maxRecDepth 100000 in
theorem dX5_sealTold_21 : decode cX5_sealTold 21 = .ok (.goto 15, 3) := by decide +kernel
def zN_cX5_sealTold : Nat := 0xac5400b62e1c321b1600b42a2a0f00a7020700a1be321b1600b42a1c0e00c6321b1600b42a
set_option maxRecDepth 100000 in
theorem zl_cX5_sealTold : cX5_sealTold.data.toList = z_un 37 zN_cX5_sealTold := eq_of_beq (by decide +kernel)
theorem dX5_sealTold_24 : decode cX5_sealTold 24 = .ok (.aload_n 0, 1) := z_row zl_cX5_sealTold 24 11807274 (Nat.le_of_ble_eq_true rfl) (by decide +kernel) z_o42 (by decide +kernel)
theorem dX5_sealTold_25 : decode cX5_sealTold 25 = .ok (.aload_n 0, 1) := z_row zl_cX5_sealTold 25 46122 (Nat.le_of_ble_eq_true rfl) (by decide +kernel) z_o42 (by decide +kernel)
theorem dX5_sealTold_26 : decode cX5_sealTold 26 = .ok (.getfield 22, 3) := z_row zl_cX5_sealTold 26 1441972 (Nat.le_of_ble_eq_true rfl) (by decide +kernel) z_o180 (by decide +kernel)
theorem dX5_sealTold_29 : decode cX5_sealTold 29 = .ok (.iload_n 1, 1) := z_row zl_cX5_sealTold 29 1847835 (Nat.le_of_ble_eq_true rfl) (by decide +kernel) z_o27 (by decide +kernel)
theorem dX5_sealTold_30 : decode cX5_sealTold 30 = .ok (.aaload, 1) := z_row zl_cX5_sealTold 30 3021874 (Nat.le_of_ble_eq_true rfl) (by decide +kernel) z_o50 (by decide +kernel)
theorem dX5_sealTold_31 : decode cX5_sealTold 31 = .ok (.iload_n 2, 1) := z_row zl_cX5_sealTold 31 11939356 (Nat.le_of_ble_eq_true rfl) (by decide +kernel) z_o28 (by decide +kernel)
theorem dX5_sealTold_32 : decode cX5_sealTold 32 = .ok (.iaload, 1) := z_row zl_cX5_sealTold 32 46638 (Nat.le_of_ble_eq_true rfl) (by decide +kernel) z_o46 (by decide +kernel)
theorem dX5_sealTold_33 : decode cX5_sealTold 33 = .ok (.invokevirtual 84, 3) := z_row zl_cX5_sealTold 33 5505206 (Nat.le_of_ble_eq_true rfl) (by decide +kernel) z_o182 (by decide +kernel)
set_option maxRecDepth 100000 in
theorem dX5_sealTold_36 : decode cX5_sealTold 36 = .ok (.ireturn, 1) := by decide +kernel
set_option maxRecDepth 100000 in
theorem dX5_seal_0 : decode cX5_seal 0 = .ok (.aload_n 0, 1) := by decide +kernel
set_option maxRecDepth 100000 in
theorem dX5_seal_1 : decode cX5_seal 1 = .ok (.iload_n 1, 1) := by decide +kernel
set_option maxRecDepth 100000 in
theorem dX5_seal_2 : decode cX5_seal 2 = .ok (.invokestatic 129, 3) := by decide +kernel
set_option maxRecDepth 100000 in
theorem dX5_seal_5 : decode cX5_seal 5 = .ok (.iconst 1, 1) := by decide +kernel
set_option maxRecDepth 100000 in
theorem dX5_seal_6 : decode cX5_seal 6 = .ok (.invokevirtual 69, 3) := by decide +kernel
set_option maxRecDepth 100000 in
theorem dX5_seal_9 : decode cX5_seal 9 = .ok (.ifCond .ne 26, 3) := by decide +kernel
set_option maxRecDepth 100000 in
theorem dX5_seal_12 : decode cX5_seal 12 = .ok (.aload_n 0, 1) := by decide +kernel
set_option maxRecDepth 100000 in
theorem dX5_seal_13 : decode cX5_seal 13 = .ok (.iload_n 2, 1) := by decide +kernel
set_option maxRecDepth 100000 in
theorem dX5_seal_14 : decode cX5_seal 14 = .ok (.iconst 0, 1) := by decide +kernel
set_option maxRecDepth 100000 in
theorem dX5_seal_15 : decode cX5_seal 15 = .ok (.bipush 6, 2) := by decide +kernel
set_option maxRecDepth 100000 in
theorem dX5_seal_17 : decode cX5_seal 17 = .ok (.invokestatic 48, 3) := by decide +kernel
set_option maxRecDepth 100000 in
theorem dX5_seal_20 : decode cX5_seal 20 = .ok (.ifCond .ne 7, 3) := by decide +kernel
set_option maxRecDepth 100000 in
theorem dX5_seal_23 : decode cX5_seal 23 = .ok (.iconst 1, 1) := by decide +kernel
def zN_cX5_seal : Nat := 0xacc200b61c1b2a0900a7030700991c00b605030400a70407009a3000b80610031c2a1a009a4500b6048100b81b2a
set_option maxRecDepth 100000 in
theorem zl_cX5_seal : cX5_seal.data.toList = z_un 46 zN_cX5_seal := eq_of_beq (by decide +kernel)
theorem dX5_seal_24 : decode cX5_seal 24 = .ok (.goto 4, 3) := z_row zl_cX5_seal 24 262311 (Nat.le_of_ble_eq_true rfl) (by decide +kernel) z_o167 (by decide +kernel)
theorem dX5_seal_27 : decode cX5_seal 27 = .ok (.iconst 0, 1) := z_row zl_cX5_seal 27 11928835 (Nat.le_of_ble_eq_true rfl) (by decide +kernel) z_o3 (by decide +kernel)
theorem dX5_seal_28 : decode cX5_seal 28 = .ok (.iconst 2, 1) := z_row zl_cX5_seal 28 46597 (Nat.le_of_ble_eq_true rfl) (by decide +kernel) z_o5 (by decide +kernel)
theorem dX5_seal_29 : decode cX5_seal 29 = .ok (.invokevirtual 28, 3) := z_row zl_cX5_seal 29 1835190 (Nat.le_of_ble_eq_true rfl) (by decide +kernel) z_o182 (by decide +kernel)
theorem dX5_seal_32 : decode cX5_seal 32 = .ok (.ifCond .eq 7, 3) := z_row zl_cX5_seal 32 458905 (Nat.le_of_ble_eq_true rfl) (by decide +kernel) z_o153 (by decide +kernel)
theorem dX5_seal_35 : decode cX5_seal 35 = .ok (.iconst 0, 1) := z_row zl_cX5_seal 35 42755 (Nat.le_of_ble_eq_true rfl) (by decide +kernel) z_o3 (by decide +kernel)
theorem dX5_seal_36 : decode cX5_seal 36 = .ok (.goto 9, 3) := z_row zl_cX5_seal 36 589991 (Nat.le_of_ble_eq_true rfl) (by decide +kernel) z_o167 (by decide +kernel)
theorem dX5_seal_39 : decode cX5_seal 39 = .ok (.aload_n 0, 1) := z_row zl_cX5_seal 39 1841962 (Nat.le_of_ble_eq_true rfl) (by decide +kernel) z_o42 (by decide +kernel)
theorem dX5_seal_40 : decode cX5_seal 40 = .ok (.iload_n 1, 1) := z_row zl_cX5_seal 40 11934747 (Nat.le_of_ble_eq_true rfl) (by decide +kernel) z_o27 (by decide +kernel)
theorem dX5_seal_41 : decode cX5_seal 41 = .ok (.iload_n 2, 1) := z_row zl_cX5_seal 41 46620 (Nat.le_of_ble_eq_true rfl) (by decide +kernel) z_o28 (by decide +kernel)
theorem dX5_seal_42 : decode cX5_seal 42 = .ok (.invokevirtual 194, 3) := z_row zl_cX5_seal 42 12714166 (Nat.le_of_ble_eq_true rfl) (by decide +kernel) z_o182 (by decide +kernel)
set_option maxRecDepth 100000 in
theorem dX5_seal_45 : decode cX5_seal 45 = .ok (.ireturn, 1) := by decide +kernel
set_option maxRecDepth 100000 in
theorem dX5_isFit_0 : decode cX5_isFit 0 = .ok (.aload_n 0, 1) := by decide +kernel
set_option maxRecDepth 100000 in
theorem dX5_isFit_1 : decode cX5_isFit 1 = .ok (.getfield 18, 3) := by decide +kernel
set_option maxRecDepth 100000 in
theorem dX5_isFit_4 : decode cX5_isFit 4 = .ok (.iload_n 1, 1) := by decide +kernel
set_option maxRecDepth 100000 in
theorem dX5_isFit_5 : decode cX5_isFit 5 = .ok (.aaload, 1) := by decide +kernel
set_option maxRecDepth 100000 in
theorem dX5_isFit_6 : decode cX5_isFit 6 = .ok (.iload_n 2, 1) := by decide +kernel
set_option maxRecDepth 100000 in
theorem dX5_isFit_7 : decode cX5_isFit 7 = .ok (.iaload, 1) := by decide +kernel
set_option maxRecDepth 100000 in
theorem dX5_isFit_8 : decode cX5_isFit 8 = .ok (.aload_n 0, 1) := by decide +kernel
set_option maxRecDepth 100000 in
theorem dX5_isFit_9 : decode cX5_isFit 9 = .ok (.aload_n 0, 1) := by decide +kernel
set_option maxRecDepth 100000 in
theorem dX5_isFit_10 : decode cX5_isFit 10 = .ok (.getfield 22, 3) := by decide +kernel
set_option maxRecDepth 100000 in
theorem dX5_isFit_13 : decode cX5_isFit 13 = .ok (.iload_n 1, 1) := by decide +kernel
set_option maxRecDepth 100000 in
theorem dX5_isFit_14 : decode cX5_isFit 14 = .ok (.aaload, 1) := by decide +kernel
set_option maxRecDepth 100000 in
theorem dX5_isFit_15 : decode cX5_isFit 15 = .ok (.iload_n 2, 1) := by decide +kernel
set_option maxRecDepth 100000 in
theorem dX5_isFit_16 : decode cX5_isFit 16 = .ok (.invokevirtual 91, 3) := by decide +kernel
set_option maxRecDepth 100000 in
theorem dX5_isFit_19 : decode cX5_isFit 19 = .ok (.if_icmp .ne 7, 3) := by decide +kernel
set_option maxRecDepth 100000 in
theorem dX5_isFit_22 : decode cX5_isFit 22 = .ok (.iconst 1, 1) := by decide +kernel
set_option maxRecDepth 100000 in
theorem dX5_isFit_23 : decode cX5_isFit 23 = .ok (.goto 4, 3) := by decide +kernel
set_option maxRecDepth 100000 in
theorem dX5_isFit_26 : decode cX5_isFit 26 = .ok (.iconst 0, 1) := by decide +kernel
set_option maxRecDepth 100000 in
theorem dX5_isFit_27 : decode cX5_isFit 27 = .ok (.ireturn, 1) := by decide +kernel
set_option maxRecDepth 100000 in
theorem dX5_fits_0 : decode cX5_fits 0 = .ok (.aload_n 0, 1) := by decide +kernel
set_option maxRecDepth 100000 in
theorem dX5_fits_1 : decode cX5_fits 1 = .ok (.iload_n 1, 1) := by decide +kernel
set_option maxRecDepth 100000 in
theorem dX5_fits_2 : decode cX5_fits 2 = .ok (.invokestatic 129, 3) := by decide +kernel
set_option maxRecDepth 100000 in
theorem dX5_fits_5 : decode cX5_fits 5 = .ok (.ifCond .ne 11, 3) := by decide +kernel
set_option maxRecDepth 100000 in
theorem dX5_fits_8 : decode cX5_fits 8 = .ok (.aload_n 0, 1) := by decide +kernel
set_option maxRecDepth 100000 in
theorem dX5_fits_9 : decode cX5_fits 9 = .ok (.iload_n 2, 1) := by decide +kernel
set_option maxRecDepth 100000 in
theorem dX5_fits_10 : decode cX5_fits 10 = .ok (.invokevirtual 99, 3) := by decide +kernel
set_option maxRecDepth 100000 in
theorem dX5_fits_13 : decode cX5_fits 13 = .ok (.ifCond .eq 7, 3) := by decide +kernel
set_option maxRecDepth 100000 in
theorem dX5_fits_16 : decode cX5_fits 16 = .ok (.iconst 1, 1) := by decide +kernel
set_option maxRecDepth 100000 in
theorem dX5_fits_17 : decode cX5_fits 17 = .ok (.goto 4, 3) := by decide +kernel
set_option maxRecDepth 100000 in
theorem dX5_fits_20 : decode cX5_fits 20 = .ok (.iconst 0, 1) := by decide +kernel
set_option maxRecDepth 100000 in
theorem dX5_fits_21 : decode cX5_fits 21 = .ok (.iconst 1, 1) := by decide +kernel
set_option maxRecDepth 100000 in
theorem dX5_fits_22 : decode cX5_fits 22 = .ok (.invokevirtual 69, 3) := by decide +kernel
def zN_cX5_fits : Nat := 0xac5000b8c500b61c1b2a0c00a7f7100800a002b400b61c1b2a0d00c6321b1600b42aac030500994500b604030400a7040700996300b61c2a0b009a8100b81b2a
set_option maxRecDepth 100000 in
theorem zl_cX5_fits : cX5_fits.data.toList = z_un 64 zN_cX5_fits := eq_of_beq (by decide +kernel)
theorem dX5_fits_25 : decode cX5_fits 25 = .ok (.ifCond .eq 5, 3) := z_row zl_cX5_fits 25 327833 (Nat.le_of_ble_eq_true rfl) (by decide +kernel) z_o153 (by decide +kernel)
theorem dX5_fits_28 : decode cX5_fits 28 = .ok (.iconst 0, 1) := z_row zl_cX5_fits 28 2796547 (Nat.le_of_ble_eq_true rfl) (by decide +kernel) z_o3 (by decide +kernel)
theorem dX5_fits_29 : decode cX5_fits 29 = .ok (.ireturn, 1) := z_row zl_cX5_fits 29 11807404 (Nat.le_of_ble_eq_true rfl) (by decide +kernel) z_o172 (by decide +kernel)
theorem dX5_fits_30 : decode cX5_fits 30 = .ok (.aload_n 0, 1) := z_row zl_cX5_fits 30 46122 (Nat.le_of_ble_eq_true rfl) (by decide +kernel) z_o42 (by decide +kernel)
theorem dX5_fits_31 : decode cX5_fits 31 = .ok (.getfield 22, 3) := z_row zl_cX5_fits 31 1441972 (Nat.le_of_ble_eq_true rfl) (by decide +kernel) z_o180 (by decide +kernel)
theorem dX5_fits_34 : decode cX5_fits 34 = .ok (.iload_n 1, 1) := z_row zl_cX5_fits 34 12988955 (Nat.le_of_ble_eq_true rfl) (by decide +kernel) z_o27 (by decide +kernel)
theorem dX5_fits_35 : decode cX5_fits 35 = .ok (.aaload, 1) := z_row zl_cX5_fits 35 50738 (Nat.le_of_ble_eq_true rfl) (by decide +kernel) z_o50 (by decide +kernel)
theorem dX5_fits_36 : decode cX5_fits 36 = .ok (.ifnull 13, 3) := z_row zl_cX5_fits 36 852166 (Nat.le_of_ble_eq_true rfl) (by decide +kernel) z_o198 (by decide +kernel)
theorem dX5_fits_39 : decode cX5_fits 39 = .ok (.aload_n 0, 1) := z_row zl_cX5_fits 39 1841962 (Nat.le_of_ble_eq_true rfl) (by decide +kernel) z_o42 (by decide +kernel)
theorem dX5_fits_40 : decode cX5_fits 40 = .ok (.iload_n 1, 1) := z_row zl_cX5_fits 40 11934747 (Nat.le_of_ble_eq_true rfl) (by decide +kernel) z_o27 (by decide +kernel)
theorem dX5_fits_41 : decode cX5_fits 41 = .ok (.iload_n 2, 1) := z_row zl_cX5_fits 41 46620 (Nat.le_of_ble_eq_true rfl) (by decide +kernel) z_o28 (by decide +kernel)
theorem dX5_fits_42 : decode cX5_fits 42 = .ok (.invokevirtual 180, 3) := z_row zl_cX5_fits 42 11796662 (Nat.le_of_ble_eq_true rfl) (by decide +kernel) z_o182 (by decide +kernel)
theorem dX5_fits_45 : decode cX5_fits 45 = .ok (.iconst (-1), 1) := z_row zl_cX5_fits 45 40962 (Nat.le_of_ble_eq_true rfl) (by decide +kernel) z_o2 (by decide +kernel)
theorem dX5_fits_46 : decode cX5_fits 46 = .ok (.if_icmp .ne 8, 3) := z_row zl_cX5_fits 46 524448 (Nat.le_of_ble_eq_true rfl) (by decide +kernel) z_o160 (by decide +kernel)
theorem dX5_fits_49 : decode cX5_fits 49 = .ok (.bipush (-9), 2) := z_row zl_cX5_fits 49 11007760 (Nat.le_of_ble_eq_true rfl) (by decide +kernel) z_o16 (by decide +kernel)
theorem dX5_fits_51 : decode cX5_fits 51 = .ok (.goto 12, 3) := z_row zl_cX5_fits 51 786599 (Nat.le_of_ble_eq_true rfl) (by decide +kernel) z_o167 (by decide +kernel)
theorem dX5_fits_54 : decode cX5_fits 54 = .ok (.aload_n 0, 1) := z_row zl_cX5_fits 54 1841962 (Nat.le_of_ble_eq_true rfl) (by decide +kernel) z_o42 (by decide +kernel)
theorem dX5_fits_55 : decode cX5_fits 55 = .ok (.iload_n 1, 1) := z_row zl_cX5_fits 55 11934747 (Nat.le_of_ble_eq_true rfl) (by decide +kernel) z_o27 (by decide +kernel)
theorem dX5_fits_56 : decode cX5_fits 56 = .ok (.iload_n 2, 1) := z_row zl_cX5_fits 56 46620 (Nat.le_of_ble_eq_true rfl) (by decide +kernel) z_o28 (by decide +kernel)
theorem dX5_fits_57 : decode cX5_fits 57 = .ok (.invokevirtual 197, 3) := z_row zl_cX5_fits 57 12910774 (Nat.le_of_ble_eq_true rfl) (by decide +kernel) z_o182 (by decide +kernel)
theorem dX5_fits_60 : decode cX5_fits 60 = .ok (.invokestatic 80, 3) := z_row zl_cX5_fits 60 5243064 (Nat.le_of_ble_eq_true rfl) (by decide +kernel) z_o184 (by decide +kernel)
set_option maxRecDepth 100000 in
theorem dX5_fits_63 : decode cX5_fits 63 = .ok (.ireturn, 1) := by decide +kernel
set_option maxRecDepth 100000 in
theorem dX5_order_0 : decode cX5_order 0 = .ok (.aload_n 0, 1) := by decide +kernel
set_option maxRecDepth 100000 in
theorem dX5_order_1 : decode cX5_order 1 = .ok (.iload_n 1, 1) := by decide +kernel
set_option maxRecDepth 100000 in
theorem dX5_order_2 : decode cX5_order 2 = .ok (.invokestatic 129, 3) := by decide +kernel
set_option maxRecDepth 100000 in
theorem dX5_order_5 : decode cX5_order 5 = .ok (.ifCond .ne 18, 3) := by decide +kernel
set_option maxRecDepth 100000 in
theorem dX5_order_8 : decode cX5_order 8 = .ok (.iload_n 2, 1) := by decide +kernel
set_option maxRecDepth 100000 in
theorem dX5_order_9 : decode cX5_order 9 = .ok (.invokestatic 129, 3) := by decide +kernel
set_option maxRecDepth 100000 in
theorem dX5_order_12 : decode cX5_order 12 = .ok (.ifCond .ne 11, 3) := by decide +kernel
set_option maxRecDepth 100000 in
theorem dX5_order_15 : decode cX5_order 15 = .ok (.aload_n 0, 1) := by decide +kernel
set_option maxRecDepth 100000 in
theorem dX5_order_16 : decode cX5_order 16 = .ok (.iload_n 3, 1) := by decide +kernel
set_option maxRecDepth 100000 in
theorem dX5_order_17 : decode cX5_order 17 = .ok (.invokevirtual 99, 3) := by decide +kernel
set_option maxRecDepth 100000 in
theorem dX5_order_20 : decode cX5_order 20 = .ok (.ifCond .eq 7, 3) := by decide +kernel
set_option maxRecDepth 100000 in
theorem dX5_order_23 : decode cX5_order 23 = .ok (.iconst 1, 1) := by decide +kernel
def zN_cX5_order : Nat := 0xac645000b8030400a7040700a2051504155000b8030400a7040700a4051504152200a7f7100800a002051509009f0204150536b400b61d1c2a0436b400b61d1b2aac030500994500b604030400a7040700996300b61d2a0b009a8100b81c12009a8100b81b2a
set_option maxRecDepth 100000 in
theorem zl_cX5_order : cX5_order.data.toList = z_un 102 zN_cX5_order := eq_of_beq (by decide +kernel)
theorem dX5_order_24 : decode cX5_order 24 = .ok (.goto 4, 3) := z_row zl_cX5_order 24 262311 (Nat.le_of_ble_eq_true rfl) (by decide +kernel) z_o167 (by decide +kernel)
theorem dX5_order_27 : decode cX5_order 27 = .ok (.iconst 0, 1) := z_row zl_cX5_order 27 11928579 (Nat.le_of_ble_eq_true rfl) (by decide +kernel) z_o3 (by decide +kernel)
theorem dX5_order_28 : decode cX5_order 28 = .ok (.iconst 1, 1) := z_row zl_cX5_order 28 46596 (Nat.le_of_ble_eq_true rfl) (by decide +kernel) z_o4 (by decide +kernel)
theorem dX5_order_29 : decode cX5_order 29 = .ok (.invokevirtual 69, 3) := z_row zl_cX5_order 29 4522166 (Nat.le_of_ble_eq_true rfl) (by decide +kernel) z_o182 (by decide +kernel)
theorem dX5_order_32 : decode cX5_order 32 = .ok (.ifCond .eq 5, 3) := z_row zl_cX5_order 32 327833 (Nat.le_of_ble_eq_true rfl) (by decide +kernel) z_o153 (by decide +kernel)
theorem dX5_order_35 : decode cX5_order 35 = .ok (.iconst 0, 1) := z_row zl_cX5_order 35 2796547 (Nat.le_of_ble_eq_true rfl) (by decide +kernel) z_o3 (by decide +kernel)
theorem dX5_order_36 : decode cX5_order 36 = .ok (.ireturn, 1) := z_row zl_cX5_order 36 1780396 (Nat.le_of_ble_eq_true rfl) (by decide +kernel) z_o172 (by decide +kernel)
theorem dX5_order_37 : decode cX5_order 37 = .ok (.aload_n 0, 1) := z_row zl_cX5_order 37 1907498 (Nat.le_of_ble_eq_true rfl) (by decide +kernel) z_o42 (by decide +kernel)
theorem dX5_order_38 : decode cX5_order 38 = .ok (.iload_n 1, 1) := z_row zl_cX5_order 38 11935003 (Nat.le_of_ble_eq_true rfl) (by decide +kernel) z_o27 (by decide +kernel)
theorem dX5_order_39 : decode cX5_order 39 = .ok (.iload_n 3, 1) := z_row zl_cX5_order 39 46621 (Nat.le_of_ble_eq_true rfl) (by decide +kernel) z_o29 (by decide +kernel)
theorem dX5_order_40 : decode cX5_order 40 = .ok (.invokevirtual 180, 3) := z_row zl_cX5_order 40 11796662 (Nat.le_of_ble_eq_true rfl) (by decide +kernel) z_o182 (by decide +kernel)
theorem dX5_order_43 : decode cX5_order 43 = .ok (.istore 4, 2) := z_row zl_cX5_order 43 2753590 (Nat.le_of_ble_eq_true rfl) (by decide +kernel) z_o54 (by decide +kernel)
theorem dX5_order_45 : decode cX5_order 45 = .ok (.aload_n 0, 1) := z_row zl_cX5_order 45 1907754 (Nat.le_of_ble_eq_true rfl) (by decide +kernel) z_o42 (by decide +kernel)
theorem dX5_order_46 : decode cX5_order 46 = .ok (.iload_n 2, 1) := z_row zl_cX5_order 46 11935004 (Nat.le_of_ble_eq_true rfl) (by decide +kernel) z_o28 (by decide +kernel)
theorem dX5_order_47 : decode cX5_order 47 = .ok (.iload_n 3, 1) := z_row zl_cX5_order 47 46621 (Nat.le_of_ble_eq_true rfl) (by decide +kernel) z_o29 (by decide +kernel)
theorem dX5_order_48 : decode cX5_order 48 = .ok (.invokevirtual 180, 3) := z_row zl_cX5_order 48 11796662 (Nat.le_of_ble_eq_true rfl) (by decide +kernel) z_o182 (by decide +kernel)
theorem dX5_order_51 : decode cX5_order 51 = .ok (.istore 5, 2) := z_row zl_cX5_order 51 1377590 (Nat.le_of_ble_eq_true rfl) (by decide +kernel) z_o54 (by decide +kernel)
theorem dX5_order_53 : decode cX5_order 53 = .ok (.iload 4, 2) := z_row zl_cX5_order 53 132117 (Nat.le_of_ble_eq_true rfl) (by decide +kernel) z_o21 (by decide +kernel)
theorem dX5_order_55 : decode cX5_order 55 = .ok (.iconst (-1), 1) := z_row zl_cX5_order 55 40706 (Nat.le_of_ble_eq_true rfl) (by decide +kernel) z_o2 (by decide +kernel)
theorem dX5_order_56 : decode cX5_order 56 = .ok (.if_icmp .eq 9, 3) := z_row zl_cX5_order 56 589983 (Nat.le_of_ble_eq_true rfl) (by decide +kernel) z_o159 (by decide +kernel)
theorem dX5_order_59 : decode cX5_order 59 = .ok (.iload 5, 2) := z_row zl_cX5_order 59 132373 (Nat.le_of_ble_eq_true rfl) (by decide +kernel) z_o21 (by decide +kernel)
theorem dX5_order_61 : decode cX5_order 61 = .ok (.iconst (-1), 1) := z_row zl_cX5_order 61 40962 (Nat.le_of_ble_eq_true rfl) (by decide +kernel) z_o2 (by decide +kernel)
theorem dX5_order_62 : decode cX5_order 62 = .ok (.if_icmp .ne 8, 3) := z_row zl_cX5_order 62 524448 (Nat.le_of_ble_eq_true rfl) (by decide +kernel) z_o160 (by decide +kernel)
theorem dX5_order_65 : decode cX5_order 65 = .ok (.bipush (-9), 2) := z_row zl_cX5_order 65 11007760 (Nat.le_of_ble_eq_true rfl) (by decide +kernel) z_o16 (by decide +kernel)
theorem dX5_order_67 : decode cX5_order 67 = .ok (.goto 34, 3) := z_row zl_cX5_order 67 2228391 (Nat.le_of_ble_eq_true rfl) (by decide +kernel) z_o167 (by decide +kernel)
theorem dX5_order_70 : decode cX5_order 70 = .ok (.iload 4, 2) := z_row zl_cX5_order 70 1377301 (Nat.le_of_ble_eq_true rfl) (by decide +kernel) z_o21 (by decide +kernel)
theorem dX5_order_72 : decode cX5_order 72 = .ok (.iload 5, 2) := z_row zl_cX5_order 72 10749205 (Nat.le_of_ble_eq_true rfl) (by decide +kernel) z_o21 (by decide +kernel)
theorem dX5_order_74 : decode cX5_order 74 = .ok (.if_icmp .le 7, 3) := z_row zl_cX5_order 74 458916 (Nat.le_of_ble_eq_true rfl) (by decide +kernel) z_o164 (by decide +kernel)
theorem dX5_order_77 : decode cX5_order 77 = .ok (.iconst 1, 1) := z_row zl_cX5_order 77 42756 (Nat.le_of_ble_eq_true rfl) (by decide +kernel) z_o4 (by decide +kernel)
theorem dX5_order_78 : decode cX5_order 78 = .ok (.goto 4, 3) := z_row zl_cX5_order 78 262311 (Nat.le_of_ble_eq_true rfl) (by decide +kernel) z_o167 (by decide +kernel)
theorem dX5_order_81 : decode cX5_order 81 = .ok (.iconst 0, 1) := z_row zl_cX5_order 81 47107 (Nat.le_of_ble_eq_true rfl) (by decide +kernel) z_o3 (by decide +kernel)
theorem dX5_order_82 : decode cX5_order 82 = .ok (.invokestatic 80, 3) := z_row zl_cX5_order 82 5243064 (Nat.le_of_ble_eq_true rfl) (by decide +kernel) z_o184 (by decide +kernel)
theorem dX5_order_85 : decode cX5_order 85 = .ok (.iload 4, 2) := z_row zl_cX5_order 85 1377301 (Nat.le_of_ble_eq_true rfl) (by decide +kernel) z_o21 (by decide +kernel)
theorem dX5_order_87 : decode cX5_order 87 = .ok (.iload 5, 2) := z_row zl_cX5_order 87 10618133 (Nat.le_of_ble_eq_true rfl) (by decide +kernel) z_o21 (by decide +kernel)
theorem dX5_order_89 : decode cX5_order 89 = .ok (.if_icmp .ge 7, 3) := z_row zl_cX5_order 89 458914 (Nat.le_of_ble_eq_true rfl) (by decide +kernel) z_o162 (by decide +kernel)
theorem dX5_order_92 : decode cX5_order 92 = .ok (.iconst 1, 1) := z_row zl_cX5_order 92 42756 (Nat.le_of_ble_eq_true rfl) (by decide +kernel) z_o4 (by decide +kernel)
theorem dX5_order_93 : decode cX5_order 93 = .ok (.goto 4, 3) := z_row zl_cX5_order 93 262311 (Nat.le_of_ble_eq_true rfl) (by decide +kernel) z_o167 (by decide +kernel)
theorem dX5_order_96 : decode cX5_order 96 = .ok (.iconst 0, 1) := z_row zl_cX5_order 96 47107 (Nat.le_of_ble_eq_true rfl) (by decide +kernel) z_o3 (by decide +kernel)
theorem dX5_order_97 : decode cX5_order 97 = .ok (.invokestatic 80, 3) := z_row zl_cX5_order 97 5243064 (Nat.le_of_ble_eq_true rfl) (by decide +kernel) z_o184 (by decide +kernel)
set_option maxRecDepth 100000 in
theorem dX5_order_100 : decode cX5_order 100 = .ok (.isub, 1) := by decide +kernel
set_option maxRecDepth 100000 in
theorem dX5_order_101 : decode cX5_order 101 = .ok (.ireturn, 1) := by decide +kernel
set_option maxRecDepth 100000 in
theorem dX5_most_0 : decode cX5_most 0 = .ok (.aload_n 0, 1) := by decide +kernel
set_option maxRecDepth 100000 in
theorem dX5_most_1 : decode cX5_most 1 = .ok (.iload_n 1, 1) := by decide +kernel
set_option maxRecDepth 100000 in
theorem dX5_most_2 : decode cX5_most 2 = .ok (.invokestatic 129, 3) := by decide +kernel
set_option maxRecDepth 100000 in
theorem dX5_most_5 : decode cX5_most 5 = .ok (.iconst 1, 1) := by decide +kernel
set_option maxRecDepth 100000 in
theorem dX5_most_6 : decode cX5_most 6 = .ok (.invokevirtual 69, 3) := by decide +kernel
set_option maxRecDepth 100000 in
theorem dX5_most_9 : decode cX5_most 9 = .ok (.ifCond .eq 5, 3) := by decide +kernel
set_option maxRecDepth 100000 in
theorem dX5_most_12 : decode cX5_most 12 = .ok (.iconst 0, 1) := by decide +kernel
set_option maxRecDepth 100000 in
theorem dX5_most_13 : decode cX5_most 13 = .ok (.ireturn, 1) := by decide +kernel
set_option maxRecDepth 100000 in
theorem dX5_most_14 : decode cX5_most 14 = .ok (.aload_n 0, 1) := by decide +kernel
set_option maxRecDepth 100000 in
theorem dX5_most_15 : decode cX5_most 15 = .ok (.iload_n 1, 1) := by decide +kernel
set_option maxRecDepth 100000 in
theorem dX5_most_16 : decode cX5_most 16 = .ok (.invokevirtual 113, 3) := by decide +kernel
set_option maxRecDepth 100000 in
theorem dX5_most_19 : decode cX5_most 19 = .ok (.ifCond .eq 6, 3) := by decide +kernel
set_option maxRecDepth 100000 in
theorem dX5_most_22 : decode cX5_most 22 = .ok (.bipush (-9), 2) := by decide +kernel
def zN_cX5_most : Nat := 0xac1dbfffa7ff04843e04150600a12e1d321b1200b42a05151000a71600a32e1d321b1200b42a05151300991c2400991d2b009f02051505362e0415321b1200b42a42009e041504363400b62a3e03acf7100600997100b61b2aac030500994500b6048100b81b2a
set_option maxRecDepth 100000 in
theorem zl_cX5_most : cX5_most.data.toList = z_un 103 zN_cX5_most := eq_of_beq (by decide +kernel)
theorem dX5_most_24 : decode cX5_most 24 = .ok (.ireturn, 1) := z_row zl_cX5_most 24 4064172 (Nat.le_of_ble_eq_true rfl) (by decide +kernel) z_o172 (by decide +kernel)
theorem dX5_most_25 : decode cX5_most 25 = .ok (.iconst 0, 1) := z_row zl_cX5_most 25 2768387 (Nat.le_of_ble_eq_true rfl) (by decide +kernel) z_o3 (by decide +kernel)
theorem dX5_most_26 : decode cX5_most 26 = .ok (.istore_n 3, 1) := z_row zl_cX5_most 26 11938366 (Nat.le_of_ble_eq_true rfl) (by decide +kernel) z_o62 (by decide +kernel)
theorem dX5_most_27 : decode cX5_most 27 = .ok (.aload_n 0, 1) := z_row zl_cX5_most 27 46634 (Nat.le_of_ble_eq_true rfl) (by decide +kernel) z_o42 (by decide +kernel)
theorem dX5_most_28 : decode cX5_most 28 = .ok (.invokevirtual 52, 3) := z_row zl_cX5_most 28 3408054 (Nat.le_of_ble_eq_true rfl) (by decide +kernel) z_o182 (by decide +kernel)
theorem dX5_most_31 : decode cX5_most 31 = .ok (.istore 4, 2) := z_row zl_cX5_most 31 1377334 (Nat.le_of_ble_eq_true rfl) (by decide +kernel) z_o54 (by decide +kernel)
theorem dX5_most_33 : decode cX5_most 33 = .ok (.iload 4, 2) := z_row zl_cX5_most 33 10355733 (Nat.le_of_ble_eq_true rfl) (by decide +kernel) z_o21 (by decide +kernel)
theorem dX5_most_35 : decode cX5_most 35 = .ok (.ifCond .le 66, 3) := z_row zl_cX5_most 35 4325534 (Nat.le_of_ble_eq_true rfl) (by decide +kernel) z_o158 (by decide +kernel)
theorem dX5_most_38 : decode cX5_most 38 = .ok (.aload_n 0, 1) := z_row zl_cX5_most 38 46122 (Nat.le_of_ble_eq_true rfl) (by decide +kernel) z_o42 (by decide +kernel)
theorem dX5_most_39 : decode cX5_most 39 = .ok (.getfield 18, 3) := z_row zl_cX5_most 39 1179828 (Nat.le_of_ble_eq_true rfl) (by decide +kernel) z_o180 (by decide +kernel)
theorem dX5_most_42 : decode cX5_most 42 = .ok (.iload_n 1, 1) := z_row zl_cX5_most 42 1389083 (Nat.le_of_ble_eq_true rfl) (by decide +kernel) z_o27 (by decide +kernel)
theorem dX5_most_43 : decode cX5_most 43 = .ok (.aaload, 1) := z_row zl_cX5_most 43 267570 (Nat.le_of_ble_eq_true rfl) (by decide +kernel) z_o50 (by decide +kernel)
theorem dX5_most_44 : decode cX5_most 44 = .ok (.iload 4, 2) := z_row zl_cX5_most 44 3015701 (Nat.le_of_ble_eq_true rfl) (by decide +kernel) z_o21 (by decide +kernel)
theorem dX5_most_46 : decode cX5_most 46 = .ok (.iaload, 1) := z_row zl_cX5_most 46 341550 (Nat.le_of_ble_eq_true rfl) (by decide +kernel) z_o46 (by decide +kernel)
theorem dX5_most_47 : decode cX5_most 47 = .ok (.istore 5, 2) := z_row zl_cX5_most 47 1377590 (Nat.le_of_ble_eq_true rfl) (by decide +kernel) z_o54 (by decide +kernel)
theorem dX5_most_49 : decode cX5_most 49 = .ok (.iload 5, 2) := z_row zl_cX5_most 49 132373 (Nat.le_of_ble_eq_true rfl) (by decide +kernel) z_o21 (by decide +kernel)
theorem dX5_most_51 : decode cX5_most 51 = .ok (.iconst (-1), 1) := z_row zl_cX5_most 51 40706 (Nat.le_of_ble_eq_true rfl) (by decide +kernel) z_o2 (by decide +kernel)
theorem dX5_most_52 : decode cX5_most 52 = .ok (.if_icmp .eq 43, 3) := z_row zl_cX5_most 52 2818207 (Nat.le_of_ble_eq_true rfl) (by decide +kernel) z_o159 (by decide +kernel)
theorem dX5_most_55 : decode cX5_most 55 = .ok (.iload_n 3, 1) := z_row zl_cX5_most 55 39197 (Nat.le_of_ble_eq_true rfl) (by decide +kernel) z_o29 (by decide +kernel)
theorem dX5_most_56 : decode cX5_most 56 = .ok (.ifCond .eq 36, 3) := z_row zl_cX5_most 56 2359449 (Nat.le_of_ble_eq_true rfl) (by decide +kernel) z_o153 (by decide +kernel)
theorem dX5_most_59 : decode cX5_most 59 = .ok (.iload_n 2, 1) := z_row zl_cX5_most 59 39196 (Nat.le_of_ble_eq_true rfl) (by decide +kernel) z_o28 (by decide +kernel)
theorem dX5_most_60 : decode cX5_most 60 = .ok (.ifCond .eq 19, 3) := z_row zl_cX5_most 60 1245337 (Nat.le_of_ble_eq_true rfl) (by decide +kernel) z_o153 (by decide +kernel)
theorem dX5_most_63 : decode cX5_most 63 = .ok (.iload 5, 2) := z_row zl_cX5_most 63 2753813 (Nat.le_of_ble_eq_true rfl) (by decide +kernel) z_o21 (by decide +kernel)
theorem dX5_most_65 : decode cX5_most 65 = .ok (.aload_n 0, 1) := z_row zl_cX5_most 65 46122 (Nat.le_of_ble_eq_true rfl) (by decide +kernel) z_o42 (by decide +kernel)
theorem dX5_most_66 : decode cX5_most 66 = .ok (.getfield 18, 3) := z_row zl_cX5_most 66 1179828 (Nat.le_of_ble_eq_true rfl) (by decide +kernel) z_o180 (by decide +kernel)
theorem dX5_most_69 : decode cX5_most 69 = .ok (.iload_n 1, 1) := z_row zl_cX5_most 69 1913371 (Nat.le_of_ble_eq_true rfl) (by decide +kernel) z_o27 (by decide +kernel)
theorem dX5_most_70 : decode cX5_most 70 = .ok (.aaload, 1) := z_row zl_cX5_most 70 3022130 (Nat.le_of_ble_eq_true rfl) (by decide +kernel) z_o50 (by decide +kernel)
theorem dX5_most_71 : decode cX5_most 71 = .ok (.iload_n 3, 1) := z_row zl_cX5_most 71 10694173 (Nat.le_of_ble_eq_true rfl) (by decide +kernel) z_o29 (by decide +kernel)
theorem dX5_most_72 : decode cX5_most 72 = .ok (.iaload, 1) := z_row zl_cX5_most 72 41774 (Nat.le_of_ble_eq_true rfl) (by decide +kernel) z_o46 (by decide +kernel)
theorem dX5_most_73 : decode cX5_most 73 = .ok (.if_icmp .gt 22, 3) := z_row zl_cX5_most 73 1441955 (Nat.le_of_ble_eq_true rfl) (by decide +kernel) z_o163 (by decide +kernel)
theorem dX5_most_76 : decode cX5_most 76 = .ok (.goto 16, 3) := z_row zl_cX5_most 76 1048743 (Nat.le_of_ble_eq_true rfl) (by decide +kernel) z_o167 (by decide +kernel)
theorem dX5_most_79 : decode cX5_most 79 = .ok (.iload 5, 2) := z_row zl_cX5_most 79 2753813 (Nat.le_of_ble_eq_true rfl) (by decide +kernel) z_o21 (by decide +kernel)
theorem dX5_most_81 : decode cX5_most 81 = .ok (.aload_n 0, 1) := z_row zl_cX5_most 81 46122 (Nat.le_of_ble_eq_true rfl) (by decide +kernel) z_o42 (by decide +kernel)
theorem dX5_most_82 : decode cX5_most 82 = .ok (.getfield 18, 3) := z_row zl_cX5_most 82 1179828 (Nat.le_of_ble_eq_true rfl) (by decide +kernel) z_o180 (by decide +kernel)
theorem dX5_most_85 : decode cX5_most 85 = .ok (.iload_n 1, 1) := z_row zl_cX5_most 85 1913371 (Nat.le_of_ble_eq_true rfl) (by decide +kernel) z_o27 (by decide +kernel)
theorem dX5_most_86 : decode cX5_most 86 = .ok (.aaload, 1) := z_row zl_cX5_most 86 3022130 (Nat.le_of_ble_eq_true rfl) (by decide +kernel) z_o50 (by decide +kernel)
theorem dX5_most_87 : decode cX5_most 87 = .ok (.iload_n 3, 1) := z_row zl_cX5_most 87 10563101 (Nat.le_of_ble_eq_true rfl) (by decide +kernel) z_o29 (by decide +kernel)
theorem dX5_most_88 : decode cX5_most 88 = .ok (.iaload, 1) := z_row zl_cX5_most 88 41262 (Nat.le_of_ble_eq_true rfl) (by decide +kernel) z_o46 (by decide +kernel)
theorem dX5_most_89 : decode cX5_most 89 = .ok (.if_icmp .lt 6, 3) := z_row zl_cX5_most 89 393377 (Nat.le_of_ble_eq_true rfl) (by decide +kernel) z_o161 (by decide +kernel)
theorem dX5_most_92 : decode cX5_most 92 = .ok (.iload 4, 2) := z_row zl_cX5_most 92 4064277 (Nat.le_of_ble_eq_true rfl) (by decide +kernel) z_o21 (by decide +kernel)
theorem dX5_most_94 : decode cX5_most 94 = .ok (.istore_n 3, 1) := z_row zl_cX5_most 94 295998 (Nat.le_of_ble_eq_true rfl) (by decide +kernel) z_o62 (by decide +kernel)
theorem dX5_most_95 : decode cX5_most 95 = .ok (.iinc 4 (-1), 3) := z_row zl_cX5_most 95 16712836 (Nat.le_of_ble_eq_true rfl) (by decide +kernel) z_o132 (by decide +kernel)
theorem dX5_most_98 : decode cX5_most 98 = .ok (.goto (-65), 3) := z_row zl_cX5_most 98 12582823 (Nat.le_of_ble_eq_true rfl) (by decide +kernel) z_o167 (by decide +kernel)
set_option maxRecDepth 100000 in
theorem dX5_most_101 : decode cX5_most 101 = .ok (.iload_n 3, 1) := by decide +kernel
set_option maxRecDepth 100000 in
theorem dX5_most_102 : decode cX5_most 102 = .ok (.ireturn, 1) := by decide +kernel
set_option maxRecDepth 100000 in
theorem dX5_text_0 : decode cX5_text 0 = .ok (.aload_n 0, 1) := by decide +kernel
set_option maxRecDepth 100000 in
theorem dX5_text_1 : decode cX5_text 1 = .ok (.iload_n 1, 1) := by decide +kernel
set_option maxRecDepth 100000 in
theorem dX5_text_2 : decode cX5_text 2 = .ok (.invokestatic 129, 3) := by decide +kernel
set_option maxRecDepth 100000 in
theorem dX5_text_5 : decode cX5_text 5 = .ok (.iconst 1, 1) := by decide +kernel
set_option maxRecDepth 100000 in
theorem dX5_text_6 : decode cX5_text 6 = .ok (.invokevirtual 69, 3) := by decide +kernel
set_option maxRecDepth 100000 in
theorem dX5_text_9 : decode cX5_text 9 = .ok (.ifCond .ne 11, 3) := by decide +kernel
set_option maxRecDepth 100000 in
theorem dX5_text_12 : decode cX5_text 12 = .ok (.aload_n 0, 1) := by decide +kernel
set_option maxRecDepth 100000 in
theorem dX5_text_13 : decode cX5_text 13 = .ok (.iload_n 1, 1) := by decide +kernel
set_option maxRecDepth 100000 in
theorem dX5_text_14 : decode cX5_text 14 = .ok (.invokevirtual 113, 3) := by decide +kernel
set_option maxRecDepth 100000 in
theorem dX5_text_17 : decode cX5_text 17 = .ok (.ifCond .eq 6, 3) := by decide +kernel
set_option maxRecDepth 100000 in
theorem dX5_text_20 : decode cX5_text 20 = .ok (.ldc 200, 2) := by decide +kernel
set_option maxRecDepth 100000 in
theorem dX5_text_22 : decode cX5_text 22 = .ok (.areturn, 1) := by decide +kernel
set_option maxRecDepth 100000 in
theorem dX5_text_23 : decode cX5_text 23 = .ok (.new 202, 3) := by decide +kernel
def zN_cX5_text : Nat := 0xb0d400b62cc6ffa701038457d100b62e1d321b1200b42a2c1000a757cd00b62d102c0d00a0022e1d321b1200b42a57cd00b620102c0a00a4041d3800a33400b62a1d3e044dcc00b759ca00bbb0c8120600997100b61b2a0b009a4500b6048100b81b2a
set_option maxRecDepth 100000 in
theorem zl_cX5_text : cX5_text.data.toList = z_un 99 zN_cX5_text := eq_of_beq (by decide +kernel)
theorem dX5_text_26 : decode cX5_text 26 = .ok (.dup, 1) := z_row zl_cX5_text 26 46937 (Nat.le_of_ble_eq_true rfl) (by decide +kernel) z_o89 (by decide +kernel)
theorem dX5_text_27 : decode cX5_text 27 = .ok (.invokespecial 204, 3) := z_row zl_cX5_text 27 13369527 (Nat.le_of_ble_eq_true rfl) (by decide +kernel) z_o183 (by decide +kernel)
theorem dX5_text_30 : decode cX5_text 30 = .ok (.astore_n 2, 1) := z_row zl_cX5_text 30 4064333 (Nat.le_of_ble_eq_true rfl) (by decide +kernel) z_o77 (by decide +kernel)
theorem dX5_text_31 : decode cX5_text 31 = .ok (.iconst 1, 1) := z_row zl_cX5_text 31 1916420 (Nat.le_of_ble_eq_true rfl) (by decide +kernel) z_o4 (by decide +kernel)
theorem dX5_text_32 : decode cX5_text 32 = .ok (.istore_n 3, 1) := z_row zl_cX5_text 32 2759998 (Nat.le_of_ble_eq_true rfl) (by decide +kernel) z_o62 (by decide +kernel)
theorem dX5_text_33 : decode cX5_text 33 = .ok (.iload_n 3, 1) := z_row zl_cX5_text 33 11938333 (Nat.le_of_ble_eq_true rfl) (by decide +kernel) z_o29 (by decide +kernel)
theorem dX5_text_34 : decode cX5_text 34 = .ok (.aload_n 0, 1) := z_row zl_cX5_text 34 46634 (Nat.le_of_ble_eq_true rfl) (by decide +kernel) z_o42 (by decide +kernel)
theorem dX5_text_35 : decode cX5_text 35 = .ok (.invokevirtual 52, 3) := z_row zl_cX5_text 35 3408054 (Nat.le_of_ble_eq_true rfl) (by decide +kernel) z_o182 (by decide +kernel)
theorem dX5_text_38 : decode cX5_text 38 = .ok (.if_icmp .gt 56, 3) := z_row zl_cX5_text 38 3670179 (Nat.le_of_ble_eq_true rfl) (by decide +kernel) z_o163 (by decide +kernel)
theorem dX5_text_41 : decode cX5_text 41 = .ok (.iload_n 3, 1) := z_row zl_cX5_text 41 10748957 (Nat.le_of_ble_eq_true rfl) (by decide +kernel) z_o29 (by decide +kernel)
theorem dX5_text_42 : decode cX5_text 42 = .ok (.iconst 1, 1) := z_row zl_cX5_text 42 41988 (Nat.le_of_ble_eq_true rfl) (by decide +kernel) z_o4 (by decide +kernel)
theorem dX5_text_43 : decode cX5_text 43 = .ok (.if_icmp .le 10, 3) := z_row zl_cX5_text 43 655524 (Nat.le_of_ble_eq_true rfl) (by decide +kernel) z_o164 (by decide +kernel)
theorem dX5_text_46 : decode cX5_text 46 = .ok (.aload_n 2, 1) := z_row zl_cX5_text 46 2101292 (Nat.le_of_ble_eq_true rfl) (by decide +kernel) z_o44 (by decide +kernel)
theorem dX5_text_47 : decode cX5_text 47 = .ok (.bipush 32, 2) := z_row zl_cX5_text 47 11935760 (Nat.le_of_ble_eq_true rfl) (by decide +kernel) z_o16 (by decide +kernel)
theorem dX5_text_49 : decode cX5_text 49 = .ok (.invokevirtual 205, 3) := z_row zl_cX5_text 49 13435062 (Nat.le_of_ble_eq_true rfl) (by decide +kernel) z_o182 (by decide +kernel)
theorem dX5_text_52 : decode cX5_text 52 = .ok (.pop, 1) := z_row zl_cX5_text 52 11807319 (Nat.le_of_ble_eq_true rfl) (by decide +kernel) z_o87 (by decide +kernel)
theorem dX5_text_53 : decode cX5_text 53 = .ok (.aload_n 0, 1) := z_row zl_cX5_text 53 46122 (Nat.le_of_ble_eq_true rfl) (by decide +kernel) z_o42 (by decide +kernel)
theorem dX5_text_54 : decode cX5_text 54 = .ok (.getfield 18, 3) := z_row zl_cX5_text 54 1179828 (Nat.le_of_ble_eq_true rfl) (by decide +kernel) z_o180 (by decide +kernel)
theorem dX5_text_57 : decode cX5_text 57 = .ok (.iload_n 1, 1) := z_row zl_cX5_text 57 1913371 (Nat.le_of_ble_eq_true rfl) (by decide +kernel) z_o27 (by decide +kernel)
theorem dX5_text_58 : decode cX5_text 58 = .ok (.aaload, 1) := z_row zl_cX5_text 58 3022130 (Nat.le_of_ble_eq_true rfl) (by decide +kernel) z_o50 (by decide +kernel)
theorem dX5_text_59 : decode cX5_text 59 = .ok (.iload_n 3, 1) := z_row zl_cX5_text 59 142877 (Nat.le_of_ble_eq_true rfl) (by decide +kernel) z_o29 (by decide +kernel)
theorem dX5_text_60 : decode cX5_text 60 = .ok (.iaload, 1) := z_row zl_cX5_text 60 10486318 (Nat.le_of_ble_eq_true rfl) (by decide +kernel) z_o46 (by decide +kernel)
theorem dX5_text_61 : decode cX5_text 61 = .ok (.iconst (-1), 1) := z_row zl_cX5_text 61 40962 (Nat.le_of_ble_eq_true rfl) (by decide +kernel) z_o2 (by decide +kernel)
theorem dX5_text_62 : decode cX5_text 62 = .ok (.if_icmp .ne 13, 3) := z_row zl_cX5_text 62 852128 (Nat.le_of_ble_eq_true rfl) (by decide +kernel) z_o160 (by decide +kernel)
theorem dX5_text_65 : decode cX5_text 65 = .ok (.aload_n 2, 1) := z_row zl_cX5_text 65 2953260 (Nat.le_of_ble_eq_true rfl) (by decide +kernel) z_o44 (by decide +kernel)
theorem dX5_text_66 : decode cX5_text 66 = .ok (.bipush 45, 2) := z_row zl_cX5_text 66 11939088 (Nat.le_of_ble_eq_true rfl) (by decide +kernel) z_o16 (by decide +kernel)
theorem dX5_text_68 : decode cX5_text 68 = .ok (.invokevirtual 205, 3) := z_row zl_cX5_text 68 13435062 (Nat.le_of_ble_eq_true rfl) (by decide +kernel) z_o182 (by decide +kernel)
theorem dX5_text_71 : decode cX5_text 71 = .ok (.pop, 1) := z_row zl_cX5_text 71 42839 (Nat.le_of_ble_eq_true rfl) (by decide +kernel) z_o87 (by decide +kernel)
theorem dX5_text_72 : decode cX5_text 72 = .ok (.goto 16, 3) := z_row zl_cX5_text 72 1048743 (Nat.le_of_ble_eq_true rfl) (by decide +kernel) z_o167 (by decide +kernel)
theorem dX5_text_75 : decode cX5_text 75 = .ok (.aload_n 2, 1) := z_row zl_cX5_text 75 11807276 (Nat.le_of_ble_eq_true rfl) (by decide +kernel) z_o44 (by decide +kernel)
theorem dX5_text_76 : decode cX5_text 76 = .ok (.aload_n 0, 1) := z_row zl_cX5_text 76 46122 (Nat.le_of_ble_eq_true rfl) (by decide +kernel) z_o42 (by decide +kernel)
theorem dX5_text_77 : decode cX5_text 77 = .ok (.getfield 18, 3) := z_row zl_cX5_text 77 1179828 (Nat.le_of_ble_eq_true rfl) (by decide +kernel) z_o180 (by decide +kernel)
theorem dX5_text_80 : decode cX5_text 80 = .ok (.iload_n 1, 1) := z_row zl_cX5_text 80 1913371 (Nat.le_of_ble_eq_true rfl) (by decide +kernel) z_o27 (by decide +kernel)
theorem dX5_text_81 : decode cX5_text 81 = .ok (.aaload, 1) := z_row zl_cX5_text 81 3022130 (Nat.le_of_ble_eq_true rfl) (by decide +kernel) z_o50 (by decide +kernel)
theorem dX5_text_82 : decode cX5_text 82 = .ok (.iload_n 3, 1) := z_row zl_cX5_text 82 11939357 (Nat.le_of_ble_eq_true rfl) (by decide +kernel) z_o29 (by decide +kernel)
theorem dX5_text_83 : decode cX5_text 83 = .ok (.iaload, 1) := z_row zl_cX5_text 83 46638 (Nat.le_of_ble_eq_true rfl) (by decide +kernel) z_o46 (by decide +kernel)
theorem dX5_text_84 : decode cX5_text 84 = .ok (.invokevirtual 209, 3) := z_row zl_cX5_text 84 13697206 (Nat.le_of_ble_eq_true rfl) (by decide +kernel) z_o182 (by decide +kernel)
theorem dX5_text_87 : decode cX5_text 87 = .ok (.pop, 1) := z_row zl_cX5_text 87 230487 (Nat.le_of_ble_eq_true rfl) (by decide +kernel) z_o87 (by decide +kernel)
theorem dX5_text_88 : decode cX5_text 88 = .ok (.iinc 3 1, 3) := z_row zl_cX5_text 88 66436 (Nat.le_of_ble_eq_true rfl) (by decide +kernel) z_o132 (by decide +kernel)
theorem dX5_text_91 : decode cX5_text 91 = .ok (.goto (-58), 3) := z_row zl_cX5_text 91 13041575 (Nat.le_of_ble_eq_true rfl) (by decide +kernel) z_o167 (by decide +kernel)
theorem dX5_text_94 : decode cX5_text 94 = .ok (.aload_n 2, 1) := z_row zl_cX5_text 94 46636 (Nat.le_of_ble_eq_true rfl) (by decide +kernel) z_o44 (by decide +kernel)
theorem dX5_text_95 : decode cX5_text 95 = .ok (.invokevirtual 212, 3) := z_row zl_cX5_text 95 13893814 (Nat.le_of_ble_eq_true rfl) (by decide +kernel) z_o182 (by decide +kernel)
set_option maxRecDepth 100000 in
theorem dX5_text_98 : decode cX5_text 98 = .ok (.areturn, 1) := by decide +kernel
set_option maxRecDepth 100000 in
theorem dX5_seals_0 : decode cX5_seals 0 = .ok (.aload_n 0, 1) := by decide +kernel
set_option maxRecDepth 100000 in
theorem dX5_seals_1 : decode cX5_seals 1 = .ok (.iload_n 1, 1) := by decide +kernel
set_option maxRecDepth 100000 in
theorem dX5_seals_2 : decode cX5_seals 2 = .ok (.invokestatic 129, 3) := by decide +kernel
set_option maxRecDepth 100000 in
theorem dX5_seals_5 : decode cX5_seals 5 = .ok (.iconst 1, 1) := by decide +kernel
set_option maxRecDepth 100000 in
theorem dX5_seals_6 : decode cX5_seals 6 = .ok (.invokevirtual 69, 3) := by decide +kernel
set_option maxRecDepth 100000 in
theorem dX5_seals_9 : decode cX5_seals 9 = .ok (.ifCond .ne 12, 3) := by decide +kernel
set_option maxRecDepth 100000 in
theorem dX5_seals_12 : decode cX5_seals 12 = .ok (.aload_n 0, 1) := by decide +kernel
set_option maxRecDepth 100000 in
theorem dX5_seals_13 : decode cX5_seals 13 = .ok (.getfield 22, 3) := by decide +kernel
set_option maxRecDepth 100000 in
theorem dX5_seals_16 : decode cX5_seals 16 = .ok (.iload_n 1, 1) := by decide +kernel
set_option maxRecDepth 100000 in
theorem dX5_seals_17 : decode cX5_seals 17 = .ok (.aaload, 1) := by decide +kernel
set_option maxRecDepth 100000 in
theorem dX5_seals_18 : decode cX5_seals 18 = .ok (.ifnonnull 6, 3) := by decide +kernel
set_option maxRecDepth 100000 in
theorem dX5_seals_21 : decode cX5_seals 21 = .ok (.ldc 200, 2) := by decide +kernel
set_option maxRecDepth 100000 in
theorem dX5_seals_23 : decode cX5_seals 23 = .ok (.areturn, 1) := by decide +kernel
def zN_cX5_seals : Nat := 0xb0d400b62cdcffa701038457d100b6c200b61d1b2a2c57cd00b620102c0a009e1d1f00a2be321b1600b42a1d3e034dcc00b759ca00bbb0c8120600c7321b1600b42a0c009a4500b6048100b81b2a
set_option maxRecDepth 100000 in
theorem zl_cX5_seals : cX5_seals.data.toList = z_un 78 zN_cX5_seals := eq_of_beq (by decide +kernel)
theorem dX5_seals_24 : decode cX5_seals 24 = .ok (.new 202, 3) := z_row zl_cX5_seals 24 13238459 (Nat.le_of_ble_eq_true rfl) (by decide +kernel) z_o187 (by decide +kernel)
theorem dX5_seals_27 : decode cX5_seals 27 = .ok (.dup, 1) := z_row zl_cX5_seals 27 46937 (Nat.le_of_ble_eq_true rfl) (by decide +kernel) z_o89 (by decide +kernel)
theorem dX5_seals_28 : decode cX5_seals 28 = .ok (.invokespecial 204, 3) := z_row zl_cX5_seals 28 13369527 (Nat.le_of_ble_eq_true rfl) (by decide +kernel) z_o183 (by decide +kernel)
theorem dX5_seals_31 : decode cX5_seals 31 = .ok (.astore_n 2, 1) := z_row zl_cX5_seals 31 4064077 (Nat.le_of_ble_eq_true rfl) (by decide +kernel) z_o77 (by decide +kernel)
theorem dX5_seals_32 : decode cX5_seals 32 = .ok (.iconst 0, 1) := z_row zl_cX5_seals 32 1916419 (Nat.le_of_ble_eq_true rfl) (by decide +kernel) z_o3 (by decide +kernel)
theorem dX5_seals_33 : decode cX5_seals 33 = .ok (.istore_n 3, 1) := z_row zl_cX5_seals 33 2759998 (Nat.le_of_ble_eq_true rfl) (by decide +kernel) z_o62 (by decide +kernel)
theorem dX5_seals_34 : decode cX5_seals 34 = .ok (.iload_n 3, 1) := z_row zl_cX5_seals 34 11807261 (Nat.le_of_ble_eq_true rfl) (by decide +kernel) z_o29 (by decide +kernel)
theorem dX5_seals_35 : decode cX5_seals 35 = .ok (.aload_n 0, 1) := z_row zl_cX5_seals 35 46122 (Nat.le_of_ble_eq_true rfl) (by decide +kernel) z_o42 (by decide +kernel)
theorem dX5_seals_36 : decode cX5_seals 36 = .ok (.getfield 22, 3) := z_row zl_cX5_seals 36 1441972 (Nat.le_of_ble_eq_true rfl) (by decide +kernel) z_o180 (by decide +kernel)
theorem dX5_seals_39 : decode cX5_seals 39 = .ok (.iload_n 1, 1) := z_row zl_cX5_seals 39 12464667 (Nat.le_of_ble_eq_true rfl) (by decide +kernel) z_o27 (by decide +kernel)
theorem dX5_seals_40 : decode cX5_seals 40 = .ok (.aaload, 1) := z_row zl_cX5_seals 40 10665522 (Nat.le_of_ble_eq_true rfl) (by decide +kernel) z_o50 (by decide +kernel)
theorem dX5_seals_41 : decode cX5_seals 41 = .ok (.arraylength, 1) := z_row zl_cX5_seals 41 41662 (Nat.le_of_ble_eq_true rfl) (by decide +kernel) z_o190 (by decide +kernel)
theorem dX5_seals_42 : decode cX5_seals 42 = .ok (.if_icmp .ge 31, 3) := z_row zl_cX5_seals 42 2031778 (Nat.le_of_ble_eq_true rfl) (by decide +kernel) z_o162 (by decide +kernel)
theorem dX5_seals_45 : decode cX5_seals 45 = .ok (.iload_n 3, 1) := z_row zl_cX5_seals 45 40477 (Nat.le_of_ble_eq_true rfl) (by decide +kernel) z_o29 (by decide +kernel)
theorem dX5_seals_46 : decode cX5_seals 46 = .ok (.ifCond .le 10, 3) := z_row zl_cX5_seals 46 655518 (Nat.le_of_ble_eq_true rfl) (by decide +kernel) z_o158 (by decide +kernel)
theorem dX5_seals_49 : decode cX5_seals 49 = .ok (.aload_n 2, 1) := z_row zl_cX5_seals 49 2101292 (Nat.le_of_ble_eq_true rfl) (by decide +kernel) z_o44 (by decide +kernel)
theorem dX5_seals_50 : decode cX5_seals 50 = .ok (.bipush 32, 2) := z_row zl_cX5_seals 50 11935760 (Nat.le_of_ble_eq_true rfl) (by decide +kernel) z_o16 (by decide +kernel)
theorem dX5_seals_52 : decode cX5_seals 52 = .ok (.invokevirtual 205, 3) := z_row zl_cX5_seals 52 13435062 (Nat.le_of_ble_eq_true rfl) (by decide +kernel) z_o182 (by decide +kernel)
theorem dX5_seals_55 : decode cX5_seals 55 = .ok (.pop, 1) := z_row zl_cX5_seals 55 2763863 (Nat.le_of_ble_eq_true rfl) (by decide +kernel) z_o87 (by decide +kernel)
theorem dX5_seals_56 : decode cX5_seals 56 = .ok (.aload_n 2, 1) := z_row zl_cX5_seals 56 1780268 (Nat.le_of_ble_eq_true rfl) (by decide +kernel) z_o44 (by decide +kernel)
theorem dX5_seals_57 : decode cX5_seals 57 = .ok (.aload_n 0, 1) := z_row zl_cX5_seals 57 1907498 (Nat.le_of_ble_eq_true rfl) (by decide +kernel) z_o42 (by decide +kernel)
theorem dX5_seals_58 : decode cX5_seals 58 = .ok (.iload_n 1, 1) := z_row zl_cX5_seals 58 11935003 (Nat.le_of_ble_eq_true rfl) (by decide +kernel) z_o27 (by decide +kernel)
theorem dX5_seals_59 : decode cX5_seals 59 = .ok (.iload_n 3, 1) := z_row zl_cX5_seals 59 46621 (Nat.le_of_ble_eq_true rfl) (by decide +kernel) z_o29 (by decide +kernel)
theorem dX5_seals_60 : decode cX5_seals 60 = .ok (.invokevirtual 194, 3) := z_row zl_cX5_seals 60 12714166 (Nat.le_of_ble_eq_true rfl) (by decide +kernel) z_o182 (by decide +kernel)
theorem dX5_seals_63 : decode cX5_seals 63 = .ok (.invokevirtual 209, 3) := z_row zl_cX5_seals 63 13697206 (Nat.le_of_ble_eq_true rfl) (by decide +kernel) z_o182 (by decide +kernel)
theorem dX5_seals_66 : decode cX5_seals 66 = .ok (.pop, 1) := z_row zl_cX5_seals 66 230487 (Nat.le_of_ble_eq_true rfl) (by decide +kernel) z_o87 (by decide +kernel)
theorem dX5_seals_67 : decode cX5_seals 67 = .ok (.iinc 3 1, 3) := z_row zl_cX5_seals 67 66436 (Nat.le_of_ble_eq_true rfl) (by decide +kernel) z_o132 (by decide +kernel)
theorem dX5_seals_70 : decode cX5_seals 70 = .ok (.goto (-36), 3) := z_row zl_cX5_seals 70 14483367 (Nat.le_of_ble_eq_true rfl) (by decide +kernel) z_o167 (by decide +kernel)
theorem dX5_seals_73 : decode cX5_seals 73 = .ok (.aload_n 2, 1) := z_row zl_cX5_seals 73 46636 (Nat.le_of_ble_eq_true rfl) (by decide +kernel) z_o44 (by decide +kernel)
theorem dX5_seals_74 : decode cX5_seals 74 = .ok (.invokevirtual 212, 3) := z_row zl_cX5_seals 74 13893814 (Nat.le_of_ble_eq_true rfl) (by decide +kernel) z_o182 (by decide +kernel)
set_option maxRecDepth 100000 in
theorem dX5_seals_77 : decode cX5_seals 77 = .ok (.areturn, 1) := by decide +kernel
set_option maxRecDepth 100000 in
theorem dX5_isSame_0 : decode cX5_isSame 0 = .ok (.aload_n 0, 1) := by decide +kernel
set_option maxRecDepth 100000 in
theorem dX5_isSame_1 : decode cX5_isSame 1 = .ok (.iload_n 1, 1) := by decide +kernel
set_option maxRecDepth 100000 in
theorem dX5_isSame_2 : decode cX5_isSame 2 = .ok (.invokestatic 129, 3) := by decide +kernel
set_option maxRecDepth 100000 in
theorem dX5_isSame_5 : decode cX5_isSame 5 = .ok (.ifCond .ne 10, 3) := by decide +kernel
set_option maxRecDepth 100000 in
theorem dX5_isSame_8 : decode cX5_isSame 8 = .ok (.iload_n 2, 1) := by decide +kernel
set_option maxRecDepth 100000 in
theorem dX5_isSame_9 : decode cX5_isSame 9 = .ok (.invokestatic 129, 3) := by decide +kernel
set_option maxRecDepth 100000 in
theorem dX5_isSame_12 : decode cX5_isSame 12 = .ok (.ifCond .eq 7, 3) := by decide +kernel
set_option maxRecDepth 100000 in
theorem dX5_isSame_15 : decode cX5_isSame 15 = .ok (.iconst 1, 1) := by decide +kernel
set_option maxRecDepth 100000 in
theorem dX5_isSame_16 : decode cX5_isSame 16 = .ok (.goto 4, 3) := by decide +kernel
set_option maxRecDepth 100000 in
theorem dX5_isSame_19 : decode cX5_isSame 19 = .ok (.iconst 0, 1) := by decide +kernel
set_option maxRecDepth 100000 in
theorem dX5_isSame_20 : decode cX5_isSame 20 = .ok (.iconst 1, 1) := by decide +kernel
set_option maxRecDepth 100000 in
theorem dX5_isSame_21 : decode cX5_isSame 21 = .ok (.invokevirtual 69, 3) := by decide +kernel
def zN_cX5_isSame : Nat := 0xac1ddbffa70104843e7e030400a7040700a0b400b604151c2ab400b604151b2a1d2200a33400b62a04150436043e030400a7040700a02e1c0d00b42a2e1b0d00b42aac030500994500b604030400a7040700998100b81c0a009a8100b81b2a
set_option maxRecDepth 100000 in
theorem zl_cX5_isSame : cX5_isSame.data.toList = z_un 95 zN_cX5_isSame := eq_of_beq (by decide +kernel)
theorem dX5_isSame_24 : decode cX5_isSame 24 = .ok (.ifCond .eq 5, 3) := z_row zl_cX5_isSame 24 327833 (Nat.le_of_ble_eq_true rfl) (by decide +kernel) z_o153 (by decide +kernel)
theorem dX5_isSame_27 : decode cX5_isSame 27 = .ok (.iconst 0, 1) := z_row zl_cX5_isSame 27 2796547 (Nat.le_of_ble_eq_true rfl) (by decide +kernel) z_o3 (by decide +kernel)
theorem dX5_isSame_28 : decode cX5_isSame 28 = .ok (.ireturn, 1) := z_row zl_cX5_isSame 28 11807404 (Nat.le_of_ble_eq_true rfl) (by decide +kernel) z_o172 (by decide +kernel)
theorem dX5_isSame_29 : decode cX5_isSame 29 = .ok (.aload_n 0, 1) := z_row zl_cX5_isSame 29 46122 (Nat.le_of_ble_eq_true rfl) (by decide +kernel) z_o42 (by decide +kernel)
theorem dX5_isSame_30 : decode cX5_isSame 30 = .ok (.getfield 13, 3) := z_row zl_cX5_isSame 30 852148 (Nat.le_of_ble_eq_true rfl) (by decide +kernel) z_o180 (by decide +kernel)
theorem dX5_isSame_33 : decode cX5_isSame 33 = .ok (.iload_n 1, 1) := z_row zl_cX5_isSame 33 2764315 (Nat.le_of_ble_eq_true rfl) (by decide +kernel) z_o27 (by decide +kernel)
theorem dX5_isSame_34 : decode cX5_isSame 34 = .ok (.iaload, 1) := z_row zl_cX5_isSame 34 11807278 (Nat.le_of_ble_eq_true rfl) (by decide +kernel) z_o46 (by decide +kernel)
theorem dX5_isSame_35 : decode cX5_isSame 35 = .ok (.aload_n 0, 1) := z_row zl_cX5_isSame 35 46122 (Nat.le_of_ble_eq_true rfl) (by decide +kernel) z_o42 (by decide +kernel)
theorem dX5_isSame_36 : decode cX5_isSame 36 = .ok (.getfield 13, 3) := z_row zl_cX5_isSame 36 852148 (Nat.le_of_ble_eq_true rfl) (by decide +kernel) z_o180 (by decide +kernel)
theorem dX5_isSame_39 : decode cX5_isSame 39 = .ok (.iload_n 2, 1) := z_row zl_cX5_isSame 39 10497564 (Nat.le_of_ble_eq_true rfl) (by decide +kernel) z_o28 (by decide +kernel)
theorem dX5_isSame_40 : decode cX5_isSame 40 = .ok (.iaload, 1) := z_row zl_cX5_isSame 40 41006 (Nat.le_of_ble_eq_true rfl) (by decide +kernel) z_o46 (by decide +kernel)
theorem dX5_isSame_41 : decode cX5_isSame 41 = .ok (.if_icmp .ne 7, 3) := z_row zl_cX5_isSame 41 458912 (Nat.le_of_ble_eq_true rfl) (by decide +kernel) z_o160 (by decide +kernel)
theorem dX5_isSame_44 : decode cX5_isSame 44 = .ok (.iconst 1, 1) := z_row zl_cX5_isSame 44 42756 (Nat.le_of_ble_eq_true rfl) (by decide +kernel) z_o4 (by decide +kernel)
theorem dX5_isSame_45 : decode cX5_isSame 45 = .ok (.goto 4, 3) := z_row zl_cX5_isSame 45 262311 (Nat.le_of_ble_eq_true rfl) (by decide +kernel) z_o167 (by decide +kernel)
theorem dX5_isSame_48 : decode cX5_isSame 48 = .ok (.iconst 0, 1) := z_row zl_cX5_isSame 48 278019 (Nat.le_of_ble_eq_true rfl) (by decide +kernel) z_o3 (by decide +kernel)
theorem dX5_isSame_49 : decode cX5_isSame 49 = .ok (.istore_n 3, 1) := z_row zl_cX5_isSame 49 3540030 (Nat.le_of_ble_eq_true rfl) (by decide +kernel) z_o62 (by decide +kernel)
theorem dX5_isSame_50 : decode cX5_isSame 50 = .ok (.iconst 1, 1) := z_row zl_cX5_isSame 50 275972 (Nat.le_of_ble_eq_true rfl) (by decide +kernel) z_o4 (by decide +kernel)
theorem dX5_isSame_51 : decode cX5_isSame 51 = .ok (.istore 4, 2) := z_row zl_cX5_isSame 51 1377334 (Nat.le_of_ble_eq_true rfl) (by decide +kernel) z_o54 (by decide +kernel)
theorem dX5_isSame_53 : decode cX5_isSame 53 = .ok (.iload 4, 2) := z_row zl_cX5_isSame 53 2753557 (Nat.le_of_ble_eq_true rfl) (by decide +kernel) z_o21 (by decide +kernel)
theorem dX5_isSame_55 : decode cX5_isSame 55 = .ok (.aload_n 0, 1) := z_row zl_cX5_isSame 55 46634 (Nat.le_of_ble_eq_true rfl) (by decide +kernel) z_o42 (by decide +kernel)
theorem dX5_isSame_56 : decode cX5_isSame 56 = .ok (.invokevirtual 52, 3) := z_row zl_cX5_isSame 56 3408054 (Nat.le_of_ble_eq_true rfl) (by decide +kernel) z_o182 (by decide +kernel)
theorem dX5_isSame_59 : decode cX5_isSame 59 = .ok (.if_icmp .gt 34, 3) := z_row zl_cX5_isSame 59 2228387 (Nat.le_of_ble_eq_true rfl) (by decide +kernel) z_o163 (by decide +kernel)
theorem dX5_isSame_62 : decode cX5_isSame 62 = .ok (.iload_n 3, 1) := z_row zl_cX5_isSame 62 1780253 (Nat.le_of_ble_eq_true rfl) (by decide +kernel) z_o29 (by decide +kernel)
theorem dX5_isSame_63 : decode cX5_isSame 63 = .ok (.aload_n 0, 1) := z_row zl_cX5_isSame 63 1383210 (Nat.le_of_ble_eq_true rfl) (by decide +kernel) z_o42 (by decide +kernel)
theorem dX5_isSame_64 : decode cX5_isSame 64 = .ok (.iload_n 1, 1) := z_row zl_cX5_isSame 64 267547 (Nat.le_of_ble_eq_true rfl) (by decide +kernel) z_o27 (by decide +kernel)
theorem dX5_isSame_65 : decode cX5_isSame 65 = .ok (.iload 4, 2) := z_row zl_cX5_isSame 65 11928597 (Nat.le_of_ble_eq_true rfl) (by decide +kernel) z_o21 (by decide +kernel)
theorem dX5_isSame_67 : decode cX5_isSame 67 = .ok (.invokevirtual 180, 3) := z_row zl_cX5_isSame 67 11796662 (Nat.le_of_ble_eq_true rfl) (by decide +kernel) z_o182 (by decide +kernel)
theorem dX5_isSame_70 : decode cX5_isSame 70 = .ok (.aload_n 0, 1) := z_row zl_cX5_isSame 70 1383466 (Nat.le_of_ble_eq_true rfl) (by decide +kernel) z_o42 (by decide +kernel)
theorem dX5_isSame_71 : decode cX5_isSame 71 = .ok (.iload_n 2, 1) := z_row zl_cX5_isSame 71 267548 (Nat.le_of_ble_eq_true rfl) (by decide +kernel) z_o28 (by decide +kernel)
theorem dX5_isSame_72 : decode cX5_isSame 72 = .ok (.iload 4, 2) := z_row zl_cX5_isSame 72 11928597 (Nat.le_of_ble_eq_true rfl) (by decide +kernel) z_o21 (by decide +kernel)
theorem dX5_isSame_74 : decode cX5_isSame 74 = .ok (.invokevirtual 180, 3) := z_row zl_cX5_isSame 74 11796662 (Nat.le_of_ble_eq_true rfl) (by decide +kernel) z_o182 (by decide +kernel)
theorem dX5_isSame_77 : decode cX5_isSame 77 = .ok (.if_icmp .ne 7, 3) := z_row zl_cX5_isSame 77 458912 (Nat.le_of_ble_eq_true rfl) (by decide +kernel) z_o160 (by decide +kernel)
theorem dX5_isSame_80 : decode cX5_isSame 80 = .ok (.iconst 1, 1) := z_row zl_cX5_isSame 80 42756 (Nat.le_of_ble_eq_true rfl) (by decide +kernel) z_o4 (by decide +kernel)
theorem dX5_isSame_81 : decode cX5_isSame 81 = .ok (.goto 4, 3) := z_row zl_cX5_isSame 81 262311 (Nat.le_of_ble_eq_true rfl) (by decide +kernel) z_o167 (by decide +kernel)
theorem dX5_isSame_84 : decode cX5_isSame 84 = .ok (.iconst 0, 1) := z_row zl_cX5_isSame 84 4095491 (Nat.le_of_ble_eq_true rfl) (by decide +kernel) z_o3 (by decide +kernel)
theorem dX5_isSame_85 : decode cX5_isSame 85 = .ok (.iand, 1) := z_row zl_cX5_isSame 85 8666750 (Nat.le_of_ble_eq_true rfl) (by decide +kernel) z_o126 (by decide +kernel)
theorem dX5_isSame_86 : decode cX5_isSame 86 = .ok (.istore_n 3, 1) := z_row zl_cX5_isSame 86 295998 (Nat.le_of_ble_eq_true rfl) (by decide +kernel) z_o62 (by decide +kernel)
theorem dX5_isSame_87 : decode cX5_isSame 87 = .ok (.iinc 4 1, 3) := z_row zl_cX5_isSame 87 66692 (Nat.le_of_ble_eq_true rfl) (by decide +kernel) z_o132 (by decide +kernel)
theorem dX5_isSame_90 : decode cX5_isSame 90 = .ok (.goto (-37), 3) := z_row zl_cX5_isSame 90 14417831 (Nat.le_of_ble_eq_true rfl) (by decide +kernel) z_o167 (by decide +kernel)
set_option maxRecDepth 100000 in
theorem dX5_isSame_93 : decode cX5_isSame 93 = .ok (.iload_n 3, 1) := by decide +kernel
set_option maxRecDepth 100000 in
theorem dX5_isSame_94 : decode cX5_isSame 94 = .ok (.ireturn, 1) := by decide +kernel
set_option maxRecDepth 100000 in
theorem dX5_houseTold_0 : decode cX5_houseTold 0 = .ok (.iload_n 1, 1) := by decide +kernel
set_option maxRecDepth 100000 in
theorem dX5_houseTold_1 : decode cX5_houseTold 1 = .ok (.iconst 5, 1) := by decide +kernel
set_option maxRecDepth 100000 in
theorem dX5_houseTold_2 : decode cX5_houseTold 2 = .ok (.if_icmp .ne 40, 3) := by decide +kernel
set_option maxRecDepth 100000 in
theorem dX5_houseTold_5 : decode cX5_houseTold 5 = .ok (.iconst 0, 1) := by decide +kernel
set_option maxRecDepth 100000 in
theorem dX5_houseTold_6 : decode cX5_houseTold 6 = .ok (.istore_n 2, 1) := by decide +kernel
set_option maxRecDepth 100000 in
theorem dX5_houseTold_7 : decode cX5_houseTold 7 = .ok (.iconst 0, 1) := by decide +kernel
set_option maxRecDepth 100000 in
theorem dX5_houseTold_8 : decode cX5_houseTold 8 = .ok (.istore_n 3, 1) := by decide +kernel
set_option maxRecDepth 100000 in
theorem dX5_houseTold_9 : decode cX5_houseTold 9 = .ok (.iload_n 3, 1) := by decide +kernel
set_option maxRecDepth 100000 in
theorem dX5_houseTold_10 : decode cX5_houseTold 10 = .ok (.bipush 6, 2) := by decide +kernel
set_option maxRecDepth 100000 in
theorem dX5_houseTold_12 : decode cX5_houseTold 12 = .ok (.if_icmp .ge 28, 3) := by decide +kernel
set_option maxRecDepth 100000 in
theorem dX5_houseTold_15 : decode cX5_houseTold 15 = .ok (.iload_n 2, 1) := by decide +kernel
set_option maxRecDepth 100000 in
theorem dX5_houseTold_16 : decode cX5_houseTold 16 = .ok (.aload_n 0, 1) := by decide +kernel
set_option maxRecDepth 100000 in
theorem dX5_houseTold_17 : decode cX5_houseTold 17 = .ok (.iload_n 3, 1) := by decide +kernel
set_option maxRecDepth 100000 in
theorem dX5_houseTold_18 : decode cX5_houseTold 18 = .ok (.invokevirtual 113, 3) := by decide +kernel
set_option maxRecDepth 100000 in
theorem dX5_houseTold_21 : decode cX5_houseTold 21 = .ok (.ifCond .ne 7, 3) := by decide +kernel
def zN_cX5_houseTold : Nat := 0xacb100b42a0700a73400b62a0a00a0071b1300a72e0700b42a3b00b20e00a0061b2300a73e00b62a0a00a0051b2f00a72600b62a0a00a0041b3b00a70700b42a0a009a1bac1ce4ffa70103843d605000b8030400a70407009a7100b61d2a1c1c00a206101d3e033d032800a0081b
set_option maxRecDepth 100000 in
theorem zl_cX5_houseTold : cX5_houseTold.data.toList = z_un 110 zN_cX5_houseTold := eq_of_beq (by decide +kernel)
theorem dX5_houseTold_24 : decode cX5_houseTold 24 = .ok (.iconst 1, 1) := z_row zl_cX5_houseTold 24 42756 (Nat.le_of_ble_eq_true rfl) (by decide +kernel) z_o4 (by decide +kernel)
theorem dX5_houseTold_25 : decode cX5_houseTold 25 = .ok (.goto 4, 3) := z_row zl_cX5_houseTold 25 262311 (Nat.le_of_ble_eq_true rfl) (by decide +kernel) z_o167 (by decide +kernel)
theorem dX5_houseTold_28 : decode cX5_houseTold 28 = .ok (.iconst 0, 1) := z_row zl_cX5_houseTold 28 47107 (Nat.le_of_ble_eq_true rfl) (by decide +kernel) z_o3 (by decide +kernel)
theorem dX5_houseTold_29 : decode cX5_houseTold 29 = .ok (.invokestatic 80, 3) := z_row zl_cX5_houseTold 29 5243064 (Nat.le_of_ble_eq_true rfl) (by decide +kernel) z_o184 (by decide +kernel)
theorem dX5_houseTold_32 : decode cX5_houseTold 32 = .ok (.iadd, 1) := z_row zl_cX5_houseTold 32 8666464 (Nat.le_of_ble_eq_true rfl) (by decide +kernel) z_o96 (by decide +kernel)
theorem dX5_houseTold_33 : decode cX5_houseTold 33 = .ok (.istore_n 2, 1) := z_row zl_cX5_houseTold 33 230461 (Nat.le_of_ble_eq_true rfl) (by decide +kernel) z_o61 (by decide +kernel)
theorem dX5_houseTold_34 : decode cX5_houseTold 34 = .ok (.iinc 3 1, 3) := z_row zl_cX5_houseTold 34 66436 (Nat.le_of_ble_eq_true rfl) (by decide +kernel) z_o132 (by decide +kernel)
theorem dX5_houseTold_37 : decode cX5_houseTold 37 = .ok (.goto (-28), 3) := z_row zl_cX5_houseTold 37 15007655 (Nat.le_of_ble_eq_true rfl) (by decide +kernel) z_o167 (by decide +kernel)
theorem dX5_houseTold_40 : decode cX5_houseTold 40 = .ok (.iload_n 2, 1) := z_row zl_cX5_houseTold 40 1813532 (Nat.le_of_ble_eq_true rfl) (by decide +kernel) z_o28 (by decide +kernel)
theorem dX5_houseTold_41 : decode cX5_houseTold 41 = .ok (.ireturn, 1) := z_row zl_cX5_houseTold 41 10099628 (Nat.le_of_ble_eq_true rfl) (by decide +kernel) z_o172 (by decide +kernel)
theorem dX5_houseTold_42 : decode cX5_houseTold 42 = .ok (.iload_n 1, 1) := z_row zl_cX5_houseTold 42 39451 (Nat.le_of_ble_eq_true rfl) (by decide +kernel) z_o27 (by decide +kernel)
theorem dX5_houseTold_43 : decode cX5_houseTold 43 = .ok (.ifCond .ne 10, 3) := z_row zl_cX5_houseTold 43 655514 (Nat.le_of_ble_eq_true rfl) (by decide +kernel) z_o154 (by decide +kernel)
theorem dX5_houseTold_46 : decode cX5_houseTold 46 = .ok (.aload_n 0, 1) := z_row zl_cX5_houseTold 46 46122 (Nat.le_of_ble_eq_true rfl) (by decide +kernel) z_o42 (by decide +kernel)
theorem dX5_houseTold_47 : decode cX5_houseTold 47 = .ok (.getfield 7, 3) := z_row zl_cX5_houseTold 47 458932 (Nat.le_of_ble_eq_true rfl) (by decide +kernel) z_o180 (by decide +kernel)
theorem dX5_houseTold_50 : decode cX5_houseTold 50 = .ok (.goto 59, 3) := z_row zl_cX5_houseTold 50 3866791 (Nat.le_of_ble_eq_true rfl) (by decide +kernel) z_o167 (by decide +kernel)
theorem dX5_houseTold_53 : decode cX5_houseTold 53 = .ok (.iload_n 1, 1) := z_row zl_cX5_houseTold 53 10486811 (Nat.le_of_ble_eq_true rfl) (by decide +kernel) z_o27 (by decide +kernel)
theorem dX5_houseTold_54 : decode cX5_houseTold 54 = .ok (.iconst 1, 1) := z_row zl_cX5_houseTold 54 40964 (Nat.le_of_ble_eq_true rfl) (by decide +kernel) z_o4 (by decide +kernel)
theorem dX5_houseTold_55 : decode cX5_houseTold 55 = .ok (.if_icmp .ne 10, 3) := z_row zl_cX5_houseTold 55 655520 (Nat.le_of_ble_eq_true rfl) (by decide +kernel) z_o160 (by decide +kernel)
theorem dX5_houseTold_58 : decode cX5_houseTold 58 = .ok (.aload_n 0, 1) := z_row zl_cX5_houseTold 58 46634 (Nat.le_of_ble_eq_true rfl) (by decide +kernel) z_o42 (by decide +kernel)
theorem dX5_houseTold_59 : decode cX5_houseTold 59 = .ok (.invokevirtual 38, 3) := z_row zl_cX5_houseTold 59 2490550 (Nat.le_of_ble_eq_true rfl) (by decide +kernel) z_o182 (by decide +kernel)
theorem dX5_houseTold_62 : decode cX5_houseTold 62 = .ok (.goto 47, 3) := z_row zl_cX5_houseTold 62 3080359 (Nat.le_of_ble_eq_true rfl) (by decide +kernel) z_o167 (by decide +kernel)
theorem dX5_houseTold_65 : decode cX5_houseTold 65 = .ok (.iload_n 1, 1) := z_row zl_cX5_houseTold 65 10487067 (Nat.le_of_ble_eq_true rfl) (by decide +kernel) z_o27 (by decide +kernel)
theorem dX5_houseTold_66 : decode cX5_houseTold 66 = .ok (.iconst 2, 1) := z_row zl_cX5_houseTold 66 40965 (Nat.le_of_ble_eq_true rfl) (by decide +kernel) z_o5 (by decide +kernel)
theorem dX5_houseTold_67 : decode cX5_houseTold 67 = .ok (.if_icmp .ne 10, 3) := z_row zl_cX5_houseTold 67 655520 (Nat.le_of_ble_eq_true rfl) (by decide +kernel) z_o160 (by decide +kernel)
theorem dX5_houseTold_70 : decode cX5_houseTold 70 = .ok (.aload_n 0, 1) := z_row zl_cX5_houseTold 70 46634 (Nat.le_of_ble_eq_true rfl) (by decide +kernel) z_o42 (by decide +kernel)
theorem dX5_houseTold_71 : decode cX5_houseTold 71 = .ok (.invokevirtual 62, 3) := z_row zl_cX5_houseTold 71 4063414 (Nat.le_of_ble_eq_true rfl) (by decide +kernel) z_o182 (by decide +kernel)
theorem dX5_houseTold_74 : decode cX5_houseTold 74 = .ok (.goto 35, 3) := z_row zl_cX5_houseTold 74 2293927 (Nat.le_of_ble_eq_true rfl) (by decide +kernel) z_o167 (by decide +kernel)
theorem dX5_houseTold_77 : decode cX5_houseTold 77 = .ok (.iload_n 1, 1) := z_row zl_cX5_houseTold 77 10487323 (Nat.le_of_ble_eq_true rfl) (by decide +kernel) z_o27 (by decide +kernel)
theorem dX5_houseTold_78 : decode cX5_houseTold 78 = .ok (.iconst 3, 1) := z_row zl_cX5_houseTold 78 40966 (Nat.le_of_ble_eq_true rfl) (by decide +kernel) z_o6 (by decide +kernel)
theorem dX5_houseTold_79 : decode cX5_houseTold 79 = .ok (.if_icmp .ne 14, 3) := z_row zl_cX5_houseTold 79 917664 (Nat.le_of_ble_eq_true rfl) (by decide +kernel) z_o160 (by decide +kernel)
theorem dX5_houseTold_82 : decode cX5_houseTold 82 = .ok (.getstatic 59, 3) := z_row zl_cX5_houseTold 82 3866802 (Nat.le_of_ble_eq_true rfl) (by decide +kernel) z_o178 (by decide +kernel)
theorem dX5_houseTold_85 : decode cX5_houseTold 85 = .ok (.aload_n 0, 1) := z_row zl_cX5_houseTold 85 46122 (Nat.le_of_ble_eq_true rfl) (by decide +kernel) z_o42 (by decide +kernel)
theorem dX5_houseTold_86 : decode cX5_houseTold 86 = .ok (.getfield 7, 3) := z_row zl_cX5_houseTold 86 458932 (Nat.le_of_ble_eq_true rfl) (by decide +kernel) z_o180 (by decide +kernel)
theorem dX5_houseTold_89 : decode cX5_houseTold 89 = .ok (.iaload, 1) := z_row zl_cX5_houseTold 89 42798 (Nat.le_of_ble_eq_true rfl) (by decide +kernel) z_o46 (by decide +kernel)
theorem dX5_houseTold_90 : decode cX5_houseTold 90 = .ok (.goto 19, 3) := z_row zl_cX5_houseTold 90 1245351 (Nat.le_of_ble_eq_true rfl) (by decide +kernel) z_o167 (by decide +kernel)
theorem dX5_houseTold_93 : decode cX5_houseTold 93 = .ok (.iload_n 1, 1) := z_row zl_cX5_houseTold 93 10487579 (Nat.le_of_ble_eq_true rfl) (by decide +kernel) z_o27 (by decide +kernel)
theorem dX5_houseTold_94 : decode cX5_houseTold 94 = .ok (.iconst 4, 1) := z_row zl_cX5_houseTold 94 40967 (Nat.le_of_ble_eq_true rfl) (by decide +kernel) z_o7 (by decide +kernel)
theorem dX5_houseTold_95 : decode cX5_houseTold 95 = .ok (.if_icmp .ne 10, 3) := z_row zl_cX5_houseTold 95 655520 (Nat.le_of_ble_eq_true rfl) (by decide +kernel) z_o160 (by decide +kernel)
theorem dX5_houseTold_98 : decode cX5_houseTold 98 = .ok (.aload_n 0, 1) := z_row zl_cX5_houseTold 98 46634 (Nat.le_of_ble_eq_true rfl) (by decide +kernel) z_o42 (by decide +kernel)
theorem dX5_houseTold_99 : decode cX5_houseTold 99 = .ok (.invokevirtual 52, 3) := z_row zl_cX5_houseTold 99 3408054 (Nat.le_of_ble_eq_true rfl) (by decide +kernel) z_o182 (by decide +kernel)
theorem dX5_houseTold_102 : decode cX5_houseTold 102 = .ok (.goto 7, 3) := z_row zl_cX5_houseTold 102 458919 (Nat.le_of_ble_eq_true rfl) (by decide +kernel) z_o167 (by decide +kernel)
theorem dX5_houseTold_105 : decode cX5_houseTold 105 = .ok (.aload_n 0, 1) := z_row zl_cX5_houseTold 105 46122 (Nat.le_of_ble_eq_true rfl) (by decide +kernel) z_o42 (by decide +kernel)
theorem dX5_houseTold_106 : decode cX5_houseTold 106 = .ok (.getfield 177, 3) := z_row zl_cX5_houseTold 106 11600052 (Nat.le_of_ble_eq_true rfl) (by decide +kernel) z_o180 (by decide +kernel)
set_option maxRecDepth 100000 in
theorem dX5_houseTold_109 : decode cX5_houseTold 109 = .ok (.ireturn, 1) := by decide +kernel
set_option maxRecDepth 100000 in
theorem dX5_house_0 : decode cX5_house 0 = .ok (.aload_n 0, 1) := by decide +kernel
set_option maxRecDepth 100000 in
theorem dX5_house_1 : decode cX5_house 1 = .ok (.iload_n 1, 1) := by decide +kernel
set_option maxRecDepth 100000 in
theorem dX5_house_2 : decode cX5_house 2 = .ok (.iconst 0, 1) := by decide +kernel
set_option maxRecDepth 100000 in
theorem dX5_house_3 : decode cX5_house 3 = .ok (.bipush 6, 2) := by decide +kernel
set_option maxRecDepth 100000 in
theorem dX5_house_5 : decode cX5_house 5 = .ok (.invokestatic 48, 3) := by decide +kernel
set_option maxRecDepth 100000 in
theorem dX5_house_8 : decode cX5_house 8 = .ok (.ifCond .ne 7, 3) := by decide +kernel
set_option maxRecDepth 100000 in
theorem dX5_house_11 : decode cX5_house 11 = .ok (.iconst 1, 1) := by decide +kernel
set_option maxRecDepth 100000 in
theorem dX5_house_12 : decode cX5_house 12 = .ok (.goto 4, 3) := by decide +kernel
set_option maxRecDepth 100000 in
theorem dX5_house_15 : decode cX5_house 15 = .ok (.iconst 0, 1) := by decide +kernel
set_option maxRecDepth 100000 in
theorem dX5_house_16 : decode cX5_house 16 = .ok (.iconst 1, 1) := by decide +kernel
set_option maxRecDepth 100000 in
theorem dX5_house_17 : decode cX5_house 17 = .ok (.invokevirtual 69, 3) := by decide +kernel
set_option maxRecDepth 100000 in
theorem dX5_house_20 : decode cX5_house 20 = .ok (.ifCond .eq 7, 3) := by decide +kernel
set_option maxRecDepth 100000 in
theorem dX5_house_23 : decode cX5_house 23 = .ok (.iconst 0, 1) := by decide +kernel
def zN_cX5_house : Nat := 0xacd800b61b2a0800a7030700994500b604030400a70407009a3000b80610031b2a
set_option maxRecDepth 100000 in
theorem zl_cX5_house : cX5_house.data.toList = z_un 33 zN_cX5_house := eq_of_beq (by decide +kernel)
theorem dX5_house_24 : decode cX5_house 24 = .ok (.goto 8, 3) := z_row zl_cX5_house 24 524455 (Nat.le_of_ble_eq_true rfl) (by decide +kernel) z_o167 (by decide +kernel)
theorem dX5_house_27 : decode cX5_house 27 = .ok (.aload_n 0, 1) := z_row zl_cX5_house 27 11934506 (Nat.le_of_ble_eq_true rfl) (by decide +kernel) z_o42 (by decide +kernel)
theorem dX5_house_28 : decode cX5_house 28 = .ok (.iload_n 1, 1) := z_row zl_cX5_house 28 46619 (Nat.le_of_ble_eq_true rfl) (by decide +kernel) z_o27 (by decide +kernel)
theorem dX5_house_29 : decode cX5_house 29 = .ok (.invokevirtual 216, 3) := z_row zl_cX5_house 29 14155958 (Nat.le_of_ble_eq_true rfl) (by decide +kernel) z_o182 (by decide +kernel)
set_option maxRecDepth 100000 in
theorem dX5_house_32 : decode cX5_house 32 = .ok (.ireturn, 1) := by decide +kernel
set_option maxRecDepth 100000 in
theorem dX5_isFirstSealed_0 : decode cX5_isFirstSealed 0 = .ok (.aload_n 0, 1) := by decide +kernel
set_option maxRecDepth 100000 in
theorem dX5_isFirstSealed_1 : decode cX5_isFirstSealed 1 = .ok (.iload_n 1, 1) := by decide +kernel
set_option maxRecDepth 100000 in
theorem dX5_isFirstSealed_2 : decode cX5_isFirstSealed 2 = .ok (.invokevirtual 183, 3) := by decide +kernel
set_option maxRecDepth 100000 in
theorem dX5_isFirstSealed_5 : decode cX5_isFirstSealed 5 = .ok (.istore_n 2, 1) := by decide +kernel
set_option maxRecDepth 100000 in
theorem dX5_isFirstSealed_6 : decode cX5_isFirstSealed 6 = .ok (.iload_n 2, 1) := by decide +kernel
set_option maxRecDepth 100000 in
theorem dX5_isFirstSealed_7 : decode cX5_isFirstSealed 7 = .ok (.ifCond .ne 5, 3) := by decide +kernel
set_option maxRecDepth 100000 in
theorem dX5_isFirstSealed_10 : decode cX5_isFirstSealed 10 = .ok (.iconst 1, 1) := by decide +kernel
set_option maxRecDepth 100000 in
theorem dX5_isFirstSealed_11 : decode cX5_isFirstSealed 11 = .ok (.ireturn, 1) := by decide +kernel
set_option maxRecDepth 100000 in
theorem dX5_isFirstSealed_12 : decode cX5_isFirstSealed 12 = .ok (.iconst 1, 1) := by decide +kernel
set_option maxRecDepth 100000 in
theorem dX5_isFirstSealed_13 : decode cX5_isFirstSealed 13 = .ok (.istore_n 3, 1) := by decide +kernel
set_option maxRecDepth 100000 in
theorem dX5_isFirstSealed_14 : decode cX5_isFirstSealed 14 = .ok (.iload_n 3, 1) := by decide +kernel
set_option maxRecDepth 100000 in
theorem dX5_isFirstSealed_15 : decode cX5_isFirstSealed 15 = .ok (.aload_n 0, 1) := by decide +kernel
set_option maxRecDepth 100000 in
theorem dX5_isFirstSealed_16 : decode cX5_isFirstSealed 16 = .ok (.invokevirtual 52, 3) := by decide +kernel
set_option maxRecDepth 100000 in
theorem dX5_isFirstSealed_19 : decode cX5_isFirstSealed 19 = .ok (.if_icmp .gt 28, 3) := by decide +kernel
set_option maxRecDepth 100000 in
theorem dX5_isFirstSealed_22 : decode cX5_isFirstSealed 22 = .ok (.iload_n 2, 1) := by decide +kernel
set_option maxRecDepth 100000 in
theorem dX5_isFirstSealed_23 : decode cX5_isFirstSealed 23 = .ok (.iload_n 3, 1) := by decide +kernel
def zN_cX5_isFirstSealed : Nat := 0xac030400a7040700a0c200b6031b2a5400b66a00b6031c321b1200b42a2a2ae2ffa7010384ac0405009ac500b61d1b2a0e00995700b81d1c1c00a33400b62a1d3e04ac0405009a1c3db700b61b2a
set_option maxRecDepth 100000 in
theorem zl_cX5_isFirstSealed : cX5_isFirstSealed.data.toList = z_un 78 zN_cX5_isFirstSealed := eq_of_beq (by decide +kernel)
theorem dX5_isFirstSealed_24 : decode cX5_isFirstSealed 24 = .ok (.invokestatic 87, 3) := z_row zl_cX5_isFirstSealed 24 5701816 (Nat.le_of_ble_eq_true rfl) (by decide +kernel) z_o184 (by decide +kernel)
theorem dX5_isFirstSealed_27 : decode cX5_isFirstSealed 27 = .ok (.ifCond .eq 14, 3) := z_row zl_cX5_isFirstSealed 27 917657 (Nat.le_of_ble_eq_true rfl) (by decide +kernel) z_o153 (by decide +kernel)
theorem dX5_isFirstSealed_30 : decode cX5_isFirstSealed 30 = .ok (.aload_n 0, 1) := z_row zl_cX5_isFirstSealed 30 1907498 (Nat.le_of_ble_eq_true rfl) (by decide +kernel) z_o42 (by decide +kernel)
theorem dX5_isFirstSealed_31 : decode cX5_isFirstSealed 31 = .ok (.iload_n 1, 1) := z_row zl_cX5_isFirstSealed 31 11935003 (Nat.le_of_ble_eq_true rfl) (by decide +kernel) z_o27 (by decide +kernel)
theorem dX5_isFirstSealed_32 : decode cX5_isFirstSealed 32 = .ok (.iload_n 3, 1) := z_row zl_cX5_isFirstSealed 32 46621 (Nat.le_of_ble_eq_true rfl) (by decide +kernel) z_o29 (by decide +kernel)
theorem dX5_isFirstSealed_33 : decode cX5_isFirstSealed 33 = .ok (.invokevirtual 197, 3) := z_row zl_cX5_isFirstSealed 33 12910774 (Nat.le_of_ble_eq_true rfl) (by decide +kernel) z_o182 (by decide +kernel)
theorem dX5_isFirstSealed_36 : decode cX5_isFirstSealed 36 = .ok (.ifCond .ne 5, 3) := z_row zl_cX5_isFirstSealed 36 327834 (Nat.le_of_ble_eq_true rfl) (by decide +kernel) z_o154 (by decide +kernel)
theorem dX5_isFirstSealed_39 : decode cX5_isFirstSealed 39 = .ok (.iconst 1, 1) := z_row zl_cX5_isFirstSealed 39 8694788 (Nat.le_of_ble_eq_true rfl) (by decide +kernel) z_o4 (by decide +kernel)
theorem dX5_isFirstSealed_40 : decode cX5_isFirstSealed 40 = .ok (.ireturn, 1) := z_row zl_cX5_isFirstSealed 40 230572 (Nat.le_of_ble_eq_true rfl) (by decide +kernel) z_o172 (by decide +kernel)
theorem dX5_isFirstSealed_41 : decode cX5_isFirstSealed 41 = .ok (.iinc 3 1, 3) := z_row zl_cX5_isFirstSealed 41 66436 (Nat.le_of_ble_eq_true rfl) (by decide +kernel) z_o132 (by decide +kernel)
theorem dX5_isFirstSealed_44 : decode cX5_isFirstSealed 44 = .ok (.goto (-30), 3) := z_row zl_cX5_isFirstSealed 44 14876583 (Nat.le_of_ble_eq_true rfl) (by decide +kernel) z_o167 (by decide +kernel)
theorem dX5_isFirstSealed_47 : decode cX5_isFirstSealed 47 = .ok (.aload_n 0, 1) := z_row zl_cX5_isFirstSealed 47 2763306 (Nat.le_of_ble_eq_true rfl) (by decide +kernel) z_o42 (by decide +kernel)
theorem dX5_isFirstSealed_48 : decode cX5_isFirstSealed 48 = .ok (.aload_n 0, 1) := z_row zl_cX5_isFirstSealed 48 11807274 (Nat.le_of_ble_eq_true rfl) (by decide +kernel) z_o42 (by decide +kernel)
theorem dX5_isFirstSealed_49 : decode cX5_isFirstSealed 49 = .ok (.aload_n 0, 1) := z_row zl_cX5_isFirstSealed 49 46122 (Nat.le_of_ble_eq_true rfl) (by decide +kernel) z_o42 (by decide +kernel)
theorem dX5_isFirstSealed_50 : decode cX5_isFirstSealed 50 = .ok (.getfield 18, 3) := z_row zl_cX5_isFirstSealed 50 1179828 (Nat.le_of_ble_eq_true rfl) (by decide +kernel) z_o180 (by decide +kernel)
theorem dX5_isFirstSealed_53 : decode cX5_isFirstSealed 53 = .ok (.iload_n 1, 1) := z_row zl_cX5_isFirstSealed 53 1847835 (Nat.le_of_ble_eq_true rfl) (by decide +kernel) z_o27 (by decide +kernel)
theorem dX5_isFirstSealed_54 : decode cX5_isFirstSealed 54 = .ok (.aaload, 1) := z_row zl_cX5_isFirstSealed 54 203826 (Nat.le_of_ble_eq_true rfl) (by decide +kernel) z_o50 (by decide +kernel)
theorem dX5_isFirstSealed_55 : decode cX5_isFirstSealed 55 = .ok (.iload_n 2, 1) := z_row zl_cX5_isFirstSealed 55 11928348 (Nat.le_of_ble_eq_true rfl) (by decide +kernel) z_o28 (by decide +kernel)
theorem dX5_isFirstSealed_56 : decode cX5_isFirstSealed 56 = .ok (.iconst 0, 1) := z_row zl_cX5_isFirstSealed 56 46595 (Nat.le_of_ble_eq_true rfl) (by decide +kernel) z_o3 (by decide +kernel)
theorem dX5_isFirstSealed_57 : decode cX5_isFirstSealed 57 = .ok (.invokevirtual 106, 3) := z_row zl_cX5_isFirstSealed 57 6946998 (Nat.le_of_ble_eq_true rfl) (by decide +kernel) z_o182 (by decide +kernel)
theorem dX5_isFirstSealed_60 : decode cX5_isFirstSealed 60 = .ok (.invokevirtual 84, 3) := z_row zl_cX5_isFirstSealed 60 5505206 (Nat.le_of_ble_eq_true rfl) (by decide +kernel) z_o182 (by decide +kernel)
theorem dX5_isFirstSealed_63 : decode cX5_isFirstSealed 63 = .ok (.aload_n 0, 1) := z_row zl_cX5_isFirstSealed 63 203562 (Nat.le_of_ble_eq_true rfl) (by decide +kernel) z_o42 (by decide +kernel)
theorem dX5_isFirstSealed_64 : decode cX5_isFirstSealed 64 = .ok (.iload_n 1, 1) := z_row zl_cX5_isFirstSealed 64 11928347 (Nat.le_of_ble_eq_true rfl) (by decide +kernel) z_o27 (by decide +kernel)
theorem dX5_isFirstSealed_65 : decode cX5_isFirstSealed 65 = .ok (.iconst 0, 1) := z_row zl_cX5_isFirstSealed 65 46595 (Nat.le_of_ble_eq_true rfl) (by decide +kernel) z_o3 (by decide +kernel)
theorem dX5_isFirstSealed_66 : decode cX5_isFirstSealed 66 = .ok (.invokevirtual 194, 3) := z_row zl_cX5_isFirstSealed 66 12714166 (Nat.le_of_ble_eq_true rfl) (by decide +kernel) z_o182 (by decide +kernel)
theorem dX5_isFirstSealed_69 : decode cX5_isFirstSealed 69 = .ok (.if_icmp .ne 7, 3) := z_row zl_cX5_isFirstSealed 69 458912 (Nat.le_of_ble_eq_true rfl) (by decide +kernel) z_o160 (by decide +kernel)
theorem dX5_isFirstSealed_72 : decode cX5_isFirstSealed 72 = .ok (.iconst 1, 1) := z_row zl_cX5_isFirstSealed 72 42756 (Nat.le_of_ble_eq_true rfl) (by decide +kernel) z_o4 (by decide +kernel)
theorem dX5_isFirstSealed_73 : decode cX5_isFirstSealed 73 = .ok (.goto 4, 3) := z_row zl_cX5_isFirstSealed 73 262311 (Nat.le_of_ble_eq_true rfl) (by decide +kernel) z_o167 (by decide +kernel)
set_option maxRecDepth 100000 in
theorem dX5_isFirstSealed_76 : decode cX5_isFirstSealed 76 = .ok (.iconst 0, 1) := by decide +kernel
set_option maxRecDepth 100000 in
theorem dX5_isFirstSealed_77 : decode cX5_isFirstSealed 77 = .ok (.ireturn, 1) := by decide +kernel
set_option maxRecDepth 100000 in
theorem dX5_isWhole_0 : decode cX5_isWhole 0 = .ok (.aload_n 0, 1) := by decide +kernel
set_option maxRecDepth 100000 in
theorem dX5_isWhole_1 : decode cX5_isWhole 1 = .ok (.iconst 1, 1) := by decide +kernel
set_option maxRecDepth 100000 in
theorem dX5_isWhole_2 : decode cX5_isWhole 2 = .ok (.aload_n 0, 1) := by decide +kernel
set_option maxRecDepth 100000 in
theorem dX5_isWhole_3 : decode cX5_isWhole 3 = .ok (.invokevirtual 52, 3) := by decide +kernel
set_option maxRecDepth 100000 in
theorem dX5_isWhole_6 : decode cX5_isWhole 6 = .ok (.ishl, 1) := by decide +kernel
set_option maxRecDepth 100000 in
theorem dX5_isWhole_7 : decode cX5_isWhole 7 = .ok (.iconst 1, 1) := by decide +kernel
set_option maxRecDepth 100000 in
theorem dX5_isWhole_8 : decode cX5_isWhole 8 = .ok (.isub, 1) := by decide +kernel
set_option maxRecDepth 100000 in
theorem dX5_isWhole_9 : decode cX5_isWhole 9 = .ok (.iconst 0, 1) := by decide +kernel
set_option maxRecDepth 100000 in
theorem dX5_isWhole_10 : decode cX5_isWhole 10 = .ok (.invokevirtual 110, 3) := by decide +kernel
set_option maxRecDepth 100000 in
theorem dX5_isWhole_13 : decode cX5_isWhole 13 = .ok (.iconst 1, 1) := by decide +kernel
set_option maxRecDepth 100000 in
theorem dX5_isWhole_14 : decode cX5_isWhole 14 = .ok (.if_icmp .ne 7, 3) := by decide +kernel
set_option maxRecDepth 100000 in
theorem dX5_isWhole_17 : decode cX5_isWhole 17 = .ok (.iconst 1, 1) := by decide +kernel
set_option maxRecDepth 100000 in
theorem dX5_isWhole_18 : decode cX5_isWhole 18 = .ok (.goto 4, 3) := by decide +kernel
set_option maxRecDepth 100000 in
theorem dX5_isWhole_21 : decode cX5_isWhole 21 = .ok (.iconst 0, 1) := by decide +kernel
set_option maxRecDepth 100000 in
theorem dX5_isWhole_22 : decode cX5_isWhole 22 = .ok (.istore_n 1, 1) := by decide +kernel
set_option maxRecDepth 100000 in
theorem dX5_isWhole_23 : decode cX5_isWhole 23 = .ok (.iconst 0, 1) := by decide +kernel
def zN_cX5_isWhole : Nat := 0xac1bdcffa7010284ac030400a704070099db00b61c2a0f00991b1500c6321c1600b42a2400a206101c3d0371ffa7010284d7ffa70103843c7e3000b864043e00b62a04c200b61d1c2a1b1c00a32e1c0d00b42a1d2600c6321c1600b42a3e033c7e030400a7040700a060042e1c0d00b42abe321c1600b42a1500c6321c1600b42a1bd0ffa70103843c7e030400a7040700993000b864042600b62a03b400b61d1c2a16009f02b400b61d1c2a1b2e00a33400b62a1d3e048f00a206101c3d033c030400a7040700a0046e00b6036404783400b62a042a
set_option maxRecDepth 100000 in
theorem zl_cX5_isWhole : cX5_isWhole.data.toList = z_un 214 zN_cX5_isWhole := eq_of_beq (by decide +kernel)
theorem dX5_isWhole_24 : decode cX5_isWhole 24 = .ok (.istore_n 2, 1) := z_row zl_cX5_isWhole 24 1055805 (Nat.le_of_ble_eq_true rfl) (by decide +kernel) z_o61 (by decide +kernel)
theorem dX5_isWhole_25 : decode cX5_isWhole 25 = .ok (.iload_n 2, 1) := z_row zl_cX5_isWhole 25 397340 (Nat.le_of_ble_eq_true rfl) (by decide +kernel) z_o28 (by decide +kernel)
theorem dX5_isWhole_26 : decode cX5_isWhole 26 = .ok (.bipush 6, 2) := z_row zl_cX5_isWhole 26 10618384 (Nat.le_of_ble_eq_true rfl) (by decide +kernel) z_o16 (by decide +kernel)
theorem dX5_isWhole_28 : decode cX5_isWhole 28 = .ok (.if_icmp .ge 143, 3) := z_row zl_cX5_isWhole 28 9371810 (Nat.le_of_ble_eq_true rfl) (by decide +kernel) z_o162 (by decide +kernel)
theorem dX5_isWhole_31 : decode cX5_isWhole 31 = .ok (.iconst 1, 1) := z_row zl_cX5_isWhole 31 1916420 (Nat.le_of_ble_eq_true rfl) (by decide +kernel) z_o4 (by decide +kernel)
theorem dX5_isWhole_32 : decode cX5_isWhole 32 = .ok (.istore_n 3, 1) := z_row zl_cX5_isWhole 32 2759998 (Nat.le_of_ble_eq_true rfl) (by decide +kernel) z_o62 (by decide +kernel)
theorem dX5_isWhole_33 : decode cX5_isWhole 33 = .ok (.iload_n 3, 1) := z_row zl_cX5_isWhole 33 11938333 (Nat.le_of_ble_eq_true rfl) (by decide +kernel) z_o29 (by decide +kernel)
theorem dX5_isWhole_34 : decode cX5_isWhole 34 = .ok (.aload_n 0, 1) := z_row zl_cX5_isWhole 34 46634 (Nat.le_of_ble_eq_true rfl) (by decide +kernel) z_o42 (by decide +kernel)
theorem dX5_isWhole_35 : decode cX5_isWhole 35 = .ok (.invokevirtual 52, 3) := z_row zl_cX5_isWhole 35 3408054 (Nat.le_of_ble_eq_true rfl) (by decide +kernel) z_o182 (by decide +kernel)
theorem dX5_isWhole_38 : decode cX5_isWhole 38 = .ok (.if_icmp .gt 46, 3) := z_row zl_cX5_isWhole 38 3014819 (Nat.le_of_ble_eq_true rfl) (by decide +kernel) z_o163 (by decide +kernel)
theorem dX5_isWhole_41 : decode cX5_isWhole 41 = .ok (.iload_n 1, 1) := z_row zl_cX5_isWhole 41 1845787 (Nat.le_of_ble_eq_true rfl) (by decide +kernel) z_o27 (by decide +kernel)
theorem dX5_isWhole_42 : decode cX5_isWhole 42 = .ok (.aload_n 0, 1) := z_row zl_cX5_isWhole 42 1907754 (Nat.le_of_ble_eq_true rfl) (by decide +kernel) z_o42 (by decide +kernel)
theorem dX5_isWhole_43 : decode cX5_isWhole 43 = .ok (.iload_n 2, 1) := z_row zl_cX5_isWhole 43 11935004 (Nat.le_of_ble_eq_true rfl) (by decide +kernel) z_o28 (by decide +kernel)
theorem dX5_isWhole_44 : decode cX5_isWhole 44 = .ok (.iload_n 3, 1) := z_row zl_cX5_isWhole 44 46621 (Nat.le_of_ble_eq_true rfl) (by decide +kernel) z_o29 (by decide +kernel)
theorem dX5_isWhole_45 : decode cX5_isWhole 45 = .ok (.invokevirtual 180, 3) := z_row zl_cX5_isWhole 45 11796662 (Nat.le_of_ble_eq_true rfl) (by decide +kernel) z_o182 (by decide +kernel)
theorem dX5_isWhole_48 : decode cX5_isWhole 48 = .ok (.iconst (-1), 1) := z_row zl_cX5_isWhole 48 40706 (Nat.le_of_ble_eq_true rfl) (by decide +kernel) z_o2 (by decide +kernel)
theorem dX5_isWhole_49 : decode cX5_isWhole 49 = .ok (.if_icmp .eq 22, 3) := z_row zl_cX5_isWhole 49 1441951 (Nat.le_of_ble_eq_true rfl) (by decide +kernel) z_o159 (by decide +kernel)
theorem dX5_isWhole_52 : decode cX5_isWhole 52 = .ok (.aload_n 0, 1) := z_row zl_cX5_isWhole 52 1907754 (Nat.le_of_ble_eq_true rfl) (by decide +kernel) z_o42 (by decide +kernel)
theorem dX5_isWhole_53 : decode cX5_isWhole 53 = .ok (.iload_n 2, 1) := z_row zl_cX5_isWhole 53 11935004 (Nat.le_of_ble_eq_true rfl) (by decide +kernel) z_o28 (by decide +kernel)
theorem dX5_isWhole_54 : decode cX5_isWhole 54 = .ok (.iload_n 3, 1) := z_row zl_cX5_isWhole 54 46621 (Nat.le_of_ble_eq_true rfl) (by decide +kernel) z_o29 (by decide +kernel)
theorem dX5_isWhole_55 : decode cX5_isWhole 55 = .ok (.invokevirtual 180, 3) := z_row zl_cX5_isWhole 55 11796662 (Nat.le_of_ble_eq_true rfl) (by decide +kernel) z_o182 (by decide +kernel)
theorem dX5_isWhole_58 : decode cX5_isWhole 58 = .ok (.iconst 0, 1) := z_row zl_cX5_isWhole 58 11938307 (Nat.le_of_ble_eq_true rfl) (by decide +kernel) z_o3 (by decide +kernel)
theorem dX5_isWhole_59 : decode cX5_isWhole 59 = .ok (.aload_n 0, 1) := z_row zl_cX5_isWhole 59 46634 (Nat.le_of_ble_eq_true rfl) (by decide +kernel) z_o42 (by decide +kernel)
theorem dX5_isWhole_60 : decode cX5_isWhole 60 = .ok (.invokevirtual 38, 3) := z_row zl_cX5_isWhole 60 2490550 (Nat.le_of_ble_eq_true rfl) (by decide +kernel) z_o182 (by decide +kernel)
theorem dX5_isWhole_63 : decode cX5_isWhole 63 = .ok (.iconst 1, 1) := z_row zl_cX5_isWhole 63 12084228 (Nat.le_of_ble_eq_true rfl) (by decide +kernel) z_o4 (by decide +kernel)
theorem dX5_isWhole_64 : decode cX5_isWhole 64 = .ok (.isub, 1) := z_row zl_cX5_isWhole 64 47204 (Nat.le_of_ble_eq_true rfl) (by decide +kernel) z_o100 (by decide +kernel)
theorem dX5_isWhole_65 : decode cX5_isWhole 65 = .ok (.invokestatic 48, 3) := z_row zl_cX5_isWhole 65 3145912 (Nat.le_of_ble_eq_true rfl) (by decide +kernel) z_o184 (by decide +kernel)
theorem dX5_isWhole_68 : decode cX5_isWhole 68 = .ok (.ifCond .eq 7, 3) := z_row zl_cX5_isWhole 68 458905 (Nat.le_of_ble_eq_true rfl) (by decide +kernel) z_o153 (by decide +kernel)
theorem dX5_isWhole_71 : decode cX5_isWhole 71 = .ok (.iconst 1, 1) := z_row zl_cX5_isWhole 71 42756 (Nat.le_of_ble_eq_true rfl) (by decide +kernel) z_o4 (by decide +kernel)
theorem dX5_isWhole_72 : decode cX5_isWhole 72 = .ok (.goto 4, 3) := z_row zl_cX5_isWhole 72 262311 (Nat.le_of_ble_eq_true rfl) (by decide +kernel) z_o167 (by decide +kernel)
theorem dX5_isWhole_76 : decode cX5_isWhole 76 = .ok (.iand, 1) := z_row zl_cX5_isWhole 76 8666238 (Nat.le_of_ble_eq_true rfl) (by decide +kernel) z_o126 (by decide +kernel)
theorem dX5_isWhole_77 : decode cX5_isWhole 77 = .ok (.istore_n 1, 1) := z_row zl_cX5_isWhole 77 230460 (Nat.le_of_ble_eq_true rfl) (by decide +kernel) z_o60 (by decide +kernel)
theorem dX5_isWhole_78 : decode cX5_isWhole 78 = .ok (.iinc 3 1, 3) := z_row zl_cX5_isWhole 78 66436 (Nat.le_of_ble_eq_true rfl) (by decide +kernel) z_o132 (by decide +kernel)
theorem dX5_isWhole_81 : decode cX5_isWhole 81 = .ok (.goto (-48), 3) := z_row zl_cX5_isWhole 81 13696935 (Nat.le_of_ble_eq_true rfl) (by decide +kernel) z_o167 (by decide +kernel)
theorem dX5_isWhole_84 : decode cX5_isWhole 84 = .ok (.iload_n 1, 1) := z_row zl_cX5_isWhole 84 11807259 (Nat.le_of_ble_eq_true rfl) (by decide +kernel) z_o27 (by decide +kernel)
theorem dX5_isWhole_85 : decode cX5_isWhole 85 = .ok (.aload_n 0, 1) := z_row zl_cX5_isWhole 85 46122 (Nat.le_of_ble_eq_true rfl) (by decide +kernel) z_o42 (by decide +kernel)
theorem dX5_isWhole_86 : decode cX5_isWhole 86 = .ok (.getfield 22, 3) := z_row zl_cX5_isWhole 86 1441972 (Nat.le_of_ble_eq_true rfl) (by decide +kernel) z_o180 (by decide +kernel)
theorem dX5_isWhole_89 : decode cX5_isWhole 89 = .ok (.iload_n 2, 1) := z_row zl_cX5_isWhole 89 12988956 (Nat.le_of_ble_eq_true rfl) (by decide +kernel) z_o28 (by decide +kernel)
theorem dX5_isWhole_90 : decode cX5_isWhole 90 = .ok (.aaload, 1) := z_row zl_cX5_isWhole 90 50738 (Nat.le_of_ble_eq_true rfl) (by decide +kernel) z_o50 (by decide +kernel)
theorem dX5_isWhole_91 : decode cX5_isWhole 91 = .ok (.ifnull 21, 3) := z_row zl_cX5_isWhole 91 1376454 (Nat.le_of_ble_eq_true rfl) (by decide +kernel) z_o198 (by decide +kernel)
theorem dX5_isWhole_94 : decode cX5_isWhole 94 = .ok (.aload_n 0, 1) := z_row zl_cX5_isWhole 94 46122 (Nat.le_of_ble_eq_true rfl) (by decide +kernel) z_o42 (by decide +kernel)
theorem dX5_isWhole_95 : decode cX5_isWhole 95 = .ok (.getfield 22, 3) := z_row zl_cX5_isWhole 95 1441972 (Nat.le_of_ble_eq_true rfl) (by decide +kernel) z_o180 (by decide +kernel)
theorem dX5_isWhole_98 : decode cX5_isWhole 98 = .ok (.iload_n 2, 1) := z_row zl_cX5_isWhole 98 12464668 (Nat.le_of_ble_eq_true rfl) (by decide +kernel) z_o28 (by decide +kernel)
theorem dX5_isWhole_99 : decode cX5_isWhole 99 = .ok (.aaload, 1) := z_row zl_cX5_isWhole 99 2801202 (Nat.le_of_ble_eq_true rfl) (by decide +kernel) z_o50 (by decide +kernel)
theorem dX5_isWhole_100 : decode cX5_isWhole 100 = .ok (.arraylength, 1) := z_row zl_cX5_isWhole 100 11807422 (Nat.le_of_ble_eq_true rfl) (by decide +kernel) z_o190 (by decide +kernel)
theorem dX5_isWhole_101 : decode cX5_isWhole 101 = .ok (.aload_n 0, 1) := z_row zl_cX5_isWhole 101 46122 (Nat.le_of_ble_eq_true rfl) (by decide +kernel) z_o42 (by decide +kernel)
theorem dX5_isWhole_102 : decode cX5_isWhole 102 = .ok (.getfield 13, 3) := z_row zl_cX5_isWhole 102 852148 (Nat.le_of_ble_eq_true rfl) (by decide +kernel) z_o180 (by decide +kernel)
theorem dX5_isWhole_105 : decode cX5_isWhole 105 = .ok (.iload_n 2, 1) := z_row zl_cX5_isWhole 105 273948 (Nat.le_of_ble_eq_true rfl) (by decide +kernel) z_o28 (by decide +kernel)
theorem dX5_isWhole_106 : decode cX5_isWhole 106 = .ok (.iaload, 1) := z_row zl_cX5_isWhole 106 6292526 (Nat.le_of_ble_eq_true rfl) (by decide +kernel) z_o46 (by decide +kernel)
theorem dX5_isWhole_107 : decode cX5_isWhole 107 = .ok (.iconst 1, 1) := z_row zl_cX5_isWhole 107 10510340 (Nat.le_of_ble_eq_true rfl) (by decide +kernel) z_o4 (by decide +kernel)
theorem dX5_isWhole_108 : decode cX5_isWhole 108 = .ok (.iadd, 1) := z_row zl_cX5_isWhole 108 41056 (Nat.le_of_ble_eq_true rfl) (by decide +kernel) z_o96 (by decide +kernel)
theorem dX5_isWhole_109 : decode cX5_isWhole 109 = .ok (.if_icmp .ne 7, 3) := z_row zl_cX5_isWhole 109 458912 (Nat.le_of_ble_eq_true rfl) (by decide +kernel) z_o160 (by decide +kernel)
theorem dX5_isWhole_112 : decode cX5_isWhole 112 = .ok (.iconst 1, 1) := z_row zl_cX5_isWhole 112 42756 (Nat.le_of_ble_eq_true rfl) (by decide +kernel) z_o4 (by decide +kernel)
theorem dX5_isWhole_113 : decode cX5_isWhole 113 = .ok (.goto 4, 3) := z_row zl_cX5_isWhole 113 262311 (Nat.le_of_ble_eq_true rfl) (by decide +kernel) z_o167 (by decide +kernel)
theorem dX5_isWhole_117 : decode cX5_isWhole 117 = .ok (.iand, 1) := z_row zl_cX5_isWhole 117 212094 (Nat.le_of_ble_eq_true rfl) (by decide +kernel) z_o126 (by decide +kernel)
theorem dX5_isWhole_118 : decode cX5_isWhole 118 = .ok (.istore_n 1, 1) := z_row zl_cX5_isWhole 118 4064060 (Nat.le_of_ble_eq_true rfl) (by decide +kernel) z_o60 (by decide +kernel)
theorem dX5_isWhole_119 : decode cX5_isWhole 119 = .ok (.iconst 0, 1) := z_row zl_cX5_isWhole 119 2768387 (Nat.le_of_ble_eq_true rfl) (by decide +kernel) z_o3 (by decide +kernel)
theorem dX5_isWhole_120 : decode cX5_isWhole 120 = .ok (.istore_n 3, 1) := z_row zl_cX5_isWhole 120 11807294 (Nat.le_of_ble_eq_true rfl) (by decide +kernel) z_o62 (by decide +kernel)
theorem dX5_isWhole_121 : decode cX5_isWhole 121 = .ok (.aload_n 0, 1) := z_row zl_cX5_isWhole 121 46122 (Nat.le_of_ble_eq_true rfl) (by decide +kernel) z_o42 (by decide +kernel)
theorem dX5_isWhole_122 : decode cX5_isWhole 122 = .ok (.getfield 22, 3) := z_row zl_cX5_isWhole 122 1441972 (Nat.le_of_ble_eq_true rfl) (by decide +kernel) z_o180 (by decide +kernel)
theorem dX5_isWhole_125 : decode cX5_isWhole 125 = .ok (.iload_n 2, 1) := z_row zl_cX5_isWhole 125 12988956 (Nat.le_of_ble_eq_true rfl) (by decide +kernel) z_o28 (by decide +kernel)
theorem dX5_isWhole_126 : decode cX5_isWhole 126 = .ok (.aaload, 1) := z_row zl_cX5_isWhole 126 50738 (Nat.le_of_ble_eq_true rfl) (by decide +kernel) z_o50 (by decide +kernel)
theorem dX5_isWhole_127 : decode cX5_isWhole 127 = .ok (.ifnull 38, 3) := z_row zl_cX5_isWhole 127 2490566 (Nat.le_of_ble_eq_true rfl) (by decide +kernel) z_o198 (by decide +kernel)
theorem dX5_isWhole_130 : decode cX5_isWhole 130 = .ok (.iload_n 3, 1) := z_row zl_cX5_isWhole 130 11807261 (Nat.le_of_ble_eq_true rfl) (by decide +kernel) z_o29 (by decide +kernel)
theorem dX5_isWhole_131 : decode cX5_isWhole 131 = .ok (.aload_n 0, 1) := z_row zl_cX5_isWhole 131 46122 (Nat.le_of_ble_eq_true rfl) (by decide +kernel) z_o42 (by decide +kernel)
theorem dX5_isWhole_132 : decode cX5_isWhole 132 = .ok (.getfield 13, 3) := z_row zl_cX5_isWhole 132 852148 (Nat.le_of_ble_eq_true rfl) (by decide +kernel) z_o180 (by decide +kernel)
theorem dX5_isWhole_135 : decode cX5_isWhole 135 = .ok (.iload_n 2, 1) := z_row zl_cX5_isWhole 135 10694172 (Nat.le_of_ble_eq_true rfl) (by decide +kernel) z_o28 (by decide +kernel)
theorem dX5_isWhole_136 : decode cX5_isWhole 136 = .ok (.iaload, 1) := z_row zl_cX5_isWhole 136 41774 (Nat.le_of_ble_eq_true rfl) (by decide +kernel) z_o46 (by decide +kernel)
theorem dX5_isWhole_137 : decode cX5_isWhole 137 = .ok (.if_icmp .gt 28, 3) := z_row zl_cX5_isWhole 137 1835171 (Nat.le_of_ble_eq_true rfl) (by decide +kernel) z_o163 (by decide +kernel)
theorem dX5_isWhole_140 : decode cX5_isWhole 140 = .ok (.iload_n 1, 1) := z_row zl_cX5_isWhole 140 1845787 (Nat.le_of_ble_eq_true rfl) (by decide +kernel) z_o27 (by decide +kernel)
theorem dX5_isWhole_141 : decode cX5_isWhole 141 = .ok (.aload_n 0, 1) := z_row zl_cX5_isWhole 141 1907754 (Nat.le_of_ble_eq_true rfl) (by decide +kernel) z_o42 (by decide +kernel)
theorem dX5_isWhole_142 : decode cX5_isWhole 142 = .ok (.iload_n 2, 1) := z_row zl_cX5_isWhole 142 11935004 (Nat.le_of_ble_eq_true rfl) (by decide +kernel) z_o28 (by decide +kernel)
theorem dX5_isWhole_143 : decode cX5_isWhole 143 = .ok (.iload_n 3, 1) := z_row zl_cX5_isWhole 143 46621 (Nat.le_of_ble_eq_true rfl) (by decide +kernel) z_o29 (by decide +kernel)
theorem dX5_isWhole_144 : decode cX5_isWhole 144 = .ok (.invokevirtual 194, 3) := z_row zl_cX5_isWhole 144 12714166 (Nat.le_of_ble_eq_true rfl) (by decide +kernel) z_o182 (by decide +kernel)
theorem dX5_isWhole_147 : decode cX5_isWhole 147 = .ok (.iconst 1, 1) := z_row zl_cX5_isWhole 147 11938308 (Nat.le_of_ble_eq_true rfl) (by decide +kernel) z_o4 (by decide +kernel)
theorem dX5_isWhole_148 : decode cX5_isWhole 148 = .ok (.aload_n 0, 1) := z_row zl_cX5_isWhole 148 46634 (Nat.le_of_ble_eq_true rfl) (by decide +kernel) z_o42 (by decide +kernel)
theorem dX5_isWhole_149 : decode cX5_isWhole 149 = .ok (.invokevirtual 62, 3) := z_row zl_cX5_isWhole 149 4063414 (Nat.le_of_ble_eq_true rfl) (by decide +kernel) z_o182 (by decide +kernel)
theorem dX5_isWhole_152 : decode cX5_isWhole 152 = .ok (.iconst 1, 1) := z_row zl_cX5_isWhole 152 12084228 (Nat.le_of_ble_eq_true rfl) (by decide +kernel) z_o4 (by decide +kernel)
theorem dX5_isWhole_153 : decode cX5_isWhole 153 = .ok (.isub, 1) := z_row zl_cX5_isWhole 153 47204 (Nat.le_of_ble_eq_true rfl) (by decide +kernel) z_o100 (by decide +kernel)
theorem dX5_isWhole_154 : decode cX5_isWhole 154 = .ok (.invokestatic 48, 3) := z_row zl_cX5_isWhole 154 3145912 (Nat.le_of_ble_eq_true rfl) (by decide +kernel) z_o184 (by decide +kernel)
theorem dX5_isWhole_157 : decode cX5_isWhole 157 = .ok (.iand, 1) := z_row zl_cX5_isWhole 157 8666238 (Nat.le_of_ble_eq_true rfl) (by decide +kernel) z_o126 (by decide +kernel)
theorem dX5_isWhole_158 : decode cX5_isWhole 158 = .ok (.istore_n 1, 1) := z_row zl_cX5_isWhole 158 230460 (Nat.le_of_ble_eq_true rfl) (by decide +kernel) z_o60 (by decide +kernel)
theorem dX5_isWhole_159 : decode cX5_isWhole 159 = .ok (.iinc 3 1, 3) := z_row zl_cX5_isWhole 159 66436 (Nat.le_of_ble_eq_true rfl) (by decide +kernel) z_o132 (by decide +kernel)
theorem dX5_isWhole_162 : decode cX5_isWhole 162 = .ok (.goto (-41), 3) := z_row zl_cX5_isWhole 162 14155687 (Nat.le_of_ble_eq_true rfl) (by decide +kernel) z_o167 (by decide +kernel)
theorem dX5_isWhole_165 : decode cX5_isWhole 165 = .ok (.iinc 2 1, 3) := z_row zl_cX5_isWhole 165 66180 (Nat.le_of_ble_eq_true rfl) (by decide +kernel) z_o132 (by decide +kernel)
theorem dX5_isWhole_168 : decode cX5_isWhole 168 = .ok (.goto (-143), 3) := z_row zl_cX5_isWhole 168 7471015 (Nat.le_of_ble_eq_true rfl) (by decide +kernel) z_o167 (by decide +kernel)
theorem dX5_isWhole_171 : decode cX5_isWhole 171 = .ok (.iconst 0, 1) := z_row zl_cX5_isWhole 171 1850627 (Nat.le_of_ble_eq_true rfl) (by decide +kernel) z_o3 (by decide +kernel)
theorem dX5_isWhole_172 : decode cX5_isWhole 172 = .ok (.istore_n 2, 1) := z_row zl_cX5_isWhole 172 1055805 (Nat.le_of_ble_eq_true rfl) (by decide +kernel) z_o61 (by decide +kernel)
theorem dX5_isWhole_173 : decode cX5_isWhole 173 = .ok (.iload_n 2, 1) := z_row zl_cX5_isWhole 173 397340 (Nat.le_of_ble_eq_true rfl) (by decide +kernel) z_o28 (by decide +kernel)
theorem dX5_isWhole_174 : decode cX5_isWhole 174 = .ok (.bipush 6, 2) := z_row zl_cX5_isWhole 174 10618384 (Nat.le_of_ble_eq_true rfl) (by decide +kernel) z_o16 (by decide +kernel)
theorem dX5_isWhole_176 : decode cX5_isWhole 176 = .ok (.if_icmp .ge 36, 3) := z_row zl_cX5_isWhole 176 2359458 (Nat.le_of_ble_eq_true rfl) (by decide +kernel) z_o162 (by decide +kernel)
theorem dX5_isWhole_179 : decode cX5_isWhole 179 = .ok (.aload_n 0, 1) := z_row zl_cX5_isWhole 179 46122 (Nat.le_of_ble_eq_true rfl) (by decide +kernel) z_o42 (by decide +kernel)
theorem dX5_isWhole_180 : decode cX5_isWhole 180 = .ok (.getfield 22, 3) := z_row zl_cX5_isWhole 180 1441972 (Nat.le_of_ble_eq_true rfl) (by decide +kernel) z_o180 (by decide +kernel)
theorem dX5_isWhole_183 : decode cX5_isWhole 183 = .ok (.iload_n 2, 1) := z_row zl_cX5_isWhole 183 12988956 (Nat.le_of_ble_eq_true rfl) (by decide +kernel) z_o28 (by decide +kernel)
theorem dX5_isWhole_184 : decode cX5_isWhole 184 = .ok (.aaload, 1) := z_row zl_cX5_isWhole 184 50738 (Nat.le_of_ble_eq_true rfl) (by decide +kernel) z_o50 (by decide +kernel)
theorem dX5_isWhole_185 : decode cX5_isWhole 185 = .ok (.ifnull 21, 3) := z_row zl_cX5_isWhole 185 1376454 (Nat.le_of_ble_eq_true rfl) (by decide +kernel) z_o198 (by decide +kernel)
theorem dX5_isWhole_188 : decode cX5_isWhole 188 = .ok (.iload_n 1, 1) := z_row zl_cX5_isWhole 188 39195 (Nat.le_of_ble_eq_true rfl) (by decide +kernel) z_o27 (by decide +kernel)
theorem dX5_isWhole_189 : decode cX5_isWhole 189 = .ok (.ifCond .eq 15, 3) := z_row zl_cX5_isWhole 189 983193 (Nat.le_of_ble_eq_true rfl) (by decide +kernel) z_o153 (by decide +kernel)
theorem dX5_isWhole_192 : decode cX5_isWhole 192 = .ok (.aload_n 0, 1) := z_row zl_cX5_isWhole 192 11934762 (Nat.le_of_ble_eq_true rfl) (by decide +kernel) z_o42 (by decide +kernel)
theorem dX5_isWhole_193 : decode cX5_isWhole 193 = .ok (.iload_n 2, 1) := z_row zl_cX5_isWhole 193 46620 (Nat.le_of_ble_eq_true rfl) (by decide +kernel) z_o28 (by decide +kernel)
theorem dX5_isWhole_194 : decode cX5_isWhole 194 = .ok (.invokevirtual 219, 3) := z_row zl_cX5_isWhole 194 14352566 (Nat.le_of_ble_eq_true rfl) (by decide +kernel) z_o182 (by decide +kernel)
theorem dX5_isWhole_197 : decode cX5_isWhole 197 = .ok (.ifCond .eq 7, 3) := z_row zl_cX5_isWhole 197 458905 (Nat.le_of_ble_eq_true rfl) (by decide +kernel) z_o153 (by decide +kernel)
theorem dX5_isWhole_200 : decode cX5_isWhole 200 = .ok (.iconst 1, 1) := z_row zl_cX5_isWhole 200 42756 (Nat.le_of_ble_eq_true rfl) (by decide +kernel) z_o4 (by decide +kernel)
theorem dX5_isWhole_201 : decode cX5_isWhole 201 = .ok (.goto 4, 3) := z_row zl_cX5_isWhole 201 262311 (Nat.le_of_ble_eq_true rfl) (by decide +kernel) z_o167 (by decide +kernel)
theorem dX5_isWhole_204 : decode cX5_isWhole 204 = .ok (.iconst 0, 1) := z_row zl_cX5_isWhole 204 8694787 (Nat.le_of_ble_eq_true rfl) (by decide +kernel) z_o3 (by decide +kernel)
theorem dX5_isWhole_205 : decode cX5_isWhole 205 = .ok (.ireturn, 1) := z_row zl_cX5_isWhole 205 165036 (Nat.le_of_ble_eq_true rfl) (by decide +kernel) z_o172 (by decide +kernel)
theorem dX5_isWhole_206 : decode cX5_isWhole 206 = .ok (.iinc 2 1, 3) := z_row zl_cX5_isWhole 206 66180 (Nat.le_of_ble_eq_true rfl) (by decide +kernel) z_o132 (by decide +kernel)
theorem dX5_isWhole_209 : decode cX5_isWhole 209 = .ok (.goto (-36), 3) := z_row zl_cX5_isWhole 209 14483367 (Nat.le_of_ble_eq_true rfl) (by decide +kernel) z_o167 (by decide +kernel)
set_option maxRecDepth 100000 in
theorem dX5_isWhole_212 : decode cX5_isWhole 212 = .ok (.iload_n 1, 1) := by decide +kernel
set_option maxRecDepth 100000 in
theorem dX5_isWhole_213 : decode cX5_isWhole 213 = .ok (.ireturn, 1) := by decide +kernel
set_option maxRecDepth 100000 in
theorem dX5_isSound_0 : decode cX5_isSound 0 = .ok (.aload_n 0, 1) := by decide +kernel
set_option maxRecDepth 100000 in
theorem dX5_isSound_1 : decode cX5_isSound 1 = .ok (.iconst 0, 1) := by decide +kernel
set_option maxRecDepth 100000 in
theorem dX5_isSound_2 : decode cX5_isSound 2 = .ok (.putfield 25, 3) := by decide +kernel
set_option maxRecDepth 100000 in
theorem dX5_isSound_5 : decode cX5_isSound 5 = .ok (.aload_n 0, 1) := by decide +kernel
set_option maxRecDepth 100000 in
theorem dX5_isSound_6 : decode cX5_isSound 6 = .ok (.invokevirtual 222, 3) := by decide +kernel
set_option maxRecDepth 100000 in
theorem dX5_isSound_9 : decode cX5_isSound 9 = .ok (.ireturn, 1) := by decide +kernel
set_option maxRecDepth 100000 in
theorem dX5_add_0 : decode cX5_add 0 = .ok (.lload_n 0, 1) := by decide +kernel
set_option maxRecDepth 100000 in
theorem dX5_add_1 : decode cX5_add 1 = .ok (.ldc2_w 226, 3) := by decide +kernel
set_option maxRecDepth 100000 in
theorem dX5_add_4 : decode cX5_add 4 = .ok (.lmul, 1) := by decide +kernel
set_option maxRecDepth 100000 in
theorem dX5_add_5 : decode cX5_add 5 = .ok (.lload_n 2, 1) := by decide +kernel
set_option maxRecDepth 100000 in
theorem dX5_add_6 : decode cX5_add 6 = .ok (.ladd, 1) := by decide +kernel
set_option maxRecDepth 100000 in
theorem dX5_add_7 : decode cX5_add 7 = .ok (.lreturn, 1) := by decide +kernel
set_option maxRecDepth 100000 in
theorem dX5_digest_0 : decode cX5_digest 0 = .ok (.aload_n 0, 1) := by decide +kernel
set_option maxRecDepth 100000 in
theorem dX5_digest_1 : decode cX5_digest 1 = .ok (.iconst 0, 1) := by decide +kernel
set_option maxRecDepth 100000 in
theorem dX5_digest_2 : decode cX5_digest 2 = .ok (.putfield 25, 3) := by decide +kernel
set_option maxRecDepth 100000 in
theorem dX5_digest_5 : decode cX5_digest 5 = .ok (.ldc2_w 228, 3) := by decide +kernel
set_option maxRecDepth 100000 in
theorem dX5_digest_8 : decode cX5_digest 8 = .ok (.lstore_n 1, 1) := by decide +kernel
set_option maxRecDepth 100000 in
theorem dX5_digest_9 : decode cX5_digest 9 = .ok (.iconst 0, 1) := by decide +kernel
set_option maxRecDepth 100000 in
theorem dX5_digest_10 : decode cX5_digest 10 = .ok (.istore_n 3, 1) := by decide +kernel
set_option maxRecDepth 100000 in
theorem dX5_digest_11 : decode cX5_digest 11 = .ok (.iload_n 3, 1) := by decide +kernel
set_option maxRecDepth 100000 in
theorem dX5_digest_12 : decode cX5_digest 12 = .ok (.bipush 6, 2) := by decide +kernel
set_option maxRecDepth 100000 in
theorem dX5_digest_14 : decode cX5_digest 14 = .ok (.if_icmp .gt 20, 3) := by decide +kernel
set_option maxRecDepth 100000 in
theorem dX5_digest_17 : decode cX5_digest 17 = .ok (.lload_n 1, 1) := by decide +kernel
set_option maxRecDepth 100000 in
theorem dX5_digest_18 : decode cX5_digest 18 = .ok (.aload_n 0, 1) := by decide +kernel
set_option maxRecDepth 100000 in
theorem dX5_digest_19 : decode cX5_digest 19 = .ok (.iload_n 3, 1) := by decide +kernel
set_option maxRecDepth 100000 in
theorem dX5_digest_20 : decode cX5_digest 20 = .ok (.invokevirtual 216, 3) := by decide +kernel
set_option maxRecDepth 100000 in
theorem dX5_digest_23 : decode cX5_digest 23 = .ok (.i2l, 1) := by decide +kernel
def zN_cX5_digest : Nat := 0xade600b8855000b8de00b62a1fa0ffa7010384eaffa701048440e600b885c200b604151d2a1f1600a3060415043603e7ffa701048440e600b885b400b604151d2a1f1600a33400b62a0415043604eaffa701048440e600b885ba00b604151d2a1f1600a30604150436036000a206101d3e03ecffa701038440e600b885d800b61d2a1f1400a306101d3e0340e400141900b5032a
set_option maxRecDepth 100000 in
theorem zl_cX5_digest : cX5_digest.data.toList = z_un 148 zN_cX5_digest := eq_of_beq (by decide +kernel)
theorem dX5_digest_24 : decode cX5_digest 24 = .ok (.invokestatic 230, 3) := z_row zl_cX5_digest 24 15073464 (Nat.le_of_ble_eq_true rfl) (by decide +kernel) z_o184 (by decide +kernel)
theorem dX5_digest_27 : decode cX5_digest 27 = .ok (.lstore_n 1, 1) := z_row zl_cX5_digest 27 230464 (Nat.le_of_ble_eq_true rfl) (by decide +kernel) z_o64 (by decide +kernel)
theorem dX5_digest_28 : decode cX5_digest 28 = .ok (.iinc 3 1, 3) := z_row zl_cX5_digest 28 66436 (Nat.le_of_ble_eq_true rfl) (by decide +kernel) z_o132 (by decide +kernel)
theorem dX5_digest_31 : decode cX5_digest 31 = .ok (.goto (-20), 3) := z_row zl_cX5_digest 31 15531943 (Nat.le_of_ble_eq_true rfl) (by decide +kernel) z_o167 (by decide +kernel)
theorem dX5_digest_34 : decode cX5_digest 34 = .ok (.iconst 0, 1) := z_row zl_cX5_digest 34 1916419 (Nat.le_of_ble_eq_true rfl) (by decide +kernel) z_o3 (by decide +kernel)
theorem dX5_digest_35 : decode cX5_digest 35 = .ok (.istore_n 3, 1) := z_row zl_cX5_digest 35 1056062 (Nat.le_of_ble_eq_true rfl) (by decide +kernel) z_o62 (by decide +kernel)
theorem dX5_digest_36 : decode cX5_digest 36 = .ok (.iload_n 3, 1) := z_row zl_cX5_digest 36 397341 (Nat.le_of_ble_eq_true rfl) (by decide +kernel) z_o29 (by decide +kernel)
theorem dX5_digest_37 : decode cX5_digest 37 = .ok (.bipush 6, 2) := z_row zl_cX5_digest 37 10618384 (Nat.le_of_ble_eq_true rfl) (by decide +kernel) z_o16 (by decide +kernel)
theorem dX5_digest_39 : decode cX5_digest 39 = .ok (.if_icmp .ge 96, 3) := z_row zl_cX5_digest 39 6291618 (Nat.le_of_ble_eq_true rfl) (by decide +kernel) z_o162 (by decide +kernel)
theorem dX5_digest_42 : decode cX5_digest 42 = .ok (.iconst 0, 1) := z_row zl_cX5_digest 42 275971 (Nat.le_of_ble_eq_true rfl) (by decide +kernel) z_o3 (by decide +kernel)
theorem dX5_digest_43 : decode cX5_digest 43 = .ok (.istore 4, 2) := z_row zl_cX5_digest 43 1377334 (Nat.le_of_ble_eq_true rfl) (by decide +kernel) z_o54 (by decide +kernel)
theorem dX5_digest_45 : decode cX5_digest 45 = .ok (.iload 4, 2) := z_row zl_cX5_digest 45 394261 (Nat.le_of_ble_eq_true rfl) (by decide +kernel) z_o21 (by decide +kernel)
theorem dX5_digest_47 : decode cX5_digest 47 = .ok (.iconst 3, 1) := z_row zl_cX5_digest 47 41734 (Nat.le_of_ble_eq_true rfl) (by decide +kernel) z_o6 (by decide +kernel)
theorem dX5_digest_48 : decode cX5_digest 48 = .ok (.if_icmp .gt 22, 3) := z_row zl_cX5_digest 48 1441955 (Nat.le_of_ble_eq_true rfl) (by decide +kernel) z_o163 (by decide +kernel)
theorem dX5_digest_51 : decode cX5_digest 51 = .ok (.lload_n 1, 1) := z_row zl_cX5_digest 51 1911327 (Nat.le_of_ble_eq_true rfl) (by decide +kernel) z_o31 (by decide +kernel)
theorem dX5_digest_52 : decode cX5_digest 52 = .ok (.aload_n 0, 1) := z_row zl_cX5_digest 52 1383722 (Nat.le_of_ble_eq_true rfl) (by decide +kernel) z_o42 (by decide +kernel)
theorem dX5_digest_53 : decode cX5_digest 53 = .ok (.iload_n 3, 1) := z_row zl_cX5_digest 53 267549 (Nat.le_of_ble_eq_true rfl) (by decide +kernel) z_o29 (by decide +kernel)
theorem dX5_digest_54 : decode cX5_digest 54 = .ok (.iload 4, 2) := z_row zl_cX5_digest 54 11928597 (Nat.le_of_ble_eq_true rfl) (by decide +kernel) z_o21 (by decide +kernel)
theorem dX5_digest_56 : decode cX5_digest 56 = .ok (.invokevirtual 186, 3) := z_row zl_cX5_digest 56 12189878 (Nat.le_of_ble_eq_true rfl) (by decide +kernel) z_o182 (by decide +kernel)
theorem dX5_digest_59 : decode cX5_digest 59 = .ok (.i2l, 1) := z_row zl_cX5_digest 59 47237 (Nat.le_of_ble_eq_true rfl) (by decide +kernel) z_o133 (by decide +kernel)
theorem dX5_digest_60 : decode cX5_digest 60 = .ok (.invokestatic 230, 3) := z_row zl_cX5_digest 60 15073464 (Nat.le_of_ble_eq_true rfl) (by decide +kernel) z_o184 (by decide +kernel)
theorem dX5_digest_63 : decode cX5_digest 63 = .ok (.lstore_n 1, 1) := z_row zl_cX5_digest 63 296000 (Nat.le_of_ble_eq_true rfl) (by decide +kernel) z_o64 (by decide +kernel)
theorem dX5_digest_64 : decode cX5_digest 64 = .ok (.iinc 4 1, 3) := z_row zl_cX5_digest 64 66692 (Nat.le_of_ble_eq_true rfl) (by decide +kernel) z_o132 (by decide +kernel)
theorem dX5_digest_67 : decode cX5_digest 67 = .ok (.goto (-22), 3) := z_row zl_cX5_digest 67 15400871 (Nat.le_of_ble_eq_true rfl) (by decide +kernel) z_o167 (by decide +kernel)
theorem dX5_digest_70 : decode cX5_digest 70 = .ok (.iconst 1, 1) := z_row zl_cX5_digest 70 275972 (Nat.le_of_ble_eq_true rfl) (by decide +kernel) z_o4 (by decide +kernel)
theorem dX5_digest_71 : decode cX5_digest 71 = .ok (.istore 4, 2) := z_row zl_cX5_digest 71 1377334 (Nat.le_of_ble_eq_true rfl) (by decide +kernel) z_o54 (by decide +kernel)
theorem dX5_digest_73 : decode cX5_digest 73 = .ok (.iload 4, 2) := z_row zl_cX5_digest 73 2753557 (Nat.le_of_ble_eq_true rfl) (by decide +kernel) z_o21 (by decide +kernel)
theorem dX5_digest_75 : decode cX5_digest 75 = .ok (.aload_n 0, 1) := z_row zl_cX5_digest 75 46634 (Nat.le_of_ble_eq_true rfl) (by decide +kernel) z_o42 (by decide +kernel)
theorem dX5_digest_76 : decode cX5_digest 76 = .ok (.invokevirtual 52, 3) := z_row zl_cX5_digest 76 3408054 (Nat.le_of_ble_eq_true rfl) (by decide +kernel) z_o182 (by decide +kernel)
theorem dX5_digest_79 : decode cX5_digest 79 = .ok (.if_icmp .gt 22, 3) := z_row zl_cX5_digest 79 1441955 (Nat.le_of_ble_eq_true rfl) (by decide +kernel) z_o163 (by decide +kernel)
theorem dX5_digest_82 : decode cX5_digest 82 = .ok (.lload_n 1, 1) := z_row zl_cX5_digest 82 1911327 (Nat.le_of_ble_eq_true rfl) (by decide +kernel) z_o31 (by decide +kernel)
theorem dX5_digest_83 : decode cX5_digest 83 = .ok (.aload_n 0, 1) := z_row zl_cX5_digest 83 1383722 (Nat.le_of_ble_eq_true rfl) (by decide +kernel) z_o42 (by decide +kernel)
theorem dX5_digest_84 : decode cX5_digest 84 = .ok (.iload_n 3, 1) := z_row zl_cX5_digest 84 267549 (Nat.le_of_ble_eq_true rfl) (by decide +kernel) z_o29 (by decide +kernel)
theorem dX5_digest_85 : decode cX5_digest 85 = .ok (.iload 4, 2) := z_row zl_cX5_digest 85 11928597 (Nat.le_of_ble_eq_true rfl) (by decide +kernel) z_o21 (by decide +kernel)
theorem dX5_digest_87 : decode cX5_digest 87 = .ok (.invokevirtual 180, 3) := z_row zl_cX5_digest 87 11796662 (Nat.le_of_ble_eq_true rfl) (by decide +kernel) z_o182 (by decide +kernel)
theorem dX5_digest_90 : decode cX5_digest 90 = .ok (.i2l, 1) := z_row zl_cX5_digest 90 47237 (Nat.le_of_ble_eq_true rfl) (by decide +kernel) z_o133 (by decide +kernel)
theorem dX5_digest_91 : decode cX5_digest 91 = .ok (.invokestatic 230, 3) := z_row zl_cX5_digest 91 15073464 (Nat.le_of_ble_eq_true rfl) (by decide +kernel) z_o184 (by decide +kernel)
theorem dX5_digest_94 : decode cX5_digest 94 = .ok (.lstore_n 1, 1) := z_row zl_cX5_digest 94 296000 (Nat.le_of_ble_eq_true rfl) (by decide +kernel) z_o64 (by decide +kernel)
theorem dX5_digest_95 : decode cX5_digest 95 = .ok (.iinc 4 1, 3) := z_row zl_cX5_digest 95 66692 (Nat.le_of_ble_eq_true rfl) (by decide +kernel) z_o132 (by decide +kernel)
theorem dX5_digest_98 : decode cX5_digest 98 = .ok (.goto (-25), 3) := z_row zl_cX5_digest 98 15204263 (Nat.le_of_ble_eq_true rfl) (by decide +kernel) z_o167 (by decide +kernel)
theorem dX5_digest_101 : decode cX5_digest 101 = .ok (.iconst 0, 1) := z_row zl_cX5_digest 101 275971 (Nat.le_of_ble_eq_true rfl) (by decide +kernel) z_o3 (by decide +kernel)
theorem dX5_digest_102 : decode cX5_digest 102 = .ok (.istore 4, 2) := z_row zl_cX5_digest 102 1377334 (Nat.le_of_ble_eq_true rfl) (by decide +kernel) z_o54 (by decide +kernel)
theorem dX5_digest_104 : decode cX5_digest 104 = .ok (.iload 4, 2) := z_row zl_cX5_digest 104 394261 (Nat.le_of_ble_eq_true rfl) (by decide +kernel) z_o21 (by decide +kernel)
theorem dX5_digest_106 : decode cX5_digest 106 = .ok (.iconst 3, 1) := z_row zl_cX5_digest 106 41734 (Nat.le_of_ble_eq_true rfl) (by decide +kernel) z_o6 (by decide +kernel)
theorem dX5_digest_107 : decode cX5_digest 107 = .ok (.if_icmp .gt 22, 3) := z_row zl_cX5_digest 107 1441955 (Nat.le_of_ble_eq_true rfl) (by decide +kernel) z_o163 (by decide +kernel)
theorem dX5_digest_110 : decode cX5_digest 110 = .ok (.lload_n 1, 1) := z_row zl_cX5_digest 110 1911327 (Nat.le_of_ble_eq_true rfl) (by decide +kernel) z_o31 (by decide +kernel)
theorem dX5_digest_111 : decode cX5_digest 111 = .ok (.aload_n 0, 1) := z_row zl_cX5_digest 111 1383722 (Nat.le_of_ble_eq_true rfl) (by decide +kernel) z_o42 (by decide +kernel)
theorem dX5_digest_112 : decode cX5_digest 112 = .ok (.iload_n 3, 1) := z_row zl_cX5_digest 112 267549 (Nat.le_of_ble_eq_true rfl) (by decide +kernel) z_o29 (by decide +kernel)
theorem dX5_digest_113 : decode cX5_digest 113 = .ok (.iload 4, 2) := z_row zl_cX5_digest 113 11928597 (Nat.le_of_ble_eq_true rfl) (by decide +kernel) z_o21 (by decide +kernel)
theorem dX5_digest_115 : decode cX5_digest 115 = .ok (.invokevirtual 194, 3) := z_row zl_cX5_digest 115 12714166 (Nat.le_of_ble_eq_true rfl) (by decide +kernel) z_o182 (by decide +kernel)
theorem dX5_digest_118 : decode cX5_digest 118 = .ok (.i2l, 1) := z_row zl_cX5_digest 118 47237 (Nat.le_of_ble_eq_true rfl) (by decide +kernel) z_o133 (by decide +kernel)
theorem dX5_digest_119 : decode cX5_digest 119 = .ok (.invokestatic 230, 3) := z_row zl_cX5_digest 119 15073464 (Nat.le_of_ble_eq_true rfl) (by decide +kernel) z_o184 (by decide +kernel)
theorem dX5_digest_122 : decode cX5_digest 122 = .ok (.lstore_n 1, 1) := z_row zl_cX5_digest 122 296000 (Nat.le_of_ble_eq_true rfl) (by decide +kernel) z_o64 (by decide +kernel)
theorem dX5_digest_123 : decode cX5_digest 123 = .ok (.iinc 4 1, 3) := z_row zl_cX5_digest 123 66692 (Nat.le_of_ble_eq_true rfl) (by decide +kernel) z_o132 (by decide +kernel)
theorem dX5_digest_126 : decode cX5_digest 126 = .ok (.goto (-22), 3) := z_row zl_cX5_digest 126 15400871 (Nat.le_of_ble_eq_true rfl) (by decide +kernel) z_o167 (by decide +kernel)
theorem dX5_digest_129 : decode cX5_digest 129 = .ok (.iinc 3 1, 3) := z_row zl_cX5_digest 129 66436 (Nat.le_of_ble_eq_true rfl) (by decide +kernel) z_o132 (by decide +kernel)
theorem dX5_digest_132 : decode cX5_digest 132 = .ok (.goto (-96), 3) := z_row zl_cX5_digest 132 10551207 (Nat.le_of_ble_eq_true rfl) (by decide +kernel) z_o167 (by decide +kernel)
theorem dX5_digest_135 : decode cX5_digest 135 = .ok (.lload_n 1, 1) := z_row zl_cX5_digest 135 11938335 (Nat.le_of_ble_eq_true rfl) (by decide +kernel) z_o31 (by decide +kernel)
theorem dX5_digest_136 : decode cX5_digest 136 = .ok (.aload_n 0, 1) := z_row zl_cX5_digest 136 46634 (Nat.le_of_ble_eq_true rfl) (by decide +kernel) z_o42 (by decide +kernel)
theorem dX5_digest_137 : decode cX5_digest 137 = .ok (.invokevirtual 222, 3) := z_row zl_cX5_digest 137 14549174 (Nat.le_of_ble_eq_true rfl) (by decide +kernel) z_o182 (by decide +kernel)
theorem dX5_digest_140 : decode cX5_digest 140 = .ok (.invokestatic 80, 3) := z_row zl_cX5_digest 140 5243064 (Nat.le_of_ble_eq_true rfl) (by decide +kernel) z_o184 (by decide +kernel)
theorem dX5_digest_143 : decode cX5_digest 143 = .ok (.i2l, 1) := z_row zl_cX5_digest 143 47237 (Nat.le_of_ble_eq_true rfl) (by decide +kernel) z_o133 (by decide +kernel)
theorem dX5_digest_144 : decode cX5_digest 144 = .ok (.invokestatic 230, 3) := z_row zl_cX5_digest 144 15073464 (Nat.le_of_ble_eq_true rfl) (by decide +kernel) z_o184 (by decide +kernel)
set_option maxRecDepth 100000 in
theorem dX5_digest_147 : decode cX5_digest 147 = .ok (.lreturn, 1) := by decide +kernel
