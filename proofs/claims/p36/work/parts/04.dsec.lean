/-! what stands at each place of the code -/
set_option maxRecDepth 100000 in
theorem dX0_init_0 : decode cX0_init 0 = .ok (.aload_n 0, 1) := by decide +kernel
set_option maxRecDepth 100000 in
theorem dX0_init_1 : decode cX0_init 1 = .ok (.invokespecial 3, 3) := by decide +kernel
set_option maxRecDepth 100000 in
theorem dX0_init_4 : decode cX0_init 4 = .ok (.aload_n 0, 1) := by decide +kernel
set_option maxRecDepth 100000 in
theorem dX0_init_5 : decode cX0_init 5 = .ok (.bipush 8, 2) := by decide +kernel
set_option maxRecDepth 100000 in
theorem dX0_init_7 : decode cX0_init 7 = .ok (.newarray .int, 2) := by decide +kernel
set_option maxRecDepth 100000 in
theorem dX0_init_9 : decode cX0_init 9 = .ok (.putfield 9, 3) := by decide +kernel
set_option maxRecDepth 100000 in
theorem dX0_init_12 : decode cX0_init 12 = .ok (.aload_n 0, 1) := by decide +kernel
set_option maxRecDepth 100000 in
theorem dX0_init_13 : decode cX0_init 13 = .ok (.bipush 7, 2) := by decide +kernel
set_option maxRecDepth 100000 in
theorem dX0_init_15 : decode cX0_init 15 = .ok (.newarray .int, 2) := by decide +kernel
set_option maxRecDepth 100000 in
theorem dX0_init_17 : decode cX0_init 17 = .ok (.putfield 15, 3) := by decide +kernel
set_option maxRecDepth 100000 in
theorem dX0_init_20 : decode cX0_init 20 = .ok (.aload_n 0, 1) := by decide +kernel
set_option maxRecDepth 100000 in
theorem dX0_init_21 : decode cX0_init 21 = .ok (.invokevirtual 18, 3) := by decide +kernel
set_option maxRecDepth 100000 in
theorem dX0_init_24 : decode cX0_init 24 = .ok (.return_, 1) := by decide +kernel
set_option maxRecDepth 100000 in
theorem dX0_clear_0 : decode cX0_clear 0 = .ok (.aload_n 0, 1) := by decide +kernel
set_option maxRecDepth 100000 in
theorem dX0_clear_1 : decode cX0_clear 1 = .ok (.iconst 0, 1) := by decide +kernel
set_option maxRecDepth 100000 in
theorem dX0_clear_2 : decode cX0_clear 2 = .ok (.putfield 21, 3) := by decide +kernel
set_option maxRecDepth 100000 in
theorem dX0_clear_5 : decode cX0_clear 5 = .ok (.aload_n 0, 1) := by decide +kernel
set_option maxRecDepth 100000 in
theorem dX0_clear_6 : decode cX0_clear 6 = .ok (.iconst 0, 1) := by decide +kernel
set_option maxRecDepth 100000 in
theorem dX0_clear_7 : decode cX0_clear 7 = .ok (.putfield 25, 3) := by decide +kernel
set_option maxRecDepth 100000 in
theorem dX0_clear_10 : decode cX0_clear 10 = .ok (.aload_n 0, 1) := by decide +kernel
set_option maxRecDepth 100000 in
theorem dX0_clear_11 : decode cX0_clear 11 = .ok (.iconst 0, 1) := by decide +kernel
set_option maxRecDepth 100000 in
theorem dX0_clear_12 : decode cX0_clear 12 = .ok (.putfield 29, 3) := by decide +kernel
set_option maxRecDepth 100000 in
theorem dX0_clear_15 : decode cX0_clear 15 = .ok (.iconst 0, 1) := by decide +kernel
set_option maxRecDepth 100000 in
theorem dX0_clear_16 : decode cX0_clear 16 = .ok (.istore_n 1, 1) := by decide +kernel
set_option maxRecDepth 100000 in
theorem dX0_clear_17 : decode cX0_clear 17 = .ok (.iload_n 1, 1) := by decide +kernel
set_option maxRecDepth 100000 in
theorem dX0_clear_18 : decode cX0_clear 18 = .ok (.aload_n 0, 1) := by decide +kernel
set_option maxRecDepth 100000 in
theorem dX0_clear_19 : decode cX0_clear 19 = .ok (.getfield 9, 3) := by decide +kernel
set_option maxRecDepth 100000 in
theorem dX0_clear_22 : decode cX0_clear 22 = .ok (.arraylength, 1) := by decide +kernel
set_option maxRecDepth 100000 in
theorem dX0_clear_23 : decode cX0_clear 23 = .ok (.if_icmp .ge 16, 3) := by decide +kernel
def zN_cX0_clear : Nat := 0xb1edffa70101844f021b0900b42a1000a2be0900b42a1b3c031d00b5032a1900b5032a1500b5032a
set_option maxRecDepth 100000 in
theorem zl_cX0_clear : cX0_clear.data.toList = z_un 40 zN_cX0_clear := eq_of_beq (by decide +kernel)
theorem dX0_clear_26 : decode cX0_clear 26 = .ok (.aload_n 0, 1) := z_row zl_cX0_clear 26 46122 (Nat.le_of_ble_eq_true rfl) (by decide +kernel) z_o42 (by decide +kernel)
theorem dX0_clear_27 : decode cX0_clear 27 = .ok (.getfield 9, 3) := z_row zl_cX0_clear 27 590004 (Nat.le_of_ble_eq_true rfl) (by decide +kernel) z_o180 (by decide +kernel)
theorem dX0_clear_30 : decode cX0_clear 30 = .ok (.iload_n 1, 1) := z_row zl_cX0_clear 30 5177883 (Nat.le_of_ble_eq_true rfl) (by decide +kernel) z_o27 (by decide +kernel)
theorem dX0_clear_31 : decode cX0_clear 31 = .ok (.iconst (-1), 1) := z_row zl_cX0_clear 31 8670978 (Nat.le_of_ble_eq_true rfl) (by decide +kernel) z_o2 (by decide +kernel)
theorem dX0_clear_32 : decode cX0_clear 32 = .ok (.iastore, 1) := z_row zl_cX0_clear 32 99407 (Nat.le_of_ble_eq_true rfl) (by decide +kernel) z_o79 (by decide +kernel)
theorem dX0_clear_33 : decode cX0_clear 33 = .ok (.iinc 1 1, 3) := z_row zl_cX0_clear 33 65924 (Nat.le_of_ble_eq_true rfl) (by decide +kernel) z_o132 (by decide +kernel)
theorem dX0_clear_36 : decode cX0_clear 36 = .ok (.goto (-19), 3) := z_row zl_cX0_clear 36 15597479 (Nat.le_of_ble_eq_true rfl) (by decide +kernel) z_o167 (by decide +kernel)
set_option maxRecDepth 100000 in
theorem dX0_clear_39 : decode cX0_clear 39 = .ok (.return_, 1) := by decide +kernel
set_option maxRecDepth 100000 in
theorem dX0_start_0 : decode cX0_start 0 = .ok (.aload_n 0, 1) := by decide +kernel
set_option maxRecDepth 100000 in
theorem dX0_start_1 : decode cX0_start 1 = .ok (.invokevirtual 18, 3) := by decide +kernel
set_option maxRecDepth 100000 in
theorem dX0_start_4 : decode cX0_start 4 = .ok (.aload_n 0, 1) := by decide +kernel
set_option maxRecDepth 100000 in
theorem dX0_start_5 : decode cX0_start 5 = .ok (.iconst 1, 1) := by decide +kernel
set_option maxRecDepth 100000 in
theorem dX0_start_6 : decode cX0_start 6 = .ok (.putfield 21, 3) := by decide +kernel
set_option maxRecDepth 100000 in
theorem dX0_start_9 : decode cX0_start 9 = .ok (.aload_n 0, 1) := by decide +kernel
set_option maxRecDepth 100000 in
theorem dX0_start_10 : decode cX0_start 10 = .ok (.iload_n 1, 1) := by decide +kernel
set_option maxRecDepth 100000 in
theorem dX0_start_11 : decode cX0_start 11 = .ok (.putfield 25, 3) := by decide +kernel
set_option maxRecDepth 100000 in
theorem dX0_start_14 : decode cX0_start 14 = .ok (.return_, 1) := by decide +kernel
set_option maxRecDepth 100000 in
theorem dX0_take_0 : decode cX0_take 0 = .ok (.aload_n 0, 1) := by decide +kernel
set_option maxRecDepth 100000 in
theorem dX0_take_1 : decode cX0_take 1 = .ok (.aload_n 1, 1) := by decide +kernel
set_option maxRecDepth 100000 in
theorem dX0_take_2 : decode cX0_take 2 = .ok (.getfield 21, 3) := by decide +kernel
set_option maxRecDepth 100000 in
theorem dX0_take_5 : decode cX0_take 5 = .ok (.putfield 21, 3) := by decide +kernel
set_option maxRecDepth 100000 in
theorem dX0_take_8 : decode cX0_take 8 = .ok (.aload_n 0, 1) := by decide +kernel
set_option maxRecDepth 100000 in
theorem dX0_take_9 : decode cX0_take 9 = .ok (.aload_n 1, 1) := by decide +kernel
set_option maxRecDepth 100000 in
theorem dX0_take_10 : decode cX0_take 10 = .ok (.getfield 25, 3) := by decide +kernel
set_option maxRecDepth 100000 in
theorem dX0_take_13 : decode cX0_take 13 = .ok (.putfield 25, 3) := by decide +kernel
set_option maxRecDepth 100000 in
theorem dX0_take_16 : decode cX0_take 16 = .ok (.aload_n 0, 1) := by decide +kernel
set_option maxRecDepth 100000 in
theorem dX0_take_17 : decode cX0_take 17 = .ok (.aload_n 1, 1) := by decide +kernel
set_option maxRecDepth 100000 in
theorem dX0_take_18 : decode cX0_take 18 = .ok (.getfield 29, 3) := by decide +kernel
set_option maxRecDepth 100000 in
theorem dX0_take_21 : decode cX0_take 21 = .ok (.putfield 29, 3) := by decide +kernel
def zN_cX0_take : Nat := 0xb1e9ffa70102844f2400b61c2b1c0f00b42a1400a2be0f00b42a1c3d03e9ffa70102844f2000b61c2b1c0900b42a1400a2be0900b42a1c3d041d00b51d00b42b2a1900b51900b42b2a1500b51500b42b2a
set_option maxRecDepth 100000 in
theorem zl_cX0_take : cX0_take.data.toList = z_un 81 zN_cX0_take := eq_of_beq (by decide +kernel)
theorem dX0_take_24 : decode cX0_take 24 = .ok (.iconst 1, 1) := z_row zl_cX0_take 24 1850628 (Nat.le_of_ble_eq_true rfl) (by decide +kernel) z_o4 (by decide +kernel)
theorem dX0_take_25 : decode cX0_take 25 = .ok (.istore_n 2, 1) := z_row zl_cX0_take 25 2759741 (Nat.le_of_ble_eq_true rfl) (by decide +kernel) z_o61 (by decide +kernel)
theorem dX0_take_26 : decode cX0_take 26 = .ok (.iload_n 2, 1) := z_row zl_cX0_take 26 11807260 (Nat.le_of_ble_eq_true rfl) (by decide +kernel) z_o28 (by decide +kernel)
theorem dX0_take_27 : decode cX0_take 27 = .ok (.aload_n 0, 1) := z_row zl_cX0_take 27 46122 (Nat.le_of_ble_eq_true rfl) (by decide +kernel) z_o42 (by decide +kernel)
theorem dX0_take_28 : decode cX0_take 28 = .ok (.getfield 9, 3) := z_row zl_cX0_take 28 590004 (Nat.le_of_ble_eq_true rfl) (by decide +kernel) z_o180 (by decide +kernel)
theorem dX0_take_31 : decode cX0_take 31 = .ok (.arraylength, 1) := z_row zl_cX0_take 31 41662 (Nat.le_of_ble_eq_true rfl) (by decide +kernel) z_o190 (by decide +kernel)
theorem dX0_take_32 : decode cX0_take 32 = .ok (.if_icmp .ge 20, 3) := z_row zl_cX0_take 32 1310882 (Nat.le_of_ble_eq_true rfl) (by decide +kernel) z_o162 (by decide +kernel)
theorem dX0_take_35 : decode cX0_take 35 = .ok (.aload_n 0, 1) := z_row zl_cX0_take 35 46122 (Nat.le_of_ble_eq_true rfl) (by decide +kernel) z_o42 (by decide +kernel)
theorem dX0_take_36 : decode cX0_take 36 = .ok (.getfield 9, 3) := z_row zl_cX0_take 36 590004 (Nat.le_of_ble_eq_true rfl) (by decide +kernel) z_o180 (by decide +kernel)
theorem dX0_take_39 : decode cX0_take 39 = .ok (.iload_n 2, 1) := z_row zl_cX0_take 39 1846044 (Nat.le_of_ble_eq_true rfl) (by decide +kernel) z_o28 (by decide +kernel)
theorem dX0_take_40 : decode cX0_take 40 = .ok (.aload_n 1, 1) := z_row zl_cX0_take 40 11934763 (Nat.le_of_ble_eq_true rfl) (by decide +kernel) z_o43 (by decide +kernel)
theorem dX0_take_41 : decode cX0_take 41 = .ok (.iload_n 2, 1) := z_row zl_cX0_take 41 46620 (Nat.le_of_ble_eq_true rfl) (by decide +kernel) z_o28 (by decide +kernel)
theorem dX0_take_42 : decode cX0_take 42 = .ok (.invokevirtual 32, 3) := z_row zl_cX0_take 42 2097334 (Nat.le_of_ble_eq_true rfl) (by decide +kernel) z_o182 (by decide +kernel)
theorem dX0_take_45 : decode cX0_take 45 = .ok (.iastore, 1) := z_row zl_cX0_take 45 164943 (Nat.le_of_ble_eq_true rfl) (by decide +kernel) z_o79 (by decide +kernel)
theorem dX0_take_46 : decode cX0_take 46 = .ok (.iinc 2 1, 3) := z_row zl_cX0_take 46 66180 (Nat.le_of_ble_eq_true rfl) (by decide +kernel) z_o132 (by decide +kernel)
theorem dX0_take_49 : decode cX0_take 49 = .ok (.goto (-23), 3) := z_row zl_cX0_take 49 15335335 (Nat.le_of_ble_eq_true rfl) (by decide +kernel) z_o167 (by decide +kernel)
theorem dX0_take_52 : decode cX0_take 52 = .ok (.iconst 0, 1) := z_row zl_cX0_take 52 1850627 (Nat.le_of_ble_eq_true rfl) (by decide +kernel) z_o3 (by decide +kernel)
theorem dX0_take_53 : decode cX0_take 53 = .ok (.istore_n 2, 1) := z_row zl_cX0_take 53 2759741 (Nat.le_of_ble_eq_true rfl) (by decide +kernel) z_o61 (by decide +kernel)
theorem dX0_take_54 : decode cX0_take 54 = .ok (.iload_n 2, 1) := z_row zl_cX0_take 54 11807260 (Nat.le_of_ble_eq_true rfl) (by decide +kernel) z_o28 (by decide +kernel)
theorem dX0_take_55 : decode cX0_take 55 = .ok (.aload_n 0, 1) := z_row zl_cX0_take 55 46122 (Nat.le_of_ble_eq_true rfl) (by decide +kernel) z_o42 (by decide +kernel)
theorem dX0_take_56 : decode cX0_take 56 = .ok (.getfield 15, 3) := z_row zl_cX0_take 56 983220 (Nat.le_of_ble_eq_true rfl) (by decide +kernel) z_o180 (by decide +kernel)
theorem dX0_take_59 : decode cX0_take 59 = .ok (.arraylength, 1) := z_row zl_cX0_take 59 41662 (Nat.le_of_ble_eq_true rfl) (by decide +kernel) z_o190 (by decide +kernel)
theorem dX0_take_60 : decode cX0_take 60 = .ok (.if_icmp .ge 20, 3) := z_row zl_cX0_take 60 1310882 (Nat.le_of_ble_eq_true rfl) (by decide +kernel) z_o162 (by decide +kernel)
theorem dX0_take_63 : decode cX0_take 63 = .ok (.aload_n 0, 1) := z_row zl_cX0_take 63 46122 (Nat.le_of_ble_eq_true rfl) (by decide +kernel) z_o42 (by decide +kernel)
theorem dX0_take_64 : decode cX0_take 64 = .ok (.getfield 15, 3) := z_row zl_cX0_take 64 983220 (Nat.le_of_ble_eq_true rfl) (by decide +kernel) z_o180 (by decide +kernel)
theorem dX0_take_67 : decode cX0_take 67 = .ok (.iload_n 2, 1) := z_row zl_cX0_take 67 1846044 (Nat.le_of_ble_eq_true rfl) (by decide +kernel) z_o28 (by decide +kernel)
theorem dX0_take_68 : decode cX0_take 68 = .ok (.aload_n 1, 1) := z_row zl_cX0_take 68 11934763 (Nat.le_of_ble_eq_true rfl) (by decide +kernel) z_o43 (by decide +kernel)
theorem dX0_take_69 : decode cX0_take 69 = .ok (.iload_n 2, 1) := z_row zl_cX0_take 69 46620 (Nat.le_of_ble_eq_true rfl) (by decide +kernel) z_o28 (by decide +kernel)
theorem dX0_take_70 : decode cX0_take 70 = .ok (.invokevirtual 36, 3) := z_row zl_cX0_take 70 2359478 (Nat.le_of_ble_eq_true rfl) (by decide +kernel) z_o182 (by decide +kernel)
theorem dX0_take_73 : decode cX0_take 73 = .ok (.iastore, 1) := z_row zl_cX0_take 73 164943 (Nat.le_of_ble_eq_true rfl) (by decide +kernel) z_o79 (by decide +kernel)
theorem dX0_take_74 : decode cX0_take 74 = .ok (.iinc 2 1, 3) := z_row zl_cX0_take 74 66180 (Nat.le_of_ble_eq_true rfl) (by decide +kernel) z_o132 (by decide +kernel)
theorem dX0_take_77 : decode cX0_take 77 = .ok (.goto (-23), 3) := z_row zl_cX0_take 77 15335335 (Nat.le_of_ble_eq_true rfl) (by decide +kernel) z_o167 (by decide +kernel)
set_option maxRecDepth 100000 in
theorem dX0_take_80 : decode cX0_take 80 = .ok (.return_, 1) := by decide +kernel
set_option maxRecDepth 100000 in
theorem dX0_isEmpty_0 : decode cX0_isEmpty 0 = .ok (.aload_n 0, 1) := by decide +kernel
set_option maxRecDepth 100000 in
theorem dX0_isEmpty_1 : decode cX0_isEmpty 1 = .ok (.getfield 21, 3) := by decide +kernel
set_option maxRecDepth 100000 in
theorem dX0_isEmpty_4 : decode cX0_isEmpty 4 = .ok (.ifCond .ne 7, 3) := by decide +kernel
set_option maxRecDepth 100000 in
theorem dX0_isEmpty_7 : decode cX0_isEmpty 7 = .ok (.iconst 1, 1) := by decide +kernel
set_option maxRecDepth 100000 in
theorem dX0_isEmpty_8 : decode cX0_isEmpty 8 = .ok (.goto 4, 3) := by decide +kernel
set_option maxRecDepth 100000 in
theorem dX0_isEmpty_11 : decode cX0_isEmpty 11 = .ok (.iconst 0, 1) := by decide +kernel
set_option maxRecDepth 100000 in
theorem dX0_isEmpty_12 : decode cX0_isEmpty 12 = .ok (.ireturn, 1) := by decide +kernel
set_option maxRecDepth 100000 in
theorem dX0_shareAt_0 : decode cX0_shareAt 0 = .ok (.iload_n 1, 1) := by decide +kernel
set_option maxRecDepth 100000 in
theorem dX0_shareAt_1 : decode cX0_shareAt 1 = .ok (.iconst 1, 1) := by decide +kernel
set_option maxRecDepth 100000 in
theorem dX0_shareAt_2 : decode cX0_shareAt 2 = .ok (.if_icmp .lt 21, 3) := by decide +kernel
set_option maxRecDepth 100000 in
theorem dX0_shareAt_5 : decode cX0_shareAt 5 = .ok (.iload_n 1, 1) := by decide +kernel
set_option maxRecDepth 100000 in
theorem dX0_shareAt_6 : decode cX0_shareAt 6 = .ok (.aload_n 0, 1) := by decide +kernel
set_option maxRecDepth 100000 in
theorem dX0_shareAt_7 : decode cX0_shareAt 7 = .ok (.getfield 9, 3) := by decide +kernel
set_option maxRecDepth 100000 in
theorem dX0_shareAt_10 : decode cX0_shareAt 10 = .ok (.arraylength, 1) := by decide +kernel
set_option maxRecDepth 100000 in
theorem dX0_shareAt_11 : decode cX0_shareAt 11 = .ok (.if_icmp .ge 12, 3) := by decide +kernel
set_option maxRecDepth 100000 in
theorem dX0_shareAt_14 : decode cX0_shareAt 14 = .ok (.aload_n 0, 1) := by decide +kernel
set_option maxRecDepth 100000 in
theorem dX0_shareAt_15 : decode cX0_shareAt 15 = .ok (.getfield 9, 3) := by decide +kernel
set_option maxRecDepth 100000 in
theorem dX0_shareAt_18 : decode cX0_shareAt 18 = .ok (.iload_n 1, 1) := by decide +kernel
set_option maxRecDepth 100000 in
theorem dX0_shareAt_19 : decode cX0_shareAt 19 = .ok (.iaload, 1) := by decide +kernel
set_option maxRecDepth 100000 in
theorem dX0_shareAt_20 : decode cX0_shareAt 20 = .ok (.goto 4, 3) := by decide +kernel
set_option maxRecDepth 100000 in
theorem dX0_shareAt_24 : decode cX0_shareAt 24 = .ok (.ireturn, 1) := by decide +kernel
set_option maxRecDepth 100000 in
theorem dX0_hasShare_0 : decode cX0_hasShare 0 = .ok (.aload_n 0, 1) := by decide +kernel
set_option maxRecDepth 100000 in
theorem dX0_hasShare_1 : decode cX0_hasShare 1 = .ok (.iload_n 1, 1) := by decide +kernel
set_option maxRecDepth 100000 in
theorem dX0_hasShare_2 : decode cX0_hasShare 2 = .ok (.invokevirtual 32, 3) := by decide +kernel
set_option maxRecDepth 100000 in
theorem dX0_hasShare_5 : decode cX0_hasShare 5 = .ok (.iconst (-1), 1) := by decide +kernel
set_option maxRecDepth 100000 in
theorem dX0_hasShare_6 : decode cX0_hasShare 6 = .ok (.if_icmp .eq 7, 3) := by decide +kernel
set_option maxRecDepth 100000 in
theorem dX0_hasShare_9 : decode cX0_hasShare 9 = .ok (.iconst 1, 1) := by decide +kernel
set_option maxRecDepth 100000 in
theorem dX0_hasShare_10 : decode cX0_hasShare 10 = .ok (.goto 4, 3) := by decide +kernel
set_option maxRecDepth 100000 in
theorem dX0_hasShare_13 : decode cX0_hasShare 13 = .ok (.iconst 0, 1) := by decide +kernel
set_option maxRecDepth 100000 in
theorem dX0_hasShare_14 : decode cX0_hasShare 14 = .ok (.ireturn, 1) := by decide +kernel
set_option maxRecDepth 100000 in
theorem dX0_setShare_0 : decode cX0_setShare 0 = .ok (.iload_n 1, 1) := by decide +kernel
set_option maxRecDepth 100000 in
theorem dX0_setShare_1 : decode cX0_setShare 1 = .ok (.iconst 1, 1) := by decide +kernel
set_option maxRecDepth 100000 in
theorem dX0_setShare_2 : decode cX0_setShare 2 = .ok (.if_icmp .lt 19, 3) := by decide +kernel
set_option maxRecDepth 100000 in
theorem dX0_setShare_5 : decode cX0_setShare 5 = .ok (.iload_n 1, 1) := by decide +kernel
set_option maxRecDepth 100000 in
theorem dX0_setShare_6 : decode cX0_setShare 6 = .ok (.aload_n 0, 1) := by decide +kernel
set_option maxRecDepth 100000 in
theorem dX0_setShare_7 : decode cX0_setShare 7 = .ok (.getfield 9, 3) := by decide +kernel
set_option maxRecDepth 100000 in
theorem dX0_setShare_10 : decode cX0_setShare 10 = .ok (.arraylength, 1) := by decide +kernel
set_option maxRecDepth 100000 in
theorem dX0_setShare_11 : decode cX0_setShare 11 = .ok (.if_icmp .ge 10, 3) := by decide +kernel
set_option maxRecDepth 100000 in
theorem dX0_setShare_14 : decode cX0_setShare 14 = .ok (.aload_n 0, 1) := by decide +kernel
set_option maxRecDepth 100000 in
theorem dX0_setShare_15 : decode cX0_setShare 15 = .ok (.getfield 9, 3) := by decide +kernel
set_option maxRecDepth 100000 in
theorem dX0_setShare_18 : decode cX0_setShare 18 = .ok (.iload_n 1, 1) := by decide +kernel
set_option maxRecDepth 100000 in
theorem dX0_setShare_19 : decode cX0_setShare 19 = .ok (.iload_n 2, 1) := by decide +kernel
set_option maxRecDepth 100000 in
theorem dX0_setShare_20 : decode cX0_setShare 20 = .ok (.iastore, 1) := by decide +kernel
set_option maxRecDepth 100000 in
theorem dX0_setShare_21 : decode cX0_setShare 21 = .ok (.return_, 1) := by decide +kernel
set_option maxRecDepth 100000 in
theorem dX0_holderSet_0 : decode cX0_holderSet 0 = .ok (.iconst 0, 1) := by decide +kernel
set_option maxRecDepth 100000 in
theorem dX0_holderSet_1 : decode cX0_holderSet 1 = .ok (.istore_n 1, 1) := by decide +kernel
set_option maxRecDepth 100000 in
theorem dX0_holderSet_2 : decode cX0_holderSet 2 = .ok (.iconst 1, 1) := by decide +kernel
set_option maxRecDepth 100000 in
theorem dX0_holderSet_3 : decode cX0_holderSet 3 = .ok (.istore_n 2, 1) := by decide +kernel
set_option maxRecDepth 100000 in
theorem dX0_holderSet_4 : decode cX0_holderSet 4 = .ok (.iload_n 2, 1) := by decide +kernel
set_option maxRecDepth 100000 in
theorem dX0_holderSet_5 : decode cX0_holderSet 5 = .ok (.aload_n 0, 1) := by decide +kernel
set_option maxRecDepth 100000 in
theorem dX0_holderSet_6 : decode cX0_holderSet 6 = .ok (.getfield 9, 3) := by decide +kernel
set_option maxRecDepth 100000 in
theorem dX0_holderSet_9 : decode cX0_holderSet 9 = .ok (.arraylength, 1) := by decide +kernel
set_option maxRecDepth 100000 in
theorem dX0_holderSet_10 : decode cX0_holderSet 10 = .ok (.if_icmp .ge 26, 3) := by decide +kernel
set_option maxRecDepth 100000 in
theorem dX0_holderSet_13 : decode cX0_holderSet 13 = .ok (.aload_n 0, 1) := by decide +kernel
set_option maxRecDepth 100000 in
theorem dX0_holderSet_14 : decode cX0_holderSet 14 = .ok (.getfield 9, 3) := by decide +kernel
set_option maxRecDepth 100000 in
theorem dX0_holderSet_17 : decode cX0_holderSet 17 = .ok (.iload_n 2, 1) := by decide +kernel
set_option maxRecDepth 100000 in
theorem dX0_holderSet_18 : decode cX0_holderSet 18 = .ok (.iaload, 1) := by decide +kernel
set_option maxRecDepth 100000 in
theorem dX0_holderSet_19 : decode cX0_holderSet 19 = .ok (.iconst (-1), 1) := by decide +kernel
set_option maxRecDepth 100000 in
theorem dX0_holderSet_20 : decode cX0_holderSet 20 = .ok (.if_icmp .eq 10, 3) := by decide +kernel
set_option maxRecDepth 100000 in
theorem dX0_holderSet_23 : decode cX0_holderSet 23 = .ok (.iload_n 1, 1) := by decide +kernel
def zN_cX0_holderSet : Nat := 0xac1be3ffa70102843c802700b81c1b0a009f022e1c0900b42a1a00a2be0900b42a1c3d043c03
set_option maxRecDepth 100000 in
theorem zl_cX0_holderSet : cX0_holderSet.data.toList = z_un 38 zN_cX0_holderSet := eq_of_beq (by decide +kernel)
theorem dX0_holderSet_24 : decode cX0_holderSet 24 = .ok (.iload_n 2, 1) := z_row zl_cX0_holderSet 24 47132 (Nat.le_of_ble_eq_true rfl) (by decide +kernel) z_o28 (by decide +kernel)
theorem dX0_holderSet_25 : decode cX0_holderSet 25 = .ok (.invokestatic 39, 3) := z_row zl_cX0_holderSet 25 2556088 (Nat.le_of_ble_eq_true rfl) (by decide +kernel) z_o184 (by decide +kernel)
theorem dX0_holderSet_28 : decode cX0_holderSet 28 = .ok (.ior, 1) := z_row zl_cX0_holderSet 28 8666240 (Nat.le_of_ble_eq_true rfl) (by decide +kernel) z_o128 (by decide +kernel)
theorem dX0_holderSet_29 : decode cX0_holderSet 29 = .ok (.istore_n 1, 1) := z_row zl_cX0_holderSet 29 164924 (Nat.le_of_ble_eq_true rfl) (by decide +kernel) z_o60 (by decide +kernel)
theorem dX0_holderSet_30 : decode cX0_holderSet 30 = .ok (.iinc 2 1, 3) := z_row zl_cX0_holderSet 30 66180 (Nat.le_of_ble_eq_true rfl) (by decide +kernel) z_o132 (by decide +kernel)
theorem dX0_holderSet_33 : decode cX0_holderSet 33 = .ok (.goto (-29), 3) := z_row zl_cX0_holderSet 33 14942119 (Nat.le_of_ble_eq_true rfl) (by decide +kernel) z_o167 (by decide +kernel)
set_option maxRecDepth 100000 in
theorem dX0_holderSet_36 : decode cX0_holderSet 36 = .ok (.iload_n 1, 1) := by decide +kernel
set_option maxRecDepth 100000 in
theorem dX0_holderSet_37 : decode cX0_holderSet 37 = .ok (.ireturn, 1) := by decide +kernel
set_option maxRecDepth 100000 in
theorem dX0_shareCount_0 : decode cX0_shareCount 0 = .ok (.aload_n 0, 1) := by decide +kernel
set_option maxRecDepth 100000 in
theorem dX0_shareCount_1 : decode cX0_shareCount 1 = .ok (.invokevirtual 42, 3) := by decide +kernel
set_option maxRecDepth 100000 in
theorem dX0_shareCount_4 : decode cX0_shareCount 4 = .ok (.invokestatic 46, 3) := by decide +kernel
set_option maxRecDepth 100000 in
theorem dX0_shareCount_7 : decode cX0_shareCount 7 = .ok (.ireturn, 1) := by decide +kernel
set_option maxRecDepth 100000 in
theorem dX0_firstSet_0 : decode cX0_firstSet 0 = .ok (.iconst 0, 1) := by decide +kernel
set_option maxRecDepth 100000 in
theorem dX0_firstSet_1 : decode cX0_firstSet 1 = .ok (.istore_n 1, 1) := by decide +kernel
set_option maxRecDepth 100000 in
theorem dX0_firstSet_2 : decode cX0_firstSet 2 = .ok (.aload_n 0, 1) := by decide +kernel
set_option maxRecDepth 100000 in
theorem dX0_firstSet_3 : decode cX0_firstSet 3 = .ok (.getfield 25, 3) := by decide +kernel
set_option maxRecDepth 100000 in
theorem dX0_firstSet_6 : decode cX0_firstSet 6 = .ok (.iconst 1, 1) := by decide +kernel
set_option maxRecDepth 100000 in
theorem dX0_firstSet_7 : decode cX0_firstSet 7 = .ok (.iadd, 1) := by decide +kernel
set_option maxRecDepth 100000 in
theorem dX0_firstSet_8 : decode cX0_firstSet 8 = .ok (.istore_n 2, 1) := by decide +kernel
set_option maxRecDepth 100000 in
theorem dX0_firstSet_9 : decode cX0_firstSet 9 = .ok (.iconst 1, 1) := by decide +kernel
set_option maxRecDepth 100000 in
theorem dX0_firstSet_10 : decode cX0_firstSet 10 = .ok (.istore_n 3, 1) := by decide +kernel
set_option maxRecDepth 100000 in
theorem dX0_firstSet_11 : decode cX0_firstSet 11 = .ok (.iload_n 3, 1) := by decide +kernel
set_option maxRecDepth 100000 in
theorem dX0_firstSet_12 : decode cX0_firstSet 12 = .ok (.aload_n 0, 1) := by decide +kernel
set_option maxRecDepth 100000 in
theorem dX0_firstSet_13 : decode cX0_firstSet 13 = .ok (.getfield 9, 3) := by decide +kernel
set_option maxRecDepth 100000 in
theorem dX0_firstSet_16 : decode cX0_firstSet 16 = .ok (.arraylength, 1) := by decide +kernel
set_option maxRecDepth 100000 in
theorem dX0_firstSet_17 : decode cX0_firstSet 17 = .ok (.if_icmp .ge 33, 3) := by decide +kernel
set_option maxRecDepth 100000 in
theorem dX0_firstSet_20 : decode cX0_firstSet 20 = .ok (.iload_n 2, 1) := by decide +kernel
set_option maxRecDepth 100000 in
theorem dX0_firstSet_21 : decode cX0_firstSet 21 = .ok (.ifCond .le 29, 3) := by decide +kernel
def zN_cX0_firstSet : Nat := 0xac030400a71b07009a1cdcffa7010384ff02843c802700b81d1b0d009f022e1d0900b42a1d009e1c2100a2be0900b42a1d3e043d60041900b42a3c03
set_option maxRecDepth 100000 in
theorem zl_cX0_firstSet : cX0_firstSet.data.toList = z_un 60 zN_cX0_firstSet := eq_of_beq (by decide +kernel)
theorem dX0_firstSet_24 : decode cX0_firstSet 24 = .ok (.aload_n 0, 1) := z_row zl_cX0_firstSet 24 46122 (Nat.le_of_ble_eq_true rfl) (by decide +kernel) z_o42 (by decide +kernel)
theorem dX0_firstSet_25 : decode cX0_firstSet 25 = .ok (.getfield 9, 3) := z_row zl_cX0_firstSet 25 590004 (Nat.le_of_ble_eq_true rfl) (by decide +kernel) z_o180 (by decide +kernel)
theorem dX0_firstSet_28 : decode cX0_firstSet 28 = .ok (.iload_n 3, 1) := z_row zl_cX0_firstSet 28 142877 (Nat.le_of_ble_eq_true rfl) (by decide +kernel) z_o29 (by decide +kernel)
theorem dX0_firstSet_29 : decode cX0_firstSet 29 = .ok (.iaload, 1) := z_row zl_cX0_firstSet 29 10420782 (Nat.le_of_ble_eq_true rfl) (by decide +kernel) z_o46 (by decide +kernel)
theorem dX0_firstSet_30 : decode cX0_firstSet 30 = .ok (.iconst (-1), 1) := z_row zl_cX0_firstSet 30 40706 (Nat.le_of_ble_eq_true rfl) (by decide +kernel) z_o2 (by decide +kernel)
theorem dX0_firstSet_31 : decode cX0_firstSet 31 = .ok (.if_icmp .eq 13, 3) := z_row zl_cX0_firstSet 31 852127 (Nat.le_of_ble_eq_true rfl) (by decide +kernel) z_o159 (by decide +kernel)
theorem dX0_firstSet_34 : decode cX0_firstSet 34 = .ok (.iload_n 1, 1) := z_row zl_cX0_firstSet 34 12066075 (Nat.le_of_ble_eq_true rfl) (by decide +kernel) z_o27 (by decide +kernel)
theorem dX0_firstSet_35 : decode cX0_firstSet 35 = .ok (.iload_n 3, 1) := z_row zl_cX0_firstSet 35 47133 (Nat.le_of_ble_eq_true rfl) (by decide +kernel) z_o29 (by decide +kernel)
theorem dX0_firstSet_36 : decode cX0_firstSet 36 = .ok (.invokestatic 39, 3) := z_row zl_cX0_firstSet 36 2556088 (Nat.le_of_ble_eq_true rfl) (by decide +kernel) z_o184 (by decide +kernel)
theorem dX0_firstSet_39 : decode cX0_firstSet 39 = .ok (.ior, 1) := z_row zl_cX0_firstSet 39 8666240 (Nat.le_of_ble_eq_true rfl) (by decide +kernel) z_o128 (by decide +kernel)
theorem dX0_firstSet_40 : decode cX0_firstSet 40 = .ok (.istore_n 1, 1) := z_row zl_cX0_firstSet 40 164924 (Nat.le_of_ble_eq_true rfl) (by decide +kernel) z_o60 (by decide +kernel)
theorem dX0_firstSet_41 : decode cX0_firstSet 41 = .ok (.iinc 2 (-1), 3) := z_row zl_cX0_firstSet 41 16712324 (Nat.le_of_ble_eq_true rfl) (by decide +kernel) z_o132 (by decide +kernel)
theorem dX0_firstSet_44 : decode cX0_firstSet 44 = .ok (.iinc 3 1, 3) := z_row zl_cX0_firstSet 44 66436 (Nat.le_of_ble_eq_true rfl) (by decide +kernel) z_o132 (by decide +kernel)
theorem dX0_firstSet_47 : decode cX0_firstSet 47 = .ok (.goto (-36), 3) := z_row zl_cX0_firstSet 47 14483367 (Nat.le_of_ble_eq_true rfl) (by decide +kernel) z_o167 (by decide +kernel)
theorem dX0_firstSet_50 : decode cX0_firstSet 50 = .ok (.iload_n 2, 1) := z_row zl_cX0_firstSet 50 39452 (Nat.le_of_ble_eq_true rfl) (by decide +kernel) z_o28 (by decide +kernel)
theorem dX0_firstSet_51 : decode cX0_firstSet 51 = .ok (.ifCond .ne 7, 3) := z_row zl_cX0_firstSet 51 458906 (Nat.le_of_ble_eq_true rfl) (by decide +kernel) z_o154 (by decide +kernel)
theorem dX0_firstSet_54 : decode cX0_firstSet 54 = .ok (.iload_n 1, 1) := z_row zl_cX0_firstSet 54 42779 (Nat.le_of_ble_eq_true rfl) (by decide +kernel) z_o27 (by decide +kernel)
theorem dX0_firstSet_55 : decode cX0_firstSet 55 = .ok (.goto 4, 3) := z_row zl_cX0_firstSet 55 262311 (Nat.le_of_ble_eq_true rfl) (by decide +kernel) z_o167 (by decide +kernel)
set_option maxRecDepth 100000 in
theorem dX0_firstSet_58 : decode cX0_firstSet 58 = .ok (.iconst 0, 1) := by decide +kernel
set_option maxRecDepth 100000 in
theorem dX0_firstSet_59 : decode cX0_firstSet 59 = .ok (.ireturn, 1) := by decide +kernel
set_option maxRecDepth 100000 in
theorem dX0_isThere_0 : decode cX0_isThere 0 = .ok (.aload_n 0, 1) := by decide +kernel
set_option maxRecDepth 100000 in
theorem dX0_isThere_1 : decode cX0_isThere 1 = .ok (.getfield 21, 3) := by decide +kernel
set_option maxRecDepth 100000 in
theorem dX0_isThere_4 : decode cX0_isThere 4 = .ok (.ifCond .eq 17, 3) := by decide +kernel
set_option maxRecDepth 100000 in
theorem dX0_isThere_7 : decode cX0_isThere 7 = .ok (.aload_n 0, 1) := by decide +kernel
set_option maxRecDepth 100000 in
theorem dX0_isThere_8 : decode cX0_isThere 8 = .ok (.invokevirtual 42, 3) := by decide +kernel
set_option maxRecDepth 100000 in
theorem dX0_isThere_11 : decode cX0_isThere 11 = .ok (.iload_n 1, 1) := by decide +kernel
set_option maxRecDepth 100000 in
theorem dX0_isThere_12 : decode cX0_isThere 12 = .ok (.iand, 1) := by decide +kernel
set_option maxRecDepth 100000 in
theorem dX0_isThere_13 : decode cX0_isThere 13 = .ok (.iload_n 1, 1) := by decide +kernel
set_option maxRecDepth 100000 in
theorem dX0_isThere_14 : decode cX0_isThere 14 = .ok (.if_icmp .ne 7, 3) := by decide +kernel
set_option maxRecDepth 100000 in
theorem dX0_isThere_17 : decode cX0_isThere 17 = .ok (.iconst 1, 1) := by decide +kernel
set_option maxRecDepth 100000 in
theorem dX0_isThere_18 : decode cX0_isThere 18 = .ok (.goto 4, 3) := by decide +kernel
set_option maxRecDepth 100000 in
theorem dX0_isThere_21 : decode cX0_isThere 21 = .ok (.iconst 0, 1) := by decide +kernel
set_option maxRecDepth 100000 in
theorem dX0_isThere_22 : decode cX0_isThere 22 = .ok (.ireturn, 1) := by decide +kernel
set_option maxRecDepth 100000 in
theorem dX0_isEnough_0 : decode cX0_isEnough 0 = .ok (.aload_n 0, 1) := by decide +kernel
set_option maxRecDepth 100000 in
theorem dX0_isEnough_1 : decode cX0_isEnough 1 = .ok (.iload_n 1, 1) := by decide +kernel
set_option maxRecDepth 100000 in
theorem dX0_isEnough_2 : decode cX0_isEnough 2 = .ok (.invokevirtual 51, 3) := by decide +kernel
set_option maxRecDepth 100000 in
theorem dX0_isEnough_5 : decode cX0_isEnough 5 = .ok (.ifCond .eq 18, 3) := by decide +kernel
set_option maxRecDepth 100000 in
theorem dX0_isEnough_8 : decode cX0_isEnough 8 = .ok (.iload_n 1, 1) := by decide +kernel
set_option maxRecDepth 100000 in
theorem dX0_isEnough_9 : decode cX0_isEnough 9 = .ok (.invokestatic 46, 3) := by decide +kernel
set_option maxRecDepth 100000 in
theorem dX0_isEnough_12 : decode cX0_isEnough 12 = .ok (.aload_n 0, 1) := by decide +kernel
set_option maxRecDepth 100000 in
theorem dX0_isEnough_13 : decode cX0_isEnough 13 = .ok (.getfield 25, 3) := by decide +kernel
set_option maxRecDepth 100000 in
theorem dX0_isEnough_16 : decode cX0_isEnough 16 = .ok (.if_icmp .le 7, 3) := by decide +kernel
set_option maxRecDepth 100000 in
theorem dX0_isEnough_19 : decode cX0_isEnough 19 = .ok (.iconst 1, 1) := by decide +kernel
set_option maxRecDepth 100000 in
theorem dX0_isEnough_20 : decode cX0_isEnough 20 = .ok (.goto 4, 3) := by decide +kernel
set_option maxRecDepth 100000 in
theorem dX0_isEnough_23 : decode cX0_isEnough 23 = .ok (.iconst 0, 1) := by decide +kernel
set_option maxRecDepth 100000 in
theorem dX0_isEnough_24 : decode cX0_isEnough 24 = .ok (.ireturn, 1) := by decide +kernel
set_option maxRecDepth 100000 in
theorem dX0_hasSeals_0 : decode cX0_hasSeals 0 = .ok (.aload_n 0, 1) := by decide +kernel
set_option maxRecDepth 100000 in
theorem dX0_hasSeals_1 : decode cX0_hasSeals 1 = .ok (.getfield 29, 3) := by decide +kernel
set_option maxRecDepth 100000 in
theorem dX0_hasSeals_4 : decode cX0_hasSeals 4 = .ok (.ifCond .le 7, 3) := by decide +kernel
set_option maxRecDepth 100000 in
theorem dX0_hasSeals_7 : decode cX0_hasSeals 7 = .ok (.iconst 1, 1) := by decide +kernel
set_option maxRecDepth 100000 in
theorem dX0_hasSeals_8 : decode cX0_hasSeals 8 = .ok (.goto 4, 3) := by decide +kernel
set_option maxRecDepth 100000 in
theorem dX0_hasSeals_11 : decode cX0_hasSeals 11 = .ok (.iconst 0, 1) := by decide +kernel
set_option maxRecDepth 100000 in
theorem dX0_hasSeals_12 : decode cX0_hasSeals 12 = .ok (.ireturn, 1) := by decide +kernel
set_option maxRecDepth 100000 in
theorem dX0_sealAt_0 : decode cX0_sealAt 0 = .ok (.iload_n 1, 1) := by decide +kernel
set_option maxRecDepth 100000 in
theorem dX0_sealAt_1 : decode cX0_sealAt 1 = .ok (.ifCond .lt 29, 3) := by decide +kernel
set_option maxRecDepth 100000 in
theorem dX0_sealAt_4 : decode cX0_sealAt 4 = .ok (.iload_n 1, 1) := by decide +kernel
set_option maxRecDepth 100000 in
theorem dX0_sealAt_5 : decode cX0_sealAt 5 = .ok (.aload_n 0, 1) := by decide +kernel
set_option maxRecDepth 100000 in
theorem dX0_sealAt_6 : decode cX0_sealAt 6 = .ok (.getfield 29, 3) := by decide +kernel
set_option maxRecDepth 100000 in
theorem dX0_sealAt_9 : decode cX0_sealAt 9 = .ok (.if_icmp .ge 21, 3) := by decide +kernel
set_option maxRecDepth 100000 in
theorem dX0_sealAt_12 : decode cX0_sealAt 12 = .ok (.iload_n 1, 1) := by decide +kernel
set_option maxRecDepth 100000 in
theorem dX0_sealAt_13 : decode cX0_sealAt 13 = .ok (.aload_n 0, 1) := by decide +kernel
set_option maxRecDepth 100000 in
theorem dX0_sealAt_14 : decode cX0_sealAt 14 = .ok (.getfield 15, 3) := by decide +kernel
set_option maxRecDepth 100000 in
theorem dX0_sealAt_17 : decode cX0_sealAt 17 = .ok (.arraylength, 1) := by decide +kernel
set_option maxRecDepth 100000 in
theorem dX0_sealAt_18 : decode cX0_sealAt 18 = .ok (.if_icmp .ge 12, 3) := by decide +kernel
set_option maxRecDepth 100000 in
theorem dX0_sealAt_21 : decode cX0_sealAt 21 = .ok (.aload_n 0, 1) := by decide +kernel
set_option maxRecDepth 100000 in
theorem dX0_sealAt_22 : decode cX0_sealAt 22 = .ok (.getfield 15, 3) := by decide +kernel
def zN_cX0_sealAt : Nat := 0xac020400a72e1b0f00b42a0c00a2be0f00b42a1b1500a21d00b42a1b1d009b1b
set_option maxRecDepth 100000 in
theorem zl_cX0_sealAt : cX0_sealAt.data.toList = z_un 32 zN_cX0_sealAt := eq_of_beq (by decide +kernel)
theorem dX0_sealAt_25 : decode cX0_sealAt 25 = .ok (.iload_n 1, 1) := z_row zl_cX0_sealAt 25 10956315 (Nat.le_of_ble_eq_true rfl) (by decide +kernel) z_o27 (by decide +kernel)
theorem dX0_sealAt_26 : decode cX0_sealAt 26 = .ok (.iaload, 1) := z_row zl_cX0_sealAt 26 42798 (Nat.le_of_ble_eq_true rfl) (by decide +kernel) z_o46 (by decide +kernel)
theorem dX0_sealAt_27 : decode cX0_sealAt 27 = .ok (.goto 4, 3) := z_row zl_cX0_sealAt 27 262311 (Nat.le_of_ble_eq_true rfl) (by decide +kernel) z_o167 (by decide +kernel)
set_option maxRecDepth 100000 in
theorem dX0_sealAt_30 : decode cX0_sealAt 30 = .ok (.iconst (-1), 1) := by decide +kernel
set_option maxRecDepth 100000 in
theorem dX0_sealAt_31 : decode cX0_sealAt 31 = .ok (.ireturn, 1) := by decide +kernel
set_option maxRecDepth 100000 in
theorem dX0_setSeal_0 : decode cX0_setSeal 0 = .ok (.iload_n 1, 1) := by decide +kernel
set_option maxRecDepth 100000 in
theorem dX0_setSeal_1 : decode cX0_setSeal 1 = .ok (.ifCond .lt 27, 3) := by decide +kernel
set_option maxRecDepth 100000 in
theorem dX0_setSeal_4 : decode cX0_setSeal 4 = .ok (.iload_n 1, 1) := by decide +kernel
set_option maxRecDepth 100000 in
theorem dX0_setSeal_5 : decode cX0_setSeal 5 = .ok (.aload_n 0, 1) := by decide +kernel
set_option maxRecDepth 100000 in
theorem dX0_setSeal_6 : decode cX0_setSeal 6 = .ok (.getfield 29, 3) := by decide +kernel
set_option maxRecDepth 100000 in
theorem dX0_setSeal_9 : decode cX0_setSeal 9 = .ok (.if_icmp .ge 19, 3) := by decide +kernel
set_option maxRecDepth 100000 in
theorem dX0_setSeal_12 : decode cX0_setSeal 12 = .ok (.iload_n 1, 1) := by decide +kernel
set_option maxRecDepth 100000 in
theorem dX0_setSeal_13 : decode cX0_setSeal 13 = .ok (.aload_n 0, 1) := by decide +kernel
set_option maxRecDepth 100000 in
theorem dX0_setSeal_14 : decode cX0_setSeal 14 = .ok (.getfield 15, 3) := by decide +kernel
set_option maxRecDepth 100000 in
theorem dX0_setSeal_17 : decode cX0_setSeal 17 = .ok (.arraylength, 1) := by decide +kernel
set_option maxRecDepth 100000 in
theorem dX0_setSeal_18 : decode cX0_setSeal 18 = .ok (.if_icmp .ge 10, 3) := by decide +kernel
set_option maxRecDepth 100000 in
theorem dX0_setSeal_21 : decode cX0_setSeal 21 = .ok (.aload_n 0, 1) := by decide +kernel
set_option maxRecDepth 100000 in
theorem dX0_setSeal_22 : decode cX0_setSeal 22 = .ok (.getfield 15, 3) := by decide +kernel
def zN_cX0_setSeal : Nat := 0xb14f1c1b0f00b42a0a00a2be0f00b42a1b1300a21d00b42a1b1b009b1b
set_option maxRecDepth 100000 in
theorem zl_cX0_setSeal : cX0_setSeal.data.toList = z_un 29 zN_cX0_setSeal := eq_of_beq (by decide +kernel)
theorem dX0_setSeal_25 : decode cX0_setSeal 25 = .ok (.iload_n 1, 1) := z_row zl_cX0_setSeal 25 5184539 (Nat.le_of_ble_eq_true rfl) (by decide +kernel) z_o27 (by decide +kernel)
theorem dX0_setSeal_26 : decode cX0_setSeal 26 = .ok (.iload_n 2, 1) := z_row zl_cX0_setSeal 26 11620124 (Nat.le_of_ble_eq_true rfl) (by decide +kernel) z_o28 (by decide +kernel)
set_option maxRecDepth 100000 in
theorem dX0_setSeal_27 : decode cX0_setSeal 27 = .ok (.iastore, 1) := by decide +kernel
set_option maxRecDepth 100000 in
theorem dX0_setSeal_28 : decode cX0_setSeal 28 = .ok (.return_, 1) := by decide +kernel
set_option maxRecDepth 100000 in
theorem dX0_addSeal_0 : decode cX0_addSeal 0 = .ok (.aload_n 0, 1) := by decide +kernel
set_option maxRecDepth 100000 in
theorem dX0_addSeal_1 : decode cX0_addSeal 1 = .ok (.getfield 29, 3) := by decide +kernel
set_option maxRecDepth 100000 in
theorem dX0_addSeal_4 : decode cX0_addSeal 4 = .ok (.ifCond .lt 35, 3) := by decide +kernel
set_option maxRecDepth 100000 in
theorem dX0_addSeal_7 : decode cX0_addSeal 7 = .ok (.aload_n 0, 1) := by decide +kernel
set_option maxRecDepth 100000 in
theorem dX0_addSeal_8 : decode cX0_addSeal 8 = .ok (.getfield 29, 3) := by decide +kernel
set_option maxRecDepth 100000 in
theorem dX0_addSeal_11 : decode cX0_addSeal 11 = .ok (.aload_n 0, 1) := by decide +kernel
set_option maxRecDepth 100000 in
theorem dX0_addSeal_12 : decode cX0_addSeal 12 = .ok (.getfield 15, 3) := by decide +kernel
set_option maxRecDepth 100000 in
theorem dX0_addSeal_15 : decode cX0_addSeal 15 = .ok (.arraylength, 1) := by decide +kernel
set_option maxRecDepth 100000 in
theorem dX0_addSeal_16 : decode cX0_addSeal 16 = .ok (.if_icmp .ge 23, 3) := by decide +kernel
set_option maxRecDepth 100000 in
theorem dX0_addSeal_19 : decode cX0_addSeal 19 = .ok (.aload_n 0, 1) := by decide +kernel
set_option maxRecDepth 100000 in
theorem dX0_addSeal_20 : decode cX0_addSeal 20 = .ok (.getfield 15, 3) := by decide +kernel
set_option maxRecDepth 100000 in
theorem dX0_addSeal_23 : decode cX0_addSeal 23 = .ok (.aload_n 0, 1) := by decide +kernel
def zN_cX0_addSeal : Nat := 0xb11d00b560041d00b4592a4f1b1d00b42a0f00b42a1700a2be0f00b42a1d00b42a23009b1d00b42a
set_option maxRecDepth 100000 in
theorem zl_cX0_addSeal : cX0_addSeal.data.toList = z_un 40 zN_cX0_addSeal := eq_of_beq (by decide +kernel)
theorem dX0_addSeal_24 : decode cX0_addSeal 24 = .ok (.getfield 29, 3) := z_row zl_cX0_addSeal 24 1900724 (Nat.le_of_ble_eq_true rfl) (by decide +kernel) z_o180 (by decide +kernel)
theorem dX0_addSeal_27 : decode cX0_addSeal 27 = .ok (.iload_n 1, 1) := z_row zl_cX0_addSeal 27 2772763 (Nat.le_of_ble_eq_true rfl) (by decide +kernel) z_o27 (by decide +kernel)
theorem dX0_addSeal_28 : decode cX0_addSeal 28 = .ok (.iastore, 1) := z_row zl_cX0_addSeal 28 5843535 (Nat.le_of_ble_eq_true rfl) (by decide +kernel) z_o79 (by decide +kernel)
theorem dX0_addSeal_29 : decode cX0_addSeal 29 = .ok (.aload_n 0, 1) := z_row zl_cX0_addSeal 29 11819306 (Nat.le_of_ble_eq_true rfl) (by decide +kernel) z_o42 (by decide +kernel)
theorem dX0_addSeal_30 : decode cX0_addSeal 30 = .ok (.dup, 1) := z_row zl_cX0_addSeal 30 46169 (Nat.le_of_ble_eq_true rfl) (by decide +kernel) z_o89 (by decide +kernel)
theorem dX0_addSeal_31 : decode cX0_addSeal 31 = .ok (.getfield 29, 3) := z_row zl_cX0_addSeal 31 1900724 (Nat.le_of_ble_eq_true rfl) (by decide +kernel) z_o180 (by decide +kernel)
theorem dX0_addSeal_34 : decode cX0_addSeal 34 = .ok (.iconst 1, 1) := z_row zl_cX0_addSeal 34 11886596 (Nat.le_of_ble_eq_true rfl) (by decide +kernel) z_o4 (by decide +kernel)
theorem dX0_addSeal_35 : decode cX0_addSeal 35 = .ok (.iadd, 1) := z_row zl_cX0_addSeal 35 46432 (Nat.le_of_ble_eq_true rfl) (by decide +kernel) z_o96 (by decide +kernel)
theorem dX0_addSeal_36 : decode cX0_addSeal 36 = .ok (.putfield 29, 3) := z_row zl_cX0_addSeal 36 1900725 (Nat.le_of_ble_eq_true rfl) (by decide +kernel) z_o181 (by decide +kernel)
set_option maxRecDepth 100000 in
theorem dX0_addSeal_39 : decode cX0_addSeal 39 = .ok (.return_, 1) := by decide +kernel
set_option maxRecDepth 100000 in
theorem dX1_init_0 : decode cX1_init 0 = .ok (.aload_n 0, 1) := by decide +kernel
set_option maxRecDepth 100000 in
theorem dX1_init_1 : decode cX1_init 1 = .ok (.invokespecial 3, 3) := by decide +kernel
set_option maxRecDepth 100000 in
theorem dX1_init_4 : decode cX1_init 4 = .ok (.aload_n 0, 1) := by decide +kernel
set_option maxRecDepth 100000 in
theorem dX1_init_5 : decode cX1_init 5 = .ok (.iconst 3, 1) := by decide +kernel
set_option maxRecDepth 100000 in
theorem dX1_init_6 : decode cX1_init 6 = .ok (.invokevirtual 9, 3) := by decide +kernel
set_option maxRecDepth 100000 in
theorem dX1_init_9 : decode cX1_init 9 = .ok (.return_, 1) := by decide +kernel
set_option maxRecDepth 100000 in
theorem dX1_choose_0 : decode cX1_choose 0 = .ok (.iload_n 1, 1) := by decide +kernel
set_option maxRecDepth 100000 in
theorem dX1_choose_1 : decode cX1_choose 1 = .ok (.ifCond .lt 27, 3) := by decide +kernel
set_option maxRecDepth 100000 in
theorem dX1_choose_4 : decode cX1_choose 4 = .ok (.iload_n 1, 1) := by decide +kernel
set_option maxRecDepth 100000 in
theorem dX1_choose_5 : decode cX1_choose 5 = .ok (.getstatic 15, 3) := by decide +kernel
set_option maxRecDepth 100000 in
theorem dX1_choose_8 : decode cX1_choose 8 = .ok (.arraylength, 1) := by decide +kernel
set_option maxRecDepth 100000 in
theorem dX1_choose_9 : decode cX1_choose 9 = .ok (.if_icmp .ge 19, 3) := by decide +kernel
set_option maxRecDepth 100000 in
theorem dX1_choose_12 : decode cX1_choose 12 = .ok (.iload_n 1, 1) := by decide +kernel
set_option maxRecDepth 100000 in
theorem dX1_choose_13 : decode cX1_choose 13 = .ok (.getstatic 19, 3) := by decide +kernel
set_option maxRecDepth 100000 in
theorem dX1_choose_16 : decode cX1_choose 16 = .ok (.arraylength, 1) := by decide +kernel
set_option maxRecDepth 100000 in
theorem dX1_choose_17 : decode cX1_choose 17 = .ok (.if_icmp .ge 11, 3) := by decide +kernel
set_option maxRecDepth 100000 in
theorem dX1_choose_20 : decode cX1_choose 20 = .ok (.iload_n 1, 1) := by decide +kernel
set_option maxRecDepth 100000 in
theorem dX1_choose_21 : decode cX1_choose 21 = .ok (.getstatic 22, 3) := by decide +kernel
def zN_cX1_choose : Nat := 0xb12c00b52600b864041d00b42a07102a2300b52e1b1600b22a2000b52e1b1300b22a1d00b52e1b0f00b22a1900b51b2ab10400a1be1600b21b0b00a2be1300b21b1300a2be0f00b21b1b009b1b
set_option maxRecDepth 100000 in
theorem zl_cX1_choose : cX1_choose.data.toList = z_un 77 zN_cX1_choose := eq_of_beq (by decide +kernel)
theorem dX1_choose_24 : decode cX1_choose 24 = .ok (.arraylength, 1) := z_row zl_cX1_choose 24 41406 (Nat.le_of_ble_eq_true rfl) (by decide +kernel) z_o190 (by decide +kernel)
theorem dX1_choose_25 : decode cX1_choose 25 = .ok (.if_icmp .lt 4, 3) := z_row zl_cX1_choose 25 262305 (Nat.le_of_ble_eq_true rfl) (by decide +kernel) z_o161 (by decide +kernel)
theorem dX1_choose_29 : decode cX1_choose 29 = .ok (.aload_n 0, 1) := z_row zl_cX1_choose 29 11868970 (Nat.le_of_ble_eq_true rfl) (by decide +kernel) z_o42 (by decide +kernel)
theorem dX1_choose_30 : decode cX1_choose 30 = .ok (.iload_n 1, 1) := z_row zl_cX1_choose 30 46363 (Nat.le_of_ble_eq_true rfl) (by decide +kernel) z_o27 (by decide +kernel)
theorem dX1_choose_31 : decode cX1_choose 31 = .ok (.putfield 25, 3) := z_row zl_cX1_choose 31 1638581 (Nat.le_of_ble_eq_true rfl) (by decide +kernel) z_o181 (by decide +kernel)
theorem dX1_choose_34 : decode cX1_choose 34 = .ok (.aload_n 0, 1) := z_row zl_cX1_choose 34 45610 (Nat.le_of_ble_eq_true rfl) (by decide +kernel) z_o42 (by decide +kernel)
theorem dX1_choose_35 : decode cX1_choose 35 = .ok (.getstatic 15, 3) := z_row zl_cX1_choose 35 983218 (Nat.le_of_ble_eq_true rfl) (by decide +kernel) z_o178 (by decide +kernel)
theorem dX1_choose_38 : decode cX1_choose 38 = .ok (.iload_n 1, 1) := z_row zl_cX1_choose 38 11873819 (Nat.le_of_ble_eq_true rfl) (by decide +kernel) z_o27 (by decide +kernel)
theorem dX1_choose_39 : decode cX1_choose 39 = .ok (.iaload, 1) := z_row zl_cX1_choose 39 46382 (Nat.le_of_ble_eq_true rfl) (by decide +kernel) z_o46 (by decide +kernel)
theorem dX1_choose_40 : decode cX1_choose 40 = .ok (.putfield 29, 3) := z_row zl_cX1_choose 40 1900725 (Nat.le_of_ble_eq_true rfl) (by decide +kernel) z_o181 (by decide +kernel)
theorem dX1_choose_43 : decode cX1_choose 43 = .ok (.aload_n 0, 1) := z_row zl_cX1_choose 43 45610 (Nat.le_of_ble_eq_true rfl) (by decide +kernel) z_o42 (by decide +kernel)
theorem dX1_choose_44 : decode cX1_choose 44 = .ok (.getstatic 19, 3) := z_row zl_cX1_choose 44 1245362 (Nat.le_of_ble_eq_true rfl) (by decide +kernel) z_o178 (by decide +kernel)
theorem dX1_choose_47 : decode cX1_choose 47 = .ok (.iload_n 1, 1) := z_row zl_cX1_choose 47 11873819 (Nat.le_of_ble_eq_true rfl) (by decide +kernel) z_o27 (by decide +kernel)
theorem dX1_choose_48 : decode cX1_choose 48 = .ok (.iaload, 1) := z_row zl_cX1_choose 48 46382 (Nat.le_of_ble_eq_true rfl) (by decide +kernel) z_o46 (by decide +kernel)
theorem dX1_choose_49 : decode cX1_choose 49 = .ok (.putfield 32, 3) := z_row zl_cX1_choose 49 2097333 (Nat.le_of_ble_eq_true rfl) (by decide +kernel) z_o181 (by decide +kernel)
theorem dX1_choose_52 : decode cX1_choose 52 = .ok (.aload_n 0, 1) := z_row zl_cX1_choose 52 45610 (Nat.le_of_ble_eq_true rfl) (by decide +kernel) z_o42 (by decide +kernel)
theorem dX1_choose_53 : decode cX1_choose 53 = .ok (.getstatic 22, 3) := z_row zl_cX1_choose 53 1441970 (Nat.le_of_ble_eq_true rfl) (by decide +kernel) z_o178 (by decide +kernel)
theorem dX1_choose_56 : decode cX1_choose 56 = .ok (.iload_n 1, 1) := z_row zl_cX1_choose 56 11873819 (Nat.le_of_ble_eq_true rfl) (by decide +kernel) z_o27 (by decide +kernel)
theorem dX1_choose_57 : decode cX1_choose 57 = .ok (.iaload, 1) := z_row zl_cX1_choose 57 46382 (Nat.le_of_ble_eq_true rfl) (by decide +kernel) z_o46 (by decide +kernel)
theorem dX1_choose_58 : decode cX1_choose 58 = .ok (.putfield 35, 3) := z_row zl_cX1_choose 58 2293941 (Nat.le_of_ble_eq_true rfl) (by decide +kernel) z_o181 (by decide +kernel)
theorem dX1_choose_61 : decode cX1_choose 61 = .ok (.aload_n 0, 1) := z_row zl_cX1_choose 61 462890 (Nat.le_of_ble_eq_true rfl) (by decide +kernel) z_o42 (by decide +kernel)
theorem dX1_choose_62 : decode cX1_choose 62 = .ok (.bipush 7, 2) := z_row zl_cX1_choose 62 2754320 (Nat.le_of_ble_eq_true rfl) (by decide +kernel) z_o16 (by decide +kernel)
theorem dX1_choose_64 : decode cX1_choose 64 = .ok (.aload_n 0, 1) := z_row zl_cX1_choose 64 46122 (Nat.le_of_ble_eq_true rfl) (by decide +kernel) z_o42 (by decide +kernel)
theorem dX1_choose_65 : decode cX1_choose 65 = .ok (.getfield 29, 3) := z_row zl_cX1_choose 65 1900724 (Nat.le_of_ble_eq_true rfl) (by decide +kernel) z_o180 (by decide +kernel)
theorem dX1_choose_68 : decode cX1_choose 68 = .ok (.iconst 1, 1) := z_row zl_cX1_choose 68 12084228 (Nat.le_of_ble_eq_true rfl) (by decide +kernel) z_o4 (by decide +kernel)
theorem dX1_choose_69 : decode cX1_choose 69 = .ok (.isub, 1) := z_row zl_cX1_choose 69 47204 (Nat.le_of_ble_eq_true rfl) (by decide +kernel) z_o100 (by decide +kernel)
theorem dX1_choose_70 : decode cX1_choose 70 = .ok (.invokestatic 38, 3) := z_row zl_cX1_choose 70 2490552 (Nat.le_of_ble_eq_true rfl) (by decide +kernel) z_o184 (by decide +kernel)
theorem dX1_choose_73 : decode cX1_choose 73 = .ok (.putfield 44, 3) := z_row zl_cX1_choose 73 2883765 (Nat.le_of_ble_eq_true rfl) (by decide +kernel) z_o181 (by decide +kernel)
set_option maxRecDepth 100000 in
theorem dX1_choose_76 : decode cX1_choose 76 = .ok (.return_, 1) := by decide +kernel
set_option maxRecDepth 100000 in
theorem dX1_raise_0 : decode cX1_raise 0 = .ok (.iload_n 3, 1) := by decide +kernel
set_option maxRecDepth 100000 in
theorem dX1_raise_1 : decode cX1_raise 1 = .ok (.ifCond .gt 5, 3) := by decide +kernel
set_option maxRecDepth 100000 in
theorem dX1_raise_6 : decode cX1_raise 6 = .ok (.lconst 1, 1) := by decide +kernel
set_option maxRecDepth 100000 in
theorem dX1_raise_7 : decode cX1_raise 7 = .ok (.lstore 4, 2) := by decide +kernel
set_option maxRecDepth 100000 in
theorem dX1_raise_9 : decode cX1_raise 9 = .ok (.iload_n 0, 1) := by decide +kernel
set_option maxRecDepth 100000 in
theorem dX1_raise_10 : decode cX1_raise 10 = .ok (.i2l, 1) := by decide +kernel
set_option maxRecDepth 100000 in
theorem dX1_raise_11 : decode cX1_raise 11 = .ok (.lstore 6, 2) := by decide +kernel
set_option maxRecDepth 100000 in
theorem dX1_raise_13 : decode cX1_raise 13 = .ok (.lload_n 1, 1) := by decide +kernel
set_option maxRecDepth 100000 in
theorem dX1_raise_14 : decode cX1_raise 14 = .ok (.lstore 8, 2) := by decide +kernel
set_option maxRecDepth 100000 in
theorem dX1_raise_16 : decode cX1_raise 16 = .ok (.iconst 0, 1) := by decide +kernel
set_option maxRecDepth 100000 in
theorem dX1_raise_17 : decode cX1_raise 17 = .ok (.istore 10, 2) := by decide +kernel
set_option maxRecDepth 100000 in
theorem dX1_raise_19 : decode cX1_raise 19 = .ok (.iload 10, 2) := by decide +kernel
set_option maxRecDepth 100000 in
theorem dX1_raise_21 : decode cX1_raise 21 = .ok (.bipush 63, 2) := by decide +kernel
set_option maxRecDepth 100000 in
theorem dX1_raise_23 : decode cX1_raise 23 = .ok (.if_icmp .ge 51, 3) := by decide +kernel
def zN_cX1_raise : Nat := 0xac880416ccffa7010a8408377b040816063771851d6906160616043771851d69061604160d009a940a7f0a08162c009e940908163300a23f100a150a360308371f0637851a04370aac0305009d1d
set_option maxRecDepth 100000 in
theorem zl_cX1_raise : cX1_raise.data.toList = z_un 78 zN_cX1_raise := eq_of_beq (by decide +kernel)
theorem dX1_raise_26 : decode cX1_raise 26 = .ok (.lload 8, 2) := z_row zl_cX1_raise 26 591894 (Nat.le_of_ble_eq_true rfl) (by decide +kernel) z_o22 (by decide +kernel)
theorem dX1_raise_28 : decode cX1_raise 28 = .ok (.lconst 0, 1) := z_row zl_cX1_raise 28 10392585 (Nat.le_of_ble_eq_true rfl) (by decide +kernel) z_o9 (by decide +kernel)
theorem dX1_raise_29 : decode cX1_raise 29 = .ok (.lcmp, 1) := z_row zl_cX1_raise 29 40596 (Nat.le_of_ble_eq_true rfl) (by decide +kernel) z_o148 (by decide +kernel)
theorem dX1_raise_30 : decode cX1_raise 30 = .ok (.ifCond .le 44, 3) := z_row zl_cX1_raise 30 2883742 (Nat.le_of_ble_eq_true rfl) (by decide +kernel) z_o158 (by decide +kernel)
theorem dX1_raise_33 : decode cX1_raise 33 = .ok (.lload 8, 2) := z_row zl_cX1_raise 33 657430 (Nat.le_of_ble_eq_true rfl) (by decide +kernel) z_o22 (by decide +kernel)
theorem dX1_raise_35 : decode cX1_raise 35 = .ok (.lconst 1, 1) := z_row zl_cX1_raise 35 687882 (Nat.le_of_ble_eq_true rfl) (by decide +kernel) z_o10 (by decide +kernel)
theorem dX1_raise_36 : decode cX1_raise 36 = .ok (.land, 1) := z_row zl_cX1_raise 36 9702015 (Nat.le_of_ble_eq_true rfl) (by decide +kernel) z_o127 (by decide +kernel)
theorem dX1_raise_37 : decode cX1_raise 37 = .ok (.lconst 1, 1) := z_row zl_cX1_raise 37 10130442 (Nat.le_of_ble_eq_true rfl) (by decide +kernel) z_o10 (by decide +kernel)
theorem dX1_raise_38 : decode cX1_raise 38 = .ok (.lcmp, 1) := z_row zl_cX1_raise 38 39572 (Nat.le_of_ble_eq_true rfl) (by decide +kernel) z_o148 (by decide +kernel)
theorem dX1_raise_39 : decode cX1_raise 39 = .ok (.ifCond .ne 13, 3) := z_row zl_cX1_raise 39 852122 (Nat.le_of_ble_eq_true rfl) (by decide +kernel) z_o154 (by decide +kernel)
theorem dX1_raise_42 : decode cX1_raise 42 = .ok (.lload 4, 2) := z_row zl_cX1_raise 42 1442838 (Nat.le_of_ble_eq_true rfl) (by decide +kernel) z_o22 (by decide +kernel)
theorem dX1_raise_44 : decode cX1_raise 44 = .ok (.lload 6, 2) := z_row zl_cX1_raise 44 6882838 (Nat.le_of_ble_eq_true rfl) (by decide +kernel) z_o22 (by decide +kernel)
theorem dX1_raise_46 : decode cX1_raise 46 = .ok (.lmul, 1) := z_row zl_cX1_raise 46 8723817 (Nat.le_of_ble_eq_true rfl) (by decide +kernel) z_o105 (by decide +kernel)
theorem dX1_raise_47 : decode cX1_raise 47 = .ok (.iload_n 3, 1) := z_row zl_cX1_raise 47 7439645 (Nat.le_of_ble_eq_true rfl) (by decide +kernel) z_o29 (by decide +kernel)
theorem dX1_raise_48 : decode cX1_raise 48 = .ok (.i2l, 1) := z_row zl_cX1_raise 48 3633541 (Nat.le_of_ble_eq_true rfl) (by decide +kernel) z_o133 (by decide +kernel)
theorem dX1_raise_49 : decode cX1_raise 49 = .ok (.lrem, 1) := z_row zl_cX1_raise 49 276337 (Nat.le_of_ble_eq_true rfl) (by decide +kernel) z_o113 (by decide +kernel)
theorem dX1_raise_50 : decode cX1_raise 50 = .ok (.lstore 4, 2) := z_row zl_cX1_raise 50 1442871 (Nat.le_of_ble_eq_true rfl) (by decide +kernel) z_o55 (by decide +kernel)
theorem dX1_raise_52 : decode cX1_raise 52 = .ok (.lload 6, 2) := z_row zl_cX1_raise 52 1443350 (Nat.le_of_ble_eq_true rfl) (by decide +kernel) z_o22 (by decide +kernel)
theorem dX1_raise_54 : decode cX1_raise 54 = .ok (.lload 6, 2) := z_row zl_cX1_raise 54 6882838 (Nat.le_of_ble_eq_true rfl) (by decide +kernel) z_o22 (by decide +kernel)
theorem dX1_raise_56 : decode cX1_raise 56 = .ok (.lmul, 1) := z_row zl_cX1_raise 56 8723817 (Nat.le_of_ble_eq_true rfl) (by decide +kernel) z_o105 (by decide +kernel)
theorem dX1_raise_57 : decode cX1_raise 57 = .ok (.iload_n 3, 1) := z_row zl_cX1_raise 57 7439645 (Nat.le_of_ble_eq_true rfl) (by decide +kernel) z_o29 (by decide +kernel)
theorem dX1_raise_58 : decode cX1_raise 58 = .ok (.i2l, 1) := z_row zl_cX1_raise 58 3633541 (Nat.le_of_ble_eq_true rfl) (by decide +kernel) z_o133 (by decide +kernel)
theorem dX1_raise_59 : decode cX1_raise 59 = .ok (.lrem, 1) := z_row zl_cX1_raise 59 407409 (Nat.le_of_ble_eq_true rfl) (by decide +kernel) z_o113 (by decide +kernel)
theorem dX1_raise_60 : decode cX1_raise 60 = .ok (.lstore 6, 2) := z_row zl_cX1_raise 60 1443383 (Nat.le_of_ble_eq_true rfl) (by decide +kernel) z_o55 (by decide +kernel)
theorem dX1_raise_62 : decode cX1_raise 62 = .ok (.lload 8, 2) := z_row zl_cX1_raise 62 264214 (Nat.le_of_ble_eq_true rfl) (by decide +kernel) z_o22 (by decide +kernel)
theorem dX1_raise_64 : decode cX1_raise 64 = .ok (.iconst 1, 1) := z_row zl_cX1_raise 64 3635972 (Nat.le_of_ble_eq_true rfl) (by decide +kernel) z_o4 (by decide +kernel)
theorem dX1_raise_65 : decode cX1_raise 65 = .ok (.lshr, 1) := z_row zl_cX1_raise 65 538491 (Nat.le_of_ble_eq_true rfl) (by decide +kernel) z_o123 (by decide +kernel)
theorem dX1_raise_66 : decode cX1_raise 66 = .ok (.lstore 8, 2) := z_row zl_cX1_raise 66 8652855 (Nat.le_of_ble_eq_true rfl) (by decide +kernel) z_o55 (by decide +kernel)
theorem dX1_raise_68 : decode cX1_raise 68 = .ok (.iinc 10 1, 3) := z_row zl_cX1_raise 68 68228 (Nat.le_of_ble_eq_true rfl) (by decide +kernel) z_o132 (by decide +kernel)
theorem dX1_raise_71 : decode cX1_raise 71 = .ok (.goto (-52), 3) := z_row zl_cX1_raise 71 13434791 (Nat.le_of_ble_eq_true rfl) (by decide +kernel) z_o167 (by decide +kernel)
theorem dX1_raise_74 : decode cX1_raise 74 = .ok (.lload 4, 2) := z_row zl_cX1_raise 74 8913942 (Nat.le_of_ble_eq_true rfl) (by decide +kernel) z_o22 (by decide +kernel)
set_option maxRecDepth 100000 in
theorem dX1_raise_76 : decode cX1_raise 76 = .ok (.l2i, 1) := by decide +kernel
set_option maxRecDepth 100000 in
theorem dX1_raise_77 : decode cX1_raise 77 = .ok (.ireturn, 1) := by decide +kernel
set_option maxRecDepth 100000 in
theorem dX1_modPrime_0 : decode cX1_modPrime 0 = .ok (.aload_n 0, 1) := by decide +kernel
set_option maxRecDepth 100000 in
theorem dX1_modPrime_1 : decode cX1_modPrime 1 = .ok (.getfield 29, 3) := by decide +kernel
set_option maxRecDepth 100000 in
theorem dX1_modPrime_4 : decode cX1_modPrime 4 = .ok (.ifCond .gt 5, 3) := by decide +kernel
set_option maxRecDepth 100000 in
theorem dX1_modPrime_9 : decode cX1_modPrime 9 = .ok (.lload_n 1, 1) := by decide +kernel
set_option maxRecDepth 100000 in
theorem dX1_modPrime_10 : decode cX1_modPrime 10 = .ok (.aload_n 0, 1) := by decide +kernel
set_option maxRecDepth 100000 in
theorem dX1_modPrime_11 : decode cX1_modPrime 11 = .ok (.getfield 29, 3) := by decide +kernel
set_option maxRecDepth 100000 in
theorem dX1_modPrime_14 : decode cX1_modPrime 14 = .ok (.i2l, 1) := by decide +kernel
set_option maxRecDepth 100000 in
theorem dX1_modPrime_15 : decode cX1_modPrime 15 = .ok (.lrem, 1) := by decide +kernel
set_option maxRecDepth 100000 in
theorem dX1_modPrime_16 : decode cX1_modPrime 16 = .ok (.lstore_n 3, 1) := by decide +kernel
set_option maxRecDepth 100000 in
theorem dX1_modPrime_17 : decode cX1_modPrime 17 = .ok (.lload_n 3, 1) := by decide +kernel
set_option maxRecDepth 100000 in
theorem dX1_modPrime_18 : decode cX1_modPrime 18 = .ok (.lconst 0, 1) := by decide +kernel
set_option maxRecDepth 100000 in
theorem dX1_modPrime_19 : decode cX1_modPrime 19 = .ok (.lcmp, 1) := by decide +kernel
set_option maxRecDepth 100000 in
theorem dX1_modPrime_20 : decode cX1_modPrime 20 = .ok (.ifCond .ge 13, 3) := by decide +kernel
set_option maxRecDepth 100000 in
theorem dX1_modPrime_23 : decode cX1_modPrime 23 = .ok (.lload_n 3, 1) := by decide +kernel
def zN_cX1_modPrime : Nat := 0xac88210400a761851d00b42a210d009c9409214271851d00b42a1fac0305009d1d00b42a
set_option maxRecDepth 100000 in
theorem zl_cX1_modPrime : cX1_modPrime.data.toList = z_un 36 zN_cX1_modPrime := eq_of_beq (by decide +kernel)
theorem dX1_modPrime_24 : decode cX1_modPrime 24 = .ok (.aload_n 0, 1) := z_row zl_cX1_modPrime 24 46122 (Nat.le_of_ble_eq_true rfl) (by decide +kernel) z_o42 (by decide +kernel)
theorem dX1_modPrime_25 : decode cX1_modPrime 25 = .ok (.getfield 29, 3) := z_row zl_cX1_modPrime 25 1900724 (Nat.le_of_ble_eq_true rfl) (by decide +kernel) z_o180 (by decide +kernel)
theorem dX1_modPrime_28 : decode cX1_modPrime 28 = .ok (.i2l, 1) := z_row zl_cX1_modPrime 28 10969477 (Nat.le_of_ble_eq_true rfl) (by decide +kernel) z_o133 (by decide +kernel)
theorem dX1_modPrime_29 : decode cX1_modPrime 29 = .ok (.ladd, 1) := z_row zl_cX1_modPrime 29 42849 (Nat.le_of_ble_eq_true rfl) (by decide +kernel) z_o97 (by decide +kernel)
theorem dX1_modPrime_30 : decode cX1_modPrime 30 = .ok (.goto 4, 3) := z_row zl_cX1_modPrime 30 262311 (Nat.le_of_ble_eq_true rfl) (by decide +kernel) z_o167 (by decide +kernel)
theorem dX1_modPrime_33 : decode cX1_modPrime 33 = .ok (.lload_n 3, 1) := z_row zl_cX1_modPrime 33 11307041 (Nat.le_of_ble_eq_true rfl) (by decide +kernel) z_o33 (by decide +kernel)
set_option maxRecDepth 100000 in
theorem dX1_modPrime_34 : decode cX1_modPrime 34 = .ok (.l2i, 1) := by decide +kernel
set_option maxRecDepth 100000 in
theorem dX1_modPrime_35 : decode cX1_modPrime 35 = .ok (.ireturn, 1) := by decide +kernel
set_option maxRecDepth 100000 in
theorem dX1_inverse_0 : decode cX1_inverse 0 = .ok (.iload_n 1, 1) := by decide +kernel
set_option maxRecDepth 100000 in
theorem dX1_inverse_1 : decode cX1_inverse 1 = .ok (.aload_n 0, 1) := by decide +kernel
set_option maxRecDepth 100000 in
theorem dX1_inverse_2 : decode cX1_inverse 2 = .ok (.getfield 29, 3) := by decide +kernel
set_option maxRecDepth 100000 in
theorem dX1_inverse_5 : decode cX1_inverse 5 = .ok (.iconst 2, 1) := by decide +kernel
set_option maxRecDepth 100000 in
theorem dX1_inverse_6 : decode cX1_inverse 6 = .ok (.isub, 1) := by decide +kernel
set_option maxRecDepth 100000 in
theorem dX1_inverse_7 : decode cX1_inverse 7 = .ok (.i2l, 1) := by decide +kernel
set_option maxRecDepth 100000 in
theorem dX1_inverse_8 : decode cX1_inverse 8 = .ok (.aload_n 0, 1) := by decide +kernel
set_option maxRecDepth 100000 in
theorem dX1_inverse_9 : decode cX1_inverse 9 = .ok (.getfield 29, 3) := by decide +kernel
set_option maxRecDepth 100000 in
theorem dX1_inverse_12 : decode cX1_inverse 12 = .ok (.invokestatic 47, 3) := by decide +kernel
set_option maxRecDepth 100000 in
theorem dX1_inverse_15 : decode cX1_inverse 15 = .ok (.ireturn, 1) := by decide +kernel
set_option maxRecDepth 100000 in
theorem dX1_inverseSeal_0 : decode cX1_inverseSeal 0 = .ok (.iload_n 1, 1) := by decide +kernel
set_option maxRecDepth 100000 in
theorem dX1_inverseSeal_1 : decode cX1_inverseSeal 1 = .ok (.aload_n 0, 1) := by decide +kernel
set_option maxRecDepth 100000 in
theorem dX1_inverseSeal_2 : decode cX1_inverseSeal 2 = .ok (.getfield 32, 3) := by decide +kernel
set_option maxRecDepth 100000 in
theorem dX1_inverseSeal_5 : decode cX1_inverseSeal 5 = .ok (.iconst 2, 1) := by decide +kernel
set_option maxRecDepth 100000 in
theorem dX1_inverseSeal_6 : decode cX1_inverseSeal 6 = .ok (.isub, 1) := by decide +kernel
set_option maxRecDepth 100000 in
theorem dX1_inverseSeal_7 : decode cX1_inverseSeal 7 = .ok (.i2l, 1) := by decide +kernel
set_option maxRecDepth 100000 in
theorem dX1_inverseSeal_8 : decode cX1_inverseSeal 8 = .ok (.aload_n 0, 1) := by decide +kernel
set_option maxRecDepth 100000 in
theorem dX1_inverseSeal_9 : decode cX1_inverseSeal 9 = .ok (.getfield 32, 3) := by decide +kernel
set_option maxRecDepth 100000 in
theorem dX1_inverseSeal_12 : decode cX1_inverseSeal 12 = .ok (.invokestatic 47, 3) := by decide +kernel
set_option maxRecDepth 100000 in
theorem dX1_inverseSeal_15 : decode cX1_inverseSeal 15 = .ok (.ireturn, 1) := by decide +kernel
set_option maxRecDepth 100000 in
theorem dX1_sealProduct_0 : decode cX1_sealProduct 0 = .ok (.aload_n 0, 1) := by decide +kernel
set_option maxRecDepth 100000 in
theorem dX1_sealProduct_1 : decode cX1_sealProduct 1 = .ok (.getfield 32, 3) := by decide +kernel
set_option maxRecDepth 100000 in
theorem dX1_sealProduct_4 : decode cX1_sealProduct 4 = .ok (.ifCond .gt 7, 3) := by decide +kernel
set_option maxRecDepth 100000 in
theorem dX1_sealProduct_11 : decode cX1_sealProduct 11 = .ok (.iload_n 1, 1) := by decide +kernel
set_option maxRecDepth 100000 in
theorem dX1_sealProduct_12 : decode cX1_sealProduct 12 = .ok (.i2l, 1) := by decide +kernel
set_option maxRecDepth 100000 in
theorem dX1_sealProduct_13 : decode cX1_sealProduct 13 = .ok (.iload_n 2, 1) := by decide +kernel
set_option maxRecDepth 100000 in
theorem dX1_sealProduct_14 : decode cX1_sealProduct 14 = .ok (.i2l, 1) := by decide +kernel
set_option maxRecDepth 100000 in
theorem dX1_sealProduct_15 : decode cX1_sealProduct 15 = .ok (.lmul, 1) := by decide +kernel
set_option maxRecDepth 100000 in
theorem dX1_sealProduct_16 : decode cX1_sealProduct 16 = .ok (.aload_n 0, 1) := by decide +kernel
set_option maxRecDepth 100000 in
theorem dX1_sealProduct_17 : decode cX1_sealProduct 17 = .ok (.getfield 32, 3) := by decide +kernel
set_option maxRecDepth 100000 in
theorem dX1_sealProduct_20 : decode cX1_sealProduct 20 = .ok (.i2l, 1) := by decide +kernel
set_option maxRecDepth 100000 in
theorem dX1_sealProduct_21 : decode cX1_sealProduct 21 = .ok (.lrem, 1) := by decide +kernel
set_option maxRecDepth 100000 in
theorem dX1_sealProduct_22 : decode cX1_sealProduct 22 = .ok (.l2i, 1) := by decide +kernel
set_option maxRecDepth 100000 in
theorem dX1_sealProduct_23 : decode cX1_sealProduct 23 = .ok (.ireturn, 1) := by decide +kernel
set_option maxRecDepth 100000 in
theorem dX1_sealFor_0 : decode cX1_sealFor 0 = .ok (.aload_n 0, 1) := by decide +kernel
set_option maxRecDepth 100000 in
theorem dX1_sealFor_1 : decode cX1_sealFor 1 = .ok (.getfield 35, 3) := by decide +kernel
set_option maxRecDepth 100000 in
theorem dX1_sealFor_4 : decode cX1_sealFor 4 = .ok (.aload_n 0, 1) := by decide +kernel
set_option maxRecDepth 100000 in
theorem dX1_sealFor_5 : decode cX1_sealFor 5 = .ok (.iload_n 1, 1) := by decide +kernel
set_option maxRecDepth 100000 in
theorem dX1_sealFor_6 : decode cX1_sealFor 6 = .ok (.i2l, 1) := by decide +kernel
set_option maxRecDepth 100000 in
theorem dX1_sealFor_7 : decode cX1_sealFor 7 = .ok (.invokevirtual 51, 3) := by decide +kernel
set_option maxRecDepth 100000 in
theorem dX1_sealFor_10 : decode cX1_sealFor 10 = .ok (.i2l, 1) := by decide +kernel
set_option maxRecDepth 100000 in
theorem dX1_sealFor_11 : decode cX1_sealFor 11 = .ok (.aload_n 0, 1) := by decide +kernel
set_option maxRecDepth 100000 in
theorem dX1_sealFor_12 : decode cX1_sealFor 12 = .ok (.getfield 32, 3) := by decide +kernel
set_option maxRecDepth 100000 in
theorem dX1_sealFor_15 : decode cX1_sealFor 15 = .ok (.invokestatic 47, 3) := by decide +kernel
set_option maxRecDepth 100000 in
theorem dX1_sealFor_18 : decode cX1_sealFor 18 = .ok (.ireturn, 1) := by decide +kernel
set_option maxRecDepth 100000 in
theorem dX1_weightAt_0 : decode cX1_weightAt 0 = .ok (.aload_n 0, 1) := by decide +kernel
set_option maxRecDepth 100000 in
theorem dX1_weightAt_1 : decode cX1_weightAt 1 = .ok (.iload_n 3, 1) := by decide +kernel
set_option maxRecDepth 100000 in
theorem dX1_weightAt_2 : decode cX1_weightAt 2 = .ok (.i2l, 1) := by decide +kernel
set_option maxRecDepth 100000 in
theorem dX1_weightAt_3 : decode cX1_weightAt 3 = .ok (.invokevirtual 51, 3) := by decide +kernel
set_option maxRecDepth 100000 in
theorem dX1_weightAt_6 : decode cX1_weightAt 6 = .ok (.istore 4, 2) := by decide +kernel
set_option maxRecDepth 100000 in
theorem dX1_weightAt_8 : decode cX1_weightAt 8 = .ok (.iconst 1, 1) := by decide +kernel
set_option maxRecDepth 100000 in
theorem dX1_weightAt_9 : decode cX1_weightAt 9 = .ok (.istore 5, 2) := by decide +kernel
set_option maxRecDepth 100000 in
theorem dX1_weightAt_11 : decode cX1_weightAt 11 = .ok (.iconst 1, 1) := by decide +kernel
set_option maxRecDepth 100000 in
theorem dX1_weightAt_12 : decode cX1_weightAt 12 = .ok (.istore 6, 2) := by decide +kernel
set_option maxRecDepth 100000 in
theorem dX1_weightAt_14 : decode cX1_weightAt 14 = .ok (.iconst 1, 1) := by decide +kernel
set_option maxRecDepth 100000 in
theorem dX1_weightAt_15 : decode cX1_weightAt 15 = .ok (.istore 7, 2) := by decide +kernel
set_option maxRecDepth 100000 in
theorem dX1_weightAt_17 : decode cX1_weightAt 17 = .ok (.iload 7, 2) := by decide +kernel
set_option maxRecDepth 100000 in
theorem dX1_weightAt_19 : decode cX1_weightAt 19 = .ok (.aload_n 0, 1) := by decide +kernel
set_option maxRecDepth 100000 in
theorem dX1_weightAt_20 : decode cX1_weightAt 20 = .ok (.getfield 44, 3) := by decide +kernel
set_option maxRecDepth 100000 in
theorem dX1_weightAt_23 : decode cX1_weightAt 23 = .ok (.if_icmp .gt 55, 3) := by decide +kernel
def zN_cX1_weightAt : Nat := 0xac3300b669853b00b606152a8505152ac6ffa701078406363300b669856407151c8506152a05363300b6698564071504158505152a2200993700b807151b2b009f1c07153700a32c00b42a071507360406360405360404363300b6851d2a
set_option maxRecDepth 100000 in
theorem zl_cX1_weightAt : cX1_weightAt.data.toList = z_un 94 zN_cX1_weightAt := eq_of_beq (by decide +kernel)
theorem dX1_weightAt_26 : decode cX1_weightAt 26 = .ok (.iload 7, 2) := z_row zl_cX1_weightAt 26 1836821 (Nat.le_of_ble_eq_true rfl) (by decide +kernel) z_o21 (by decide +kernel)
theorem dX1_weightAt_28 : decode cX1_weightAt 28 = .ok (.iload_n 2, 1) := z_row zl_cX1_weightAt 28 40732 (Nat.le_of_ble_eq_true rfl) (by decide +kernel) z_o28 (by decide +kernel)
theorem dX1_weightAt_29 : decode cX1_weightAt 29 = .ok (.if_icmp .eq 43, 3) := z_row zl_cX1_weightAt 29 2818207 (Nat.le_of_ble_eq_true rfl) (by decide +kernel) z_o159 (by decide +kernel)
theorem dX1_weightAt_32 : decode cX1_weightAt 32 = .ok (.iload_n 1, 1) := z_row zl_cX1_weightAt 32 464155 (Nat.le_of_ble_eq_true rfl) (by decide +kernel) z_o27 (by decide +kernel)
theorem dX1_weightAt_33 : decode cX1_weightAt 33 = .ok (.iload 7, 2) := z_row zl_cX1_weightAt 33 12060437 (Nat.le_of_ble_eq_true rfl) (by decide +kernel) z_o21 (by decide +kernel)
theorem dX1_weightAt_35 : decode cX1_weightAt 35 = .ok (.invokestatic 55, 3) := z_row zl_cX1_weightAt 35 3604664 (Nat.le_of_ble_eq_true rfl) (by decide +kernel) z_o184 (by decide +kernel)
theorem dX1_weightAt_38 : decode cX1_weightAt 38 = .ok (.ifCond .eq 34, 3) := z_row zl_cX1_weightAt 38 2228377 (Nat.le_of_ble_eq_true rfl) (by decide +kernel) z_o153 (by decide +kernel)
theorem dX1_weightAt_41 : decode cX1_weightAt 41 = .ok (.aload_n 0, 1) := z_row zl_cX1_weightAt 41 333098 (Nat.le_of_ble_eq_true rfl) (by decide +kernel) z_o42 (by decide +kernel)
theorem dX1_weightAt_42 : decode cX1_weightAt 42 = .ok (.iload 5, 2) := z_row zl_cX1_weightAt 42 8717589 (Nat.le_of_ble_eq_true rfl) (by decide +kernel) z_o21 (by decide +kernel)
theorem dX1_weightAt_44 : decode cX1_weightAt 44 = .ok (.i2l, 1) := z_row zl_cX1_weightAt 44 267653 (Nat.le_of_ble_eq_true rfl) (by decide +kernel) z_o133 (by decide +kernel)
theorem dX1_weightAt_45 : decode cX1_weightAt 45 = .ok (.iload 4, 2) := z_row zl_cX1_weightAt 45 1377301 (Nat.le_of_ble_eq_true rfl) (by decide +kernel) z_o21 (by decide +kernel)
theorem dX1_weightAt_47 : decode cX1_weightAt 47 = .ok (.iload 7, 2) := z_row zl_cX1_weightAt 47 6555413 (Nat.le_of_ble_eq_true rfl) (by decide +kernel) z_o21 (by decide +kernel)
theorem dX1_weightAt_49 : decode cX1_weightAt 49 = .ok (.isub, 1) := z_row zl_cX1_weightAt 49 6915428 (Nat.le_of_ble_eq_true rfl) (by decide +kernel) z_o100 (by decide +kernel)
theorem dX1_weightAt_50 : decode cX1_weightAt 50 = .ok (.i2l, 1) := z_row zl_cX1_weightAt 50 11954565 (Nat.le_of_ble_eq_true rfl) (by decide +kernel) z_o133 (by decide +kernel)
theorem dX1_weightAt_51 : decode cX1_weightAt 51 = .ok (.lmul, 1) := z_row zl_cX1_weightAt 51 46697 (Nat.le_of_ble_eq_true rfl) (by decide +kernel) z_o105 (by decide +kernel)
theorem dX1_weightAt_52 : decode cX1_weightAt 52 = .ok (.invokevirtual 51, 3) := z_row zl_cX1_weightAt 52 3342518 (Nat.le_of_ble_eq_true rfl) (by decide +kernel) z_o182 (by decide +kernel)
theorem dX1_weightAt_55 : decode cX1_weightAt 55 = .ok (.istore 5, 2) := z_row zl_cX1_weightAt 55 2753846 (Nat.le_of_ble_eq_true rfl) (by decide +kernel) z_o54 (by decide +kernel)
theorem dX1_weightAt_57 : decode cX1_weightAt 57 = .ok (.aload_n 0, 1) := z_row zl_cX1_weightAt 57 398634 (Nat.le_of_ble_eq_true rfl) (by decide +kernel) z_o42 (by decide +kernel)
theorem dX1_weightAt_58 : decode cX1_weightAt 58 = .ok (.iload 6, 2) := z_row zl_cX1_weightAt 58 8717845 (Nat.le_of_ble_eq_true rfl) (by decide +kernel) z_o21 (by decide +kernel)
theorem dX1_weightAt_60 : decode cX1_weightAt 60 = .ok (.i2l, 1) := z_row zl_cX1_weightAt 60 1383557 (Nat.le_of_ble_eq_true rfl) (by decide +kernel) z_o133 (by decide +kernel)
theorem dX1_weightAt_61 : decode cX1_weightAt 61 = .ok (.iload_n 2, 1) := z_row zl_cX1_weightAt 61 464156 (Nat.le_of_ble_eq_true rfl) (by decide +kernel) z_o28 (by decide +kernel)
theorem dX1_weightAt_62 : decode cX1_weightAt 62 = .ok (.iload 7, 2) := z_row zl_cX1_weightAt 62 6555413 (Nat.le_of_ble_eq_true rfl) (by decide +kernel) z_o21 (by decide +kernel)
theorem dX1_weightAt_64 : decode cX1_weightAt 64 = .ok (.isub, 1) := z_row zl_cX1_weightAt 64 6915428 (Nat.le_of_ble_eq_true rfl) (by decide +kernel) z_o100 (by decide +kernel)
theorem dX1_weightAt_65 : decode cX1_weightAt 65 = .ok (.i2l, 1) := z_row zl_cX1_weightAt 65 11954565 (Nat.le_of_ble_eq_true rfl) (by decide +kernel) z_o133 (by decide +kernel)
theorem dX1_weightAt_66 : decode cX1_weightAt 66 = .ok (.lmul, 1) := z_row zl_cX1_weightAt 66 46697 (Nat.le_of_ble_eq_true rfl) (by decide +kernel) z_o105 (by decide +kernel)
theorem dX1_weightAt_67 : decode cX1_weightAt 67 = .ok (.invokevirtual 51, 3) := z_row zl_cX1_weightAt 67 3342518 (Nat.le_of_ble_eq_true rfl) (by decide +kernel) z_o182 (by decide +kernel)
theorem dX1_weightAt_70 : decode cX1_weightAt 70 = .ok (.istore 6, 2) := z_row zl_cX1_weightAt 70 8652342 (Nat.le_of_ble_eq_true rfl) (by decide +kernel) z_o54 (by decide +kernel)
theorem dX1_weightAt_72 : decode cX1_weightAt 72 = .ok (.iinc 7 1, 3) := z_row zl_cX1_weightAt 72 67460 (Nat.le_of_ble_eq_true rfl) (by decide +kernel) z_o132 (by decide +kernel)
theorem dX1_weightAt_75 : decode cX1_weightAt 75 = .ok (.goto (-58), 3) := z_row zl_cX1_weightAt 75 13041575 (Nat.le_of_ble_eq_true rfl) (by decide +kernel) z_o167 (by decide +kernel)
theorem dX1_weightAt_78 : decode cX1_weightAt 78 = .ok (.aload_n 0, 1) := z_row zl_cX1_weightAt 78 333098 (Nat.le_of_ble_eq_true rfl) (by decide +kernel) z_o42 (by decide +kernel)
theorem dX1_weightAt_79 : decode cX1_weightAt 79 = .ok (.iload 5, 2) := z_row zl_cX1_weightAt 79 8717589 (Nat.le_of_ble_eq_true rfl) (by decide +kernel) z_o21 (by decide +kernel)
theorem dX1_weightAt_81 : decode cX1_weightAt 81 = .ok (.i2l, 1) := z_row zl_cX1_weightAt 81 1387141 (Nat.le_of_ble_eq_true rfl) (by decide +kernel) z_o133 (by decide +kernel)
theorem dX1_weightAt_82 : decode cX1_weightAt 82 = .ok (.aload_n 0, 1) := z_row zl_cX1_weightAt 82 398634 (Nat.le_of_ble_eq_true rfl) (by decide +kernel) z_o42 (by decide +kernel)
theorem dX1_weightAt_83 : decode cX1_weightAt 83 = .ok (.iload 6, 2) := z_row zl_cX1_weightAt 83 11929109 (Nat.le_of_ble_eq_true rfl) (by decide +kernel) z_o21 (by decide +kernel)
theorem dX1_weightAt_85 : decode cX1_weightAt 85 = .ok (.invokevirtual 59, 3) := z_row zl_cX1_weightAt 85 3866806 (Nat.le_of_ble_eq_true rfl) (by decide +kernel) z_o182 (by decide +kernel)
theorem dX1_weightAt_88 : decode cX1_weightAt 88 = .ok (.i2l, 1) := z_row zl_cX1_weightAt 88 11954565 (Nat.le_of_ble_eq_true rfl) (by decide +kernel) z_o133 (by decide +kernel)
theorem dX1_weightAt_89 : decode cX1_weightAt 89 = .ok (.lmul, 1) := z_row zl_cX1_weightAt 89 46697 (Nat.le_of_ble_eq_true rfl) (by decide +kernel) z_o105 (by decide +kernel)
theorem dX1_weightAt_90 : decode cX1_weightAt 90 = .ok (.invokevirtual 51, 3) := z_row zl_cX1_weightAt 90 3342518 (Nat.le_of_ble_eq_true rfl) (by decide +kernel) z_o182 (by decide +kernel)
set_option maxRecDepth 100000 in
theorem dX1_weightAt_93 : decode cX1_weightAt 93 = .ok (.ireturn, 1) := by decide +kernel
set_option maxRecDepth 100000 in
theorem dX2_init_0 : decode cX2_init 0 = .ok (.aload_n 0, 1) := by decide +kernel
set_option maxRecDepth 100000 in
theorem dX2_init_1 : decode cX2_init 1 = .ok (.invokespecial 3, 3) := by decide +kernel
set_option maxRecDepth 100000 in
theorem dX2_init_4 : decode cX2_init 4 = .ok (.aload_n 0, 1) := by decide +kernel
set_option maxRecDepth 100000 in
theorem dX2_init_5 : decode cX2_init 5 = .ok (.bipush 7, 2) := by decide +kernel
set_option maxRecDepth 100000 in
theorem dX2_init_7 : decode cX2_init 7 = .ok (.newarray .int, 2) := by decide +kernel
set_option maxRecDepth 100000 in
theorem dX2_init_9 : decode cX2_init 9 = .ok (.putfield 9, 3) := by decide +kernel
set_option maxRecDepth 100000 in
theorem dX2_init_12 : decode cX2_init 12 = .ok (.aload_n 0, 1) := by decide +kernel
set_option maxRecDepth 100000 in
theorem dX2_init_13 : decode cX2_init 13 = .ok (.bipush 7, 2) := by decide +kernel
set_option maxRecDepth 100000 in
theorem dX2_init_15 : decode cX2_init 15 = .ok (.newarray .int, 2) := by decide +kernel
set_option maxRecDepth 100000 in
theorem dX2_init_17 : decode cX2_init 17 = .ok (.putfield 15, 3) := by decide +kernel
set_option maxRecDepth 100000 in
theorem dX2_init_20 : decode cX2_init 20 = .ok (.return_, 1) := by decide +kernel
set_option maxRecDepth 100000 in
theorem dX2_clear_0 : decode cX2_clear 0 = .ok (.iconst 0, 1) := by decide +kernel
set_option maxRecDepth 100000 in
theorem dX2_clear_1 : decode cX2_clear 1 = .ok (.istore_n 1, 1) := by decide +kernel
set_option maxRecDepth 100000 in
theorem dX2_clear_2 : decode cX2_clear 2 = .ok (.iload_n 1, 1) := by decide +kernel
set_option maxRecDepth 100000 in
theorem dX2_clear_3 : decode cX2_clear 3 = .ok (.aload_n 0, 1) := by decide +kernel
set_option maxRecDepth 100000 in
theorem dX2_clear_4 : decode cX2_clear 4 = .ok (.getfield 9, 3) := by decide +kernel
set_option maxRecDepth 100000 in
theorem dX2_clear_7 : decode cX2_clear 7 = .ok (.arraylength, 1) := by decide +kernel
set_option maxRecDepth 100000 in
theorem dX2_clear_8 : decode cX2_clear 8 = .ok (.if_icmp .ge 16, 3) := by decide +kernel
set_option maxRecDepth 100000 in
theorem dX2_clear_11 : decode cX2_clear 11 = .ok (.aload_n 0, 1) := by decide +kernel
set_option maxRecDepth 100000 in
theorem dX2_clear_12 : decode cX2_clear 12 = .ok (.getfield 9, 3) := by decide +kernel
set_option maxRecDepth 100000 in
theorem dX2_clear_15 : decode cX2_clear 15 = .ok (.iload_n 1, 1) := by decide +kernel
set_option maxRecDepth 100000 in
theorem dX2_clear_16 : decode cX2_clear 16 = .ok (.iconst 0, 1) := by decide +kernel
set_option maxRecDepth 100000 in
theorem dX2_clear_17 : decode cX2_clear 17 = .ok (.iastore, 1) := by decide +kernel
set_option maxRecDepth 100000 in
theorem dX2_clear_18 : decode cX2_clear 18 = .ok (.iinc 1 1, 3) := by decide +kernel
set_option maxRecDepth 100000 in
theorem dX2_clear_21 : decode cX2_clear 21 = .ok (.goto (-19), 3) := by decide +kernel
set_option maxRecDepth 100000 in
theorem dX2_clear_24 : decode cX2_clear 24 = .ok (.return_, 1) := by decide +kernel
set_option maxRecDepth 100000 in
theorem dX2_at_0 : decode cX2_at 0 = .ok (.iload_n 1, 1) := by decide +kernel
set_option maxRecDepth 100000 in
theorem dX2_at_1 : decode cX2_at 1 = .ok (.ifCond .lt 21, 3) := by decide +kernel
set_option maxRecDepth 100000 in
theorem dX2_at_4 : decode cX2_at 4 = .ok (.iload_n 1, 1) := by decide +kernel
set_option maxRecDepth 100000 in
theorem dX2_at_5 : decode cX2_at 5 = .ok (.aload_n 0, 1) := by decide +kernel
set_option maxRecDepth 100000 in
theorem dX2_at_6 : decode cX2_at 6 = .ok (.getfield 9, 3) := by decide +kernel
set_option maxRecDepth 100000 in
theorem dX2_at_9 : decode cX2_at 9 = .ok (.arraylength, 1) := by decide +kernel
set_option maxRecDepth 100000 in
theorem dX2_at_10 : decode cX2_at 10 = .ok (.if_icmp .ge 12, 3) := by decide +kernel
set_option maxRecDepth 100000 in
theorem dX2_at_13 : decode cX2_at 13 = .ok (.aload_n 0, 1) := by decide +kernel
set_option maxRecDepth 100000 in
theorem dX2_at_14 : decode cX2_at 14 = .ok (.getfield 9, 3) := by decide +kernel
set_option maxRecDepth 100000 in
theorem dX2_at_17 : decode cX2_at 17 = .ok (.iload_n 1, 1) := by decide +kernel
set_option maxRecDepth 100000 in
theorem dX2_at_18 : decode cX2_at 18 = .ok (.iaload, 1) := by decide +kernel
set_option maxRecDepth 100000 in
theorem dX2_at_19 : decode cX2_at 19 = .ok (.goto 4, 3) := by decide +kernel
set_option maxRecDepth 100000 in
theorem dX2_at_22 : decode cX2_at 22 = .ok (.iconst 0, 1) := by decide +kernel
set_option maxRecDepth 100000 in
theorem dX2_at_23 : decode cX2_at 23 = .ok (.ireturn, 1) := by decide +kernel
set_option maxRecDepth 100000 in
theorem dX2_addTo_0 : decode cX2_addTo 0 = .ok (.iload_n 2, 1) := by decide +kernel
set_option maxRecDepth 100000 in
theorem dX2_addTo_1 : decode cX2_addTo 1 = .ok (.ifCond .lt 36, 3) := by decide +kernel
set_option maxRecDepth 100000 in
theorem dX2_addTo_4 : decode cX2_addTo 4 = .ok (.iload_n 2, 1) := by decide +kernel
set_option maxRecDepth 100000 in
theorem dX2_addTo_5 : decode cX2_addTo 5 = .ok (.aload_n 0, 1) := by decide +kernel
set_option maxRecDepth 100000 in
theorem dX2_addTo_6 : decode cX2_addTo 6 = .ok (.getfield 9, 3) := by decide +kernel
set_option maxRecDepth 100000 in
theorem dX2_addTo_9 : decode cX2_addTo 9 = .ok (.arraylength, 1) := by decide +kernel
set_option maxRecDepth 100000 in
theorem dX2_addTo_10 : decode cX2_addTo 10 = .ok (.if_icmp .ge 27, 3) := by decide +kernel
set_option maxRecDepth 100000 in
theorem dX2_addTo_13 : decode cX2_addTo 13 = .ok (.aload_n 0, 1) := by decide +kernel
set_option maxRecDepth 100000 in
theorem dX2_addTo_14 : decode cX2_addTo 14 = .ok (.getfield 9, 3) := by decide +kernel
set_option maxRecDepth 100000 in
theorem dX2_addTo_17 : decode cX2_addTo 17 = .ok (.iload_n 2, 1) := by decide +kernel
set_option maxRecDepth 100000 in
theorem dX2_addTo_18 : decode cX2_addTo 18 = .ok (.aload_n 1, 1) := by decide +kernel
set_option maxRecDepth 100000 in
theorem dX2_addTo_19 : decode cX2_addTo 19 = .ok (.aload_n 0, 1) := by decide +kernel
set_option maxRecDepth 100000 in
theorem dX2_addTo_20 : decode cX2_addTo 20 = .ok (.getfield 9, 3) := by decide +kernel
set_option maxRecDepth 100000 in
theorem dX2_addTo_23 : decode cX2_addTo 23 = .ok (.iload_n 2, 1) := by decide +kernel
def zN_cX2_addTo : Nat := 0xb14f1200b66169850415851d852e1c0900b42a2b1c0900b42a1b00a2be0900b42a1c24009b1c
set_option maxRecDepth 100000 in
theorem zl_cX2_addTo : cX2_addTo.data.toList = z_un 38 zN_cX2_addTo := eq_of_beq (by decide +kernel)
theorem dX2_addTo_24 : decode cX2_addTo 24 = .ok (.iaload, 1) := z_row zl_cX2_addTo 24 1934638 (Nat.le_of_ble_eq_true rfl) (by decide +kernel) z_o46 (by decide +kernel)
theorem dX2_addTo_25 : decode cX2_addTo 25 = .ok (.i2l, 1) := z_row zl_cX2_addTo 25 8723845 (Nat.le_of_ble_eq_true rfl) (by decide +kernel) z_o133 (by decide +kernel)
theorem dX2_addTo_26 : decode cX2_addTo 26 = .ok (.iload_n 3, 1) := z_row zl_cX2_addTo 26 1410333 (Nat.le_of_ble_eq_true rfl) (by decide +kernel) z_o29 (by decide +kernel)
theorem dX2_addTo_27 : decode cX2_addTo 27 = .ok (.i2l, 1) := z_row zl_cX2_addTo 27 267653 (Nat.le_of_ble_eq_true rfl) (by decide +kernel) z_o133 (by decide +kernel)
theorem dX2_addTo_28 : decode cX2_addTo 28 = .ok (.iload 4, 2) := z_row zl_cX2_addTo 28 8717333 (Nat.le_of_ble_eq_true rfl) (by decide +kernel) z_o21 (by decide +kernel)
theorem dX2_addTo_30 : decode cX2_addTo 30 = .ok (.i2l, 1) := z_row zl_cX2_addTo 30 6384005 (Nat.le_of_ble_eq_true rfl) (by decide +kernel) z_o133 (by decide +kernel)
theorem dX2_addTo_31 : decode cX2_addTo 31 = .ok (.lmul, 1) := z_row zl_cX2_addTo 31 11952489 (Nat.le_of_ble_eq_true rfl) (by decide +kernel) z_o105 (by decide +kernel)
theorem dX2_addTo_32 : decode cX2_addTo 32 = .ok (.ladd, 1) := z_row zl_cX2_addTo 32 46689 (Nat.le_of_ble_eq_true rfl) (by decide +kernel) z_o97 (by decide +kernel)
theorem dX2_addTo_33 : decode cX2_addTo 33 = .ok (.invokevirtual 18, 3) := z_row zl_cX2_addTo 33 1179830 (Nat.le_of_ble_eq_true rfl) (by decide +kernel) z_o182 (by decide +kernel)
set_option maxRecDepth 100000 in
theorem dX2_addTo_36 : decode cX2_addTo 36 = .ok (.iastore, 1) := by decide +kernel
set_option maxRecDepth 100000 in
theorem dX2_addTo_37 : decode cX2_addTo 37 = .ok (.return_, 1) := by decide +kernel
set_option maxRecDepth 100000 in
theorem dX2_become_0 : decode cX2_become 0 = .ok (.aload_n 0, 1) := by decide +kernel
set_option maxRecDepth 100000 in
theorem dX2_become_1 : decode cX2_become 1 = .ok (.invokevirtual 24, 3) := by decide +kernel
set_option maxRecDepth 100000 in
theorem dX2_become_4 : decode cX2_become 4 = .ok (.aload_n 0, 1) := by decide +kernel
set_option maxRecDepth 100000 in
theorem dX2_become_5 : decode cX2_become 5 = .ok (.aload_n 1, 1) := by decide +kernel
set_option maxRecDepth 100000 in
theorem dX2_become_6 : decode cX2_become 6 = .ok (.iconst 0, 1) := by decide +kernel
set_option maxRecDepth 100000 in
theorem dX2_become_7 : decode cX2_become 7 = .ok (.iconst 1, 1) := by decide +kernel
set_option maxRecDepth 100000 in
theorem dX2_become_8 : decode cX2_become 8 = .ok (.iload_n 3, 1) := by decide +kernel
set_option maxRecDepth 100000 in
theorem dX2_become_9 : decode cX2_become 9 = .ok (.invokevirtual 27, 3) := by decide +kernel
set_option maxRecDepth 100000 in
theorem dX2_become_12 : decode cX2_become 12 = .ok (.iload_n 2, 1) := by decide +kernel
set_option maxRecDepth 100000 in
theorem dX2_become_13 : decode cX2_become 13 = .ok (.iconst 1, 1) := by decide +kernel
set_option maxRecDepth 100000 in
theorem dX2_become_14 : decode cX2_become 14 = .ok (.if_icmp .lt 12, 3) := by decide +kernel
set_option maxRecDepth 100000 in
theorem dX2_become_17 : decode cX2_become 17 = .ok (.aload_n 0, 1) := by decide +kernel
set_option maxRecDepth 100000 in
theorem dX2_become_18 : decode cX2_become 18 = .ok (.aload_n 1, 1) := by decide +kernel
set_option maxRecDepth 100000 in
theorem dX2_become_19 : decode cX2_become 19 = .ok (.iconst 1, 1) := by decide +kernel
set_option maxRecDepth 100000 in
theorem dX2_become_20 : decode cX2_become 20 = .ok (.iconst 1, 1) := by decide +kernel
set_option maxRecDepth 100000 in
theorem dX2_become_21 : decode cX2_become 21 = .ok (.iload 4, 2) := by decide +kernel
set_option maxRecDepth 100000 in
theorem dX2_become_23 : decode cX2_become 23 = .ok (.invokevirtual 27, 3) := by decide +kernel
def zN_cX2_become : Nat := 0xb11b00b6061504062b2a0c00a1061c1b00b6051504052b2a0c00a1051c1b00b6041504042b2a0c00a1041c1b00b61d04032b2a1800b62a
set_option maxRecDepth 100000 in
theorem zl_cX2_become : cX2_become.data.toList = z_un 55 zN_cX2_become := eq_of_beq (by decide +kernel)
theorem dX2_become_26 : decode cX2_become 26 = .ok (.iload_n 2, 1) := z_row zl_cX2_become 26 10552604 (Nat.le_of_ble_eq_true rfl) (by decide +kernel) z_o28 (by decide +kernel)
theorem dX2_become_27 : decode cX2_become 27 = .ok (.iconst 2, 1) := z_row zl_cX2_become 27 41221 (Nat.le_of_ble_eq_true rfl) (by decide +kernel) z_o5 (by decide +kernel)
theorem dX2_become_28 : decode cX2_become 28 = .ok (.if_icmp .lt 12, 3) := z_row zl_cX2_become 28 786593 (Nat.le_of_ble_eq_true rfl) (by decide +kernel) z_o161 (by decide +kernel)
theorem dX2_become_31 : decode cX2_become 31 = .ok (.aload_n 0, 1) := z_row zl_cX2_become 31 338730 (Nat.le_of_ble_eq_true rfl) (by decide +kernel) z_o42 (by decide +kernel)
theorem dX2_become_32 : decode cX2_become 32 = .ok (.aload_n 1, 1) := z_row zl_cX2_become 32 263467 (Nat.le_of_ble_eq_true rfl) (by decide +kernel) z_o43 (by decide +kernel)
theorem dX2_become_33 : decode cX2_become 33 = .ok (.iconst 2, 1) := z_row zl_cX2_become 33 1377285 (Nat.le_of_ble_eq_true rfl) (by decide +kernel) z_o5 (by decide +kernel)
theorem dX2_become_34 : decode cX2_become 34 = .ok (.iconst 1, 1) := z_row zl_cX2_become 34 333060 (Nat.le_of_ble_eq_true rfl) (by decide +kernel) z_o4 (by decide +kernel)
theorem dX2_become_35 : decode cX2_become 35 = .ok (.iload 5, 2) := z_row zl_cX2_become 35 11928853 (Nat.le_of_ble_eq_true rfl) (by decide +kernel) z_o21 (by decide +kernel)
theorem dX2_become_37 : decode cX2_become 37 = .ok (.invokevirtual 27, 3) := z_row zl_cX2_become 37 1769654 (Nat.le_of_ble_eq_true rfl) (by decide +kernel) z_o182 (by decide +kernel)
theorem dX2_become_40 : decode cX2_become 40 = .ok (.iload_n 2, 1) := z_row zl_cX2_become 40 10552860 (Nat.le_of_ble_eq_true rfl) (by decide +kernel) z_o28 (by decide +kernel)
theorem dX2_become_41 : decode cX2_become 41 = .ok (.iconst 3, 1) := z_row zl_cX2_become 41 41222 (Nat.le_of_ble_eq_true rfl) (by decide +kernel) z_o6 (by decide +kernel)
theorem dX2_become_42 : decode cX2_become 42 = .ok (.if_icmp .lt 12, 3) := z_row zl_cX2_become 42 786593 (Nat.le_of_ble_eq_true rfl) (by decide +kernel) z_o161 (by decide +kernel)
theorem dX2_become_45 : decode cX2_become 45 = .ok (.aload_n 0, 1) := z_row zl_cX2_become 45 404266 (Nat.le_of_ble_eq_true rfl) (by decide +kernel) z_o42 (by decide +kernel)
theorem dX2_become_46 : decode cX2_become 46 = .ok (.aload_n 1, 1) := z_row zl_cX2_become 46 263723 (Nat.le_of_ble_eq_true rfl) (by decide +kernel) z_o43 (by decide +kernel)
theorem dX2_become_47 : decode cX2_become 47 = .ok (.iconst 3, 1) := z_row zl_cX2_become 47 1377286 (Nat.le_of_ble_eq_true rfl) (by decide +kernel) z_o6 (by decide +kernel)
theorem dX2_become_48 : decode cX2_become 48 = .ok (.iconst 1, 1) := z_row zl_cX2_become 48 398596 (Nat.le_of_ble_eq_true rfl) (by decide +kernel) z_o4 (by decide +kernel)
theorem dX2_become_49 : decode cX2_become 49 = .ok (.iload 6, 2) := z_row zl_cX2_become 49 11929109 (Nat.le_of_ble_eq_true rfl) (by decide +kernel) z_o21 (by decide +kernel)
theorem dX2_become_51 : decode cX2_become 51 = .ok (.invokevirtual 27, 3) := z_row zl_cX2_become 51 1769654 (Nat.le_of_ble_eq_true rfl) (by decide +kernel) z_o182 (by decide +kernel)
set_option maxRecDepth 100000 in
theorem dX2_become_54 : decode cX2_become 54 = .ok (.return_, 1) := by decide +kernel
set_option maxRecDepth 100000 in
theorem dX2_valueAt_0 : decode cX2_valueAt 0 = .ok (.iconst 0, 1) := by decide +kernel
set_option maxRecDepth 100000 in
theorem dX2_valueAt_1 : decode cX2_valueAt 1 = .ok (.istore_n 3, 1) := by decide +kernel
set_option maxRecDepth 100000 in
theorem dX2_valueAt_2 : decode cX2_valueAt 2 = .ok (.aload_n 0, 1) := by decide +kernel
set_option maxRecDepth 100000 in
theorem dX2_valueAt_3 : decode cX2_valueAt 3 = .ok (.getfield 9, 3) := by decide +kernel
set_option maxRecDepth 100000 in
theorem dX2_valueAt_6 : decode cX2_valueAt 6 = .ok (.arraylength, 1) := by decide +kernel
set_option maxRecDepth 100000 in
theorem dX2_valueAt_7 : decode cX2_valueAt 7 = .ok (.iconst 1, 1) := by decide +kernel
set_option maxRecDepth 100000 in
theorem dX2_valueAt_8 : decode cX2_valueAt 8 = .ok (.isub, 1) := by decide +kernel
set_option maxRecDepth 100000 in
theorem dX2_valueAt_9 : decode cX2_valueAt 9 = .ok (.istore 4, 2) := by decide +kernel
set_option maxRecDepth 100000 in
theorem dX2_valueAt_11 : decode cX2_valueAt 11 = .ok (.iload 4, 2) := by decide +kernel
set_option maxRecDepth 100000 in
theorem dX2_valueAt_13 : decode cX2_valueAt 13 = .ok (.ifCond .lt 28, 3) := by decide +kernel
set_option maxRecDepth 100000 in
theorem dX2_valueAt_16 : decode cX2_valueAt 16 = .ok (.aload_n 1, 1) := by decide +kernel
set_option maxRecDepth 100000 in
theorem dX2_valueAt_17 : decode cX2_valueAt 17 = .ok (.iload_n 3, 1) := by decide +kernel
set_option maxRecDepth 100000 in
theorem dX2_valueAt_18 : decode cX2_valueAt 18 = .ok (.i2l, 1) := by decide +kernel
set_option maxRecDepth 100000 in
theorem dX2_valueAt_19 : decode cX2_valueAt 19 = .ok (.iload_n 2, 1) := by decide +kernel
set_option maxRecDepth 100000 in
theorem dX2_valueAt_20 : decode cX2_valueAt 20 = .ok (.i2l, 1) := by decide +kernel
set_option maxRecDepth 100000 in
theorem dX2_valueAt_21 : decode cX2_valueAt 21 = .ok (.lmul, 1) := by decide +kernel
set_option maxRecDepth 100000 in
theorem dX2_valueAt_22 : decode cX2_valueAt 22 = .ok (.aload_n 0, 1) := by decide +kernel
set_option maxRecDepth 100000 in
theorem dX2_valueAt_23 : decode cX2_valueAt 23 = .ok (.getfield 9, 3) := by decide +kernel
def zN_cX2_valueAt : Nat := 0xac1de5ffa7ff04843e1200b661852e04150900b42a69851c851d2b1c009b041504366404be0900b42a3e03
set_option maxRecDepth 100000 in
theorem zl_cX2_valueAt : cX2_valueAt.data.toList = z_un 43 zN_cX2_valueAt := eq_of_beq (by decide +kernel)
theorem dX2_valueAt_26 : decode cX2_valueAt 26 = .ok (.iload 4, 2) := z_row zl_cX2_valueAt 26 3015701 (Nat.le_of_ble_eq_true rfl) (by decide +kernel) z_o21 (by decide +kernel)
theorem dX2_valueAt_28 : decode cX2_valueAt 28 = .ok (.iaload, 1) := z_row zl_cX2_valueAt 28 6391086 (Nat.le_of_ble_eq_true rfl) (by decide +kernel) z_o46 (by decide +kernel)
theorem dX2_valueAt_29 : decode cX2_valueAt 29 = .ok (.i2l, 1) := z_row zl_cX2_valueAt 29 11952517 (Nat.le_of_ble_eq_true rfl) (by decide +kernel) z_o133 (by decide +kernel)
theorem dX2_valueAt_30 : decode cX2_valueAt 30 = .ok (.ladd, 1) := z_row zl_cX2_valueAt 30 46689 (Nat.le_of_ble_eq_true rfl) (by decide +kernel) z_o97 (by decide +kernel)
theorem dX2_valueAt_31 : decode cX2_valueAt 31 = .ok (.invokevirtual 18, 3) := z_row zl_cX2_valueAt 31 1179830 (Nat.le_of_ble_eq_true rfl) (by decide +kernel) z_o182 (by decide +kernel)
theorem dX2_valueAt_34 : decode cX2_valueAt 34 = .ok (.istore_n 3, 1) := z_row zl_cX2_valueAt 34 295998 (Nat.le_of_ble_eq_true rfl) (by decide +kernel) z_o62 (by decide +kernel)
theorem dX2_valueAt_35 : decode cX2_valueAt 35 = .ok (.iinc 4 (-1), 3) := z_row zl_cX2_valueAt 35 16712836 (Nat.le_of_ble_eq_true rfl) (by decide +kernel) z_o132 (by decide +kernel)
theorem dX2_valueAt_38 : decode cX2_valueAt 38 = .ok (.goto (-27), 3) := z_row zl_cX2_valueAt 38 15073191 (Nat.le_of_ble_eq_true rfl) (by decide +kernel) z_o167 (by decide +kernel)
set_option maxRecDepth 100000 in
theorem dX2_valueAt_41 : decode cX2_valueAt 41 = .ok (.iload_n 3, 1) := by decide +kernel
set_option maxRecDepth 100000 in
theorem dX2_valueAt_42 : decode cX2_valueAt 42 = .ok (.ireturn, 1) := by decide +kernel
set_option maxRecDepth 100000 in
theorem dX2_highest_0 : decode cX2_highest 0 = .ok (.aload_n 0, 1) := by decide +kernel
set_option maxRecDepth 100000 in
theorem dX2_highest_1 : decode cX2_highest 1 = .ok (.getfield 9, 3) := by decide +kernel
set_option maxRecDepth 100000 in
theorem dX2_highest_4 : decode cX2_highest 4 = .ok (.arraylength, 1) := by decide +kernel
set_option maxRecDepth 100000 in
theorem dX2_highest_5 : decode cX2_highest 5 = .ok (.iconst 1, 1) := by decide +kernel
set_option maxRecDepth 100000 in
theorem dX2_highest_6 : decode cX2_highest 6 = .ok (.isub, 1) := by decide +kernel
set_option maxRecDepth 100000 in
theorem dX2_highest_7 : decode cX2_highest 7 = .ok (.istore_n 1, 1) := by decide +kernel
set_option maxRecDepth 100000 in
theorem dX2_highest_8 : decode cX2_highest 8 = .ok (.iload_n 1, 1) := by decide +kernel
set_option maxRecDepth 100000 in
theorem dX2_highest_9 : decode cX2_highest 9 = .ok (.ifCond .lt 20, 3) := by decide +kernel
set_option maxRecDepth 100000 in
theorem dX2_highest_12 : decode cX2_highest 12 = .ok (.aload_n 0, 1) := by decide +kernel
set_option maxRecDepth 100000 in
theorem dX2_highest_13 : decode cX2_highest 13 = .ok (.getfield 9, 3) := by decide +kernel
set_option maxRecDepth 100000 in
theorem dX2_highest_16 : decode cX2_highest 16 = .ok (.iload_n 1, 1) := by decide +kernel
set_option maxRecDepth 100000 in
theorem dX2_highest_17 : decode cX2_highest 17 = .ok (.iaload, 1) := by decide +kernel
set_option maxRecDepth 100000 in
theorem dX2_highest_18 : decode cX2_highest 18 = .ok (.ifCond .eq 5, 3) := by decide +kernel
set_option maxRecDepth 100000 in
theorem dX2_highest_21 : decode cX2_highest 21 = .ok (.iload_n 1, 1) := by decide +kernel
set_option maxRecDepth 100000 in
theorem dX2_highest_22 : decode cX2_highest 22 = .ok (.ireturn, 1) := by decide +kernel
set_option maxRecDepth 100000 in
theorem dX2_highest_23 : decode cX2_highest 23 = .ok (.iinc 1 (-1), 3) := by decide +kernel
def zN_cX2_highest : Nat := 0xac02eeffa7ff0184ac1b0500992e1b0900b42a14009b1b3c6404be0900b42a
set_option maxRecDepth 100000 in
theorem zl_cX2_highest : cX2_highest.data.toList = z_un 31 zN_cX2_highest := eq_of_beq (by decide +kernel)
theorem dX2_highest_26 : decode cX2_highest 26 = .ok (.goto (-18), 3) := z_row zl_cX2_highest 26 15663015 (Nat.le_of_ble_eq_true rfl) (by decide +kernel) z_o167 (by decide +kernel)
set_option maxRecDepth 100000 in
theorem dX2_highest_29 : decode cX2_highest 29 = .ok (.iconst (-1), 1) := by decide +kernel
set_option maxRecDepth 100000 in
theorem dX2_highest_30 : decode cX2_highest 30 = .ok (.ireturn, 1) := by decide +kernel
set_option maxRecDepth 100000 in
theorem dX2_goThrough_0 : decode cX2_goThrough 0 = .ok (.aload_n 0, 1) := by decide +kernel
set_option maxRecDepth 100000 in
theorem dX2_goThrough_1 : decode cX2_goThrough 1 = .ok (.invokevirtual 24, 3) := by decide +kernel
set_option maxRecDepth 100000 in
theorem dX2_goThrough_4 : decode cX2_goThrough 4 = .ok (.iconst 1, 1) := by decide +kernel
set_option maxRecDepth 100000 in
theorem dX2_goThrough_5 : decode cX2_goThrough 5 = .ok (.istore 4, 2) := by decide +kernel
set_option maxRecDepth 100000 in
theorem dX2_goThrough_7 : decode cX2_goThrough 7 = .ok (.iload 4, 2) := by decide +kernel
set_option maxRecDepth 100000 in
theorem dX2_goThrough_9 : decode cX2_goThrough 9 = .ok (.aload_n 1, 1) := by decide +kernel
set_option maxRecDepth 100000 in
theorem dX2_goThrough_10 : decode cX2_goThrough 10 = .ok (.getfield 31, 3) := by decide +kernel
set_option maxRecDepth 100000 in
theorem dX2_goThrough_13 : decode cX2_goThrough 13 = .ok (.if_icmp .gt 56, 3) := by decide +kernel
set_option maxRecDepth 100000 in
theorem dX2_goThrough_16 : decode cX2_goThrough 16 = .ok (.iload_n 3, 1) := by decide +kernel
set_option maxRecDepth 100000 in
theorem dX2_goThrough_17 : decode cX2_goThrough 17 = .ok (.iload 4, 2) := by decide +kernel
set_option maxRecDepth 100000 in
theorem dX2_goThrough_19 : decode cX2_goThrough 19 = .ok (.invokestatic 35, 3) := by decide +kernel
set_option maxRecDepth 100000 in
theorem dX2_goThrough_22 : decode cX2_goThrough 22 = .ok (.ifCond .eq 41, 3) := by decide +kernel
def zN_cX2_goThrough : Nat := 0xb1c5ffa70104843400b606152b2a06361200b669853100b605152b852b00b604152c2b05362700b604151d2b2a2900992300b804151d3800a31f00b42b04150436041800b62a
set_option maxRecDepth 100000 in
theorem zl_cX2_goThrough : cX2_goThrough.data.toList = z_un 70 zN_cX2_goThrough := eq_of_beq (by decide +kernel)
theorem dX2_goThrough_25 : decode cX2_goThrough 25 = .ok (.aload_n 0, 1) := z_row zl_cX2_goThrough 25 1911594 (Nat.le_of_ble_eq_true rfl) (by decide +kernel) z_o42 (by decide +kernel)
theorem dX2_goThrough_26 : decode cX2_goThrough 26 = .ok (.aload_n 1, 1) := z_row zl_cX2_goThrough 26 1383723 (Nat.le_of_ble_eq_true rfl) (by decide +kernel) z_o43 (by decide +kernel)
theorem dX2_goThrough_27 : decode cX2_goThrough 27 = .ok (.iload_n 3, 1) := z_row zl_cX2_goThrough 27 267549 (Nat.le_of_ble_eq_true rfl) (by decide +kernel) z_o29 (by decide +kernel)
theorem dX2_goThrough_28 : decode cX2_goThrough 28 = .ok (.iload 4, 2) := z_row zl_cX2_goThrough 28 11928597 (Nat.le_of_ble_eq_true rfl) (by decide +kernel) z_o21 (by decide +kernel)
theorem dX2_goThrough_30 : decode cX2_goThrough 30 = .ok (.invokevirtual 39, 3) := z_row zl_cX2_goThrough 30 2556086 (Nat.le_of_ble_eq_true rfl) (by decide +kernel) z_o182 (by decide +kernel)
theorem dX2_goThrough_33 : decode cX2_goThrough 33 = .ok (.istore 5, 2) := z_row zl_cX2_goThrough 33 2819382 (Nat.le_of_ble_eq_true rfl) (by decide +kernel) z_o54 (by decide +kernel)
theorem dX2_goThrough_35 : decode cX2_goThrough 35 = .ok (.aload_n 1, 1) := z_row zl_cX2_goThrough 35 1387563 (Nat.le_of_ble_eq_true rfl) (by decide +kernel) z_o43 (by decide +kernel)
theorem dX2_goThrough_36 : decode cX2_goThrough 36 = .ok (.aload_n 2, 1) := z_row zl_cX2_goThrough 36 267564 (Nat.le_of_ble_eq_true rfl) (by decide +kernel) z_o44 (by decide +kernel)
theorem dX2_goThrough_37 : decode cX2_goThrough 37 = .ok (.iload 4, 2) := z_row zl_cX2_goThrough 37 11928597 (Nat.le_of_ble_eq_true rfl) (by decide +kernel) z_o21 (by decide +kernel)
theorem dX2_goThrough_39 : decode cX2_goThrough 39 = .ok (.invokevirtual 43, 3) := z_row zl_cX2_goThrough 39 2818230 (Nat.le_of_ble_eq_true rfl) (by decide +kernel) z_o182 (by decide +kernel)
theorem dX2_goThrough_42 : decode cX2_goThrough 42 = .ok (.i2l, 1) := z_row zl_cX2_goThrough 42 1387397 (Nat.le_of_ble_eq_true rfl) (by decide +kernel) z_o133 (by decide +kernel)
theorem dX2_goThrough_43 : decode cX2_goThrough 43 = .ok (.aload_n 1, 1) := z_row zl_cX2_goThrough 43 333099 (Nat.le_of_ble_eq_true rfl) (by decide +kernel) z_o43 (by decide +kernel)
theorem dX2_goThrough_44 : decode cX2_goThrough 44 = .ok (.iload 5, 2) := z_row zl_cX2_goThrough 44 11928853 (Nat.le_of_ble_eq_true rfl) (by decide +kernel) z_o21 (by decide +kernel)
theorem dX2_goThrough_46 : decode cX2_goThrough 46 = .ok (.invokevirtual 49, 3) := z_row zl_cX2_goThrough 46 3211446 (Nat.le_of_ble_eq_true rfl) (by decide +kernel) z_o182 (by decide +kernel)
theorem dX2_goThrough_49 : decode cX2_goThrough 49 = .ok (.i2l, 1) := z_row zl_cX2_goThrough 49 11954565 (Nat.le_of_ble_eq_true rfl) (by decide +kernel) z_o133 (by decide +kernel)
theorem dX2_goThrough_50 : decode cX2_goThrough 50 = .ok (.lmul, 1) := z_row zl_cX2_goThrough 50 46697 (Nat.le_of_ble_eq_true rfl) (by decide +kernel) z_o105 (by decide +kernel)
theorem dX2_goThrough_51 : decode cX2_goThrough 51 = .ok (.invokevirtual 18, 3) := z_row zl_cX2_goThrough 51 1179830 (Nat.le_of_ble_eq_true rfl) (by decide +kernel) z_o182 (by decide +kernel)
theorem dX2_goThrough_54 : decode cX2_goThrough 54 = .ok (.istore 6, 2) := z_row zl_cX2_goThrough 54 2754102 (Nat.le_of_ble_eq_true rfl) (by decide +kernel) z_o54 (by decide +kernel)
theorem dX2_goThrough_56 : decode cX2_goThrough 56 = .ok (.aload_n 0, 1) := z_row zl_cX2_goThrough 56 1387306 (Nat.le_of_ble_eq_true rfl) (by decide +kernel) z_o42 (by decide +kernel)
theorem dX2_goThrough_57 : decode cX2_goThrough 57 = .ok (.aload_n 1, 1) := z_row zl_cX2_goThrough 57 398635 (Nat.le_of_ble_eq_true rfl) (by decide +kernel) z_o43 (by decide +kernel)
theorem dX2_goThrough_58 : decode cX2_goThrough 58 = .ok (.iload 6, 2) := z_row zl_cX2_goThrough 58 11929109 (Nat.le_of_ble_eq_true rfl) (by decide +kernel) z_o21 (by decide +kernel)
theorem dX2_goThrough_60 : decode cX2_goThrough 60 = .ok (.invokevirtual 52, 3) := z_row zl_cX2_goThrough 60 3408054 (Nat.le_of_ble_eq_true rfl) (by decide +kernel) z_o182 (by decide +kernel)
theorem dX2_goThrough_63 : decode cX2_goThrough 63 = .ok (.iinc 4 1, 3) := z_row zl_cX2_goThrough 63 66692 (Nat.le_of_ble_eq_true rfl) (by decide +kernel) z_o132 (by decide +kernel)
theorem dX2_goThrough_66 : decode cX2_goThrough 66 = .ok (.goto (-59), 3) := z_row zl_cX2_goThrough 66 12976039 (Nat.le_of_ble_eq_true rfl) (by decide +kernel) z_o167 (by decide +kernel)
set_option maxRecDepth 100000 in
theorem dX2_goThrough_69 : decode cX2_goThrough 69 = .ok (.return_, 1) := by decide +kernel
set_option maxRecDepth 100000 in
theorem dX2_makeTerm_0 : decode cX2_makeTerm 0 = .ok (.iconst 1, 1) := by decide +kernel
set_option maxRecDepth 100000 in
theorem dX2_makeTerm_1 : decode cX2_makeTerm 1 = .ok (.istore 4, 2) := by decide +kernel
set_option maxRecDepth 100000 in
theorem dX2_makeTerm_3 : decode cX2_makeTerm 3 = .ok (.iconst 0, 1) := by decide +kernel
set_option maxRecDepth 100000 in
theorem dX2_makeTerm_4 : decode cX2_makeTerm 4 = .ok (.istore 5, 2) := by decide +kernel
set_option maxRecDepth 100000 in
theorem dX2_makeTerm_6 : decode cX2_makeTerm 6 = .ok (.iload 5, 2) := by decide +kernel
set_option maxRecDepth 100000 in
theorem dX2_makeTerm_8 : decode cX2_makeTerm 8 = .ok (.aload_n 0, 1) := by decide +kernel
set_option maxRecDepth 100000 in
theorem dX2_makeTerm_9 : decode cX2_makeTerm 9 = .ok (.getfield 15, 3) := by decide +kernel
set_option maxRecDepth 100000 in
theorem dX2_makeTerm_12 : decode cX2_makeTerm 12 = .ok (.arraylength, 1) := by decide +kernel
set_option maxRecDepth 100000 in
theorem dX2_makeTerm_13 : decode cX2_makeTerm 13 = .ok (.if_icmp .ge 26, 3) := by decide +kernel
set_option maxRecDepth 100000 in
theorem dX2_makeTerm_16 : decode cX2_makeTerm 16 = .ok (.aload_n 0, 1) := by decide +kernel
set_option maxRecDepth 100000 in
theorem dX2_makeTerm_17 : decode cX2_makeTerm 17 = .ok (.getfield 15, 3) := by decide +kernel
set_option maxRecDepth 100000 in
theorem dX2_makeTerm_20 : decode cX2_makeTerm 20 = .ok (.iload 5, 2) := by decide +kernel
set_option maxRecDepth 100000 in
theorem dX2_makeTerm_22 : decode cX2_makeTerm 22 = .ok (.iload 5, 2) := by decide +kernel
def zN_cX2_makeTerm : Nat := 0xac041593ffa701058404361200b669856405151d8504152bc9ffa7ff06844f1200b66569852e06150f00b42a8505158507152b06150f00b42a0736030400a72e640406150f00b42a0f009e061538009b061506366404be0f00b42a5500992300b805151c5e009f1d05156a00a31f00b42b0515053604e2ffa70105844f030400a70407009a051505150f00b42a1a00a2be0f00b42a0515053603043604
set_option maxRecDepth 100000 in
theorem zl_cX2_makeTerm : cX2_makeTerm.data.toList = z_un 157 zN_cX2_makeTerm := eq_of_beq (by decide +kernel)
theorem dX2_makeTerm_24 : decode cX2_makeTerm 24 = .ok (.ifCond .ne 7, 3) := z_row zl_cX2_makeTerm 24 458906 (Nat.le_of_ble_eq_true rfl) (by decide +kernel) z_o154 (by decide +kernel)
theorem dX2_makeTerm_27 : decode cX2_makeTerm 27 = .ok (.iconst 1, 1) := z_row zl_cX2_makeTerm 27 42756 (Nat.le_of_ble_eq_true rfl) (by decide +kernel) z_o4 (by decide +kernel)
theorem dX2_makeTerm_28 : decode cX2_makeTerm 28 = .ok (.goto 4, 3) := z_row zl_cX2_makeTerm 28 262311 (Nat.le_of_ble_eq_true rfl) (by decide +kernel) z_o167 (by decide +kernel)
theorem dX2_makeTerm_31 : decode cX2_makeTerm 31 = .ok (.iconst 0, 1) := z_row zl_cX2_makeTerm 31 8670979 (Nat.le_of_ble_eq_true rfl) (by decide +kernel) z_o3 (by decide +kernel)
theorem dX2_makeTerm_32 : decode cX2_makeTerm 32 = .ok (.iastore, 1) := z_row zl_cX2_makeTerm 32 361551 (Nat.le_of_ble_eq_true rfl) (by decide +kernel) z_o79 (by decide +kernel)
theorem dX2_makeTerm_33 : decode cX2_makeTerm 33 = .ok (.iinc 5 1, 3) := z_row zl_cX2_makeTerm 33 66948 (Nat.le_of_ble_eq_true rfl) (by decide +kernel) z_o132 (by decide +kernel)
theorem dX2_makeTerm_36 : decode cX2_makeTerm 36 = .ok (.goto (-30), 3) := z_row zl_cX2_makeTerm 36 14876583 (Nat.le_of_ble_eq_true rfl) (by decide +kernel) z_o167 (by decide +kernel)
theorem dX2_makeTerm_39 : decode cX2_makeTerm 39 = .ok (.iconst 1, 1) := z_row zl_cX2_makeTerm 39 341508 (Nat.le_of_ble_eq_true rfl) (by decide +kernel) z_o4 (by decide +kernel)
theorem dX2_makeTerm_40 : decode cX2_makeTerm 40 = .ok (.istore 5, 2) := z_row zl_cX2_makeTerm 40 1377590 (Nat.le_of_ble_eq_true rfl) (by decide +kernel) z_o54 (by decide +kernel)
theorem dX2_makeTerm_42 : decode cX2_makeTerm 42 = .ok (.iload 5, 2) := z_row zl_cX2_makeTerm 42 2819349 (Nat.le_of_ble_eq_true rfl) (by decide +kernel) z_o21 (by decide +kernel)
theorem dX2_makeTerm_44 : decode cX2_makeTerm 44 = .ok (.aload_n 1, 1) := z_row zl_cX2_makeTerm 44 46123 (Nat.le_of_ble_eq_true rfl) (by decide +kernel) z_o43 (by decide +kernel)
theorem dX2_makeTerm_45 : decode cX2_makeTerm 45 = .ok (.getfield 31, 3) := z_row zl_cX2_makeTerm 45 2031796 (Nat.le_of_ble_eq_true rfl) (by decide +kernel) z_o180 (by decide +kernel)
theorem dX2_makeTerm_48 : decode cX2_makeTerm 48 = .ok (.if_icmp .gt 106, 3) := z_row zl_cX2_makeTerm 48 6946979 (Nat.le_of_ble_eq_true rfl) (by decide +kernel) z_o163 (by decide +kernel)
theorem dX2_makeTerm_51 : decode cX2_makeTerm 51 = .ok (.iload 5, 2) := z_row zl_cX2_makeTerm 51 1901845 (Nat.le_of_ble_eq_true rfl) (by decide +kernel) z_o21 (by decide +kernel)
theorem dX2_makeTerm_53 : decode cX2_makeTerm 53 = .ok (.iload_n 3, 1) := z_row zl_cX2_makeTerm 53 40733 (Nat.le_of_ble_eq_true rfl) (by decide +kernel) z_o29 (by decide +kernel)
theorem dX2_makeTerm_54 : decode cX2_makeTerm 54 = .ok (.if_icmp .eq 94, 3) := z_row zl_cX2_makeTerm 54 6160543 (Nat.le_of_ble_eq_true rfl) (by decide +kernel) z_o159 (by decide +kernel)
theorem dX2_makeTerm_57 : decode cX2_makeTerm 57 = .ok (.iload_n 2, 1) := z_row zl_cX2_makeTerm 57 333084 (Nat.le_of_ble_eq_true rfl) (by decide +kernel) z_o28 (by decide +kernel)
theorem dX2_makeTerm_58 : decode cX2_makeTerm 58 = .ok (.iload 5, 2) := z_row zl_cX2_makeTerm 58 12059925 (Nat.le_of_ble_eq_true rfl) (by decide +kernel) z_o21 (by decide +kernel)
theorem dX2_makeTerm_60 : decode cX2_makeTerm 60 = .ok (.invokestatic 35, 3) := z_row zl_cX2_makeTerm 60 2293944 (Nat.le_of_ble_eq_true rfl) (by decide +kernel) z_o184 (by decide +kernel)
theorem dX2_makeTerm_63 : decode cX2_makeTerm 63 = .ok (.ifCond .eq 85, 3) := z_row zl_cX2_makeTerm 63 5570713 (Nat.le_of_ble_eq_true rfl) (by decide +kernel) z_o153 (by decide +kernel)
theorem dX2_makeTerm_66 : decode cX2_makeTerm 66 = .ok (.aload_n 0, 1) := z_row zl_cX2_makeTerm 66 46122 (Nat.le_of_ble_eq_true rfl) (by decide +kernel) z_o42 (by decide +kernel)
theorem dX2_makeTerm_67 : decode cX2_makeTerm 67 = .ok (.getfield 15, 3) := z_row zl_cX2_makeTerm 67 983220 (Nat.le_of_ble_eq_true rfl) (by decide +kernel) z_o180 (by decide +kernel)
theorem dX2_makeTerm_70 : decode cX2_makeTerm 70 = .ok (.arraylength, 1) := z_row zl_cX2_makeTerm 70 6554814 (Nat.le_of_ble_eq_true rfl) (by decide +kernel) z_o190 (by decide +kernel)
theorem dX2_makeTerm_71 : decode cX2_makeTerm 71 = .ok (.iconst 1, 1) := z_row zl_cX2_makeTerm 71 3564548 (Nat.le_of_ble_eq_true rfl) (by decide +kernel) z_o4 (by decide +kernel)
theorem dX2_makeTerm_72 : decode cX2_makeTerm 72 = .ok (.isub, 1) := z_row zl_cX2_makeTerm 72 407140 (Nat.le_of_ble_eq_true rfl) (by decide +kernel) z_o100 (by decide +kernel)
theorem dX2_makeTerm_73 : decode cX2_makeTerm 73 = .ok (.istore 6, 2) := z_row zl_cX2_makeTerm 73 1377846 (Nat.le_of_ble_eq_true rfl) (by decide +kernel) z_o54 (by decide +kernel)
theorem dX2_makeTerm_75 : decode cX2_makeTerm 75 = .ok (.iload 6, 2) := z_row zl_cX2_makeTerm 75 10159637 (Nat.le_of_ble_eq_true rfl) (by decide +kernel) z_o21 (by decide +kernel)
theorem dX2_makeTerm_77 : decode cX2_makeTerm 77 = .ok (.ifCond .lt 56, 3) := z_row zl_cX2_makeTerm 77 3670171 (Nat.le_of_ble_eq_true rfl) (by decide +kernel) z_o155 (by decide +kernel)
theorem dX2_makeTerm_80 : decode cX2_makeTerm 80 = .ok (.iload 6, 2) := z_row zl_cX2_makeTerm 80 10356245 (Nat.le_of_ble_eq_true rfl) (by decide +kernel) z_o21 (by decide +kernel)
theorem dX2_makeTerm_82 : decode cX2_makeTerm 82 = .ok (.ifCond .le 15, 3) := z_row zl_cX2_makeTerm 82 983198 (Nat.le_of_ble_eq_true rfl) (by decide +kernel) z_o158 (by decide +kernel)
theorem dX2_makeTerm_85 : decode cX2_makeTerm 85 = .ok (.aload_n 0, 1) := z_row zl_cX2_makeTerm 85 46122 (Nat.le_of_ble_eq_true rfl) (by decide +kernel) z_o42 (by decide +kernel)
theorem dX2_makeTerm_86 : decode cX2_makeTerm 86 = .ok (.getfield 15, 3) := z_row zl_cX2_makeTerm 86 983220 (Nat.le_of_ble_eq_true rfl) (by decide +kernel) z_o180 (by decide +kernel)
theorem dX2_makeTerm_89 : decode cX2_makeTerm 89 = .ok (.iload 6, 2) := z_row zl_cX2_makeTerm 89 263701 (Nat.le_of_ble_eq_true rfl) (by decide +kernel) z_o21 (by decide +kernel)
theorem dX2_makeTerm_91 : decode cX2_makeTerm 91 = .ok (.iconst 1, 1) := z_row zl_cX2_makeTerm 91 3040260 (Nat.le_of_ble_eq_true rfl) (by decide +kernel) z_o4 (by decide +kernel)
theorem dX2_makeTerm_92 : decode cX2_makeTerm 92 = .ok (.isub, 1) := z_row zl_cX2_makeTerm 92 10956388 (Nat.le_of_ble_eq_true rfl) (by decide +kernel) z_o100 (by decide +kernel)
theorem dX2_makeTerm_93 : decode cX2_makeTerm 93 = .ok (.iaload, 1) := z_row zl_cX2_makeTerm 93 42798 (Nat.le_of_ble_eq_true rfl) (by decide +kernel) z_o46 (by decide +kernel)
theorem dX2_makeTerm_94 : decode cX2_makeTerm 94 = .ok (.goto 4, 3) := z_row zl_cX2_makeTerm 94 262311 (Nat.le_of_ble_eq_true rfl) (by decide +kernel) z_o167 (by decide +kernel)
theorem dX2_makeTerm_97 : decode cX2_makeTerm 97 = .ok (.iconst 0, 1) := z_row zl_cX2_makeTerm 97 472579 (Nat.le_of_ble_eq_true rfl) (by decide +kernel) z_o3 (by decide +kernel)
theorem dX2_makeTerm_98 : decode cX2_makeTerm 98 = .ok (.istore 7, 2) := z_row zl_cX2_makeTerm 98 2754358 (Nat.le_of_ble_eq_true rfl) (by decide +kernel) z_o54 (by decide +kernel)
theorem dX2_makeTerm_100 : decode cX2_makeTerm 100 = .ok (.aload_n 0, 1) := z_row zl_cX2_makeTerm 100 46122 (Nat.le_of_ble_eq_true rfl) (by decide +kernel) z_o42 (by decide +kernel)
theorem dX2_makeTerm_101 : decode cX2_makeTerm 101 = .ok (.getfield 15, 3) := z_row zl_cX2_makeTerm 101 983220 (Nat.le_of_ble_eq_true rfl) (by decide +kernel) z_o180 (by decide +kernel)
theorem dX2_makeTerm_104 : decode cX2_makeTerm 104 = .ok (.iload 6, 2) := z_row zl_cX2_makeTerm 104 2819605 (Nat.le_of_ble_eq_true rfl) (by decide +kernel) z_o21 (by decide +kernel)
theorem dX2_makeTerm_106 : decode cX2_makeTerm 106 = .ok (.aload_n 1, 1) := z_row zl_cX2_makeTerm 106 464171 (Nat.le_of_ble_eq_true rfl) (by decide +kernel) z_o43 (by decide +kernel)
theorem dX2_makeTerm_107 : decode cX2_makeTerm 107 = .ok (.iload 7, 2) := z_row zl_cX2_makeTerm 107 8718101 (Nat.le_of_ble_eq_true rfl) (by decide +kernel) z_o21 (by decide +kernel)
theorem dX2_makeTerm_109 : decode cX2_makeTerm 109 = .ok (.i2l, 1) := z_row zl_cX2_makeTerm 109 333189 (Nat.le_of_ble_eq_true rfl) (by decide +kernel) z_o133 (by decide +kernel)
theorem dX2_makeTerm_110 : decode cX2_makeTerm 110 = .ok (.iload 5, 2) := z_row zl_cX2_makeTerm 110 8717589 (Nat.le_of_ble_eq_true rfl) (by decide +kernel) z_o21 (by decide +kernel)
theorem dX2_makeTerm_112 : decode cX2_makeTerm 112 = .ok (.i2l, 1) := z_row zl_cX2_makeTerm 112 11807365 (Nat.le_of_ble_eq_true rfl) (by decide +kernel) z_o133 (by decide +kernel)
theorem dX2_makeTerm_113 : decode cX2_makeTerm 113 = .ok (.aload_n 0, 1) := z_row zl_cX2_makeTerm 113 46122 (Nat.le_of_ble_eq_true rfl) (by decide +kernel) z_o42 (by decide +kernel)
theorem dX2_makeTerm_114 : decode cX2_makeTerm 114 = .ok (.getfield 15, 3) := z_row zl_cX2_makeTerm 114 983220 (Nat.le_of_ble_eq_true rfl) (by decide +kernel) z_o180 (by decide +kernel)
theorem dX2_makeTerm_117 : decode cX2_makeTerm 117 = .ok (.iload 6, 2) := z_row zl_cX2_makeTerm 117 3016213 (Nat.le_of_ble_eq_true rfl) (by decide +kernel) z_o21 (by decide +kernel)
theorem dX2_makeTerm_119 : decode cX2_makeTerm 119 = .ok (.iaload, 1) := z_row zl_cX2_makeTerm 119 6915374 (Nat.le_of_ble_eq_true rfl) (by decide +kernel) z_o46 (by decide +kernel)
theorem dX2_makeTerm_120 : decode cX2_makeTerm 120 = .ok (.i2l, 1) := z_row zl_cX2_makeTerm 120 6646149 (Nat.le_of_ble_eq_true rfl) (by decide +kernel) z_o133 (by decide +kernel)
theorem dX2_makeTerm_121 : decode cX2_makeTerm 121 = .ok (.lmul, 1) := z_row zl_cX2_makeTerm 121 11953513 (Nat.le_of_ble_eq_true rfl) (by decide +kernel) z_o105 (by decide +kernel)
theorem dX2_makeTerm_122 : decode cX2_makeTerm 122 = .ok (.lsub, 1) := z_row zl_cX2_makeTerm 122 46693 (Nat.le_of_ble_eq_true rfl) (by decide +kernel) z_o101 (by decide +kernel)
theorem dX2_makeTerm_123 : decode cX2_makeTerm 123 = .ok (.invokevirtual 18, 3) := z_row zl_cX2_makeTerm 123 1179830 (Nat.le_of_ble_eq_true rfl) (by decide +kernel) z_o182 (by decide +kernel)
theorem dX2_makeTerm_126 : decode cX2_makeTerm 126 = .ok (.iastore, 1) := z_row zl_cX2_makeTerm 126 427087 (Nat.le_of_ble_eq_true rfl) (by decide +kernel) z_o79 (by decide +kernel)
theorem dX2_makeTerm_127 : decode cX2_makeTerm 127 = .ok (.iinc 6 (-1), 3) := z_row zl_cX2_makeTerm 127 16713348 (Nat.le_of_ble_eq_true rfl) (by decide +kernel) z_o132 (by decide +kernel)
theorem dX2_makeTerm_130 : decode cX2_makeTerm 130 = .ok (.goto (-55), 3) := z_row zl_cX2_makeTerm 130 13238183 (Nat.le_of_ble_eq_true rfl) (by decide +kernel) z_o167 (by decide +kernel)
theorem dX2_makeTerm_133 : decode cX2_makeTerm 133 = .ok (.aload_n 1, 1) := z_row zl_cX2_makeTerm 133 267563 (Nat.le_of_ble_eq_true rfl) (by decide +kernel) z_o43 (by decide +kernel)
theorem dX2_makeTerm_134 : decode cX2_makeTerm 134 = .ok (.iload 4, 2) := z_row zl_cX2_makeTerm 134 8717333 (Nat.le_of_ble_eq_true rfl) (by decide +kernel) z_o21 (by decide +kernel)
theorem dX2_makeTerm_136 : decode cX2_makeTerm 136 = .ok (.i2l, 1) := z_row zl_cX2_makeTerm 136 1383813 (Nat.le_of_ble_eq_true rfl) (by decide +kernel) z_o133 (by decide +kernel)
theorem dX2_makeTerm_137 : decode cX2_makeTerm 137 = .ok (.iload_n 3, 1) := z_row zl_cX2_makeTerm 137 333085 (Nat.le_of_ble_eq_true rfl) (by decide +kernel) z_o29 (by decide +kernel)
theorem dX2_makeTerm_138 : decode cX2_makeTerm 138 = .ok (.iload 5, 2) := z_row zl_cX2_makeTerm 138 6554901 (Nat.le_of_ble_eq_true rfl) (by decide +kernel) z_o21 (by decide +kernel)
theorem dX2_makeTerm_140 : decode cX2_makeTerm 140 = .ok (.isub, 1) := z_row zl_cX2_makeTerm 140 6915428 (Nat.le_of_ble_eq_true rfl) (by decide +kernel) z_o100 (by decide +kernel)
theorem dX2_makeTerm_141 : decode cX2_makeTerm 141 = .ok (.i2l, 1) := z_row zl_cX2_makeTerm 141 11954565 (Nat.le_of_ble_eq_true rfl) (by decide +kernel) z_o133 (by decide +kernel)
theorem dX2_makeTerm_142 : decode cX2_makeTerm 142 = .ok (.lmul, 1) := z_row zl_cX2_makeTerm 142 46697 (Nat.le_of_ble_eq_true rfl) (by decide +kernel) z_o105 (by decide +kernel)
theorem dX2_makeTerm_143 : decode cX2_makeTerm 143 = .ok (.invokevirtual 18, 3) := z_row zl_cX2_makeTerm 143 1179830 (Nat.le_of_ble_eq_true rfl) (by decide +kernel) z_o182 (by decide +kernel)
theorem dX2_makeTerm_146 : decode cX2_makeTerm 146 = .ok (.istore 4, 2) := z_row zl_cX2_makeTerm 146 8651830 (Nat.le_of_ble_eq_true rfl) (by decide +kernel) z_o54 (by decide +kernel)
theorem dX2_makeTerm_148 : decode cX2_makeTerm 148 = .ok (.iinc 5 1, 3) := z_row zl_cX2_makeTerm 148 66948 (Nat.le_of_ble_eq_true rfl) (by decide +kernel) z_o132 (by decide +kernel)
theorem dX2_makeTerm_151 : decode cX2_makeTerm 151 = .ok (.goto (-109), 3) := z_row zl_cX2_makeTerm 151 9699239 (Nat.le_of_ble_eq_true rfl) (by decide +kernel) z_o167 (by decide +kernel)
theorem dX2_makeTerm_154 : decode cX2_makeTerm 154 = .ok (.iload 4, 2) := z_row zl_cX2_makeTerm 154 11273237 (Nat.le_of_ble_eq_true rfl) (by decide +kernel) z_o21 (by decide +kernel)
set_option maxRecDepth 100000 in
theorem dX2_makeTerm_156 : decode cX2_makeTerm 156 = .ok (.ireturn, 1) := by decide +kernel
set_option maxRecDepth 100000 in
theorem dX2_addTerm_0 : decode cX2_addTerm 0 = .ok (.iconst 0, 1) := by decide +kernel
set_option maxRecDepth 100000 in
theorem dX2_addTerm_1 : decode cX2_addTerm 1 = .ok (.istore_n 3, 1) := by decide +kernel
set_option maxRecDepth 100000 in
theorem dX2_addTerm_2 : decode cX2_addTerm 2 = .ok (.iload_n 3, 1) := by decide +kernel
set_option maxRecDepth 100000 in
theorem dX2_addTerm_3 : decode cX2_addTerm 3 = .ok (.aload_n 0, 1) := by decide +kernel
set_option maxRecDepth 100000 in
theorem dX2_addTerm_4 : decode cX2_addTerm 4 = .ok (.getfield 9, 3) := by decide +kernel
set_option maxRecDepth 100000 in
theorem dX2_addTerm_7 : decode cX2_addTerm 7 = .ok (.arraylength, 1) := by decide +kernel
set_option maxRecDepth 100000 in
theorem dX2_addTerm_8 : decode cX2_addTerm 8 = .ok (.if_icmp .ge 46, 3) := by decide +kernel
set_option maxRecDepth 100000 in
theorem dX2_addTerm_11 : decode cX2_addTerm 11 = .ok (.iload_n 3, 1) := by decide +kernel
set_option maxRecDepth 100000 in
theorem dX2_addTerm_12 : decode cX2_addTerm 12 = .ok (.aload_n 0, 1) := by decide +kernel
set_option maxRecDepth 100000 in
theorem dX2_addTerm_13 : decode cX2_addTerm 13 = .ok (.getfield 15, 3) := by decide +kernel
set_option maxRecDepth 100000 in
theorem dX2_addTerm_16 : decode cX2_addTerm 16 = .ok (.arraylength, 1) := by decide +kernel
set_option maxRecDepth 100000 in
theorem dX2_addTerm_17 : decode cX2_addTerm 17 = .ok (.if_icmp .ge 37, 3) := by decide +kernel
set_option maxRecDepth 100000 in
theorem dX2_addTerm_20 : decode cX2_addTerm 20 = .ok (.aload_n 0, 1) := by decide +kernel
set_option maxRecDepth 100000 in
theorem dX2_addTerm_21 : decode cX2_addTerm 21 = .ok (.getfield 9, 3) := by decide +kernel
def zN_cX2_addTerm : Nat := 0xb1cfffa70103844f1200b66169852e1d0f00b42a851c852e1d0900b42a2b1d0900b42a2500a2be0f00b42a1d2e00a2be0900b42a1d3e03
set_option maxRecDepth 100000 in
theorem zl_cX2_addTerm : cX2_addTerm.data.toList = z_un 55 zN_cX2_addTerm := eq_of_beq (by decide +kernel)
theorem dX2_addTerm_24 : decode cX2_addTerm 24 = .ok (.iload_n 3, 1) := z_row zl_cX2_addTerm 24 2763549 (Nat.le_of_ble_eq_true rfl) (by decide +kernel) z_o29 (by decide +kernel)
theorem dX2_addTerm_25 : decode cX2_addTerm 25 = .ok (.aload_n 1, 1) := z_row zl_cX2_addTerm 25 11807275 (Nat.le_of_ble_eq_true rfl) (by decide +kernel) z_o43 (by decide +kernel)
theorem dX2_addTerm_26 : decode cX2_addTerm 26 = .ok (.aload_n 0, 1) := z_row zl_cX2_addTerm 26 46122 (Nat.le_of_ble_eq_true rfl) (by decide +kernel) z_o42 (by decide +kernel)
theorem dX2_addTerm_27 : decode cX2_addTerm 27 = .ok (.getfield 9, 3) := z_row zl_cX2_addTerm 27 590004 (Nat.le_of_ble_eq_true rfl) (by decide +kernel) z_o180 (by decide +kernel)
theorem dX2_addTerm_30 : decode cX2_addTerm 30 = .ok (.iload_n 3, 1) := z_row zl_cX2_addTerm 30 8728093 (Nat.le_of_ble_eq_true rfl) (by decide +kernel) z_o29 (by decide +kernel)
theorem dX2_addTerm_31 : decode cX2_addTerm 31 = .ok (.iaload, 1) := z_row zl_cX2_addTerm 31 1869102 (Nat.le_of_ble_eq_true rfl) (by decide +kernel) z_o46 (by decide +kernel)
theorem dX2_addTerm_32 : decode cX2_addTerm 32 = .ok (.i2l, 1) := z_row zl_cX2_addTerm 32 8723589 (Nat.le_of_ble_eq_true rfl) (by decide +kernel) z_o133 (by decide +kernel)
theorem dX2_addTerm_33 : decode cX2_addTerm 33 = .ok (.iload_n 2, 1) := z_row zl_cX2_addTerm 33 2786588 (Nat.le_of_ble_eq_true rfl) (by decide +kernel) z_o28 (by decide +kernel)
theorem dX2_addTerm_34 : decode cX2_addTerm 34 = .ok (.i2l, 1) := z_row zl_cX2_addTerm 34 11807365 (Nat.le_of_ble_eq_true rfl) (by decide +kernel) z_o133 (by decide +kernel)
theorem dX2_addTerm_35 : decode cX2_addTerm 35 = .ok (.aload_n 0, 1) := z_row zl_cX2_addTerm 35 46122 (Nat.le_of_ble_eq_true rfl) (by decide +kernel) z_o42 (by decide +kernel)
theorem dX2_addTerm_36 : decode cX2_addTerm 36 = .ok (.getfield 15, 3) := z_row zl_cX2_addTerm 36 983220 (Nat.le_of_ble_eq_true rfl) (by decide +kernel) z_o180 (by decide +kernel)
theorem dX2_addTerm_39 : decode cX2_addTerm 39 = .ok (.iload_n 3, 1) := z_row zl_cX2_addTerm 39 8728093 (Nat.le_of_ble_eq_true rfl) (by decide +kernel) z_o29 (by decide +kernel)
theorem dX2_addTerm_40 : decode cX2_addTerm 40 = .ok (.iaload, 1) := z_row zl_cX2_addTerm 40 6915374 (Nat.le_of_ble_eq_true rfl) (by decide +kernel) z_o46 (by decide +kernel)
theorem dX2_addTerm_41 : decode cX2_addTerm 41 = .ok (.i2l, 1) := z_row zl_cX2_addTerm 41 6384005 (Nat.le_of_ble_eq_true rfl) (by decide +kernel) z_o133 (by decide +kernel)
theorem dX2_addTerm_42 : decode cX2_addTerm 42 = .ok (.lmul, 1) := z_row zl_cX2_addTerm 42 11952489 (Nat.le_of_ble_eq_true rfl) (by decide +kernel) z_o105 (by decide +kernel)
theorem dX2_addTerm_43 : decode cX2_addTerm 43 = .ok (.ladd, 1) := z_row zl_cX2_addTerm 43 46689 (Nat.le_of_ble_eq_true rfl) (by decide +kernel) z_o97 (by decide +kernel)
theorem dX2_addTerm_44 : decode cX2_addTerm 44 = .ok (.invokevirtual 18, 3) := z_row zl_cX2_addTerm 44 1179830 (Nat.le_of_ble_eq_true rfl) (by decide +kernel) z_o182 (by decide +kernel)
theorem dX2_addTerm_47 : decode cX2_addTerm 47 = .ok (.iastore, 1) := z_row zl_cX2_addTerm 47 230479 (Nat.le_of_ble_eq_true rfl) (by decide +kernel) z_o79 (by decide +kernel)
theorem dX2_addTerm_48 : decode cX2_addTerm 48 = .ok (.iinc 3 1, 3) := z_row zl_cX2_addTerm 48 66436 (Nat.le_of_ble_eq_true rfl) (by decide +kernel) z_o132 (by decide +kernel)
theorem dX2_addTerm_51 : decode cX2_addTerm 51 = .ok (.goto (-49), 3) := z_row zl_cX2_addTerm 51 13631399 (Nat.le_of_ble_eq_true rfl) (by decide +kernel) z_o167 (by decide +kernel)
set_option maxRecDepth 100000 in
theorem dX2_addTerm_54 : decode cX2_addTerm 54 = .ok (.return_, 1) := by decide +kernel
set_option maxRecDepth 100000 in
theorem dX3_init_0 : decode cX3_init 0 = .ok (.aload_n 0, 1) := by decide +kernel
set_option maxRecDepth 100000 in
theorem dX3_init_1 : decode cX3_init 1 = .ok (.invokespecial 1, 3) := by decide +kernel
set_option maxRecDepth 100000 in
theorem dX3_init_4 : decode cX3_init 4 = .ok (.aload_n 0, 1) := by decide +kernel
set_option maxRecDepth 100000 in
theorem dX3_init_5 : decode cX3_init 5 = .ok (.new 7, 3) := by decide +kernel
set_option maxRecDepth 100000 in
theorem dX3_init_8 : decode cX3_init 8 = .ok (.dup, 1) := by decide +kernel
set_option maxRecDepth 100000 in
theorem dX3_init_9 : decode cX3_init 9 = .ok (.invokespecial 9, 3) := by decide +kernel
set_option maxRecDepth 100000 in
theorem dX3_init_12 : decode cX3_init 12 = .ok (.putfield 10, 3) := by decide +kernel
set_option maxRecDepth 100000 in
theorem dX3_init_15 : decode cX3_init 15 = .ok (.aload_n 0, 1) := by decide +kernel
set_option maxRecDepth 100000 in
theorem dX3_init_16 : decode cX3_init 16 = .ok (.new 16, 3) := by decide +kernel
set_option maxRecDepth 100000 in
theorem dX3_init_19 : decode cX3_init 19 = .ok (.dup, 1) := by decide +kernel
set_option maxRecDepth 100000 in
theorem dX3_init_20 : decode cX3_init 20 = .ok (.invokespecial 18, 3) := by decide +kernel
set_option maxRecDepth 100000 in
theorem dX3_init_23 : decode cX3_init 23 = .ok (.putfield 19, 3) := by decide +kernel
def zN_cX3_init : Nat := 0xb12200b5032a1e00b51d00b7591700bb2ae7ffa7010184531d00b7591700bb1b1900b42a1600a2be1900b42a1b3c031900b51700bd06102a1300b51200b7591000bb2a0a00b50900b7590700bb2a0100b72a
set_option maxRecDepth 100000 in
theorem zl_cX3_init : cX3_init.data.toList = z_un 82 zN_cX3_init := eq_of_beq (by decide +kernel)
theorem dX3_init_26 : decode cX3_init 26 = .ok (.aload_n 0, 1) := z_row zl_cX3_init 26 397354 (Nat.le_of_ble_eq_true rfl) (by decide +kernel) z_o42 (by decide +kernel)
theorem dX3_init_27 : decode cX3_init 27 = .ok (.bipush 6, 2) := z_row zl_cX3_init 27 12387856 (Nat.le_of_ble_eq_true rfl) (by decide +kernel) z_o16 (by decide +kernel)
theorem dX3_init_29 : decode cX3_init 29 = .ok (.anewarray 23, 3) := z_row zl_cX3_init 29 1507517 (Nat.le_of_ble_eq_true rfl) (by decide +kernel) z_o189 (by decide +kernel)
theorem dX3_init_32 : decode cX3_init 32 = .ok (.putfield 25, 3) := z_row zl_cX3_init 32 1638581 (Nat.le_of_ble_eq_true rfl) (by decide +kernel) z_o181 (by decide +kernel)
theorem dX3_init_35 : decode cX3_init 35 = .ok (.iconst 0, 1) := z_row zl_cX3_init 35 1784835 (Nat.le_of_ble_eq_true rfl) (by decide +kernel) z_o3 (by decide +kernel)
theorem dX3_init_36 : decode cX3_init 36 = .ok (.istore_n 1, 1) := z_row zl_cX3_init 36 2759484 (Nat.le_of_ble_eq_true rfl) (by decide +kernel) z_o60 (by decide +kernel)
theorem dX3_init_37 : decode cX3_init 37 = .ok (.iload_n 1, 1) := z_row zl_cX3_init 37 11807259 (Nat.le_of_ble_eq_true rfl) (by decide +kernel) z_o27 (by decide +kernel)
theorem dX3_init_38 : decode cX3_init 38 = .ok (.aload_n 0, 1) := z_row zl_cX3_init 38 46122 (Nat.le_of_ble_eq_true rfl) (by decide +kernel) z_o42 (by decide +kernel)
theorem dX3_init_39 : decode cX3_init 39 = .ok (.getfield 25, 3) := z_row zl_cX3_init 39 1638580 (Nat.le_of_ble_eq_true rfl) (by decide +kernel) z_o180 (by decide +kernel)
theorem dX3_init_42 : decode cX3_init 42 = .ok (.arraylength, 1) := z_row zl_cX3_init 42 41662 (Nat.le_of_ble_eq_true rfl) (by decide +kernel) z_o190 (by decide +kernel)
theorem dX3_init_43 : decode cX3_init 43 = .ok (.if_icmp .ge 22, 3) := z_row zl_cX3_init 43 1441954 (Nat.le_of_ble_eq_true rfl) (by decide +kernel) z_o162 (by decide +kernel)
theorem dX3_init_46 : decode cX3_init 46 = .ok (.aload_n 0, 1) := z_row zl_cX3_init 46 46122 (Nat.le_of_ble_eq_true rfl) (by decide +kernel) z_o42 (by decide +kernel)
theorem dX3_init_47 : decode cX3_init 47 = .ok (.getfield 25, 3) := z_row zl_cX3_init 47 1638580 (Nat.le_of_ble_eq_true rfl) (by decide +kernel) z_o180 (by decide +kernel)
theorem dX3_init_50 : decode cX3_init 50 = .ok (.iload_n 1, 1) := z_row zl_cX3_init 50 47899 (Nat.le_of_ble_eq_true rfl) (by decide +kernel) z_o27 (by decide +kernel)
theorem dX3_init_51 : decode cX3_init 51 = .ok (.new 23, 3) := z_row zl_cX3_init 51 1507515 (Nat.le_of_ble_eq_true rfl) (by decide +kernel) z_o187 (by decide +kernel)
theorem dX3_init_54 : decode cX3_init 54 = .ok (.dup, 1) := z_row zl_cX3_init 54 46937 (Nat.le_of_ble_eq_true rfl) (by decide +kernel) z_o89 (by decide +kernel)
theorem dX3_init_55 : decode cX3_init 55 = .ok (.invokespecial 29, 3) := z_row zl_cX3_init 55 1900727 (Nat.le_of_ble_eq_true rfl) (by decide +kernel) z_o183 (by decide +kernel)
theorem dX3_init_58 : decode cX3_init 58 = .ok (.aastore, 1) := z_row zl_cX3_init 58 99411 (Nat.le_of_ble_eq_true rfl) (by decide +kernel) z_o83 (by decide +kernel)
theorem dX3_init_59 : decode cX3_init 59 = .ok (.iinc 1 1, 3) := z_row zl_cX3_init 59 65924 (Nat.le_of_ble_eq_true rfl) (by decide +kernel) z_o132 (by decide +kernel)
theorem dX3_init_62 : decode cX3_init 62 = .ok (.goto (-25), 3) := z_row zl_cX3_init 62 15204263 (Nat.le_of_ble_eq_true rfl) (by decide +kernel) z_o167 (by decide +kernel)
theorem dX3_init_65 : decode cX3_init 65 = .ok (.aload_n 0, 1) := z_row zl_cX3_init 65 47914 (Nat.le_of_ble_eq_true rfl) (by decide +kernel) z_o42 (by decide +kernel)
theorem dX3_init_66 : decode cX3_init 66 = .ok (.new 23, 3) := z_row zl_cX3_init 66 1507515 (Nat.le_of_ble_eq_true rfl) (by decide +kernel) z_o187 (by decide +kernel)
theorem dX3_init_69 : decode cX3_init 69 = .ok (.dup, 1) := z_row zl_cX3_init 69 46937 (Nat.le_of_ble_eq_true rfl) (by decide +kernel) z_o89 (by decide +kernel)
theorem dX3_init_70 : decode cX3_init 70 = .ok (.invokespecial 29, 3) := z_row zl_cX3_init 70 1900727 (Nat.le_of_ble_eq_true rfl) (by decide +kernel) z_o183 (by decide +kernel)
theorem dX3_init_73 : decode cX3_init 73 = .ok (.putfield 30, 3) := z_row zl_cX3_init 73 1966261 (Nat.le_of_ble_eq_true rfl) (by decide +kernel) z_o181 (by decide +kernel)
theorem dX3_init_76 : decode cX3_init 76 = .ok (.aload_n 0, 1) := z_row zl_cX3_init 76 11862826 (Nat.le_of_ble_eq_true rfl) (by decide +kernel) z_o42 (by decide +kernel)
theorem dX3_init_77 : decode cX3_init 77 = .ok (.iconst 0, 1) := z_row zl_cX3_init 77 46339 (Nat.le_of_ble_eq_true rfl) (by decide +kernel) z_o3 (by decide +kernel)
theorem dX3_init_78 : decode cX3_init 78 = .ok (.putfield 34, 3) := z_row zl_cX3_init 78 2228405 (Nat.le_of_ble_eq_true rfl) (by decide +kernel) z_o181 (by decide +kernel)
set_option maxRecDepth 100000 in
theorem dX3_init_81 : decode cX3_init 81 = .ok (.return_, 1) := by decide +kernel
set_option maxRecDepth 100000 in
theorem dX3_prime_0 : decode cX3_prime 0 = .ok (.iload_n 1, 1) := by decide +kernel
set_option maxRecDepth 100000 in
theorem dX3_prime_1 : decode cX3_prime 1 = .ok (.ifCond .lt 11, 3) := by decide +kernel
set_option maxRecDepth 100000 in
theorem dX3_prime_4 : decode cX3_prime 4 = .ok (.iload_n 1, 1) := by decide +kernel
set_option maxRecDepth 100000 in
theorem dX3_prime_5 : decode cX3_prime 5 = .ok (.getstatic 38, 3) := by decide +kernel
set_option maxRecDepth 100000 in
theorem dX3_prime_8 : decode cX3_prime 8 = .ok (.arraylength, 1) := by decide +kernel
set_option maxRecDepth 100000 in
theorem dX3_prime_9 : decode cX3_prime 9 = .ok (.if_icmp .lt 13, 3) := by decide +kernel
set_option maxRecDepth 100000 in
theorem dX3_prime_12 : decode cX3_prime 12 = .ok (.new 42, 3) := by decide +kernel
set_option maxRecDepth 100000 in
theorem dX3_prime_15 : decode cX3_prime 15 = .ok (.dup, 1) := by decide +kernel
set_option maxRecDepth 100000 in
theorem dX3_prime_16 : decode cX3_prime 16 = .ok (.ldc 44, 2) := by decide +kernel
set_option maxRecDepth 100000 in
theorem dX3_prime_18 : decode cX3_prime 18 = .ok (.invokespecial 46, 3) := by decide +kernel
set_option maxRecDepth 100000 in
theorem dX3_prime_21 : decode cX3_prime 21 = .ok (.athrow, 1) := by decide +kernel
set_option maxRecDepth 100000 in
theorem dX3_prime_22 : decode cX3_prime 22 = .ok (.aload_n 0, 1) := by decide +kernel
set_option maxRecDepth 100000 in
theorem dX3_prime_23 : decode cX3_prime 23 = .ok (.getfield 10, 3) := by decide +kernel
def zN_cX3_prime : Nat := 0xac1cebffa70103843800b6321d1900b42a1200a2be1900b42a1d3e033400b61b0a00b42a3d3100b40a00b42abf2e00b72c12592a00bb0d00a1be2600b21b0b009b1b
set_option maxRecDepth 100000 in
theorem zl_cX3_prime : cX3_prime.data.toList = z_un 66 zN_cX3_prime := eq_of_beq (by decide +kernel)
theorem dX3_prime_26 : decode cX3_prime 26 = .ok (.getfield 49, 3) := z_row zl_cX3_prime 26 3211444 (Nat.le_of_ble_eq_true rfl) (by decide +kernel) z_o180 (by decide +kernel)
theorem dX3_prime_29 : decode cX3_prime 29 = .ok (.istore_n 2, 1) := z_row zl_cX3_prime 29 11807293 (Nat.le_of_ble_eq_true rfl) (by decide +kernel) z_o61 (by decide +kernel)
theorem dX3_prime_30 : decode cX3_prime 30 = .ok (.aload_n 0, 1) := z_row zl_cX3_prime 30 46122 (Nat.le_of_ble_eq_true rfl) (by decide +kernel) z_o42 (by decide +kernel)
theorem dX3_prime_31 : decode cX3_prime 31 = .ok (.getfield 10, 3) := z_row zl_cX3_prime 31 655540 (Nat.le_of_ble_eq_true rfl) (by decide +kernel) z_o180 (by decide +kernel)
theorem dX3_prime_34 : decode cX3_prime 34 = .ok (.iload_n 1, 1) := z_row zl_cX3_prime 34 46619 (Nat.le_of_ble_eq_true rfl) (by decide +kernel) z_o27 (by decide +kernel)
theorem dX3_prime_35 : decode cX3_prime 35 = .ok (.invokevirtual 52, 3) := z_row zl_cX3_prime 35 3408054 (Nat.le_of_ble_eq_true rfl) (by decide +kernel) z_o182 (by decide +kernel)
theorem dX3_prime_38 : decode cX3_prime 38 = .ok (.iconst 0, 1) := z_row zl_cX3_prime 38 1916419 (Nat.le_of_ble_eq_true rfl) (by decide +kernel) z_o3 (by decide +kernel)
theorem dX3_prime_39 : decode cX3_prime 39 = .ok (.istore_n 3, 1) := z_row zl_cX3_prime 39 2759998 (Nat.le_of_ble_eq_true rfl) (by decide +kernel) z_o62 (by decide +kernel)
theorem dX3_prime_40 : decode cX3_prime 40 = .ok (.iload_n 3, 1) := z_row zl_cX3_prime 40 11807261 (Nat.le_of_ble_eq_true rfl) (by decide +kernel) z_o29 (by decide +kernel)
theorem dX3_prime_41 : decode cX3_prime 41 = .ok (.aload_n 0, 1) := z_row zl_cX3_prime 41 46122 (Nat.le_of_ble_eq_true rfl) (by decide +kernel) z_o42 (by decide +kernel)
theorem dX3_prime_42 : decode cX3_prime 42 = .ok (.getfield 25, 3) := z_row zl_cX3_prime 42 1638580 (Nat.le_of_ble_eq_true rfl) (by decide +kernel) z_o180 (by decide +kernel)
theorem dX3_prime_45 : decode cX3_prime 45 = .ok (.arraylength, 1) := z_row zl_cX3_prime 45 41662 (Nat.le_of_ble_eq_true rfl) (by decide +kernel) z_o190 (by decide +kernel)
theorem dX3_prime_46 : decode cX3_prime 46 = .ok (.if_icmp .ge 18, 3) := z_row zl_cX3_prime 46 1179810 (Nat.le_of_ble_eq_true rfl) (by decide +kernel) z_o162 (by decide +kernel)
theorem dX3_prime_49 : decode cX3_prime 49 = .ok (.aload_n 0, 1) := z_row zl_cX3_prime 49 46122 (Nat.le_of_ble_eq_true rfl) (by decide +kernel) z_o42 (by decide +kernel)
theorem dX3_prime_50 : decode cX3_prime 50 = .ok (.getfield 25, 3) := z_row zl_cX3_prime 50 1638580 (Nat.le_of_ble_eq_true rfl) (by decide +kernel) z_o180 (by decide +kernel)
theorem dX3_prime_53 : decode cX3_prime 53 = .ok (.iload_n 3, 1) := z_row zl_cX3_prime 53 11940381 (Nat.le_of_ble_eq_true rfl) (by decide +kernel) z_o29 (by decide +kernel)
theorem dX3_prime_54 : decode cX3_prime 54 = .ok (.aaload, 1) := z_row zl_cX3_prime 54 46642 (Nat.le_of_ble_eq_true rfl) (by decide +kernel) z_o50 (by decide +kernel)
theorem dX3_prime_55 : decode cX3_prime 55 = .ok (.invokevirtual 56, 3) := z_row zl_cX3_prime 55 3670198 (Nat.le_of_ble_eq_true rfl) (by decide +kernel) z_o182 (by decide +kernel)
theorem dX3_prime_58 : decode cX3_prime 58 = .ok (.iinc 3 1, 3) := z_row zl_cX3_prime 58 66436 (Nat.le_of_ble_eq_true rfl) (by decide +kernel) z_o132 (by decide +kernel)
theorem dX3_prime_61 : decode cX3_prime 61 = .ok (.goto (-21), 3) := z_row zl_cX3_prime 61 15466407 (Nat.le_of_ble_eq_true rfl) (by decide +kernel) z_o167 (by decide +kernel)
set_option maxRecDepth 100000 in
theorem dX3_prime_64 : decode cX3_prime 64 = .ok (.iload_n 2, 1) := by decide +kernel
set_option maxRecDepth 100000 in
theorem dX3_prime_65 : decode cX3_prime 65 = .ok (.ireturn, 1) := by decide +kernel
set_option maxRecDepth 100000 in
theorem dX3_rest_0 : decode cX3_rest 0 = .ok (.aload_n 0, 1) := by decide +kernel
set_option maxRecDepth 100000 in
theorem dX3_rest_1 : decode cX3_rest 1 = .ok (.getfield 10, 3) := by decide +kernel
set_option maxRecDepth 100000 in
theorem dX3_rest_4 : decode cX3_rest 4 = .ok (.iload_n 1, 1) := by decide +kernel
set_option maxRecDepth 100000 in
theorem dX3_rest_5 : decode cX3_rest 5 = .ok (.i2l, 1) := by decide +kernel
set_option maxRecDepth 100000 in
theorem dX3_rest_6 : decode cX3_rest 6 = .ok (.invokevirtual 59, 3) := by decide +kernel
set_option maxRecDepth 100000 in
theorem dX3_rest_9 : decode cX3_rest 9 = .ok (.ireturn, 1) := by decide +kernel
set_option maxRecDepth 100000 in
theorem dX3_reckon_0 : decode cX3_reckon 0 = .ok (.iload_n 3, 1) := by decide +kernel
set_option maxRecDepth 100000 in
theorem dX3_reckon_1 : decode cX3_reckon 1 = .ok (.tableswitch 93 0 3 #[31, 44, 57, 70], 31) := by decide +kernel
def zN_cX3_reckon : Nat := 0xbf2e00b74312592a00bbac3f00b63b00b6851c0a00b42a3b00b6851b0a00b42a2aac3b00b669851c851b0a00b42aac3b00b665851c851b0a00b42aac3b00b661851c851b0a00b42a46000000390000002c0000001f00000003000000000000005d0000000000aa1d
set_option maxRecDepth 100000 in
theorem zl_cX3_reckon : cX3_reckon.data.toList = z_un 104 zN_cX3_reckon := eq_of_beq (by decide +kernel)
theorem dX3_reckon_32 : decode cX3_reckon 32 = .ok (.aload_n 0, 1) := z_row zl_cX3_reckon 32 46122 (Nat.le_of_ble_eq_true rfl) (by decide +kernel) z_o42 (by decide +kernel)
theorem dX3_reckon_33 : decode cX3_reckon 33 = .ok (.getfield 10, 3) := z_row zl_cX3_reckon 33 655540 (Nat.le_of_ble_eq_true rfl) (by decide +kernel) z_o180 (by decide +kernel)
theorem dX3_reckon_36 : decode cX3_reckon 36 = .ok (.iload_n 1, 1) := z_row zl_cX3_reckon 36 1869083 (Nat.le_of_ble_eq_true rfl) (by decide +kernel) z_o27 (by decide +kernel)
theorem dX3_reckon_37 : decode cX3_reckon 37 = .ok (.i2l, 1) := z_row zl_cX3_reckon 37 8723589 (Nat.le_of_ble_eq_true rfl) (by decide +kernel) z_o133 (by decide +kernel)
theorem dX3_reckon_38 : decode cX3_reckon 38 = .ok (.iload_n 2, 1) := z_row zl_cX3_reckon 38 6391068 (Nat.le_of_ble_eq_true rfl) (by decide +kernel) z_o28 (by decide +kernel)
theorem dX3_reckon_39 : decode cX3_reckon 39 = .ok (.i2l, 1) := z_row zl_cX3_reckon 39 11952517 (Nat.le_of_ble_eq_true rfl) (by decide +kernel) z_o133 (by decide +kernel)
theorem dX3_reckon_40 : decode cX3_reckon 40 = .ok (.ladd, 1) := z_row zl_cX3_reckon 40 46689 (Nat.le_of_ble_eq_true rfl) (by decide +kernel) z_o97 (by decide +kernel)
theorem dX3_reckon_41 : decode cX3_reckon 41 = .ok (.invokevirtual 59, 3) := z_row zl_cX3_reckon 41 3866806 (Nat.le_of_ble_eq_true rfl) (by decide +kernel) z_o182 (by decide +kernel)
theorem dX3_reckon_44 : decode cX3_reckon 44 = .ok (.ireturn, 1) := z_row zl_cX3_reckon 44 11807404 (Nat.le_of_ble_eq_true rfl) (by decide +kernel) z_o172 (by decide +kernel)
theorem dX3_reckon_45 : decode cX3_reckon 45 = .ok (.aload_n 0, 1) := z_row zl_cX3_reckon 45 46122 (Nat.le_of_ble_eq_true rfl) (by decide +kernel) z_o42 (by decide +kernel)
theorem dX3_reckon_46 : decode cX3_reckon 46 = .ok (.getfield 10, 3) := z_row zl_cX3_reckon 46 655540 (Nat.le_of_ble_eq_true rfl) (by decide +kernel) z_o180 (by decide +kernel)
theorem dX3_reckon_49 : decode cX3_reckon 49 = .ok (.iload_n 1, 1) := z_row zl_cX3_reckon 49 1869083 (Nat.le_of_ble_eq_true rfl) (by decide +kernel) z_o27 (by decide +kernel)
theorem dX3_reckon_50 : decode cX3_reckon 50 = .ok (.i2l, 1) := z_row zl_cX3_reckon 50 8723589 (Nat.le_of_ble_eq_true rfl) (by decide +kernel) z_o133 (by decide +kernel)
theorem dX3_reckon_51 : decode cX3_reckon 51 = .ok (.iload_n 2, 1) := z_row zl_cX3_reckon 51 6653212 (Nat.le_of_ble_eq_true rfl) (by decide +kernel) z_o28 (by decide +kernel)
theorem dX3_reckon_52 : decode cX3_reckon 52 = .ok (.i2l, 1) := z_row zl_cX3_reckon 52 11953541 (Nat.le_of_ble_eq_true rfl) (by decide +kernel) z_o133 (by decide +kernel)
theorem dX3_reckon_53 : decode cX3_reckon 53 = .ok (.lsub, 1) := z_row zl_cX3_reckon 53 46693 (Nat.le_of_ble_eq_true rfl) (by decide +kernel) z_o101 (by decide +kernel)
theorem dX3_reckon_54 : decode cX3_reckon 54 = .ok (.invokevirtual 59, 3) := z_row zl_cX3_reckon 54 3866806 (Nat.le_of_ble_eq_true rfl) (by decide +kernel) z_o182 (by decide +kernel)
theorem dX3_reckon_57 : decode cX3_reckon 57 = .ok (.ireturn, 1) := z_row zl_cX3_reckon 57 11807404 (Nat.le_of_ble_eq_true rfl) (by decide +kernel) z_o172 (by decide +kernel)
theorem dX3_reckon_58 : decode cX3_reckon 58 = .ok (.aload_n 0, 1) := z_row zl_cX3_reckon 58 46122 (Nat.le_of_ble_eq_true rfl) (by decide +kernel) z_o42 (by decide +kernel)
theorem dX3_reckon_59 : decode cX3_reckon 59 = .ok (.getfield 10, 3) := z_row zl_cX3_reckon 59 655540 (Nat.le_of_ble_eq_true rfl) (by decide +kernel) z_o180 (by decide +kernel)
theorem dX3_reckon_62 : decode cX3_reckon 62 = .ok (.iload_n 1, 1) := z_row zl_cX3_reckon 62 1869083 (Nat.le_of_ble_eq_true rfl) (by decide +kernel) z_o27 (by decide +kernel)
theorem dX3_reckon_63 : decode cX3_reckon 63 = .ok (.i2l, 1) := z_row zl_cX3_reckon 63 8723589 (Nat.le_of_ble_eq_true rfl) (by decide +kernel) z_o133 (by decide +kernel)
theorem dX3_reckon_64 : decode cX3_reckon 64 = .ok (.iload_n 2, 1) := z_row zl_cX3_reckon 64 6915356 (Nat.le_of_ble_eq_true rfl) (by decide +kernel) z_o28 (by decide +kernel)
theorem dX3_reckon_65 : decode cX3_reckon 65 = .ok (.i2l, 1) := z_row zl_cX3_reckon 65 11954565 (Nat.le_of_ble_eq_true rfl) (by decide +kernel) z_o133 (by decide +kernel)
theorem dX3_reckon_66 : decode cX3_reckon 66 = .ok (.lmul, 1) := z_row zl_cX3_reckon 66 46697 (Nat.le_of_ble_eq_true rfl) (by decide +kernel) z_o105 (by decide +kernel)
theorem dX3_reckon_67 : decode cX3_reckon 67 = .ok (.invokevirtual 59, 3) := z_row zl_cX3_reckon 67 3866806 (Nat.le_of_ble_eq_true rfl) (by decide +kernel) z_o182 (by decide +kernel)
theorem dX3_reckon_70 : decode cX3_reckon 70 = .ok (.ireturn, 1) := z_row zl_cX3_reckon 70 2763436 (Nat.le_of_ble_eq_true rfl) (by decide +kernel) z_o172 (by decide +kernel)
theorem dX3_reckon_71 : decode cX3_reckon 71 = .ok (.aload_n 0, 1) := z_row zl_cX3_reckon 71 11807274 (Nat.le_of_ble_eq_true rfl) (by decide +kernel) z_o42 (by decide +kernel)
theorem dX3_reckon_72 : decode cX3_reckon 72 = .ok (.aload_n 0, 1) := z_row zl_cX3_reckon 72 46122 (Nat.le_of_ble_eq_true rfl) (by decide +kernel) z_o42 (by decide +kernel)
theorem dX3_reckon_73 : decode cX3_reckon 73 = .ok (.getfield 10, 3) := z_row zl_cX3_reckon 73 655540 (Nat.le_of_ble_eq_true rfl) (by decide +kernel) z_o180 (by decide +kernel)
theorem dX3_reckon_76 : decode cX3_reckon 76 = .ok (.iload_n 1, 1) := z_row zl_cX3_reckon 76 11961627 (Nat.le_of_ble_eq_true rfl) (by decide +kernel) z_o27 (by decide +kernel)
theorem dX3_reckon_77 : decode cX3_reckon 77 = .ok (.i2l, 1) := z_row zl_cX3_reckon 77 46725 (Nat.le_of_ble_eq_true rfl) (by decide +kernel) z_o133 (by decide +kernel)
theorem dX3_reckon_78 : decode cX3_reckon 78 = .ok (.invokevirtual 59, 3) := z_row zl_cX3_reckon 78 3866806 (Nat.le_of_ble_eq_true rfl) (by decide +kernel) z_o182 (by decide +kernel)
theorem dX3_reckon_81 : decode cX3_reckon 81 = .ok (.aload_n 0, 1) := z_row zl_cX3_reckon 81 46122 (Nat.le_of_ble_eq_true rfl) (by decide +kernel) z_o42 (by decide +kernel)
theorem dX3_reckon_82 : decode cX3_reckon 82 = .ok (.getfield 10, 3) := z_row zl_cX3_reckon 82 655540 (Nat.le_of_ble_eq_true rfl) (by decide +kernel) z_o180 (by decide +kernel)
theorem dX3_reckon_85 : decode cX3_reckon 85 = .ok (.iload_n 2, 1) := z_row zl_cX3_reckon 85 11961628 (Nat.le_of_ble_eq_true rfl) (by decide +kernel) z_o28 (by decide +kernel)
theorem dX3_reckon_86 : decode cX3_reckon 86 = .ok (.i2l, 1) := z_row zl_cX3_reckon 86 46725 (Nat.le_of_ble_eq_true rfl) (by decide +kernel) z_o133 (by decide +kernel)
theorem dX3_reckon_87 : decode cX3_reckon 87 = .ok (.invokevirtual 59, 3) := z_row zl_cX3_reckon 87 3866806 (Nat.le_of_ble_eq_true rfl) (by decide +kernel) z_o182 (by decide +kernel)
theorem dX3_reckon_90 : decode cX3_reckon 90 = .ok (.invokevirtual 63, 3) := z_row zl_cX3_reckon 90 4128950 (Nat.le_of_ble_eq_true rfl) (by decide +kernel) z_o182 (by decide +kernel)
theorem dX3_reckon_93 : decode cX3_reckon 93 = .ok (.ireturn, 1) := z_row zl_cX3_reckon 93 48044 (Nat.le_of_ble_eq_true rfl) (by decide +kernel) z_o172 (by decide +kernel)
theorem dX3_reckon_94 : decode cX3_reckon 94 = .ok (.new 42, 3) := z_row zl_cX3_reckon 94 2752699 (Nat.le_of_ble_eq_true rfl) (by decide +kernel) z_o187 (by decide +kernel)
theorem dX3_reckon_97 : decode cX3_reckon 97 = .ok (.dup, 1) := z_row zl_cX3_reckon 97 4395609 (Nat.le_of_ble_eq_true rfl) (by decide +kernel) z_o89 (by decide +kernel)
theorem dX3_reckon_98 : decode cX3_reckon 98 = .ok (.ldc 67, 2) := z_row zl_cX3_reckon 98 12010258 (Nat.le_of_ble_eq_true rfl) (by decide +kernel) z_o18 (by decide +kernel)
theorem dX3_reckon_100 : decode cX3_reckon 100 = .ok (.invokespecial 46, 3) := z_row zl_cX3_reckon 100 3014839 (Nat.le_of_ble_eq_true rfl) (by decide +kernel) z_o183 (by decide +kernel)
set_option maxRecDepth 100000 in
theorem dX3_reckon_103 : decode cX3_reckon 103 = .ok (.athrow, 1) := by decide +kernel
set_option maxRecDepth 100000 in
theorem dX3_reciprocal_0 : decode cX3_reciprocal 0 = .ok (.aload_n 0, 1) := by decide +kernel
set_option maxRecDepth 100000 in
theorem dX3_reciprocal_1 : decode cX3_reciprocal 1 = .ok (.iconst 1, 1) := by decide +kernel
set_option maxRecDepth 100000 in
theorem dX3_reciprocal_2 : decode cX3_reciprocal 2 = .ok (.aload_n 0, 1) := by decide +kernel
set_option maxRecDepth 100000 in
theorem dX3_reciprocal_3 : decode cX3_reciprocal 3 = .ok (.getfield 10, 3) := by decide +kernel
set_option maxRecDepth 100000 in
theorem dX3_reciprocal_6 : decode cX3_reciprocal 6 = .ok (.iload_n 1, 1) := by decide +kernel
set_option maxRecDepth 100000 in
theorem dX3_reciprocal_7 : decode cX3_reciprocal 7 = .ok (.i2l, 1) := by decide +kernel
set_option maxRecDepth 100000 in
theorem dX3_reciprocal_8 : decode cX3_reciprocal 8 = .ok (.invokevirtual 59, 3) := by decide +kernel
set_option maxRecDepth 100000 in
theorem dX3_reciprocal_11 : decode cX3_reciprocal 11 = .ok (.invokevirtual 63, 3) := by decide +kernel
set_option maxRecDepth 100000 in
theorem dX3_reciprocal_14 : decode cX3_reciprocal 14 = .ok (.ireturn, 1) := by decide +kernel
set_option maxRecDepth 100000 in
theorem dX3_power_0 : decode cX3_power 0 = .ok (.aload_n 0, 1) := by decide +kernel
set_option maxRecDepth 100000 in
theorem dX3_power_1 : decode cX3_power 1 = .ok (.getfield 10, 3) := by decide +kernel
set_option maxRecDepth 100000 in
theorem dX3_power_4 : decode cX3_power 4 = .ok (.iload_n 1, 1) := by decide +kernel
set_option maxRecDepth 100000 in
theorem dX3_power_5 : decode cX3_power 5 = .ok (.i2l, 1) := by decide +kernel
set_option maxRecDepth 100000 in
theorem dX3_power_6 : decode cX3_power 6 = .ok (.invokevirtual 59, 3) := by decide +kernel
set_option maxRecDepth 100000 in
theorem dX3_power_9 : decode cX3_power 9 = .ok (.istore_n 3, 1) := by decide +kernel
set_option maxRecDepth 100000 in
theorem dX3_power_10 : decode cX3_power 10 = .ok (.iload_n 2, 1) := by decide +kernel
set_option maxRecDepth 100000 in
theorem dX3_power_11 : decode cX3_power 11 = .ok (.ifCond .lt 17, 3) := by decide +kernel
set_option maxRecDepth 100000 in
theorem dX3_power_14 : decode cX3_power 14 = .ok (.iload_n 3, 1) := by decide +kernel
set_option maxRecDepth 100000 in
theorem dX3_power_15 : decode cX3_power 15 = .ok (.iload_n 2, 1) := by decide +kernel
set_option maxRecDepth 100000 in
theorem dX3_power_16 : decode cX3_power 16 = .ok (.i2l, 1) := by decide +kernel
set_option maxRecDepth 100000 in
theorem dX3_power_17 : decode cX3_power 17 = .ok (.aload_n 0, 1) := by decide +kernel
set_option maxRecDepth 100000 in
theorem dX3_power_18 : decode cX3_power 18 = .ok (.getfield 10, 3) := by decide +kernel
set_option maxRecDepth 100000 in
theorem dX3_power_21 : decode cX3_power 21 = .ok (.getfield 49, 3) := by decide +kernel
def zN_cX3_power : Nat := 0xac4500b83100b40a00b42a75851c04151200a7f7100800a0f710041504363f00b61d042aac4500b83100b40a00b42a851c1d11009b1c3e3b00b6851b0a00b42a
set_option maxRecDepth 100000 in
theorem zl_cX3_power : cX3_power.data.toList = z_un 64 zN_cX3_power := eq_of_beq (by decide +kernel)
theorem dX3_power_24 : decode cX3_power 24 = .ok (.invokestatic 69, 3) := z_row zl_cX3_power 24 4522168 (Nat.le_of_ble_eq_true rfl) (by decide +kernel) z_o184 (by decide +kernel)
theorem dX3_power_27 : decode cX3_power 27 = .ok (.ireturn, 1) := z_row zl_cX3_power 27 273068 (Nat.le_of_ble_eq_true rfl) (by decide +kernel) z_o172 (by decide +kernel)
theorem dX3_power_28 : decode cX3_power 28 = .ok (.aload_n 0, 1) := z_row zl_cX3_power 28 1901610 (Nat.le_of_ble_eq_true rfl) (by decide +kernel) z_o42 (by decide +kernel)
theorem dX3_power_29 : decode cX3_power 29 = .ok (.iconst 1, 1) := z_row zl_cX3_power 29 11934980 (Nat.le_of_ble_eq_true rfl) (by decide +kernel) z_o4 (by decide +kernel)
theorem dX3_power_30 : decode cX3_power 30 = .ok (.iload_n 3, 1) := z_row zl_cX3_power 30 46621 (Nat.le_of_ble_eq_true rfl) (by decide +kernel) z_o29 (by decide +kernel)
theorem dX3_power_31 : decode cX3_power 31 = .ok (.invokevirtual 63, 3) := z_row zl_cX3_power 31 4128950 (Nat.le_of_ble_eq_true rfl) (by decide +kernel) z_o182 (by decide +kernel)
theorem dX3_power_34 : decode cX3_power 34 = .ok (.istore 4, 2) := z_row zl_cX3_power 34 1377334 (Nat.le_of_ble_eq_true rfl) (by decide +kernel) z_o54 (by decide +kernel)
theorem dX3_power_36 : decode cX3_power 36 = .ok (.iload 4, 2) := z_row zl_cX3_power 36 1049621 (Nat.le_of_ble_eq_true rfl) (by decide +kernel) z_o21 (by decide +kernel)
theorem dX3_power_38 : decode cX3_power 38 = .ok (.bipush (-9), 2) := z_row zl_cX3_power 38 10549008 (Nat.le_of_ble_eq_true rfl) (by decide +kernel) z_o16 (by decide +kernel)
theorem dX3_power_40 : decode cX3_power 40 = .ok (.if_icmp .ne 8, 3) := z_row zl_cX3_power 40 524448 (Nat.le_of_ble_eq_true rfl) (by decide +kernel) z_o160 (by decide +kernel)
theorem dX3_power_43 : decode cX3_power 43 = .ok (.bipush (-9), 2) := z_row zl_cX3_power 43 11007760 (Nat.le_of_ble_eq_true rfl) (by decide +kernel) z_o16 (by decide +kernel)
theorem dX3_power_45 : decode cX3_power 45 = .ok (.goto 18, 3) := z_row zl_cX3_power 45 1179815 (Nat.le_of_ble_eq_true rfl) (by decide +kernel) z_o167 (by decide +kernel)
theorem dX3_power_48 : decode cX3_power 48 = .ok (.iload 4, 2) := z_row zl_cX3_power 48 1836053 (Nat.le_of_ble_eq_true rfl) (by decide +kernel) z_o21 (by decide +kernel)
theorem dX3_power_50 : decode cX3_power 50 = .ok (.iload_n 2, 1) := z_row zl_cX3_power 50 7701788 (Nat.le_of_ble_eq_true rfl) (by decide +kernel) z_o28 (by decide +kernel)
theorem dX3_power_51 : decode cX3_power 51 = .ok (.i2l, 1) := z_row zl_cX3_power 51 2782597 (Nat.le_of_ble_eq_true rfl) (by decide +kernel) z_o133 (by decide +kernel)
theorem dX3_power_52 : decode cX3_power 52 = .ok (.lneg, 1) := z_row zl_cX3_power 52 11807349 (Nat.le_of_ble_eq_true rfl) (by decide +kernel) z_o117 (by decide +kernel)
theorem dX3_power_53 : decode cX3_power 53 = .ok (.aload_n 0, 1) := z_row zl_cX3_power 53 46122 (Nat.le_of_ble_eq_true rfl) (by decide +kernel) z_o42 (by decide +kernel)
theorem dX3_power_54 : decode cX3_power 54 = .ok (.getfield 10, 3) := z_row zl_cX3_power 54 655540 (Nat.le_of_ble_eq_true rfl) (by decide +kernel) z_o180 (by decide +kernel)
theorem dX3_power_57 : decode cX3_power 57 = .ok (.getfield 49, 3) := z_row zl_cX3_power 57 3211444 (Nat.le_of_ble_eq_true rfl) (by decide +kernel) z_o180 (by decide +kernel)
theorem dX3_power_60 : decode cX3_power 60 = .ok (.invokestatic 69, 3) := z_row zl_cX3_power 60 4522168 (Nat.le_of_ble_eq_true rfl) (by decide +kernel) z_o184 (by decide +kernel)
set_option maxRecDepth 100000 in
theorem dX3_power_63 : decode cX3_power 63 = .ok (.ireturn, 1) := by decide +kernel
set_option maxRecDepth 100000 in
theorem dX3_sealOf_0 : decode cX3_sealOf 0 = .ok (.aload_n 0, 1) := by decide +kernel
set_option maxRecDepth 100000 in
theorem dX3_sealOf_1 : decode cX3_sealOf 1 = .ok (.getfield 10, 3) := by decide +kernel
set_option maxRecDepth 100000 in
theorem dX3_sealOf_4 : decode cX3_sealOf 4 = .ok (.iload_n 1, 1) := by decide +kernel
set_option maxRecDepth 100000 in
theorem dX3_sealOf_5 : decode cX3_sealOf 5 = .ok (.invokevirtual 73, 3) := by decide +kernel
set_option maxRecDepth 100000 in
theorem dX3_sealOf_8 : decode cX3_sealOf 8 = .ok (.ireturn, 1) := by decide +kernel
set_option maxRecDepth 100000 in
theorem dX3_weight_0 : decode cX3_weight 0 = .ok (.aload_n 0, 1) := by decide +kernel
set_option maxRecDepth 100000 in
theorem dX3_weight_1 : decode cX3_weight 1 = .ok (.iload_n 2, 1) := by decide +kernel
set_option maxRecDepth 100000 in
theorem dX3_weight_2 : decode cX3_weight 2 = .ok (.invokevirtual 77, 3) := by decide +kernel
set_option maxRecDepth 100000 in
theorem dX3_weight_5 : decode cX3_weight 5 = .ok (.aload_n 0, 1) := by decide +kernel
set_option maxRecDepth 100000 in
theorem dX3_weight_6 : decode cX3_weight 6 = .ok (.iload_n 1, 1) := by decide +kernel
set_option maxRecDepth 100000 in
theorem dX3_weight_7 : decode cX3_weight 7 = .ok (.invokevirtual 80, 3) := by decide +kernel
set_option maxRecDepth 100000 in
theorem dX3_weight_10 : decode cX3_weight 10 = .ok (.iload_n 1, 1) := by decide +kernel
set_option maxRecDepth 100000 in
theorem dX3_weight_11 : decode cX3_weight 11 = .ok (.iload_n 2, 1) := by decide +kernel
set_option maxRecDepth 100000 in
theorem dX3_weight_12 : decode cX3_weight 12 = .ok (.invokestatic 83, 3) := by decide +kernel
set_option maxRecDepth 100000 in
theorem dX3_weight_15 : decode cX3_weight 15 = .ok (.ifCond .eq 16, 3) := by decide +kernel
set_option maxRecDepth 100000 in
theorem dX3_weight_18 : decode cX3_weight 18 = .ok (.aload_n 0, 1) := by decide +kernel
set_option maxRecDepth 100000 in
theorem dX3_weight_19 : decode cX3_weight 19 = .ok (.getfield 10, 3) := by decide +kernel
set_option maxRecDepth 100000 in
theorem dX3_weight_22 : decode cX3_weight 22 = .ok (.iload_n 1, 1) := by decide +kernel
set_option maxRecDepth 100000 in
theorem dX3_weight_23 : decode cX3_weight 23 = .ok (.iload_n 2, 1) := by decide +kernel
def zN_cX3_weight : Nat := 0xacf7100500a75700b61d1c1b0a00b42a1000995300b81c1b5000b61b2a4d00b61c2a
set_option maxRecDepth 100000 in
theorem zl_cX3_weight : cX3_weight.data.toList = z_un 34 zN_cX3_weight := eq_of_beq (by decide +kernel)
theorem dX3_weight_24 : decode cX3_weight 24 = .ok (.iload_n 3, 1) := z_row zl_cX3_weight 24 46621 (Nat.le_of_ble_eq_true rfl) (by decide +kernel) z_o29 (by decide +kernel)
theorem dX3_weight_25 : decode cX3_weight 25 = .ok (.invokevirtual 87, 3) := z_row zl_cX3_weight 25 5701814 (Nat.le_of_ble_eq_true rfl) (by decide +kernel) z_o182 (by decide +kernel)
theorem dX3_weight_28 : decode cX3_weight 28 = .ok (.goto 5, 3) := z_row zl_cX3_weight 28 327847 (Nat.le_of_ble_eq_true rfl) (by decide +kernel) z_o167 (by decide +kernel)
theorem dX3_weight_31 : decode cX3_weight 31 = .ok (.bipush (-9), 2) := z_row zl_cX3_weight 31 11335440 (Nat.le_of_ble_eq_true rfl) (by decide +kernel) z_o16 (by decide +kernel)
set_option maxRecDepth 100000 in
theorem dX3_weight_33 : decode cX3_weight 33 = .ok (.ireturn, 1) := by decide +kernel
set_option maxRecDepth 100000 in
theorem dX3_weights_0 : decode cX3_weights 0 = .ok (.aload_n 0, 1) := by decide +kernel
set_option maxRecDepth 100000 in
theorem dX3_weights_1 : decode cX3_weights 1 = .ok (.iload_n 1, 1) := by decide +kernel
set_option maxRecDepth 100000 in
theorem dX3_weights_2 : decode cX3_weights 2 = .ok (.invokevirtual 80, 3) := by decide +kernel
set_option maxRecDepth 100000 in
theorem dX3_weights_5 : decode cX3_weights 5 = .ok (.aload_n 0, 1) := by decide +kernel
set_option maxRecDepth 100000 in
theorem dX3_weights_6 : decode cX3_weights 6 = .ok (.iload_n 1, 1) := by decide +kernel
set_option maxRecDepth 100000 in
theorem dX3_weights_7 : decode cX3_weights 7 = .ok (.iload_n 2, 1) := by decide +kernel
set_option maxRecDepth 100000 in
theorem dX3_weights_8 : decode cX3_weights 8 = .ok (.invokevirtual 91, 3) := by decide +kernel
set_option maxRecDepth 100000 in
theorem dX3_weights_11 : decode cX3_weights 11 = .ok (.ireturn, 1) := by decide +kernel
set_option maxRecDepth 100000 in
theorem dX3_hide_0 : decode cX3_hide 0 = .ok (.aload_n 0, 1) := by decide +kernel
set_option maxRecDepth 100000 in
theorem dX3_hide_1 : decode cX3_hide 1 = .ok (.iload_n 1, 1) := by decide +kernel
set_option maxRecDepth 100000 in
theorem dX3_hide_2 : decode cX3_hide 2 = .ok (.invokevirtual 94, 3) := by decide +kernel
set_option maxRecDepth 100000 in
theorem dX3_hide_5 : decode cX3_hide 5 = .ok (.astore 7, 2) := by decide +kernel
set_option maxRecDepth 100000 in
theorem dX3_hide_7 : decode cX3_hide 7 = .ok (.iload_n 2, 1) := by decide +kernel
set_option maxRecDepth 100000 in
theorem dX3_hide_8 : decode cX3_hide 8 = .ok (.invokestatic 98, 3) := by decide +kernel
set_option maxRecDepth 100000 in
theorem dX3_hide_11 : decode cX3_hide 11 = .ok (.aload_n 0, 1) := by decide +kernel
set_option maxRecDepth 100000 in
theorem dX3_hide_12 : decode cX3_hide 12 = .ok (.getfield 19, 3) := by decide +kernel
set_option maxRecDepth 100000 in
theorem dX3_hide_15 : decode cX3_hide 15 = .ok (.aload_n 0, 1) := by decide +kernel
set_option maxRecDepth 100000 in
theorem dX3_hide_16 : decode cX3_hide 16 = .ok (.getfield 10, 3) := by decide +kernel
set_option maxRecDepth 100000 in
theorem dX3_hide_19 : decode cX3_hide 19 = .ok (.iload_n 2, 1) := by decide +kernel
set_option maxRecDepth 100000 in
theorem dX3_hide_20 : decode cX3_hide 20 = .ok (.iload_n 3, 1) := by decide +kernel
set_option maxRecDepth 100000 in
theorem dX3_hide_21 : decode cX3_hide 21 = .ok (.iload 4, 2) := by decide +kernel
set_option maxRecDepth 100000 in
theorem dX3_hide_23 : decode cX3_hide 23 = .ok (.iload 5, 2) := by decide +kernel
def zN_cX3_hide : Nat := 0xac6900b61c07192a6500b60615051504151d1c0a00b42a1300b42a6200b81c073a5e00b61b2a
set_option maxRecDepth 100000 in
theorem zl_cX3_hide : cX3_hide.data.toList = z_un 38 zN_cX3_hide := eq_of_beq (by decide +kernel)
theorem dX3_hide_25 : decode cX3_hide 25 = .ok (.iload 6, 2) := z_row zl_cX3_hide 25 11929109 (Nat.le_of_ble_eq_true rfl) (by decide +kernel) z_o21 (by decide +kernel)
theorem dX3_hide_27 : decode cX3_hide 27 = .ok (.invokevirtual 101, 3) := z_row zl_cX3_hide 27 6619318 (Nat.le_of_ble_eq_true rfl) (by decide +kernel) z_o182 (by decide +kernel)
theorem dX3_hide_30 : decode cX3_hide 30 = .ok (.aload_n 0, 1) := z_row zl_cX3_hide 30 465194 (Nat.le_of_ble_eq_true rfl) (by decide +kernel) z_o42 (by decide +kernel)
theorem dX3_hide_31 : decode cX3_hide 31 = .ok (.aload 7, 2) := z_row zl_cX3_hide 31 1836825 (Nat.le_of_ble_eq_true rfl) (by decide +kernel) z_o25 (by decide +kernel)
theorem dX3_hide_33 : decode cX3_hide 33 = .ok (.iload_n 2, 1) := z_row zl_cX3_hide 33 46620 (Nat.le_of_ble_eq_true rfl) (by decide +kernel) z_o28 (by decide +kernel)
theorem dX3_hide_34 : decode cX3_hide 34 = .ok (.invokevirtual 105, 3) := z_row zl_cX3_hide 34 6881462 (Nat.le_of_ble_eq_true rfl) (by decide +kernel) z_o182 (by decide +kernel)
set_option maxRecDepth 100000 in
theorem dX3_hide_37 : decode cX3_hide 37 = .ok (.ireturn, 1) := by decide +kernel
set_option maxRecDepth 100000 in
theorem dX3_pour_0 : decode cX3_pour 0 = .ok (.aload_n 0, 1) := by decide +kernel
set_option maxRecDepth 100000 in
theorem dX3_pour_1 : decode cX3_pour 1 = .ok (.iload_n 1, 1) := by decide +kernel
set_option maxRecDepth 100000 in
theorem dX3_pour_2 : decode cX3_pour 2 = .ok (.invokevirtual 94, 3) := by decide +kernel
set_option maxRecDepth 100000 in
theorem dX3_pour_5 : decode cX3_pour 5 = .ok (.astore 6, 2) := by decide +kernel
set_option maxRecDepth 100000 in
theorem dX3_pour_7 : decode cX3_pour 7 = .ok (.aload 6, 2) := by decide +kernel
set_option maxRecDepth 100000 in
theorem dX3_pour_9 : decode cX3_pour 9 = .ok (.invokevirtual 109, 3) := by decide +kernel
set_option maxRecDepth 100000 in
theorem dX3_pour_12 : decode cX3_pour 12 = .ok (.ifCond .eq 6, 3) := by decide +kernel
set_option maxRecDepth 100000 in
theorem dX3_pour_15 : decode cX3_pour 15 = .ok (.bipush (-9), 2) := by decide +kernel
set_option maxRecDepth 100000 in
theorem dX3_pour_17 : decode cX3_pour 17 = .ok (.ireturn, 1) := by decide +kernel
set_option maxRecDepth 100000 in
theorem dX3_pour_18 : decode cX3_pour 18 = .ok (.aload_n 0, 1) := by decide +kernel
set_option maxRecDepth 100000 in
theorem dX3_pour_19 : decode cX3_pour 19 = .ok (.getfield 19, 3) := by decide +kernel
set_option maxRecDepth 100000 in
theorem dX3_pour_22 : decode cX3_pour 22 = .ok (.aload_n 0, 1) := by decide +kernel
set_option maxRecDepth 100000 in
theorem dX3_pour_23 : decode cX3_pour 23 = .ok (.getfield 10, 3) := by decide +kernel
def zN_cX3_pour : Nat := 0xac9500b60619ceffa70107849200b68f00b64900b68c00b607151300b42a0a00b42a8900b6071506190a00b42a071506192e00a28600b406190715073603beffa70107848200b63b00b608160a00b42a07150619083761857e00b607150a00b42a1300b42a857b00b6071506192c00997700b6071506193c00a37400b40a00b42a07150736046500b6051504151d1c7100b406190a00b42a1300b42aacf7100600996d00b60619063a5e00b61b2a
set_option maxRecDepth 100000 in
theorem zl_cX3_pour : cX3_pour.data.toList = z_un 174 zN_cX3_pour := eq_of_beq (by decide +kernel)
theorem dX3_pour_26 : decode cX3_pour 26 = .ok (.aload 6, 2) := z_row zl_cX3_pour 26 11798041 (Nat.le_of_ble_eq_true rfl) (by decide +kernel) z_o25 (by decide +kernel)
theorem dX3_pour_28 : decode cX3_pour 28 = .ok (.getfield 113, 3) := z_row zl_cX3_pour 28 7405748 (Nat.le_of_ble_eq_true rfl) (by decide +kernel) z_o180 (by decide +kernel)
theorem dX3_pour_31 : decode cX3_pour 31 = .ok (.iload_n 2, 1) := z_row zl_cX3_pour 31 1383708 (Nat.le_of_ble_eq_true rfl) (by decide +kernel) z_o28 (by decide +kernel)
theorem dX3_pour_32 : decode cX3_pour 32 = .ok (.iload_n 3, 1) := z_row zl_cX3_pour 32 267549 (Nat.le_of_ble_eq_true rfl) (by decide +kernel) z_o29 (by decide +kernel)
theorem dX3_pour_33 : decode cX3_pour 33 = .ok (.iload 4, 2) := z_row zl_cX3_pour 33 1377301 (Nat.le_of_ble_eq_true rfl) (by decide +kernel) z_o21 (by decide +kernel)
theorem dX3_pour_35 : decode cX3_pour 35 = .ok (.iload 5, 2) := z_row zl_cX3_pour 35 11928853 (Nat.le_of_ble_eq_true rfl) (by decide +kernel) z_o21 (by decide +kernel)
theorem dX3_pour_37 : decode cX3_pour 37 = .ok (.invokevirtual 101, 3) := z_row zl_cX3_pour 37 6619318 (Nat.le_of_ble_eq_true rfl) (by decide +kernel) z_o182 (by decide +kernel)
theorem dX3_pour_40 : decode cX3_pour 40 = .ok (.iconst 1, 1) := z_row zl_cX3_pour 40 472580 (Nat.le_of_ble_eq_true rfl) (by decide +kernel) z_o4 (by decide +kernel)
theorem dX3_pour_41 : decode cX3_pour 41 = .ok (.istore 7, 2) := z_row zl_cX3_pour 41 1378102 (Nat.le_of_ble_eq_true rfl) (by decide +kernel) z_o54 (by decide +kernel)
theorem dX3_pour_43 : decode cX3_pour 43 = .ok (.iload 7, 2) := z_row zl_cX3_pour 43 2754325 (Nat.le_of_ble_eq_true rfl) (by decide +kernel) z_o21 (by decide +kernel)
theorem dX3_pour_45 : decode cX3_pour 45 = .ok (.aload_n 0, 1) := z_row zl_cX3_pour 45 46122 (Nat.le_of_ble_eq_true rfl) (by decide +kernel) z_o42 (by decide +kernel)
theorem dX3_pour_46 : decode cX3_pour 46 = .ok (.getfield 10, 3) := z_row zl_cX3_pour 46 655540 (Nat.le_of_ble_eq_true rfl) (by decide +kernel) z_o180 (by decide +kernel)
theorem dX3_pour_49 : decode cX3_pour 49 = .ok (.getfield 116, 3) := z_row zl_cX3_pour 49 7602356 (Nat.le_of_ble_eq_true rfl) (by decide +kernel) z_o180 (by decide +kernel)
theorem dX3_pour_52 : decode cX3_pour 52 = .ok (.if_icmp .gt 60, 3) := z_row zl_cX3_pour 52 3932323 (Nat.le_of_ble_eq_true rfl) (by decide +kernel) z_o163 (by decide +kernel)
theorem dX3_pour_55 : decode cX3_pour 55 = .ok (.aload 6, 2) := z_row zl_cX3_pour 55 1377817 (Nat.le_of_ble_eq_true rfl) (by decide +kernel) z_o25 (by decide +kernel)
theorem dX3_pour_57 : decode cX3_pour 57 = .ok (.iload 7, 2) := z_row zl_cX3_pour 57 11929365 (Nat.le_of_ble_eq_true rfl) (by decide +kernel) z_o21 (by decide +kernel)
theorem dX3_pour_59 : decode cX3_pour 59 = .ok (.invokevirtual 119, 3) := z_row zl_cX3_pour 59 7798966 (Nat.le_of_ble_eq_true rfl) (by decide +kernel) z_o182 (by decide +kernel)
theorem dX3_pour_62 : decode cX3_pour 62 = .ok (.ifCond .eq 44, 3) := z_row zl_cX3_pour 62 2883737 (Nat.le_of_ble_eq_true rfl) (by decide +kernel) z_o153 (by decide +kernel)
theorem dX3_pour_65 : decode cX3_pour 65 = .ok (.aload 6, 2) := z_row zl_cX3_pour 65 1377817 (Nat.le_of_ble_eq_true rfl) (by decide +kernel) z_o25 (by decide +kernel)
theorem dX3_pour_67 : decode cX3_pour 67 = .ok (.iload 7, 2) := z_row zl_cX3_pour 67 11929365 (Nat.le_of_ble_eq_true rfl) (by decide +kernel) z_o21 (by decide +kernel)
theorem dX3_pour_69 : decode cX3_pour 69 = .ok (.invokevirtual 123, 3) := z_row zl_cX3_pour 69 8061110 (Nat.le_of_ble_eq_true rfl) (by decide +kernel) z_o182 (by decide +kernel)
theorem dX3_pour_72 : decode cX3_pour 72 = .ok (.i2l, 1) := z_row zl_cX3_pour 72 11807365 (Nat.le_of_ble_eq_true rfl) (by decide +kernel) z_o133 (by decide +kernel)
theorem dX3_pour_73 : decode cX3_pour 73 = .ok (.aload_n 0, 1) := z_row zl_cX3_pour 73 46122 (Nat.le_of_ble_eq_true rfl) (by decide +kernel) z_o42 (by decide +kernel)
theorem dX3_pour_74 : decode cX3_pour 74 = .ok (.getfield 19, 3) := z_row zl_cX3_pour 74 1245364 (Nat.le_of_ble_eq_true rfl) (by decide +kernel) z_o180 (by decide +kernel)
theorem dX3_pour_77 : decode cX3_pour 77 = .ok (.aload_n 0, 1) := z_row zl_cX3_pour 77 46122 (Nat.le_of_ble_eq_true rfl) (by decide +kernel) z_o42 (by decide +kernel)
theorem dX3_pour_78 : decode cX3_pour 78 = .ok (.getfield 10, 3) := z_row zl_cX3_pour 78 655540 (Nat.le_of_ble_eq_true rfl) (by decide +kernel) z_o180 (by decide +kernel)
theorem dX3_pour_81 : decode cX3_pour 81 = .ok (.iload 7, 2) := z_row zl_cX3_pour 81 11929365 (Nat.le_of_ble_eq_true rfl) (by decide +kernel) z_o21 (by decide +kernel)
theorem dX3_pour_83 : decode cX3_pour 83 = .ok (.invokevirtual 126, 3) := z_row zl_cX3_pour 83 8257718 (Nat.le_of_ble_eq_true rfl) (by decide +kernel) z_o182 (by decide +kernel)
theorem dX3_pour_86 : decode cX3_pour 86 = .ok (.i2l, 1) := z_row zl_cX3_pour 86 3629445 (Nat.le_of_ble_eq_true rfl) (by decide +kernel) z_o133 (by decide +kernel)
theorem dX3_pour_87 : decode cX3_pour 87 = .ok (.ladd, 1) := z_row zl_cX3_pour 87 538465 (Nat.le_of_ble_eq_true rfl) (by decide +kernel) z_o97 (by decide +kernel)
theorem dX3_pour_88 : decode cX3_pour 88 = .ok (.lstore 8, 2) := z_row zl_cX3_pour 88 1640503 (Nat.le_of_ble_eq_true rfl) (by decide +kernel) z_o55 (by decide +kernel)
theorem dX3_pour_90 : decode cX3_pour 90 = .ok (.aload 6, 2) := z_row zl_cX3_pour 90 1377817 (Nat.le_of_ble_eq_true rfl) (by decide +kernel) z_o25 (by decide +kernel)
theorem dX3_pour_92 : decode cX3_pour 92 = .ok (.iload 7, 2) := z_row zl_cX3_pour 92 2754325 (Nat.le_of_ble_eq_true rfl) (by decide +kernel) z_o21 (by decide +kernel)
theorem dX3_pour_94 : decode cX3_pour 94 = .ok (.aload_n 0, 1) := z_row zl_cX3_pour 94 46122 (Nat.le_of_ble_eq_true rfl) (by decide +kernel) z_o42 (by decide +kernel)
theorem dX3_pour_95 : decode cX3_pour 95 = .ok (.getfield 10, 3) := z_row zl_cX3_pour 95 655540 (Nat.le_of_ble_eq_true rfl) (by decide +kernel) z_o180 (by decide +kernel)
theorem dX3_pour_98 : decode cX3_pour 98 = .ok (.lload 8, 2) := z_row zl_cX3_pour 98 11929622 (Nat.le_of_ble_eq_true rfl) (by decide +kernel) z_o22 (by decide +kernel)
theorem dX3_pour_100 : decode cX3_pour 100 = .ok (.invokevirtual 59, 3) := z_row zl_cX3_pour 100 3866806 (Nat.le_of_ble_eq_true rfl) (by decide +kernel) z_o182 (by decide +kernel)
theorem dX3_pour_103 : decode cX3_pour 103 = .ok (.invokevirtual 130, 3) := z_row zl_cX3_pour 103 8519862 (Nat.le_of_ble_eq_true rfl) (by decide +kernel) z_o182 (by decide +kernel)
theorem dX3_pour_106 : decode cX3_pour 106 = .ok (.iinc 7 1, 3) := z_row zl_cX3_pour 106 67460 (Nat.le_of_ble_eq_true rfl) (by decide +kernel) z_o132 (by decide +kernel)
theorem dX3_pour_109 : decode cX3_pour 109 = .ok (.goto (-66), 3) := z_row zl_cX3_pour 109 12517287 (Nat.le_of_ble_eq_true rfl) (by decide +kernel) z_o167 (by decide +kernel)
theorem dX3_pour_112 : decode cX3_pour 112 = .ok (.iconst 0, 1) := z_row zl_cX3_pour 112 472579 (Nat.le_of_ble_eq_true rfl) (by decide +kernel) z_o3 (by decide +kernel)
theorem dX3_pour_113 : decode cX3_pour 113 = .ok (.istore 7, 2) := z_row zl_cX3_pour 113 1378102 (Nat.le_of_ble_eq_true rfl) (by decide +kernel) z_o54 (by decide +kernel)
theorem dX3_pour_115 : decode cX3_pour 115 = .ok (.iload 7, 2) := z_row zl_cX3_pour 115 1640213 (Nat.le_of_ble_eq_true rfl) (by decide +kernel) z_o21 (by decide +kernel)
theorem dX3_pour_117 : decode cX3_pour 117 = .ok (.aload 6, 2) := z_row zl_cX3_pour 117 11798041 (Nat.le_of_ble_eq_true rfl) (by decide +kernel) z_o25 (by decide +kernel)
theorem dX3_pour_119 : decode cX3_pour 119 = .ok (.getfield 134, 3) := z_row zl_cX3_pour 119 8782004 (Nat.le_of_ble_eq_true rfl) (by decide +kernel) z_o180 (by decide +kernel)
theorem dX3_pour_122 : decode cX3_pour 122 = .ok (.if_icmp .ge 46, 3) := z_row zl_cX3_pour 122 3014818 (Nat.le_of_ble_eq_true rfl) (by decide +kernel) z_o162 (by decide +kernel)
theorem dX3_pour_125 : decode cX3_pour 125 = .ok (.aload 6, 2) := z_row zl_cX3_pour 125 1377817 (Nat.le_of_ble_eq_true rfl) (by decide +kernel) z_o25 (by decide +kernel)
theorem dX3_pour_127 : decode cX3_pour 127 = .ok (.iload 7, 2) := z_row zl_cX3_pour 127 2754325 (Nat.le_of_ble_eq_true rfl) (by decide +kernel) z_o21 (by decide +kernel)
theorem dX3_pour_129 : decode cX3_pour 129 = .ok (.aload_n 0, 1) := z_row zl_cX3_pour 129 46122 (Nat.le_of_ble_eq_true rfl) (by decide +kernel) z_o42 (by decide +kernel)
theorem dX3_pour_130 : decode cX3_pour 130 = .ok (.getfield 10, 3) := z_row zl_cX3_pour 130 655540 (Nat.le_of_ble_eq_true rfl) (by decide +kernel) z_o180 (by decide +kernel)
theorem dX3_pour_133 : decode cX3_pour 133 = .ok (.aload 6, 2) := z_row zl_cX3_pour 133 1377817 (Nat.le_of_ble_eq_true rfl) (by decide +kernel) z_o25 (by decide +kernel)
theorem dX3_pour_135 : decode cX3_pour 135 = .ok (.iload 7, 2) := z_row zl_cX3_pour 135 11929365 (Nat.le_of_ble_eq_true rfl) (by decide +kernel) z_o21 (by decide +kernel)
theorem dX3_pour_137 : decode cX3_pour 137 = .ok (.invokevirtual 137, 3) := z_row zl_cX3_pour 137 8978614 (Nat.le_of_ble_eq_true rfl) (by decide +kernel) z_o182 (by decide +kernel)
theorem dX3_pour_140 : decode cX3_pour 140 = .ok (.aload_n 0, 1) := z_row zl_cX3_pour 140 46122 (Nat.le_of_ble_eq_true rfl) (by decide +kernel) z_o42 (by decide +kernel)
theorem dX3_pour_141 : decode cX3_pour 141 = .ok (.getfield 10, 3) := z_row zl_cX3_pour 141 655540 (Nat.le_of_ble_eq_true rfl) (by decide +kernel) z_o180 (by decide +kernel)
theorem dX3_pour_144 : decode cX3_pour 144 = .ok (.aload_n 0, 1) := z_row zl_cX3_pour 144 46122 (Nat.le_of_ble_eq_true rfl) (by decide +kernel) z_o42 (by decide +kernel)
theorem dX3_pour_145 : decode cX3_pour 145 = .ok (.getfield 19, 3) := z_row zl_cX3_pour 145 1245364 (Nat.le_of_ble_eq_true rfl) (by decide +kernel) z_o180 (by decide +kernel)
theorem dX3_pour_148 : decode cX3_pour 148 = .ok (.iload 7, 2) := z_row zl_cX3_pour 148 11929365 (Nat.le_of_ble_eq_true rfl) (by decide +kernel) z_o21 (by decide +kernel)
theorem dX3_pour_150 : decode cX3_pour 150 = .ok (.invokevirtual 140, 3) := z_row zl_cX3_pour 150 9175222 (Nat.le_of_ble_eq_true rfl) (by decide +kernel) z_o182 (by decide +kernel)
theorem dX3_pour_153 : decode cX3_pour 153 = .ok (.invokevirtual 73, 3) := z_row zl_cX3_pour 153 4784310 (Nat.le_of_ble_eq_true rfl) (by decide +kernel) z_o182 (by decide +kernel)
theorem dX3_pour_156 : decode cX3_pour 156 = .ok (.invokevirtual 143, 3) := z_row zl_cX3_pour 156 9371830 (Nat.le_of_ble_eq_true rfl) (by decide +kernel) z_o182 (by decide +kernel)
theorem dX3_pour_159 : decode cX3_pour 159 = .ok (.invokevirtual 146, 3) := z_row zl_cX3_pour 159 9568438 (Nat.le_of_ble_eq_true rfl) (by decide +kernel) z_o182 (by decide +kernel)
theorem dX3_pour_162 : decode cX3_pour 162 = .ok (.iinc 7 1, 3) := z_row zl_cX3_pour 162 67460 (Nat.le_of_ble_eq_true rfl) (by decide +kernel) z_o132 (by decide +kernel)
theorem dX3_pour_165 : decode cX3_pour 165 = .ok (.goto (-50), 3) := z_row zl_cX3_pour 165 13565863 (Nat.le_of_ble_eq_true rfl) (by decide +kernel) z_o167 (by decide +kernel)
theorem dX3_pour_168 : decode cX3_pour 168 = .ok (.aload 6, 2) := z_row zl_cX3_pour 168 11929113 (Nat.le_of_ble_eq_true rfl) (by decide +kernel) z_o25 (by decide +kernel)
theorem dX3_pour_170 : decode cX3_pour 170 = .ok (.invokevirtual 149, 3) := z_row zl_cX3_pour 170 9765046 (Nat.le_of_ble_eq_true rfl) (by decide +kernel) z_o182 (by decide +kernel)
set_option maxRecDepth 100000 in
theorem dX3_pour_173 : decode cX3_pour 173 = .ok (.ireturn, 1) := by decide +kernel
set_option maxRecDepth 100000 in
theorem dX3_plus_0 : decode cX3_plus 0 = .ok (.aload_n 0, 1) := by decide +kernel
set_option maxRecDepth 100000 in
theorem dX3_plus_1 : decode cX3_plus 1 = .ok (.aload_n 0, 1) := by decide +kernel
set_option maxRecDepth 100000 in
theorem dX3_plus_2 : decode cX3_plus 2 = .ok (.iload_n 1, 1) := by decide +kernel
set_option maxRecDepth 100000 in
theorem dX3_plus_3 : decode cX3_plus 3 = .ok (.invokevirtual 94, 3) := by decide +kernel
set_option maxRecDepth 100000 in
theorem dX3_plus_6 : decode cX3_plus 6 = .ok (.aload_n 0, 1) := by decide +kernel
set_option maxRecDepth 100000 in
theorem dX3_plus_7 : decode cX3_plus 7 = .ok (.iload_n 2, 1) := by decide +kernel
set_option maxRecDepth 100000 in
theorem dX3_plus_8 : decode cX3_plus 8 = .ok (.invokevirtual 94, 3) := by decide +kernel
set_option maxRecDepth 100000 in
theorem dX3_plus_11 : decode cX3_plus 11 = .ok (.aload_n 0, 1) := by decide +kernel
set_option maxRecDepth 100000 in
theorem dX3_plus_12 : decode cX3_plus 12 = .ok (.iload_n 3, 1) := by decide +kernel
set_option maxRecDepth 100000 in
theorem dX3_plus_13 : decode cX3_plus 13 = .ok (.invokevirtual 94, 3) := by decide +kernel
set_option maxRecDepth 100000 in
theorem dX3_plus_16 : decode cX3_plus 16 = .ok (.iconst 0, 1) := by decide +kernel
set_option maxRecDepth 100000 in
theorem dX3_plus_17 : decode cX3_plus 17 = .ok (.invokevirtual 153, 3) := by decide +kernel
set_option maxRecDepth 100000 in
theorem dX3_plus_20 : decode cX3_plus 20 = .ok (.ireturn, 1) := by decide +kernel
set_option maxRecDepth 100000 in
theorem dX3_less_0 : decode cX3_less 0 = .ok (.aload_n 0, 1) := by decide +kernel
set_option maxRecDepth 100000 in
theorem dX3_less_1 : decode cX3_less 1 = .ok (.aload_n 0, 1) := by decide +kernel
set_option maxRecDepth 100000 in
theorem dX3_less_2 : decode cX3_less 2 = .ok (.iload_n 1, 1) := by decide +kernel
set_option maxRecDepth 100000 in
theorem dX3_less_3 : decode cX3_less 3 = .ok (.invokevirtual 94, 3) := by decide +kernel
set_option maxRecDepth 100000 in
theorem dX3_less_6 : decode cX3_less 6 = .ok (.aload_n 0, 1) := by decide +kernel
set_option maxRecDepth 100000 in
theorem dX3_less_7 : decode cX3_less 7 = .ok (.iload_n 2, 1) := by decide +kernel
set_option maxRecDepth 100000 in
theorem dX3_less_8 : decode cX3_less 8 = .ok (.invokevirtual 94, 3) := by decide +kernel
set_option maxRecDepth 100000 in
theorem dX3_less_11 : decode cX3_less 11 = .ok (.aload_n 0, 1) := by decide +kernel
set_option maxRecDepth 100000 in
theorem dX3_less_12 : decode cX3_less 12 = .ok (.iload_n 3, 1) := by decide +kernel
set_option maxRecDepth 100000 in
theorem dX3_less_13 : decode cX3_less 13 = .ok (.invokevirtual 94, 3) := by decide +kernel
set_option maxRecDepth 100000 in
theorem dX3_less_16 : decode cX3_less 16 = .ok (.iconst 1, 1) := by decide +kernel
set_option maxRecDepth 100000 in
theorem dX3_less_17 : decode cX3_less 17 = .ok (.invokevirtual 153, 3) := by decide +kernel
set_option maxRecDepth 100000 in
theorem dX3_less_20 : decode cX3_less 20 = .ok (.ireturn, 1) := by decide +kernel
set_option maxRecDepth 100000 in
theorem dX3_times_0 : decode cX3_times 0 = .ok (.aload_n 0, 1) := by decide +kernel
set_option maxRecDepth 100000 in
theorem dX3_times_1 : decode cX3_times 1 = .ok (.iload_n 1, 1) := by decide +kernel
set_option maxRecDepth 100000 in
theorem dX3_times_2 : decode cX3_times 2 = .ok (.invokevirtual 94, 3) := by decide +kernel
set_option maxRecDepth 100000 in
theorem dX3_times_5 : decode cX3_times 5 = .ok (.astore 4, 2) := by decide +kernel
set_option maxRecDepth 100000 in
theorem dX3_times_7 : decode cX3_times 7 = .ok (.aload_n 0, 1) := by decide +kernel
set_option maxRecDepth 100000 in
theorem dX3_times_8 : decode cX3_times 8 = .ok (.iload_n 2, 1) := by decide +kernel
set_option maxRecDepth 100000 in
theorem dX3_times_9 : decode cX3_times 9 = .ok (.invokevirtual 94, 3) := by decide +kernel
set_option maxRecDepth 100000 in
theorem dX3_times_12 : decode cX3_times 12 = .ok (.astore 5, 2) := by decide +kernel
set_option maxRecDepth 100000 in
theorem dX3_times_14 : decode cX3_times 14 = .ok (.aload_n 0, 1) := by decide +kernel
set_option maxRecDepth 100000 in
theorem dX3_times_15 : decode cX3_times 15 = .ok (.iload_n 3, 1) := by decide +kernel
set_option maxRecDepth 100000 in
theorem dX3_times_16 : decode cX3_times 16 = .ok (.invokevirtual 94, 3) := by decide +kernel
set_option maxRecDepth 100000 in
theorem dX3_times_19 : decode cX3_times 19 = .ok (.astore 6, 2) := by decide +kernel
set_option maxRecDepth 100000 in
theorem dX3_times_21 : decode cX3_times 21 = .ok (.aload 4, 2) := by decide +kernel
set_option maxRecDepth 100000 in
theorem dX3_times_23 : decode cX3_times 23 = .ok (.invokevirtual 109, 3) := by decide +kernel
def zN_cX3_times : Nat := 0xaca000b606192ab8ffa70107848200b63b00b608160a00b42a07151e00b42a083769857b00b607150519857b00b6071504192800997700b6071505193200997700b6071504194200a37400b40a00b42a07150736049d00b6607100b405197100b404191e00b42aacf7100600a40610607100b405197100b4041913009a6d00b605191b009a6d00b60419063a5e00b61d2a053a5e00b61c2a043a5e00b61b2a
set_option maxRecDepth 100000 in
theorem zl_cX3_times : cX3_times.data.toList = z_un 159 zN_cX3_times := eq_of_beq (by decide +kernel)
theorem dX3_times_26 : decode cX3_times 26 = .ok (.ifCond .ne 27, 3) := z_row zl_cX3_times 26 1769626 (Nat.le_of_ble_eq_true rfl) (by decide +kernel) z_o154 (by decide +kernel)
theorem dX3_times_29 : decode cX3_times 29 = .ok (.aload 5, 2) := z_row zl_cX3_times 29 11928857 (Nat.le_of_ble_eq_true rfl) (by decide +kernel) z_o25 (by decide +kernel)
theorem dX3_times_31 : decode cX3_times 31 = .ok (.invokevirtual 109, 3) := z_row zl_cX3_times 31 7143606 (Nat.le_of_ble_eq_true rfl) (by decide +kernel) z_o182 (by decide +kernel)
theorem dX3_times_34 : decode cX3_times 34 = .ok (.ifCond .ne 19, 3) := z_row zl_cX3_times 34 1245338 (Nat.le_of_ble_eq_true rfl) (by decide +kernel) z_o154 (by decide +kernel)
theorem dX3_times_37 : decode cX3_times 37 = .ok (.aload 4, 2) := z_row zl_cX3_times 37 11797529 (Nat.le_of_ble_eq_true rfl) (by decide +kernel) z_o25 (by decide +kernel)
theorem dX3_times_39 : decode cX3_times 39 = .ok (.getfield 113, 3) := z_row zl_cX3_times 39 7405748 (Nat.le_of_ble_eq_true rfl) (by decide +kernel) z_o180 (by decide +kernel)
theorem dX3_times_42 : decode cX3_times 42 = .ok (.aload 5, 2) := z_row zl_cX3_times 42 11797785 (Nat.le_of_ble_eq_true rfl) (by decide +kernel) z_o25 (by decide +kernel)
theorem dX3_times_44 : decode cX3_times 44 = .ok (.getfield 113, 3) := z_row zl_cX3_times 44 7405748 (Nat.le_of_ble_eq_true rfl) (by decide +kernel) z_o180 (by decide +kernel)
theorem dX3_times_47 : decode cX3_times 47 = .ok (.iadd, 1) := z_row zl_cX3_times 47 397408 (Nat.le_of_ble_eq_true rfl) (by decide +kernel) z_o96 (by decide +kernel)
theorem dX3_times_48 : decode cX3_times 48 = .ok (.bipush 6, 2) := z_row zl_cX3_times 48 10749456 (Nat.le_of_ble_eq_true rfl) (by decide +kernel) z_o16 (by decide +kernel)
theorem dX3_times_50 : decode cX3_times 50 = .ok (.if_icmp .le 6, 3) := z_row zl_cX3_times 50 393380 (Nat.le_of_ble_eq_true rfl) (by decide +kernel) z_o164 (by decide +kernel)
theorem dX3_times_53 : decode cX3_times 53 = .ok (.bipush (-9), 2) := z_row zl_cX3_times 53 11335440 (Nat.le_of_ble_eq_true rfl) (by decide +kernel) z_o16 (by decide +kernel)
theorem dX3_times_55 : decode cX3_times 55 = .ok (.ireturn, 1) := z_row zl_cX3_times 55 11807404 (Nat.le_of_ble_eq_true rfl) (by decide +kernel) z_o172 (by decide +kernel)
theorem dX3_times_56 : decode cX3_times 56 = .ok (.aload_n 0, 1) := z_row zl_cX3_times 56 46122 (Nat.le_of_ble_eq_true rfl) (by decide +kernel) z_o42 (by decide +kernel)
theorem dX3_times_57 : decode cX3_times 57 = .ok (.getfield 30, 3) := z_row zl_cX3_times 57 1966260 (Nat.le_of_ble_eq_true rfl) (by decide +kernel) z_o180 (by decide +kernel)
theorem dX3_times_60 : decode cX3_times 60 = .ok (.aload 4, 2) := z_row zl_cX3_times 60 11797529 (Nat.le_of_ble_eq_true rfl) (by decide +kernel) z_o25 (by decide +kernel)
theorem dX3_times_62 : decode cX3_times 62 = .ok (.getfield 113, 3) := z_row zl_cX3_times 62 7405748 (Nat.le_of_ble_eq_true rfl) (by decide +kernel) z_o180 (by decide +kernel)
theorem dX3_times_65 : decode cX3_times 65 = .ok (.aload 5, 2) := z_row zl_cX3_times 65 11797785 (Nat.le_of_ble_eq_true rfl) (by decide +kernel) z_o25 (by decide +kernel)
theorem dX3_times_67 : decode cX3_times 67 = .ok (.getfield 113, 3) := z_row zl_cX3_times 67 7405748 (Nat.le_of_ble_eq_true rfl) (by decide +kernel) z_o180 (by decide +kernel)
theorem dX3_times_70 : decode cX3_times 70 = .ok (.iadd, 1) := z_row zl_cX3_times 70 46688 (Nat.le_of_ble_eq_true rfl) (by decide +kernel) z_o96 (by decide +kernel)
theorem dX3_times_71 : decode cX3_times 71 = .ok (.invokevirtual 157, 3) := z_row zl_cX3_times 71 10289334 (Nat.le_of_ble_eq_true rfl) (by decide +kernel) z_o182 (by decide +kernel)
theorem dX3_times_74 : decode cX3_times 74 = .ok (.iconst 1, 1) := z_row zl_cX3_times 74 472580 (Nat.le_of_ble_eq_true rfl) (by decide +kernel) z_o4 (by decide +kernel)
theorem dX3_times_75 : decode cX3_times 75 = .ok (.istore 7, 2) := z_row zl_cX3_times 75 1378102 (Nat.le_of_ble_eq_true rfl) (by decide +kernel) z_o54 (by decide +kernel)
theorem dX3_times_77 : decode cX3_times 77 = .ok (.iload 7, 2) := z_row zl_cX3_times 77 2754325 (Nat.le_of_ble_eq_true rfl) (by decide +kernel) z_o21 (by decide +kernel)
theorem dX3_times_79 : decode cX3_times 79 = .ok (.aload_n 0, 1) := z_row zl_cX3_times 79 46122 (Nat.le_of_ble_eq_true rfl) (by decide +kernel) z_o42 (by decide +kernel)
theorem dX3_times_80 : decode cX3_times 80 = .ok (.getfield 10, 3) := z_row zl_cX3_times 80 655540 (Nat.le_of_ble_eq_true rfl) (by decide +kernel) z_o180 (by decide +kernel)
theorem dX3_times_83 : decode cX3_times 83 = .ok (.getfield 116, 3) := z_row zl_cX3_times 83 7602356 (Nat.le_of_ble_eq_true rfl) (by decide +kernel) z_o180 (by decide +kernel)
theorem dX3_times_86 : decode cX3_times 86 = .ok (.if_icmp .gt 66, 3) := z_row zl_cX3_times 86 4325539 (Nat.le_of_ble_eq_true rfl) (by decide +kernel) z_o163 (by decide +kernel)
theorem dX3_times_89 : decode cX3_times 89 = .ok (.aload 4, 2) := z_row zl_cX3_times 89 1377305 (Nat.le_of_ble_eq_true rfl) (by decide +kernel) z_o25 (by decide +kernel)
theorem dX3_times_91 : decode cX3_times 91 = .ok (.iload 7, 2) := z_row zl_cX3_times 91 11929365 (Nat.le_of_ble_eq_true rfl) (by decide +kernel) z_o21 (by decide +kernel)
theorem dX3_times_93 : decode cX3_times 93 = .ok (.invokevirtual 119, 3) := z_row zl_cX3_times 93 7798966 (Nat.le_of_ble_eq_true rfl) (by decide +kernel) z_o182 (by decide +kernel)
theorem dX3_times_96 : decode cX3_times 96 = .ok (.ifCond .eq 50, 3) := z_row zl_cX3_times 96 3276953 (Nat.le_of_ble_eq_true rfl) (by decide +kernel) z_o153 (by decide +kernel)
theorem dX3_times_99 : decode cX3_times 99 = .ok (.aload 5, 2) := z_row zl_cX3_times 99 1377561 (Nat.le_of_ble_eq_true rfl) (by decide +kernel) z_o25 (by decide +kernel)
theorem dX3_times_101 : decode cX3_times 101 = .ok (.iload 7, 2) := z_row zl_cX3_times 101 11929365 (Nat.le_of_ble_eq_true rfl) (by decide +kernel) z_o21 (by decide +kernel)
theorem dX3_times_103 : decode cX3_times 103 = .ok (.invokevirtual 119, 3) := z_row zl_cX3_times 103 7798966 (Nat.le_of_ble_eq_true rfl) (by decide +kernel) z_o182 (by decide +kernel)
theorem dX3_times_106 : decode cX3_times 106 = .ok (.ifCond .eq 40, 3) := z_row zl_cX3_times 106 2621593 (Nat.le_of_ble_eq_true rfl) (by decide +kernel) z_o153 (by decide +kernel)
theorem dX3_times_109 : decode cX3_times 109 = .ok (.aload 4, 2) := z_row zl_cX3_times 109 1377305 (Nat.le_of_ble_eq_true rfl) (by decide +kernel) z_o25 (by decide +kernel)
theorem dX3_times_111 : decode cX3_times 111 = .ok (.iload 7, 2) := z_row zl_cX3_times 111 11929365 (Nat.le_of_ble_eq_true rfl) (by decide +kernel) z_o21 (by decide +kernel)
theorem dX3_times_113 : decode cX3_times 113 = .ok (.invokevirtual 123, 3) := z_row zl_cX3_times 113 8061110 (Nat.le_of_ble_eq_true rfl) (by decide +kernel) z_o182 (by decide +kernel)
theorem dX3_times_116 : decode cX3_times 116 = .ok (.i2l, 1) := z_row zl_cX3_times 116 334213 (Nat.le_of_ble_eq_true rfl) (by decide +kernel) z_o133 (by decide +kernel)
theorem dX3_times_117 : decode cX3_times 117 = .ok (.aload 5, 2) := z_row zl_cX3_times 117 1377561 (Nat.le_of_ble_eq_true rfl) (by decide +kernel) z_o25 (by decide +kernel)
theorem dX3_times_119 : decode cX3_times 119 = .ok (.iload 7, 2) := z_row zl_cX3_times 119 11929365 (Nat.le_of_ble_eq_true rfl) (by decide +kernel) z_o21 (by decide +kernel)
theorem dX3_times_121 : decode cX3_times 121 = .ok (.invokevirtual 123, 3) := z_row zl_cX3_times 121 8061110 (Nat.le_of_ble_eq_true rfl) (by decide +kernel) z_o182 (by decide +kernel)
theorem dX3_times_124 : decode cX3_times 124 = .ok (.i2l, 1) := z_row zl_cX3_times 124 3631493 (Nat.le_of_ble_eq_true rfl) (by decide +kernel) z_o133 (by decide +kernel)
theorem dX3_times_125 : decode cX3_times 125 = .ok (.lmul, 1) := z_row zl_cX3_times 125 538473 (Nat.le_of_ble_eq_true rfl) (by decide +kernel) z_o105 (by decide +kernel)
theorem dX3_times_126 : decode cX3_times 126 = .ok (.lstore 8, 2) := z_row zl_cX3_times 126 2754615 (Nat.le_of_ble_eq_true rfl) (by decide +kernel) z_o55 (by decide +kernel)
theorem dX3_times_128 : decode cX3_times 128 = .ok (.aload_n 0, 1) := z_row zl_cX3_times 128 46122 (Nat.le_of_ble_eq_true rfl) (by decide +kernel) z_o42 (by decide +kernel)
theorem dX3_times_129 : decode cX3_times 129 = .ok (.getfield 30, 3) := z_row zl_cX3_times 129 1966260 (Nat.le_of_ble_eq_true rfl) (by decide +kernel) z_o180 (by decide +kernel)
theorem dX3_times_132 : decode cX3_times 132 = .ok (.iload 7, 2) := z_row zl_cX3_times 132 2754325 (Nat.le_of_ble_eq_true rfl) (by decide +kernel) z_o21 (by decide +kernel)
theorem dX3_times_134 : decode cX3_times 134 = .ok (.aload_n 0, 1) := z_row zl_cX3_times 134 46122 (Nat.le_of_ble_eq_true rfl) (by decide +kernel) z_o42 (by decide +kernel)
theorem dX3_times_135 : decode cX3_times 135 = .ok (.getfield 10, 3) := z_row zl_cX3_times 135 655540 (Nat.le_of_ble_eq_true rfl) (by decide +kernel) z_o180 (by decide +kernel)
theorem dX3_times_138 : decode cX3_times 138 = .ok (.lload 8, 2) := z_row zl_cX3_times 138 11929622 (Nat.le_of_ble_eq_true rfl) (by decide +kernel) z_o22 (by decide +kernel)
theorem dX3_times_140 : decode cX3_times 140 = .ok (.invokevirtual 59, 3) := z_row zl_cX3_times 140 3866806 (Nat.le_of_ble_eq_true rfl) (by decide +kernel) z_o182 (by decide +kernel)
theorem dX3_times_143 : decode cX3_times 143 = .ok (.invokevirtual 130, 3) := z_row zl_cX3_times 143 8519862 (Nat.le_of_ble_eq_true rfl) (by decide +kernel) z_o182 (by decide +kernel)
theorem dX3_times_146 : decode cX3_times 146 = .ok (.iinc 7 1, 3) := z_row zl_cX3_times 146 67460 (Nat.le_of_ble_eq_true rfl) (by decide +kernel) z_o132 (by decide +kernel)
theorem dX3_times_149 : decode cX3_times 149 = .ok (.goto (-72), 3) := z_row zl_cX3_times 149 12124071 (Nat.le_of_ble_eq_true rfl) (by decide +kernel) z_o167 (by decide +kernel)
theorem dX3_times_152 : decode cX3_times 152 = .ok (.aload_n 0, 1) := z_row zl_cX3_times 152 399658 (Nat.le_of_ble_eq_true rfl) (by decide +kernel) z_o42 (by decide +kernel)
theorem dX3_times_153 : decode cX3_times 153 = .ok (.aload 6, 2) := z_row zl_cX3_times 153 11929113 (Nat.le_of_ble_eq_true rfl) (by decide +kernel) z_o25 (by decide +kernel)
theorem dX3_times_155 : decode cX3_times 155 = .ok (.invokevirtual 160, 3) := z_row zl_cX3_times 155 10485942 (Nat.le_of_ble_eq_true rfl) (by decide +kernel) z_o182 (by decide +kernel)
set_option maxRecDepth 100000 in
theorem dX3_times_158 : decode cX3_times 158 = .ok (.ireturn, 1) := by decide +kernel
set_option maxRecDepth 100000 in
theorem dX3_scale_0 : decode cX3_scale 0 = .ok (.aload_n 0, 1) := by decide +kernel
set_option maxRecDepth 100000 in
theorem dX3_scale_1 : decode cX3_scale 1 = .ok (.iload_n 1, 1) := by decide +kernel
set_option maxRecDepth 100000 in
theorem dX3_scale_2 : decode cX3_scale 2 = .ok (.invokevirtual 94, 3) := by decide +kernel
set_option maxRecDepth 100000 in
theorem dX3_scale_5 : decode cX3_scale 5 = .ok (.astore 4, 2) := by decide +kernel
set_option maxRecDepth 100000 in
theorem dX3_scale_7 : decode cX3_scale 7 = .ok (.aload_n 0, 1) := by decide +kernel
set_option maxRecDepth 100000 in
theorem dX3_scale_8 : decode cX3_scale 8 = .ok (.iload_n 3, 1) := by decide +kernel
set_option maxRecDepth 100000 in
theorem dX3_scale_9 : decode cX3_scale 9 = .ok (.invokevirtual 94, 3) := by decide +kernel
set_option maxRecDepth 100000 in
theorem dX3_scale_12 : decode cX3_scale 12 = .ok (.astore 5, 2) := by decide +kernel
set_option maxRecDepth 100000 in
theorem dX3_scale_14 : decode cX3_scale 14 = .ok (.aload 4, 2) := by decide +kernel
set_option maxRecDepth 100000 in
theorem dX3_scale_16 : decode cX3_scale 16 = .ok (.invokevirtual 109, 3) := by decide +kernel
set_option maxRecDepth 100000 in
theorem dX3_scale_19 : decode cX3_scale 19 = .ok (.ifCond .eq 6, 3) := by decide +kernel
set_option maxRecDepth 100000 in
theorem dX3_scale_22 : decode cX3_scale 22 = .ok (.bipush (-9), 2) := by decide +kernel
def zN_cX3_scale : Nat := 0xaca000b605192ad8ffa7010784a700b64500b8a400b40a00b42a8506158900b6071504191e00b42a2400a28600b404190715073603cbffa70107848200b63b00b669850615857b00b6071504190a00b42a07151e00b42a1f00997700b6071504192f00a37400b40a00b42a07150736049d00b67100b404191e00b42a06363b00b6851c0a00b42aacf7100600996d00b60419053a5e00b61d2a043a5e00b61b2a
set_option maxRecDepth 100000 in
theorem zl_cX3_scale : cX3_scale.data.toList = z_un 160 zN_cX3_scale := eq_of_beq (by decide +kernel)
theorem dX3_scale_24 : decode cX3_scale 24 = .ok (.ireturn, 1) := z_row zl_cX3_scale 24 11807404 (Nat.le_of_ble_eq_true rfl) (by decide +kernel) z_o172 (by decide +kernel)
theorem dX3_scale_25 : decode cX3_scale 25 = .ok (.aload_n 0, 1) := z_row zl_cX3_scale 25 46122 (Nat.le_of_ble_eq_true rfl) (by decide +kernel) z_o42 (by decide +kernel)
theorem dX3_scale_26 : decode cX3_scale 26 = .ok (.getfield 10, 3) := z_row zl_cX3_scale 26 655540 (Nat.le_of_ble_eq_true rfl) (by decide +kernel) z_o180 (by decide +kernel)
theorem dX3_scale_29 : decode cX3_scale 29 = .ok (.iload_n 2, 1) := z_row zl_cX3_scale 29 11961628 (Nat.le_of_ble_eq_true rfl) (by decide +kernel) z_o28 (by decide +kernel)
theorem dX3_scale_30 : decode cX3_scale 30 = .ok (.i2l, 1) := z_row zl_cX3_scale 30 46725 (Nat.le_of_ble_eq_true rfl) (by decide +kernel) z_o133 (by decide +kernel)
theorem dX3_scale_31 : decode cX3_scale 31 = .ok (.invokevirtual 59, 3) := z_row zl_cX3_scale 31 3866806 (Nat.le_of_ble_eq_true rfl) (by decide +kernel) z_o182 (by decide +kernel)
theorem dX3_scale_34 : decode cX3_scale 34 = .ok (.istore 6, 2) := z_row zl_cX3_scale 34 2754102 (Nat.le_of_ble_eq_true rfl) (by decide +kernel) z_o54 (by decide +kernel)
theorem dX3_scale_36 : decode cX3_scale 36 = .ok (.aload_n 0, 1) := z_row zl_cX3_scale 36 46122 (Nat.le_of_ble_eq_true rfl) (by decide +kernel) z_o42 (by decide +kernel)
theorem dX3_scale_37 : decode cX3_scale 37 = .ok (.getfield 30, 3) := z_row zl_cX3_scale 37 1966260 (Nat.le_of_ble_eq_true rfl) (by decide +kernel) z_o180 (by decide +kernel)
theorem dX3_scale_40 : decode cX3_scale 40 = .ok (.aload 4, 2) := z_row zl_cX3_scale 40 11797529 (Nat.le_of_ble_eq_true rfl) (by decide +kernel) z_o25 (by decide +kernel)
theorem dX3_scale_42 : decode cX3_scale 42 = .ok (.getfield 113, 3) := z_row zl_cX3_scale 42 7405748 (Nat.le_of_ble_eq_true rfl) (by decide +kernel) z_o180 (by decide +kernel)
theorem dX3_scale_45 : decode cX3_scale 45 = .ok (.invokevirtual 157, 3) := z_row zl_cX3_scale 45 10289334 (Nat.le_of_ble_eq_true rfl) (by decide +kernel) z_o182 (by decide +kernel)
theorem dX3_scale_48 : decode cX3_scale 48 = .ok (.iconst 1, 1) := z_row zl_cX3_scale 48 472580 (Nat.le_of_ble_eq_true rfl) (by decide +kernel) z_o4 (by decide +kernel)
theorem dX3_scale_49 : decode cX3_scale 49 = .ok (.istore 7, 2) := z_row zl_cX3_scale 49 1378102 (Nat.le_of_ble_eq_true rfl) (by decide +kernel) z_o54 (by decide +kernel)
theorem dX3_scale_51 : decode cX3_scale 51 = .ok (.iload 7, 2) := z_row zl_cX3_scale 51 2754325 (Nat.le_of_ble_eq_true rfl) (by decide +kernel) z_o21 (by decide +kernel)
theorem dX3_scale_53 : decode cX3_scale 53 = .ok (.aload_n 0, 1) := z_row zl_cX3_scale 53 46122 (Nat.le_of_ble_eq_true rfl) (by decide +kernel) z_o42 (by decide +kernel)
theorem dX3_scale_54 : decode cX3_scale 54 = .ok (.getfield 10, 3) := z_row zl_cX3_scale 54 655540 (Nat.le_of_ble_eq_true rfl) (by decide +kernel) z_o180 (by decide +kernel)
theorem dX3_scale_57 : decode cX3_scale 57 = .ok (.getfield 116, 3) := z_row zl_cX3_scale 57 7602356 (Nat.le_of_ble_eq_true rfl) (by decide +kernel) z_o180 (by decide +kernel)
theorem dX3_scale_60 : decode cX3_scale 60 = .ok (.if_icmp .gt 47, 3) := z_row zl_cX3_scale 60 3080355 (Nat.le_of_ble_eq_true rfl) (by decide +kernel) z_o163 (by decide +kernel)
theorem dX3_scale_63 : decode cX3_scale 63 = .ok (.aload 4, 2) := z_row zl_cX3_scale 63 1377305 (Nat.le_of_ble_eq_true rfl) (by decide +kernel) z_o25 (by decide +kernel)
theorem dX3_scale_65 : decode cX3_scale 65 = .ok (.iload 7, 2) := z_row zl_cX3_scale 65 11929365 (Nat.le_of_ble_eq_true rfl) (by decide +kernel) z_o21 (by decide +kernel)
theorem dX3_scale_67 : decode cX3_scale 67 = .ok (.invokevirtual 119, 3) := z_row zl_cX3_scale 67 7798966 (Nat.le_of_ble_eq_true rfl) (by decide +kernel) z_o182 (by decide +kernel)
theorem dX3_scale_70 : decode cX3_scale 70 = .ok (.ifCond .eq 31, 3) := z_row zl_cX3_scale 70 2031769 (Nat.le_of_ble_eq_true rfl) (by decide +kernel) z_o153 (by decide +kernel)
theorem dX3_scale_73 : decode cX3_scale 73 = .ok (.aload_n 0, 1) := z_row zl_cX3_scale 73 46122 (Nat.le_of_ble_eq_true rfl) (by decide +kernel) z_o42 (by decide +kernel)
theorem dX3_scale_74 : decode cX3_scale 74 = .ok (.getfield 30, 3) := z_row zl_cX3_scale 74 1966260 (Nat.le_of_ble_eq_true rfl) (by decide +kernel) z_o180 (by decide +kernel)
theorem dX3_scale_77 : decode cX3_scale 77 = .ok (.iload 7, 2) := z_row zl_cX3_scale 77 2754325 (Nat.le_of_ble_eq_true rfl) (by decide +kernel) z_o21 (by decide +kernel)
theorem dX3_scale_79 : decode cX3_scale 79 = .ok (.aload_n 0, 1) := z_row zl_cX3_scale 79 46122 (Nat.le_of_ble_eq_true rfl) (by decide +kernel) z_o42 (by decide +kernel)
theorem dX3_scale_80 : decode cX3_scale 80 = .ok (.getfield 10, 3) := z_row zl_cX3_scale 80 655540 (Nat.le_of_ble_eq_true rfl) (by decide +kernel) z_o180 (by decide +kernel)
theorem dX3_scale_83 : decode cX3_scale 83 = .ok (.aload 4, 2) := z_row zl_cX3_scale 83 1377305 (Nat.le_of_ble_eq_true rfl) (by decide +kernel) z_o25 (by decide +kernel)
theorem dX3_scale_85 : decode cX3_scale 85 = .ok (.iload 7, 2) := z_row zl_cX3_scale 85 11929365 (Nat.le_of_ble_eq_true rfl) (by decide +kernel) z_o21 (by decide +kernel)
theorem dX3_scale_87 : decode cX3_scale 87 = .ok (.invokevirtual 123, 3) := z_row zl_cX3_scale 87 8061110 (Nat.le_of_ble_eq_true rfl) (by decide +kernel) z_o182 (by decide +kernel)
theorem dX3_scale_90 : decode cX3_scale 90 = .ok (.i2l, 1) := z_row zl_cX3_scale 90 398725 (Nat.le_of_ble_eq_true rfl) (by decide +kernel) z_o133 (by decide +kernel)
theorem dX3_scale_91 : decode cX3_scale 91 = .ok (.iload 6, 2) := z_row zl_cX3_scale 91 8717845 (Nat.le_of_ble_eq_true rfl) (by decide +kernel) z_o21 (by decide +kernel)
theorem dX3_scale_93 : decode cX3_scale 93 = .ok (.i2l, 1) := z_row zl_cX3_scale 93 11954565 (Nat.le_of_ble_eq_true rfl) (by decide +kernel) z_o133 (by decide +kernel)
theorem dX3_scale_94 : decode cX3_scale 94 = .ok (.lmul, 1) := z_row zl_cX3_scale 94 46697 (Nat.le_of_ble_eq_true rfl) (by decide +kernel) z_o105 (by decide +kernel)
theorem dX3_scale_95 : decode cX3_scale 95 = .ok (.invokevirtual 59, 3) := z_row zl_cX3_scale 95 3866806 (Nat.le_of_ble_eq_true rfl) (by decide +kernel) z_o182 (by decide +kernel)
theorem dX3_scale_98 : decode cX3_scale 98 = .ok (.invokevirtual 130, 3) := z_row zl_cX3_scale 98 8519862 (Nat.le_of_ble_eq_true rfl) (by decide +kernel) z_o182 (by decide +kernel)
theorem dX3_scale_101 : decode cX3_scale 101 = .ok (.iinc 7 1, 3) := z_row zl_cX3_scale 101 67460 (Nat.le_of_ble_eq_true rfl) (by decide +kernel) z_o132 (by decide +kernel)
theorem dX3_scale_104 : decode cX3_scale 104 = .ok (.goto (-53), 3) := z_row zl_cX3_scale 104 13369255 (Nat.le_of_ble_eq_true rfl) (by decide +kernel) z_o167 (by decide +kernel)
theorem dX3_scale_107 : decode cX3_scale 107 = .ok (.iconst 0, 1) := z_row zl_cX3_scale 107 472579 (Nat.le_of_ble_eq_true rfl) (by decide +kernel) z_o3 (by decide +kernel)
theorem dX3_scale_108 : decode cX3_scale 108 = .ok (.istore 7, 2) := z_row zl_cX3_scale 108 1378102 (Nat.le_of_ble_eq_true rfl) (by decide +kernel) z_o54 (by decide +kernel)
theorem dX3_scale_110 : decode cX3_scale 110 = .ok (.iload 7, 2) := z_row zl_cX3_scale 110 1640213 (Nat.le_of_ble_eq_true rfl) (by decide +kernel) z_o21 (by decide +kernel)
theorem dX3_scale_112 : decode cX3_scale 112 = .ok (.aload 4, 2) := z_row zl_cX3_scale 112 11797529 (Nat.le_of_ble_eq_true rfl) (by decide +kernel) z_o25 (by decide +kernel)
theorem dX3_scale_114 : decode cX3_scale 114 = .ok (.getfield 134, 3) := z_row zl_cX3_scale 114 8782004 (Nat.le_of_ble_eq_true rfl) (by decide +kernel) z_o180 (by decide +kernel)
theorem dX3_scale_117 : decode cX3_scale 117 = .ok (.if_icmp .ge 36, 3) := z_row zl_cX3_scale 117 2359458 (Nat.le_of_ble_eq_true rfl) (by decide +kernel) z_o162 (by decide +kernel)
theorem dX3_scale_120 : decode cX3_scale 120 = .ok (.aload_n 0, 1) := z_row zl_cX3_scale 120 46122 (Nat.le_of_ble_eq_true rfl) (by decide +kernel) z_o42 (by decide +kernel)
theorem dX3_scale_121 : decode cX3_scale 121 = .ok (.getfield 30, 3) := z_row zl_cX3_scale 121 1966260 (Nat.le_of_ble_eq_true rfl) (by decide +kernel) z_o180 (by decide +kernel)
theorem dX3_scale_124 : decode cX3_scale 124 = .ok (.aload 4, 2) := z_row zl_cX3_scale 124 1377305 (Nat.le_of_ble_eq_true rfl) (by decide +kernel) z_o25 (by decide +kernel)
theorem dX3_scale_126 : decode cX3_scale 126 = .ok (.iload 7, 2) := z_row zl_cX3_scale 126 11929365 (Nat.le_of_ble_eq_true rfl) (by decide +kernel) z_o21 (by decide +kernel)
theorem dX3_scale_128 : decode cX3_scale 128 = .ok (.invokevirtual 137, 3) := z_row zl_cX3_scale 128 8978614 (Nat.le_of_ble_eq_true rfl) (by decide +kernel) z_o182 (by decide +kernel)
theorem dX3_scale_131 : decode cX3_scale 131 = .ok (.iload 6, 2) := z_row zl_cX3_scale 131 8717845 (Nat.le_of_ble_eq_true rfl) (by decide +kernel) z_o21 (by decide +kernel)
theorem dX3_scale_133 : decode cX3_scale 133 = .ok (.i2l, 1) := z_row zl_cX3_scale 133 11807365 (Nat.le_of_ble_eq_true rfl) (by decide +kernel) z_o133 (by decide +kernel)
theorem dX3_scale_134 : decode cX3_scale 134 = .ok (.aload_n 0, 1) := z_row zl_cX3_scale 134 46122 (Nat.le_of_ble_eq_true rfl) (by decide +kernel) z_o42 (by decide +kernel)
theorem dX3_scale_135 : decode cX3_scale 135 = .ok (.getfield 10, 3) := z_row zl_cX3_scale 135 655540 (Nat.le_of_ble_eq_true rfl) (by decide +kernel) z_o180 (by decide +kernel)
theorem dX3_scale_138 : decode cX3_scale 138 = .ok (.getfield 164, 3) := z_row zl_cX3_scale 138 10748084 (Nat.le_of_ble_eq_true rfl) (by decide +kernel) z_o180 (by decide +kernel)
theorem dX3_scale_141 : decode cX3_scale 141 = .ok (.invokestatic 69, 3) := z_row zl_cX3_scale 141 4522168 (Nat.le_of_ble_eq_true rfl) (by decide +kernel) z_o184 (by decide +kernel)
theorem dX3_scale_144 : decode cX3_scale 144 = .ok (.invokevirtual 167, 3) := z_row zl_cX3_scale 144 10944694 (Nat.le_of_ble_eq_true rfl) (by decide +kernel) z_o182 (by decide +kernel)
theorem dX3_scale_147 : decode cX3_scale 147 = .ok (.iinc 7 1, 3) := z_row zl_cX3_scale 147 67460 (Nat.le_of_ble_eq_true rfl) (by decide +kernel) z_o132 (by decide +kernel)
theorem dX3_scale_150 : decode cX3_scale 150 = .ok (.goto (-40), 3) := z_row zl_cX3_scale 150 14221223 (Nat.le_of_ble_eq_true rfl) (by decide +kernel) z_o167 (by decide +kernel)
theorem dX3_scale_153 : decode cX3_scale 153 = .ok (.aload_n 0, 1) := z_row zl_cX3_scale 153 334122 (Nat.le_of_ble_eq_true rfl) (by decide +kernel) z_o42 (by decide +kernel)
theorem dX3_scale_154 : decode cX3_scale 154 = .ok (.aload 5, 2) := z_row zl_cX3_scale 154 11928857 (Nat.le_of_ble_eq_true rfl) (by decide +kernel) z_o25 (by decide +kernel)
theorem dX3_scale_156 : decode cX3_scale 156 = .ok (.invokevirtual 160, 3) := z_row zl_cX3_scale 156 10485942 (Nat.le_of_ble_eq_true rfl) (by decide +kernel) z_o182 (by decide +kernel)
set_option maxRecDepth 100000 in
theorem dX3_scale_159 : decode cX3_scale 159 = .ok (.ireturn, 1) := by decide +kernel
set_option maxRecDepth 100000 in
theorem dX3_handOn_0 : decode cX3_handOn 0 = .ok (.aload_n 0, 1) := by decide +kernel
set_option maxRecDepth 100000 in
theorem dX3_handOn_1 : decode cX3_handOn 1 = .ok (.iload_n 1, 1) := by decide +kernel
set_option maxRecDepth 100000 in
theorem dX3_handOn_2 : decode cX3_handOn 2 = .ok (.invokevirtual 94, 3) := by decide +kernel
set_option maxRecDepth 100000 in
theorem dX3_handOn_5 : decode cX3_handOn 5 = .ok (.astore 7, 2) := by decide +kernel
set_option maxRecDepth 100000 in
theorem dX3_handOn_7 : decode cX3_handOn 7 = .ok (.aload_n 0, 1) := by decide +kernel
set_option maxRecDepth 100000 in
theorem dX3_handOn_8 : decode cX3_handOn 8 = .ok (.iload_n 3, 1) := by decide +kernel
set_option maxRecDepth 100000 in
theorem dX3_handOn_9 : decode cX3_handOn 9 = .ok (.invokevirtual 94, 3) := by decide +kernel
set_option maxRecDepth 100000 in
theorem dX3_handOn_12 : decode cX3_handOn 12 = .ok (.astore 8, 2) := by decide +kernel
set_option maxRecDepth 100000 in
theorem dX3_handOn_14 : decode cX3_handOn 14 = .ok (.aload_n 0, 1) := by decide +kernel
set_option maxRecDepth 100000 in
theorem dX3_handOn_15 : decode cX3_handOn 15 = .ok (.iload_n 2, 1) := by decide +kernel
set_option maxRecDepth 100000 in
theorem dX3_handOn_16 : decode cX3_handOn 16 = .ok (.invokevirtual 80, 3) := by decide +kernel
set_option maxRecDepth 100000 in
theorem dX3_handOn_19 : decode cX3_handOn 19 = .ok (.iload 4, 2) := by decide +kernel
set_option maxRecDepth 100000 in
theorem dX3_handOn_21 : decode cX3_handOn 21 = .ok (.invokestatic 98, 3) := by decide +kernel
def zN_cX3_handOn : Nat := 0xac6900b6041508192a91ffa7010984d1ffa7010b84ae00b63b00b66169850b15850615698509158505150a00b42a0a150b150a00b42a1300b42a2e00a304150b150b3604ae00b67b00b6091507190a15030a00b42a1300b42a0a365700b60309151c0a00b42a5a00995300b809151c6900a37400b40a00b42a0915093604ad00b61300b42aacf71006009aaa00b61c07196200b804155000b61c2a083a5e00b61d2a073a5e00b61b2a
set_option maxRecDepth 100000 in
theorem zl_cX3_handOn : cX3_handOn.data.toList = z_un 169 zN_cX3_handOn := eq_of_beq (by decide +kernel)
theorem dX3_handOn_24 : decode cX3_handOn 24 = .ok (.aload 7, 2) := z_row zl_cX3_handOn 24 1836825 (Nat.le_of_ble_eq_true rfl) (by decide +kernel) z_o25 (by decide +kernel)
theorem dX3_handOn_26 : decode cX3_handOn 26 = .ok (.iload_n 2, 1) := z_row zl_cX3_handOn 26 46620 (Nat.le_of_ble_eq_true rfl) (by decide +kernel) z_o28 (by decide +kernel)
theorem dX3_handOn_27 : decode cX3_handOn 27 = .ok (.invokevirtual 170, 3) := z_row zl_cX3_handOn 27 11141302 (Nat.le_of_ble_eq_true rfl) (by decide +kernel) z_o182 (by decide +kernel)
theorem dX3_handOn_30 : decode cX3_handOn 30 = .ok (.ifCond .ne 6, 3) := z_row zl_cX3_handOn 30 393370 (Nat.le_of_ble_eq_true rfl) (by decide +kernel) z_o154 (by decide +kernel)
theorem dX3_handOn_33 : decode cX3_handOn 33 = .ok (.bipush (-9), 2) := z_row zl_cX3_handOn 33 11335440 (Nat.le_of_ble_eq_true rfl) (by decide +kernel) z_o16 (by decide +kernel)
theorem dX3_handOn_35 : decode cX3_handOn 35 = .ok (.ireturn, 1) := z_row zl_cX3_handOn 35 11807404 (Nat.le_of_ble_eq_true rfl) (by decide +kernel) z_o172 (by decide +kernel)
theorem dX3_handOn_36 : decode cX3_handOn 36 = .ok (.aload_n 0, 1) := z_row zl_cX3_handOn 36 46122 (Nat.le_of_ble_eq_true rfl) (by decide +kernel) z_o42 (by decide +kernel)
theorem dX3_handOn_37 : decode cX3_handOn 37 = .ok (.getfield 19, 3) := z_row zl_cX3_handOn 37 1245364 (Nat.le_of_ble_eq_true rfl) (by decide +kernel) z_o180 (by decide +kernel)
theorem dX3_handOn_40 : decode cX3_handOn 40 = .ok (.invokevirtual 173, 3) := z_row zl_cX3_handOn 40 11337910 (Nat.le_of_ble_eq_true rfl) (by decide +kernel) z_o182 (by decide +kernel)
theorem dX3_handOn_43 : decode cX3_handOn 43 = .ok (.iconst 1, 1) := z_row zl_cX3_handOn 43 603652 (Nat.le_of_ble_eq_true rfl) (by decide +kernel) z_o4 (by decide +kernel)
theorem dX3_handOn_44 : decode cX3_handOn 44 = .ok (.istore 9, 2) := z_row zl_cX3_handOn 44 1378614 (Nat.le_of_ble_eq_true rfl) (by decide +kernel) z_o54 (by decide +kernel)
theorem dX3_handOn_46 : decode cX3_handOn 46 = .ok (.iload 9, 2) := z_row zl_cX3_handOn 46 2754837 (Nat.le_of_ble_eq_true rfl) (by decide +kernel) z_o21 (by decide +kernel)
theorem dX3_handOn_48 : decode cX3_handOn 48 = .ok (.aload_n 0, 1) := z_row zl_cX3_handOn 48 46122 (Nat.le_of_ble_eq_true rfl) (by decide +kernel) z_o42 (by decide +kernel)
theorem dX3_handOn_49 : decode cX3_handOn 49 = .ok (.getfield 10, 3) := z_row zl_cX3_handOn 49 655540 (Nat.le_of_ble_eq_true rfl) (by decide +kernel) z_o180 (by decide +kernel)
theorem dX3_handOn_52 : decode cX3_handOn 52 = .ok (.getfield 116, 3) := z_row zl_cX3_handOn 52 7602356 (Nat.le_of_ble_eq_true rfl) (by decide +kernel) z_o180 (by decide +kernel)
theorem dX3_handOn_55 : decode cX3_handOn 55 = .ok (.if_icmp .gt 105, 3) := z_row zl_cX3_handOn 55 6881443 (Nat.le_of_ble_eq_true rfl) (by decide +kernel) z_o163 (by decide +kernel)
theorem dX3_handOn_58 : decode cX3_handOn 58 = .ok (.iload_n 2, 1) := z_row zl_cX3_handOn 58 595228 (Nat.le_of_ble_eq_true rfl) (by decide +kernel) z_o28 (by decide +kernel)
theorem dX3_handOn_59 : decode cX3_handOn 59 = .ok (.iload 9, 2) := z_row zl_cX3_handOn 59 12060949 (Nat.le_of_ble_eq_true rfl) (by decide +kernel) z_o21 (by decide +kernel)
theorem dX3_handOn_61 : decode cX3_handOn 61 = .ok (.invokestatic 83, 3) := z_row zl_cX3_handOn 61 5439672 (Nat.le_of_ble_eq_true rfl) (by decide +kernel) z_o184 (by decide +kernel)
theorem dX3_handOn_64 : decode cX3_handOn 64 = .ok (.ifCond .eq 90, 3) := z_row zl_cX3_handOn 64 5898393 (Nat.le_of_ble_eq_true rfl) (by decide +kernel) z_o153 (by decide +kernel)
theorem dX3_handOn_67 : decode cX3_handOn 67 = .ok (.aload_n 0, 1) := z_row zl_cX3_handOn 67 46122 (Nat.le_of_ble_eq_true rfl) (by decide +kernel) z_o42 (by decide +kernel)
theorem dX3_handOn_68 : decode cX3_handOn 68 = .ok (.getfield 10, 3) := z_row zl_cX3_handOn 68 655540 (Nat.le_of_ble_eq_true rfl) (by decide +kernel) z_o180 (by decide +kernel)
theorem dX3_handOn_71 : decode cX3_handOn 71 = .ok (.iload_n 2, 1) := z_row zl_cX3_handOn 71 595228 (Nat.le_of_ble_eq_true rfl) (by decide +kernel) z_o28 (by decide +kernel)
theorem dX3_handOn_72 : decode cX3_handOn 72 = .ok (.iload 9, 2) := z_row zl_cX3_handOn 72 198933 (Nat.le_of_ble_eq_true rfl) (by decide +kernel) z_o21 (by decide +kernel)
theorem dX3_handOn_74 : decode cX3_handOn 74 = .ok (.iconst 0, 1) := z_row zl_cX3_handOn 74 46595 (Nat.le_of_ble_eq_true rfl) (by decide +kernel) z_o3 (by decide +kernel)
theorem dX3_handOn_75 : decode cX3_handOn 75 = .ok (.invokevirtual 87, 3) := z_row zl_cX3_handOn 75 5701814 (Nat.le_of_ble_eq_true rfl) (by decide +kernel) z_o182 (by decide +kernel)
theorem dX3_handOn_78 : decode cX3_handOn 78 = .ok (.istore 10, 2) := z_row zl_cX3_handOn 78 2755126 (Nat.le_of_ble_eq_true rfl) (by decide +kernel) z_o54 (by decide +kernel)
theorem dX3_handOn_80 : decode cX3_handOn 80 = .ok (.aload_n 0, 1) := z_row zl_cX3_handOn 80 46122 (Nat.le_of_ble_eq_true rfl) (by decide +kernel) z_o42 (by decide +kernel)
theorem dX3_handOn_81 : decode cX3_handOn 81 = .ok (.getfield 19, 3) := z_row zl_cX3_handOn 81 1245364 (Nat.le_of_ble_eq_true rfl) (by decide +kernel) z_o180 (by decide +kernel)
theorem dX3_handOn_84 : decode cX3_handOn 84 = .ok (.aload_n 0, 1) := z_row zl_cX3_handOn 84 46122 (Nat.le_of_ble_eq_true rfl) (by decide +kernel) z_o42 (by decide +kernel)
theorem dX3_handOn_85 : decode cX3_handOn 85 = .ok (.getfield 10, 3) := z_row zl_cX3_handOn 85 655540 (Nat.le_of_ble_eq_true rfl) (by decide +kernel) z_o180 (by decide +kernel)
theorem dX3_handOn_88 : decode cX3_handOn 88 = .ok (.iconst 0, 1) := z_row zl_cX3_handOn 88 660739 (Nat.le_of_ble_eq_true rfl) (by decide +kernel) z_o3 (by decide +kernel)
theorem dX3_handOn_89 : decode cX3_handOn 89 = .ok (.iload 10, 2) := z_row zl_cX3_handOn 89 1640981 (Nat.le_of_ble_eq_true rfl) (by decide +kernel) z_o21 (by decide +kernel)
theorem dX3_handOn_91 : decode cX3_handOn 91 = .ok (.aload 7, 2) := z_row zl_cX3_handOn 91 1378073 (Nat.le_of_ble_eq_true rfl) (by decide +kernel) z_o25 (by decide +kernel)
theorem dX3_handOn_93 : decode cX3_handOn 93 = .ok (.iload 9, 2) := z_row zl_cX3_handOn 93 11929877 (Nat.le_of_ble_eq_true rfl) (by decide +kernel) z_o21 (by decide +kernel)
theorem dX3_handOn_95 : decode cX3_handOn 95 = .ok (.invokevirtual 123, 3) := z_row zl_cX3_handOn 95 8061110 (Nat.le_of_ble_eq_true rfl) (by decide +kernel) z_o182 (by decide +kernel)
theorem dX3_handOn_98 : decode cX3_handOn 98 = .ok (.invokevirtual 174, 3) := z_row zl_cX3_handOn 98 11403446 (Nat.le_of_ble_eq_true rfl) (by decide +kernel) z_o182 (by decide +kernel)
theorem dX3_handOn_101 : decode cX3_handOn 101 = .ok (.iconst 1, 1) := z_row zl_cX3_handOn 101 734724 (Nat.le_of_ble_eq_true rfl) (by decide +kernel) z_o4 (by decide +kernel)
theorem dX3_handOn_102 : decode cX3_handOn 102 = .ok (.istore 11, 2) := z_row zl_cX3_handOn 102 1379126 (Nat.le_of_ble_eq_true rfl) (by decide +kernel) z_o54 (by decide +kernel)
theorem dX3_handOn_104 : decode cX3_handOn 104 = .ok (.iload 11, 2) := z_row zl_cX3_handOn 104 1379093 (Nat.le_of_ble_eq_true rfl) (by decide +kernel) z_o21 (by decide +kernel)
theorem dX3_handOn_106 : decode cX3_handOn 106 = .ok (.iload 4, 2) := z_row zl_cX3_handOn 106 10683413 (Nat.le_of_ble_eq_true rfl) (by decide +kernel) z_o21 (by decide +kernel)
theorem dX3_handOn_108 : decode cX3_handOn 108 = .ok (.if_icmp .gt 46, 3) := z_row zl_cX3_handOn 108 3014819 (Nat.le_of_ble_eq_true rfl) (by decide +kernel) z_o163 (by decide +kernel)
theorem dX3_handOn_111 : decode cX3_handOn 111 = .ok (.aload_n 0, 1) := z_row zl_cX3_handOn 111 46122 (Nat.le_of_ble_eq_true rfl) (by decide +kernel) z_o42 (by decide +kernel)
theorem dX3_handOn_112 : decode cX3_handOn 112 = .ok (.getfield 19, 3) := z_row zl_cX3_handOn 112 1245364 (Nat.le_of_ble_eq_true rfl) (by decide +kernel) z_o180 (by decide +kernel)
theorem dX3_handOn_115 : decode cX3_handOn 115 = .ok (.aload_n 0, 1) := z_row zl_cX3_handOn 115 46122 (Nat.le_of_ble_eq_true rfl) (by decide +kernel) z_o42 (by decide +kernel)
theorem dX3_handOn_116 : decode cX3_handOn 116 = .ok (.getfield 10, 3) := z_row zl_cX3_handOn 116 655540 (Nat.le_of_ble_eq_true rfl) (by decide +kernel) z_o180 (by decide +kernel)
theorem dX3_handOn_119 : decode cX3_handOn 119 = .ok (.iload 11, 2) := z_row zl_cX3_handOn 119 1379093 (Nat.le_of_ble_eq_true rfl) (by decide +kernel) z_o21 (by decide +kernel)
theorem dX3_handOn_121 : decode cX3_handOn 121 = .ok (.iload 10, 2) := z_row zl_cX3_handOn 121 2755093 (Nat.le_of_ble_eq_true rfl) (by decide +kernel) z_o21 (by decide +kernel)
theorem dX3_handOn_123 : decode cX3_handOn 123 = .ok (.aload_n 0, 1) := z_row zl_cX3_handOn 123 46122 (Nat.le_of_ble_eq_true rfl) (by decide +kernel) z_o42 (by decide +kernel)
theorem dX3_handOn_124 : decode cX3_handOn 124 = .ok (.getfield 10, 3) := z_row zl_cX3_handOn 124 655540 (Nat.le_of_ble_eq_true rfl) (by decide +kernel) z_o180 (by decide +kernel)
theorem dX3_handOn_127 : decode cX3_handOn 127 = .ok (.iload 5, 2) := z_row zl_cX3_handOn 127 8717589 (Nat.le_of_ble_eq_true rfl) (by decide +kernel) z_o21 (by decide +kernel)
theorem dX3_handOn_129 : decode cX3_handOn 129 = .ok (.i2l, 1) := z_row zl_cX3_handOn 129 595333 (Nat.le_of_ble_eq_true rfl) (by decide +kernel) z_o133 (by decide +kernel)
theorem dX3_handOn_130 : decode cX3_handOn 130 = .ok (.iload 9, 2) := z_row zl_cX3_handOn 130 8718613 (Nat.le_of_ble_eq_true rfl) (by decide +kernel) z_o21 (by decide +kernel)
theorem dX3_handOn_132 : decode cX3_handOn 132 = .ok (.i2l, 1) := z_row zl_cX3_handOn 132 1403269 (Nat.le_of_ble_eq_true rfl) (by decide +kernel) z_o133 (by decide +kernel)
theorem dX3_handOn_133 : decode cX3_handOn 133 = .ok (.lmul, 1) := z_row zl_cX3_handOn 133 398697 (Nat.le_of_ble_eq_true rfl) (by decide +kernel) z_o105 (by decide +kernel)
theorem dX3_handOn_134 : decode cX3_handOn 134 = .ok (.iload 6, 2) := z_row zl_cX3_handOn 134 8717845 (Nat.le_of_ble_eq_true rfl) (by decide +kernel) z_o21 (by decide +kernel)
theorem dX3_handOn_136 : decode cX3_handOn 136 = .ok (.i2l, 1) := z_row zl_cX3_handOn 136 726405 (Nat.le_of_ble_eq_true rfl) (by decide +kernel) z_o133 (by decide +kernel)
theorem dX3_handOn_137 : decode cX3_handOn 137 = .ok (.iload 11, 2) := z_row zl_cX3_handOn 137 8719125 (Nat.le_of_ble_eq_true rfl) (by decide +kernel) z_o21 (by decide +kernel)
theorem dX3_handOn_139 : decode cX3_handOn 139 = .ok (.i2l, 1) := z_row zl_cX3_handOn 139 6384005 (Nat.le_of_ble_eq_true rfl) (by decide +kernel) z_o133 (by decide +kernel)
theorem dX3_handOn_140 : decode cX3_handOn 140 = .ok (.lmul, 1) := z_row zl_cX3_handOn 140 11952489 (Nat.le_of_ble_eq_true rfl) (by decide +kernel) z_o105 (by decide +kernel)
theorem dX3_handOn_141 : decode cX3_handOn 141 = .ok (.ladd, 1) := z_row zl_cX3_handOn 141 46689 (Nat.le_of_ble_eq_true rfl) (by decide +kernel) z_o97 (by decide +kernel)
theorem dX3_handOn_142 : decode cX3_handOn 142 = .ok (.invokevirtual 59, 3) := z_row zl_cX3_handOn 142 3866806 (Nat.le_of_ble_eq_true rfl) (by decide +kernel) z_o182 (by decide +kernel)
theorem dX3_handOn_145 : decode cX3_handOn 145 = .ok (.invokevirtual 174, 3) := z_row zl_cX3_handOn 145 11403446 (Nat.le_of_ble_eq_true rfl) (by decide +kernel) z_o182 (by decide +kernel)
theorem dX3_handOn_148 : decode cX3_handOn 148 = .ok (.iinc 11 1, 3) := z_row zl_cX3_handOn 148 68484 (Nat.le_of_ble_eq_true rfl) (by decide +kernel) z_o132 (by decide +kernel)
theorem dX3_handOn_151 : decode cX3_handOn 151 = .ok (.goto (-47), 3) := z_row zl_cX3_handOn 151 13762471 (Nat.le_of_ble_eq_true rfl) (by decide +kernel) z_o167 (by decide +kernel)
theorem dX3_handOn_154 : decode cX3_handOn 154 = .ok (.iinc 9 1, 3) := z_row zl_cX3_handOn 154 67972 (Nat.le_of_ble_eq_true rfl) (by decide +kernel) z_o132 (by decide +kernel)
theorem dX3_handOn_157 : decode cX3_handOn 157 = .ok (.goto (-111), 3) := z_row zl_cX3_handOn 157 9568167 (Nat.le_of_ble_eq_true rfl) (by decide +kernel) z_o167 (by decide +kernel)
theorem dX3_handOn_160 : decode cX3_handOn 160 = .ok (.aload_n 0, 1) := z_row zl_cX3_handOn 160 530730 (Nat.le_of_ble_eq_true rfl) (by decide +kernel) z_o42 (by decide +kernel)
theorem dX3_handOn_161 : decode cX3_handOn 161 = .ok (.aload 8, 2) := z_row zl_cX3_handOn 161 1378329 (Nat.le_of_ble_eq_true rfl) (by decide +kernel) z_o25 (by decide +kernel)
theorem dX3_handOn_163 : decode cX3_handOn 163 = .ok (.iload 4, 2) := z_row zl_cX3_handOn 163 11928597 (Nat.le_of_ble_eq_true rfl) (by decide +kernel) z_o21 (by decide +kernel)
theorem dX3_handOn_165 : decode cX3_handOn 165 = .ok (.invokevirtual 105, 3) := z_row zl_cX3_handOn 165 6881462 (Nat.le_of_ble_eq_true rfl) (by decide +kernel) z_o182 (by decide +kernel)
set_option maxRecDepth 100000 in
theorem dX3_handOn_168 : decode cX3_handOn 168 = .ok (.ireturn, 1) := by decide +kernel
set_option maxRecDepth 100000 in
theorem dX3_lose_0 : decode cX3_lose 0 = .ok (.aload_n 0, 1) := by decide +kernel
set_option maxRecDepth 100000 in
theorem dX3_lose_1 : decode cX3_lose 1 = .ok (.iload_n 1, 1) := by decide +kernel
set_option maxRecDepth 100000 in
theorem dX3_lose_2 : decode cX3_lose 2 = .ok (.invokevirtual 94, 3) := by decide +kernel
set_option maxRecDepth 100000 in
theorem dX3_lose_5 : decode cX3_lose 5 = .ok (.astore_n 3, 1) := by decide +kernel
set_option maxRecDepth 100000 in
theorem dX3_lose_6 : decode cX3_lose 6 = .ok (.aload_n 0, 1) := by decide +kernel
set_option maxRecDepth 100000 in
theorem dX3_lose_7 : decode cX3_lose 7 = .ok (.iload_n 2, 1) := by decide +kernel
set_option maxRecDepth 100000 in
theorem dX3_lose_8 : decode cX3_lose 8 = .ok (.invokevirtual 77, 3) := by decide +kernel
set_option maxRecDepth 100000 in
theorem dX3_lose_11 : decode cX3_lose 11 = .ok (.aload_n 3, 1) := by decide +kernel
set_option maxRecDepth 100000 in
theorem dX3_lose_12 : decode cX3_lose 12 = .ok (.iload_n 2, 1) := by decide +kernel
set_option maxRecDepth 100000 in
theorem dX3_lose_13 : decode cX3_lose 13 = .ok (.invokevirtual 119, 3) := by decide +kernel
set_option maxRecDepth 100000 in
theorem dX3_lose_16 : decode cX3_lose 16 = .ok (.ifCond .ne 6, 3) := by decide +kernel
set_option maxRecDepth 100000 in
theorem dX3_lose_19 : decode cX3_lose 19 = .ok (.bipush (-9), 2) := by decide +kernel
set_option maxRecDepth 100000 in
theorem dX3_lose_21 : decode cX3_lose 21 = .ok (.ireturn, 1) := by decide +kernel
set_option maxRecDepth 100000 in
theorem dX3_lose_22 : decode cX3_lose 22 = .ok (.aload_n 3, 1) := by decide +kernel
set_option maxRecDepth 100000 in
theorem dX3_lose_23 : decode cX3_lose 23 = .ok (.iload_n 2, 1) := by decide +kernel
def zN_cX3_lose : Nat := 0xac04158200b6021c2d04367b00b61c2dacf71006009a7700b61c2d4d00b61c2a4e5e00b61b2a
set_option maxRecDepth 100000 in
theorem zl_cX3_lose : cX3_lose.data.toList = z_un 38 zN_cX3_lose := eq_of_beq (by decide +kernel)
theorem dX3_lose_24 : decode cX3_lose 24 = .ok (.invokevirtual 123, 3) := z_row zl_cX3_lose 24 8061110 (Nat.le_of_ble_eq_true rfl) (by decide +kernel) z_o182 (by decide +kernel)
theorem dX3_lose_27 : decode cX3_lose 27 = .ok (.istore 4, 2) := z_row zl_cX3_lose 27 2950198 (Nat.le_of_ble_eq_true rfl) (by decide +kernel) z_o54 (by decide +kernel)
theorem dX3_lose_29 : decode cX3_lose 29 = .ok (.aload_n 3, 1) := z_row zl_cX3_lose 29 138285 (Nat.le_of_ble_eq_true rfl) (by decide +kernel) z_o45 (by decide +kernel)
theorem dX3_lose_30 : decode cX3_lose 30 = .ok (.iload_n 2, 1) := z_row zl_cX3_lose 30 11928092 (Nat.le_of_ble_eq_true rfl) (by decide +kernel) z_o28 (by decide +kernel)
theorem dX3_lose_31 : decode cX3_lose 31 = .ok (.iconst (-1), 1) := z_row zl_cX3_lose 31 46594 (Nat.le_of_ble_eq_true rfl) (by decide +kernel) z_o2 (by decide +kernel)
theorem dX3_lose_32 : decode cX3_lose 32 = .ok (.invokevirtual 130, 3) := z_row zl_cX3_lose 32 8519862 (Nat.le_of_ble_eq_true rfl) (by decide +kernel) z_o182 (by decide +kernel)
theorem dX3_lose_35 : decode cX3_lose 35 = .ok (.iload 4, 2) := z_row zl_cX3_lose 35 11273237 (Nat.le_of_ble_eq_true rfl) (by decide +kernel) z_o21 (by decide +kernel)
set_option maxRecDepth 100000 in
theorem dX3_lose_37 : decode cX3_lose 37 = .ok (.ireturn, 1) := by decide +kernel
set_option maxRecDepth 100000 in
theorem dX3_give_0 : decode cX3_give 0 = .ok (.aload_n 0, 1) := by decide +kernel
set_option maxRecDepth 100000 in
theorem dX3_give_1 : decode cX3_give 1 = .ok (.iload_n 1, 1) := by decide +kernel
set_option maxRecDepth 100000 in
theorem dX3_give_2 : decode cX3_give 2 = .ok (.invokevirtual 94, 3) := by decide +kernel
set_option maxRecDepth 100000 in
theorem dX3_give_5 : decode cX3_give 5 = .ok (.astore 4, 2) := by decide +kernel
set_option maxRecDepth 100000 in
theorem dX3_give_7 : decode cX3_give 7 = .ok (.aload_n 0, 1) := by decide +kernel
set_option maxRecDepth 100000 in
theorem dX3_give_8 : decode cX3_give 8 = .ok (.iload_n 2, 1) := by decide +kernel
set_option maxRecDepth 100000 in
theorem dX3_give_9 : decode cX3_give 9 = .ok (.invokevirtual 77, 3) := by decide +kernel
set_option maxRecDepth 100000 in
theorem dX3_give_12 : decode cX3_give 12 = .ok (.aload 4, 2) := by decide +kernel
set_option maxRecDepth 100000 in
theorem dX3_give_14 : decode cX3_give 14 = .ok (.invokevirtual 109, 3) := by decide +kernel
set_option maxRecDepth 100000 in
theorem dX3_give_17 : decode cX3_give 17 = .ok (.ifCond .eq 6, 3) := by decide +kernel
set_option maxRecDepth 100000 in
theorem dX3_give_20 : decode cX3_give 20 = .ok (.bipush (-9), 2) := by decide +kernel
set_option maxRecDepth 100000 in
theorem dX3_give_22 : decode cX3_give 22 = .ok (.ireturn, 1) := by decide +kernel
set_option maxRecDepth 100000 in
theorem dX3_give_23 : decode cX3_give 23 = .ok (.aload 4, 2) := by decide +kernel
def zN_cX3_give : Nat := 0xac05158200b63b00b6851d0a00b42a1c041905367b00b61c0419acf7100600996d00b604194d00b61c2a043a5e00b61b2a
set_option maxRecDepth 100000 in
theorem zl_cX3_give : cX3_give.data.toList = z_un 49 zN_cX3_give := eq_of_beq (by decide +kernel)
theorem dX3_give_25 : decode cX3_give 25 = .ok (.iload_n 2, 1) := z_row zl_cX3_give 25 46620 (Nat.le_of_ble_eq_true rfl) (by decide +kernel) z_o28 (by decide +kernel)
theorem dX3_give_26 : decode cX3_give 26 = .ok (.invokevirtual 123, 3) := z_row zl_cX3_give 26 8061110 (Nat.le_of_ble_eq_true rfl) (by decide +kernel) z_o182 (by decide +kernel)
theorem dX3_give_29 : decode cX3_give 29 = .ok (.istore 5, 2) := z_row zl_cX3_give 29 1639734 (Nat.le_of_ble_eq_true rfl) (by decide +kernel) z_o54 (by decide +kernel)
theorem dX3_give_31 : decode cX3_give 31 = .ok (.aload 4, 2) := z_row zl_cX3_give 31 1836057 (Nat.le_of_ble_eq_true rfl) (by decide +kernel) z_o25 (by decide +kernel)
theorem dX3_give_33 : decode cX3_give 33 = .ok (.iload_n 2, 1) := z_row zl_cX3_give 33 11807260 (Nat.le_of_ble_eq_true rfl) (by decide +kernel) z_o28 (by decide +kernel)
theorem dX3_give_34 : decode cX3_give 34 = .ok (.aload_n 0, 1) := z_row zl_cX3_give 34 46122 (Nat.le_of_ble_eq_true rfl) (by decide +kernel) z_o42 (by decide +kernel)
theorem dX3_give_35 : decode cX3_give 35 = .ok (.getfield 10, 3) := z_row zl_cX3_give 35 655540 (Nat.le_of_ble_eq_true rfl) (by decide +kernel) z_o180 (by decide +kernel)
theorem dX3_give_38 : decode cX3_give 38 = .ok (.iload_n 3, 1) := z_row zl_cX3_give 38 11961629 (Nat.le_of_ble_eq_true rfl) (by decide +kernel) z_o29 (by decide +kernel)
theorem dX3_give_39 : decode cX3_give 39 = .ok (.i2l, 1) := z_row zl_cX3_give 39 46725 (Nat.le_of_ble_eq_true rfl) (by decide +kernel) z_o133 (by decide +kernel)
theorem dX3_give_40 : decode cX3_give 40 = .ok (.invokevirtual 59, 3) := z_row zl_cX3_give 40 3866806 (Nat.le_of_ble_eq_true rfl) (by decide +kernel) z_o182 (by decide +kernel)
theorem dX3_give_43 : decode cX3_give 43 = .ok (.invokevirtual 130, 3) := z_row zl_cX3_give 43 8519862 (Nat.le_of_ble_eq_true rfl) (by decide +kernel) z_o182 (by decide +kernel)
theorem dX3_give_46 : decode cX3_give 46 = .ok (.iload 5, 2) := z_row zl_cX3_give 46 11273493 (Nat.le_of_ble_eq_true rfl) (by decide +kernel) z_o21 (by decide +kernel)
set_option maxRecDepth 100000 in
theorem dX3_give_48 : decode cX3_give 48 = .ok (.ireturn, 1) := by decide +kernel
set_option maxRecDepth 100000 in
theorem dX3_regain_0 : decode cX3_regain 0 = .ok (.aload_n 0, 1) := by decide +kernel
set_option maxRecDepth 100000 in
theorem dX3_regain_1 : decode cX3_regain 1 = .ok (.iload_n 1, 1) := by decide +kernel
set_option maxRecDepth 100000 in
theorem dX3_regain_2 : decode cX3_regain 2 = .ok (.invokevirtual 94, 3) := by decide +kernel
set_option maxRecDepth 100000 in
theorem dX3_regain_5 : decode cX3_regain 5 = .ok (.astore 4, 2) := by decide +kernel
set_option maxRecDepth 100000 in
theorem dX3_regain_7 : decode cX3_regain 7 = .ok (.aload_n 0, 1) := by decide +kernel
set_option maxRecDepth 100000 in
theorem dX3_regain_8 : decode cX3_regain 8 = .ok (.iload_n 2, 1) := by decide +kernel
set_option maxRecDepth 100000 in
theorem dX3_regain_9 : decode cX3_regain 9 = .ok (.invokevirtual 77, 3) := by decide +kernel
set_option maxRecDepth 100000 in
theorem dX3_regain_12 : decode cX3_regain 12 = .ok (.aload_n 0, 1) := by decide +kernel
set_option maxRecDepth 100000 in
theorem dX3_regain_13 : decode cX3_regain 13 = .ok (.iload_n 3, 1) := by decide +kernel
set_option maxRecDepth 100000 in
theorem dX3_regain_14 : decode cX3_regain 14 = .ok (.invokevirtual 80, 3) := by decide +kernel
set_option maxRecDepth 100000 in
theorem dX3_regain_17 : decode cX3_regain 17 = .ok (.aload 4, 2) := by decide +kernel
set_option maxRecDepth 100000 in
theorem dX3_regain_19 : decode cX3_regain 19 = .ok (.iload_n 3, 1) := by decide +kernel
set_option maxRecDepth 100000 in
theorem dX3_regain_20 : decode cX3_regain 20 = .ok (.invokevirtual 170, 3) := by decide +kernel
set_option maxRecDepth 100000 in
theorem dX3_regain_23 : decode cX3_regain 23 = .ok (.ifCond .ne 6, 3) := by decide +kernel
def zN_cX3_regain : Nat := 0xac05158200b605151c04190536b200b61c1d04192aacf71006009aaa00b61d04195000b61d2a4d00b61c2a043a5e00b61b2a
set_option maxRecDepth 100000 in
theorem zl_cX3_regain : cX3_regain.data.toList = z_un 50 zN_cX3_regain := eq_of_beq (by decide +kernel)
theorem dX3_regain_26 : decode cX3_regain 26 = .ok (.bipush (-9), 2) := z_row zl_cX3_regain 26 11335440 (Nat.le_of_ble_eq_true rfl) (by decide +kernel) z_o16 (by decide +kernel)
theorem dX3_regain_28 : decode cX3_regain 28 = .ok (.ireturn, 1) := z_row zl_cX3_regain 28 1649324 (Nat.le_of_ble_eq_true rfl) (by decide +kernel) z_o172 (by decide +kernel)
theorem dX3_regain_29 : decode cX3_regain 29 = .ok (.aload_n 0, 1) := z_row zl_cX3_regain 29 268586 (Nat.le_of_ble_eq_true rfl) (by decide +kernel) z_o42 (by decide +kernel)
theorem dX3_regain_30 : decode cX3_regain 30 = .ok (.aload 4, 2) := z_row zl_cX3_regain 30 1901593 (Nat.le_of_ble_eq_true rfl) (by decide +kernel) z_o25 (by decide +kernel)
theorem dX3_regain_32 : decode cX3_regain 32 = .ok (.iload_n 3, 1) := z_row zl_cX3_regain 32 11934749 (Nat.le_of_ble_eq_true rfl) (by decide +kernel) z_o29 (by decide +kernel)
theorem dX3_regain_33 : decode cX3_regain 33 = .ok (.iload_n 2, 1) := z_row zl_cX3_regain 33 46620 (Nat.le_of_ble_eq_true rfl) (by decide +kernel) z_o28 (by decide +kernel)
theorem dX3_regain_34 : decode cX3_regain 34 = .ok (.invokevirtual 178, 3) := z_row zl_cX3_regain 34 11665590 (Nat.le_of_ble_eq_true rfl) (by decide +kernel) z_o182 (by decide +kernel)
theorem dX3_regain_37 : decode cX3_regain 37 = .ok (.istore 5, 2) := z_row zl_cX3_regain 37 1639734 (Nat.le_of_ble_eq_true rfl) (by decide +kernel) z_o54 (by decide +kernel)
theorem dX3_regain_39 : decode cX3_regain 39 = .ok (.aload 4, 2) := z_row zl_cX3_regain 39 1836057 (Nat.le_of_ble_eq_true rfl) (by decide +kernel) z_o25 (by decide +kernel)
theorem dX3_regain_41 : decode cX3_regain 41 = .ok (.iload_n 2, 1) := z_row zl_cX3_regain 41 333084 (Nat.le_of_ble_eq_true rfl) (by decide +kernel) z_o28 (by decide +kernel)
theorem dX3_regain_42 : decode cX3_regain 42 = .ok (.iload 5, 2) := z_row zl_cX3_regain 42 11928853 (Nat.le_of_ble_eq_true rfl) (by decide +kernel) z_o21 (by decide +kernel)
theorem dX3_regain_44 : decode cX3_regain 44 = .ok (.invokevirtual 130, 3) := z_row zl_cX3_regain 44 8519862 (Nat.le_of_ble_eq_true rfl) (by decide +kernel) z_o182 (by decide +kernel)
theorem dX3_regain_47 : decode cX3_regain 47 = .ok (.iload 5, 2) := z_row zl_cX3_regain 47 11273493 (Nat.le_of_ble_eq_true rfl) (by decide +kernel) z_o21 (by decide +kernel)
set_option maxRecDepth 100000 in
theorem dX3_regain_49 : decode cX3_regain 49 = .ok (.ireturn, 1) := by decide +kernel
set_option maxRecDepth 100000 in
theorem dX3_mend_0 : decode cX3_mend 0 = .ok (.aload_n 0, 1) := by decide +kernel
set_option maxRecDepth 100000 in
theorem dX3_mend_1 : decode cX3_mend 1 = .ok (.iload_n 1, 1) := by decide +kernel
set_option maxRecDepth 100000 in
theorem dX3_mend_2 : decode cX3_mend 2 = .ok (.invokevirtual 94, 3) := by decide +kernel
set_option maxRecDepth 100000 in
theorem dX3_mend_5 : decode cX3_mend 5 = .ok (.astore_n 2, 1) := by decide +kernel
set_option maxRecDepth 100000 in
theorem dX3_mend_6 : decode cX3_mend 6 = .ok (.aload_n 0, 1) := by decide +kernel
set_option maxRecDepth 100000 in
theorem dX3_mend_7 : decode cX3_mend 7 = .ok (.aload_n 2, 1) := by decide +kernel
set_option maxRecDepth 100000 in
theorem dX3_mend_8 : decode cX3_mend 8 = .ok (.invokevirtual 182, 3) := by decide +kernel
set_option maxRecDepth 100000 in
theorem dX3_mend_11 : decode cX3_mend 11 = .ok (.istore_n 3, 1) := by decide +kernel
set_option maxRecDepth 100000 in
theorem dX3_mend_12 : decode cX3_mend 12 = .ok (.iload_n 3, 1) := by decide +kernel
set_option maxRecDepth 100000 in
theorem dX3_mend_13 : decode cX3_mend 13 = .ok (.ifCond .le 29, 3) := by decide +kernel
set_option maxRecDepth 100000 in
theorem dX3_mend_16 : decode cX3_mend 16 = .ok (.aload_n 2, 1) := by decide +kernel
set_option maxRecDepth 100000 in
theorem dX3_mend_17 : decode cX3_mend 17 = .ok (.invokevirtual 185, 3) := by decide +kernel
set_option maxRecDepth 100000 in
theorem dX3_mend_20 : decode cX3_mend 20 = .ok (.iload_n 3, 1) := by decide +kernel
set_option maxRecDepth 100000 in
theorem dX3_mend_21 : decode cX3_mend 21 = .ok (.invokestatic 188, 3) := by decide +kernel
def zN_cX3_mend : Nat := 0xac1d8200b6b200b61d04152c2a1d2c04367e8202bc00b81db900b62c1d009e1d3eb600b62c2a4d5e00b61b2a
set_option maxRecDepth 100000 in
theorem zl_cX3_mend : cX3_mend.data.toList = z_un 44 zN_cX3_mend := eq_of_beq (by decide +kernel)
theorem dX3_mend_24 : decode cX3_mend 24 = .ok (.iconst (-1), 1) := z_row zl_cX3_mend 24 8290818 (Nat.le_of_ble_eq_true rfl) (by decide +kernel) z_o2 (by decide +kernel)
theorem dX3_mend_25 : decode cX3_mend 25 = .ok (.ixor, 1) := z_row zl_cX3_mend 25 3571330 (Nat.le_of_ble_eq_true rfl) (by decide +kernel) z_o130 (by decide +kernel)
theorem dX3_mend_26 : decode cX3_mend 26 = .ok (.iand, 1) := z_row zl_cX3_mend 26 276094 (Nat.le_of_ble_eq_true rfl) (by decide +kernel) z_o126 (by decide +kernel)
theorem dX3_mend_27 : decode cX3_mend 27 = .ok (.istore 4, 2) := z_row zl_cX3_mend 27 2884662 (Nat.le_of_ble_eq_true rfl) (by decide +kernel) z_o54 (by decide +kernel)
theorem dX3_mend_29 : decode cX3_mend 29 = .ok (.aload_n 2, 1) := z_row zl_cX3_mend 29 2759980 (Nat.le_of_ble_eq_true rfl) (by decide +kernel) z_o44 (by decide +kernel)
theorem dX3_mend_30 : decode cX3_mend 30 = .ok (.iload_n 3, 1) := z_row zl_cX3_mend 30 2894365 (Nat.le_of_ble_eq_true rfl) (by decide +kernel) z_o29 (by decide +kernel)
theorem dX3_mend_31 : decode cX3_mend 31 = .ok (.aload_n 0, 1) := z_row zl_cX3_mend 31 1387562 (Nat.le_of_ble_eq_true rfl) (by decide +kernel) z_o42 (by decide +kernel)
theorem dX3_mend_32 : decode cX3_mend 32 = .ok (.aload_n 2, 1) := z_row zl_cX3_mend 32 267564 (Nat.le_of_ble_eq_true rfl) (by decide +kernel) z_o44 (by decide +kernel)
theorem dX3_mend_33 : decode cX3_mend 33 = .ok (.iload 4, 2) := z_row zl_cX3_mend 33 1901589 (Nat.le_of_ble_eq_true rfl) (by decide +kernel) z_o21 (by decide +kernel)
theorem dX3_mend_35 : decode cX3_mend 35 = .ok (.iload_n 3, 1) := z_row zl_cX3_mend 35 46621 (Nat.le_of_ble_eq_true rfl) (by decide +kernel) z_o29 (by decide +kernel)
theorem dX3_mend_36 : decode cX3_mend 36 = .ok (.invokevirtual 178, 3) := z_row zl_cX3_mend 36 11665590 (Nat.le_of_ble_eq_true rfl) (by decide +kernel) z_o182 (by decide +kernel)
theorem dX3_mend_39 : decode cX3_mend 39 = .ok (.invokevirtual 130, 3) := z_row zl_cX3_mend 39 8519862 (Nat.le_of_ble_eq_true rfl) (by decide +kernel) z_o182 (by decide +kernel)
set_option maxRecDepth 100000 in
theorem dX3_mend_42 : decode cX3_mend 42 = .ok (.iload_n 3, 1) := by decide +kernel
set_option maxRecDepth 100000 in
theorem dX3_mend_43 : decode cX3_mend 43 = .ok (.ireturn, 1) := by decide +kernel
set_option maxRecDepth 100000 in
theorem dX3_copy_0 : decode cX3_copy 0 = .ok (.aload_n 0, 1) := by decide +kernel
set_option maxRecDepth 100000 in
theorem dX3_copy_1 : decode cX3_copy 1 = .ok (.iload_n 1, 1) := by decide +kernel
set_option maxRecDepth 100000 in
theorem dX3_copy_2 : decode cX3_copy 2 = .ok (.invokevirtual 94, 3) := by decide +kernel
set_option maxRecDepth 100000 in
theorem dX3_copy_5 : decode cX3_copy 5 = .ok (.astore_n 3, 1) := by decide +kernel
set_option maxRecDepth 100000 in
theorem dX3_copy_6 : decode cX3_copy 6 = .ok (.aload_n 0, 1) := by decide +kernel
set_option maxRecDepth 100000 in
theorem dX3_copy_7 : decode cX3_copy 7 = .ok (.iload_n 2, 1) := by decide +kernel
set_option maxRecDepth 100000 in
theorem dX3_copy_8 : decode cX3_copy 8 = .ok (.invokevirtual 94, 3) := by decide +kernel
set_option maxRecDepth 100000 in
theorem dX3_copy_11 : decode cX3_copy 11 = .ok (.astore 4, 2) := by decide +kernel
set_option maxRecDepth 100000 in
theorem dX3_copy_13 : decode cX3_copy 13 = .ok (.aload 4, 2) := by decide +kernel
set_option maxRecDepth 100000 in
theorem dX3_copy_15 : decode cX3_copy 15 = .ok (.aload_n 3, 1) := by decide +kernel
set_option maxRecDepth 100000 in
theorem dX3_copy_16 : decode cX3_copy 16 = .ok (.invokevirtual 191, 3) := by decide +kernel
set_option maxRecDepth 100000 in
theorem dX3_copy_19 : decode cX3_copy 19 = .ok (.aload 4, 2) := by decide +kernel
set_option maxRecDepth 100000 in
theorem dX3_copy_21 : decode cX3_copy 21 = .ok (.invokevirtual 149, 3) := by decide +kernel
set_option maxRecDepth 100000 in
theorem dX3_copy_24 : decode cX3_copy 24 = .ok (.ireturn, 1) := by decide +kernel
set_option maxRecDepth 100000 in
theorem dX3_drop_0 : decode cX3_drop 0 = .ok (.aload_n 0, 1) := by decide +kernel
set_option maxRecDepth 100000 in
theorem dX3_drop_1 : decode cX3_drop 1 = .ok (.iload_n 1, 1) := by decide +kernel
set_option maxRecDepth 100000 in
theorem dX3_drop_2 : decode cX3_drop 2 = .ok (.invokevirtual 94, 3) := by decide +kernel
set_option maxRecDepth 100000 in
theorem dX3_drop_5 : decode cX3_drop 5 = .ok (.astore_n 2, 1) := by decide +kernel
set_option maxRecDepth 100000 in
theorem dX3_drop_6 : decode cX3_drop 6 = .ok (.aload_n 2, 1) := by decide +kernel
set_option maxRecDepth 100000 in
theorem dX3_drop_7 : decode cX3_drop 7 = .ok (.invokevirtual 149, 3) := by decide +kernel
set_option maxRecDepth 100000 in
theorem dX3_drop_10 : decode cX3_drop 10 = .ok (.istore_n 3, 1) := by decide +kernel
set_option maxRecDepth 100000 in
theorem dX3_drop_11 : decode cX3_drop 11 = .ok (.aload_n 2, 1) := by decide +kernel
set_option maxRecDepth 100000 in
theorem dX3_drop_12 : decode cX3_drop 12 = .ok (.invokevirtual 56, 3) := by decide +kernel
set_option maxRecDepth 100000 in
theorem dX3_drop_15 : decode cX3_drop 15 = .ok (.iload_n 3, 1) := by decide +kernel
set_option maxRecDepth 100000 in
theorem dX3_drop_16 : decode cX3_drop 16 = .ok (.ireturn, 1) := by decide +kernel
set_option maxRecDepth 100000 in
theorem dX3_knock_0 : decode cX3_knock 0 = .ok (.aload_n 0, 1) := by decide +kernel
set_option maxRecDepth 100000 in
theorem dX3_knock_1 : decode cX3_knock 1 = .ok (.dup, 1) := by decide +kernel
set_option maxRecDepth 100000 in
theorem dX3_knock_2 : decode cX3_knock 2 = .ok (.getfield 34, 3) := by decide +kernel
set_option maxRecDepth 100000 in
theorem dX3_knock_5 : decode cX3_knock 5 = .ok (.iconst 1, 1) := by decide +kernel
set_option maxRecDepth 100000 in
theorem dX3_knock_6 : decode cX3_knock 6 = .ok (.iadd, 1) := by decide +kernel
set_option maxRecDepth 100000 in
theorem dX3_knock_7 : decode cX3_knock 7 = .ok (.putfield 34, 3) := by decide +kernel
set_option maxRecDepth 100000 in
theorem dX3_knock_10 : decode cX3_knock 10 = .ok (.aload_n 0, 1) := by decide +kernel
set_option maxRecDepth 100000 in
theorem dX3_knock_11 : decode cX3_knock 11 = .ok (.getfield 34, 3) := by decide +kernel
set_option maxRecDepth 100000 in
theorem dX3_knock_14 : decode cX3_knock 14 = .ok (.ireturn, 1) := by decide +kernel
set_option maxRecDepth 100000 in
theorem dX3_share_0 : decode cX3_share 0 = .ok (.aload_n 0, 1) := by decide +kernel
set_option maxRecDepth 100000 in
theorem dX3_share_1 : decode cX3_share 1 = .ok (.iload_n 1, 1) := by decide +kernel
set_option maxRecDepth 100000 in
theorem dX3_share_2 : decode cX3_share 2 = .ok (.invokevirtual 94, 3) := by decide +kernel
set_option maxRecDepth 100000 in
theorem dX3_share_5 : decode cX3_share 5 = .ok (.astore_n 3, 1) := by decide +kernel
set_option maxRecDepth 100000 in
theorem dX3_share_6 : decode cX3_share 6 = .ok (.aload_n 0, 1) := by decide +kernel
set_option maxRecDepth 100000 in
theorem dX3_share_7 : decode cX3_share 7 = .ok (.iload_n 2, 1) := by decide +kernel
set_option maxRecDepth 100000 in
theorem dX3_share_8 : decode cX3_share 8 = .ok (.invokevirtual 77, 3) := by decide +kernel
set_option maxRecDepth 100000 in
theorem dX3_share_11 : decode cX3_share 11 = .ok (.aload_n 3, 1) := by decide +kernel
set_option maxRecDepth 100000 in
theorem dX3_share_12 : decode cX3_share 12 = .ok (.iload_n 2, 1) := by decide +kernel
set_option maxRecDepth 100000 in
theorem dX3_share_13 : decode cX3_share 13 = .ok (.invokevirtual 123, 3) := by decide +kernel
set_option maxRecDepth 100000 in
theorem dX3_share_16 : decode cX3_share 16 = .ok (.ireturn, 1) := by decide +kernel
set_option maxRecDepth 100000 in
theorem dX3_ofDeal_0 : decode cX3_ofDeal 0 = .ok (.aload_n 0, 1) := by decide +kernel
set_option maxRecDepth 100000 in
theorem dX3_ofDeal_1 : decode cX3_ofDeal 1 = .ok (.iload_n 1, 1) := by decide +kernel
set_option maxRecDepth 100000 in
theorem dX3_ofDeal_2 : decode cX3_ofDeal 2 = .ok (.invokevirtual 94, 3) := by decide +kernel
set_option maxRecDepth 100000 in
theorem dX3_ofDeal_5 : decode cX3_ofDeal 5 = .ok (.astore_n 3, 1) := by decide +kernel
set_option maxRecDepth 100000 in
theorem dX3_ofDeal_6 : decode cX3_ofDeal 6 = .ok (.iload_n 2, 1) := by decide +kernel
set_option maxRecDepth 100000 in
theorem dX3_ofDeal_7 : decode cX3_ofDeal 7 = .ok (.tableswitch 118 0 5 #[37, 53, 58, 63, 76, 94], 37) := by decide +kernel
def zN_cX3_ofDeal : Nat := 0xbf2e00b7cd12592a00bbacb200b60304152d2a0b00a70207009a04150436ca00b62dac030400a704070099c600b6b900b62d2d2aac030400a704070099c300b62dacb900b62dac9500b62dac7100b42d0700a7020700996d00b62d5e0000004c0000003f0000003a0000003500000025000000050000000000000076000000aa1c4e5e00b61b2a
set_option maxRecDepth 100000 in
theorem zl_cX3_ofDeal : cX3_ofDeal.data.toList = z_un 135 zN_cX3_ofDeal := eq_of_beq (by decide +kernel)
theorem dX3_ofDeal_44 : decode cX3_ofDeal 44 = .ok (.aload_n 3, 1) := z_row zl_cX3_ofDeal 44 46637 (Nat.le_of_ble_eq_true rfl) (by decide +kernel) z_o45 (by decide +kernel)
theorem dX3_ofDeal_45 : decode cX3_ofDeal 45 = .ok (.invokevirtual 109, 3) := z_row zl_cX3_ofDeal 45 7143606 (Nat.le_of_ble_eq_true rfl) (by decide +kernel) z_o182 (by decide +kernel)
theorem dX3_ofDeal_48 : decode cX3_ofDeal 48 = .ok (.ifCond .eq 7, 3) := z_row zl_cX3_ofDeal 48 458905 (Nat.le_of_ble_eq_true rfl) (by decide +kernel) z_o153 (by decide +kernel)
theorem dX3_ofDeal_51 : decode cX3_ofDeal 51 = .ok (.iconst (-1), 1) := z_row zl_cX3_ofDeal 51 42754 (Nat.le_of_ble_eq_true rfl) (by decide +kernel) z_o2 (by decide +kernel)
theorem dX3_ofDeal_52 : decode cX3_ofDeal 52 = .ok (.goto 7, 3) := z_row zl_cX3_ofDeal 52 458919 (Nat.le_of_ble_eq_true rfl) (by decide +kernel) z_o167 (by decide +kernel)
theorem dX3_ofDeal_55 : decode cX3_ofDeal 55 = .ok (.aload_n 3, 1) := z_row zl_cX3_ofDeal 55 46125 (Nat.le_of_ble_eq_true rfl) (by decide +kernel) z_o45 (by decide +kernel)
theorem dX3_ofDeal_56 : decode cX3_ofDeal 56 = .ok (.getfield 113, 3) := z_row zl_cX3_ofDeal 56 7405748 (Nat.le_of_ble_eq_true rfl) (by decide +kernel) z_o180 (by decide +kernel)
theorem dX3_ofDeal_59 : decode cX3_ofDeal 59 = .ok (.ireturn, 1) := z_row zl_cX3_ofDeal 59 11939244 (Nat.le_of_ble_eq_true rfl) (by decide +kernel) z_o172 (by decide +kernel)
theorem dX3_ofDeal_60 : decode cX3_ofDeal 60 = .ok (.aload_n 3, 1) := z_row zl_cX3_ofDeal 60 46637 (Nat.le_of_ble_eq_true rfl) (by decide +kernel) z_o45 (by decide +kernel)
theorem dX3_ofDeal_61 : decode cX3_ofDeal 61 = .ok (.invokevirtual 149, 3) := z_row zl_cX3_ofDeal 61 9765046 (Nat.le_of_ble_eq_true rfl) (by decide +kernel) z_o182 (by decide +kernel)
theorem dX3_ofDeal_64 : decode cX3_ofDeal 64 = .ok (.ireturn, 1) := z_row zl_cX3_ofDeal 64 11939244 (Nat.le_of_ble_eq_true rfl) (by decide +kernel) z_o172 (by decide +kernel)
theorem dX3_ofDeal_65 : decode cX3_ofDeal 65 = .ok (.aload_n 3, 1) := z_row zl_cX3_ofDeal 65 46637 (Nat.le_of_ble_eq_true rfl) (by decide +kernel) z_o45 (by decide +kernel)
theorem dX3_ofDeal_66 : decode cX3_ofDeal 66 = .ok (.invokevirtual 185, 3) := z_row zl_cX3_ofDeal 66 12124342 (Nat.le_of_ble_eq_true rfl) (by decide +kernel) z_o182 (by decide +kernel)
theorem dX3_ofDeal_69 : decode cX3_ofDeal 69 = .ok (.ireturn, 1) := z_row zl_cX3_ofDeal 69 11939244 (Nat.le_of_ble_eq_true rfl) (by decide +kernel) z_o172 (by decide +kernel)
theorem dX3_ofDeal_70 : decode cX3_ofDeal 70 = .ok (.aload_n 3, 1) := z_row zl_cX3_ofDeal 70 46637 (Nat.le_of_ble_eq_true rfl) (by decide +kernel) z_o45 (by decide +kernel)
theorem dX3_ofDeal_71 : decode cX3_ofDeal 71 = .ok (.invokevirtual 195, 3) := z_row zl_cX3_ofDeal 71 12779702 (Nat.le_of_ble_eq_true rfl) (by decide +kernel) z_o182 (by decide +kernel)
theorem dX3_ofDeal_74 : decode cX3_ofDeal 74 = .ok (.ifCond .eq 7, 3) := z_row zl_cX3_ofDeal 74 458905 (Nat.le_of_ble_eq_true rfl) (by decide +kernel) z_o153 (by decide +kernel)
theorem dX3_ofDeal_77 : decode cX3_ofDeal 77 = .ok (.iconst 1, 1) := z_row zl_cX3_ofDeal 77 42756 (Nat.le_of_ble_eq_true rfl) (by decide +kernel) z_o4 (by decide +kernel)
theorem dX3_ofDeal_78 : decode cX3_ofDeal 78 = .ok (.goto 4, 3) := z_row zl_cX3_ofDeal 78 262311 (Nat.le_of_ble_eq_true rfl) (by decide +kernel) z_o167 (by decide +kernel)
theorem dX3_ofDeal_81 : decode cX3_ofDeal 81 = .ok (.iconst 0, 1) := z_row zl_cX3_ofDeal 81 2796547 (Nat.le_of_ble_eq_true rfl) (by decide +kernel) z_o3 (by decide +kernel)
theorem dX3_ofDeal_82 : decode cX3_ofDeal 82 = .ok (.ireturn, 1) := z_row zl_cX3_ofDeal 82 2960044 (Nat.le_of_ble_eq_true rfl) (by decide +kernel) z_o172 (by decide +kernel)
theorem dX3_ofDeal_83 : decode cX3_ofDeal 83 = .ok (.aload_n 0, 1) := z_row zl_cX3_ofDeal 83 2960682 (Nat.le_of_ble_eq_true rfl) (by decide +kernel) z_o42 (by decide +kernel)
theorem dX3_ofDeal_84 : decode cX3_ofDeal 84 = .ok (.aload_n 3, 1) := z_row zl_cX3_ofDeal 84 11939117 (Nat.le_of_ble_eq_true rfl) (by decide +kernel) z_o45 (by decide +kernel)
theorem dX3_ofDeal_85 : decode cX3_ofDeal 85 = .ok (.aload_n 3, 1) := z_row zl_cX3_ofDeal 85 46637 (Nat.le_of_ble_eq_true rfl) (by decide +kernel) z_o45 (by decide +kernel)
theorem dX3_ofDeal_86 : decode cX3_ofDeal 86 = .ok (.invokevirtual 185, 3) := z_row zl_cX3_ofDeal 86 12124342 (Nat.le_of_ble_eq_true rfl) (by decide +kernel) z_o182 (by decide +kernel)
theorem dX3_ofDeal_89 : decode cX3_ofDeal 89 = .ok (.invokevirtual 198, 3) := z_row zl_cX3_ofDeal 89 12976310 (Nat.le_of_ble_eq_true rfl) (by decide +kernel) z_o182 (by decide +kernel)
theorem dX3_ofDeal_92 : decode cX3_ofDeal 92 = .ok (.ifCond .eq 7, 3) := z_row zl_cX3_ofDeal 92 458905 (Nat.le_of_ble_eq_true rfl) (by decide +kernel) z_o153 (by decide +kernel)
theorem dX3_ofDeal_95 : decode cX3_ofDeal 95 = .ok (.iconst 1, 1) := z_row zl_cX3_ofDeal 95 42756 (Nat.le_of_ble_eq_true rfl) (by decide +kernel) z_o4 (by decide +kernel)
theorem dX3_ofDeal_96 : decode cX3_ofDeal 96 = .ok (.goto 4, 3) := z_row zl_cX3_ofDeal 96 262311 (Nat.le_of_ble_eq_true rfl) (by decide +kernel) z_o167 (by decide +kernel)
theorem dX3_ofDeal_99 : decode cX3_ofDeal 99 = .ok (.iconst 0, 1) := z_row zl_cX3_ofDeal 99 2993155 (Nat.le_of_ble_eq_true rfl) (by decide +kernel) z_o3 (by decide +kernel)
theorem dX3_ofDeal_100 : decode cX3_ofDeal 100 = .ok (.ireturn, 1) := z_row zl_cX3_ofDeal 100 11939244 (Nat.le_of_ble_eq_true rfl) (by decide +kernel) z_o172 (by decide +kernel)
theorem dX3_ofDeal_101 : decode cX3_ofDeal 101 = .ok (.aload_n 3, 1) := z_row zl_cX3_ofDeal 101 46637 (Nat.le_of_ble_eq_true rfl) (by decide +kernel) z_o45 (by decide +kernel)
theorem dX3_ofDeal_102 : decode cX3_ofDeal 102 = .ok (.invokevirtual 202, 3) := z_row zl_cX3_ofDeal 102 13238454 (Nat.le_of_ble_eq_true rfl) (by decide +kernel) z_o182 (by decide +kernel)
theorem dX3_ofDeal_105 : decode cX3_ofDeal 105 = .ok (.istore 4, 2) := z_row zl_cX3_ofDeal 105 1377334 (Nat.le_of_ble_eq_true rfl) (by decide +kernel) z_o54 (by decide +kernel)
theorem dX3_ofDeal_107 : decode cX3_ofDeal 107 = .ok (.iload 4, 2) := z_row zl_cX3_ofDeal 107 10093589 (Nat.le_of_ble_eq_true rfl) (by decide +kernel) z_o21 (by decide +kernel)
theorem dX3_ofDeal_109 : decode cX3_ofDeal 109 = .ok (.ifCond .ne 7, 3) := z_row zl_cX3_ofDeal 109 458906 (Nat.le_of_ble_eq_true rfl) (by decide +kernel) z_o154 (by decide +kernel)
theorem dX3_ofDeal_112 : decode cX3_ofDeal 112 = .ok (.iconst (-1), 1) := z_row zl_cX3_ofDeal 112 42754 (Nat.le_of_ble_eq_true rfl) (by decide +kernel) z_o2 (by decide +kernel)
theorem dX3_ofDeal_113 : decode cX3_ofDeal 113 = .ok (.goto 11, 3) := z_row zl_cX3_ofDeal 113 721063 (Nat.le_of_ble_eq_true rfl) (by decide +kernel) z_o167 (by decide +kernel)
theorem dX3_ofDeal_116 : decode cX3_ofDeal 116 = .ok (.aload_n 0, 1) := z_row zl_cX3_ofDeal 116 1387818 (Nat.le_of_ble_eq_true rfl) (by decide +kernel) z_o42 (by decide +kernel)
theorem dX3_ofDeal_117 : decode cX3_ofDeal 117 = .ok (.aload_n 3, 1) := z_row zl_cX3_ofDeal 117 267565 (Nat.le_of_ble_eq_true rfl) (by decide +kernel) z_o45 (by decide +kernel)
theorem dX3_ofDeal_118 : decode cX3_ofDeal 118 = .ok (.iload 4, 2) := z_row zl_cX3_ofDeal 118 197653 (Nat.le_of_ble_eq_true rfl) (by decide +kernel) z_o21 (by decide +kernel)
theorem dX3_ofDeal_120 : decode cX3_ofDeal 120 = .ok (.iconst 0, 1) := z_row zl_cX3_ofDeal 120 46595 (Nat.le_of_ble_eq_true rfl) (by decide +kernel) z_o3 (by decide +kernel)
theorem dX3_ofDeal_121 : decode cX3_ofDeal 121 = .ok (.invokevirtual 178, 3) := z_row zl_cX3_ofDeal 121 11665590 (Nat.le_of_ble_eq_true rfl) (by decide +kernel) z_o182 (by decide +kernel)
theorem dX3_ofDeal_124 : decode cX3_ofDeal 124 = .ok (.ireturn, 1) := z_row zl_cX3_ofDeal 124 48044 (Nat.le_of_ble_eq_true rfl) (by decide +kernel) z_o172 (by decide +kernel)
theorem dX3_ofDeal_125 : decode cX3_ofDeal 125 = .ok (.new 42, 3) := z_row zl_cX3_ofDeal 125 2752699 (Nat.le_of_ble_eq_true rfl) (by decide +kernel) z_o187 (by decide +kernel)
theorem dX3_ofDeal_128 : decode cX3_ofDeal 128 = .ok (.dup, 1) := z_row zl_cX3_ofDeal 128 13439577 (Nat.le_of_ble_eq_true rfl) (by decide +kernel) z_o89 (by decide +kernel)
theorem dX3_ofDeal_129 : decode cX3_ofDeal 129 = .ok (.ldc 205, 2) := z_row zl_cX3_ofDeal 129 12045586 (Nat.le_of_ble_eq_true rfl) (by decide +kernel) z_o18 (by decide +kernel)
theorem dX3_ofDeal_131 : decode cX3_ofDeal 131 = .ok (.invokespecial 46, 3) := z_row zl_cX3_ofDeal 131 3014839 (Nat.le_of_ble_eq_true rfl) (by decide +kernel) z_o183 (by decide +kernel)
set_option maxRecDepth 100000 in
theorem dX3_ofDeal_134 : decode cX3_ofDeal 134 = .ok (.athrow, 1) := by decide +kernel
set_option maxRecDepth 100000 in
theorem dX3_told_0 : decode cX3_told 0 = .ok (.aload_n 0, 1) := by decide +kernel
set_option maxRecDepth 100000 in
theorem dX3_told_1 : decode cX3_told 1 = .ok (.iload_n 1, 1) := by decide +kernel
set_option maxRecDepth 100000 in
theorem dX3_told_2 : decode cX3_told 2 = .ok (.invokevirtual 94, 3) := by decide +kernel
set_option maxRecDepth 100000 in
theorem dX3_told_5 : decode cX3_told 5 = .ok (.astore 4, 2) := by decide +kernel
set_option maxRecDepth 100000 in
theorem dX3_told_7 : decode cX3_told 7 = .ok (.aload_n 0, 1) := by decide +kernel
set_option maxRecDepth 100000 in
theorem dX3_told_8 : decode cX3_told 8 = .ok (.iload_n 2, 1) := by decide +kernel
set_option maxRecDepth 100000 in
theorem dX3_told_9 : decode cX3_told 9 = .ok (.invokevirtual 80, 3) := by decide +kernel
set_option maxRecDepth 100000 in
theorem dX3_told_12 : decode cX3_told 12 = .ok (.aload 4, 2) := by decide +kernel
set_option maxRecDepth 100000 in
theorem dX3_told_14 : decode cX3_told 14 = .ok (.iload_n 2, 1) := by decide +kernel
set_option maxRecDepth 100000 in
theorem dX3_told_15 : decode cX3_told 15 = .ok (.invokevirtual 207, 3) := by decide +kernel
set_option maxRecDepth 100000 in
theorem dX3_told_18 : decode cX3_told 18 = .ok (.ifCond .eq 14, 3) := by decide +kernel
set_option maxRecDepth 100000 in
theorem dX3_told_21 : decode cX3_told 21 = .ok (.aload_n 0, 1) := by decide +kernel
set_option maxRecDepth 100000 in
theorem dX3_told_22 : decode cX3_told 22 = .ok (.aload 4, 2) := by decide +kernel
def zN_cX3_told : Nat := 0xacf7100500a7b200b61d1c04192a0e0099cf00b61c04195000b61c2a043a5e00b61b2a
set_option maxRecDepth 100000 in
theorem zl_cX3_told : cX3_told.data.toList = z_un 35 zN_cX3_told := eq_of_beq (by decide +kernel)
theorem dX3_told_24 : decode cX3_told 24 = .ok (.iload_n 2, 1) := z_row zl_cX3_told 24 11935004 (Nat.le_of_ble_eq_true rfl) (by decide +kernel) z_o28 (by decide +kernel)
theorem dX3_told_25 : decode cX3_told 25 = .ok (.iload_n 3, 1) := z_row zl_cX3_told 25 46621 (Nat.le_of_ble_eq_true rfl) (by decide +kernel) z_o29 (by decide +kernel)
theorem dX3_told_26 : decode cX3_told 26 = .ok (.invokevirtual 178, 3) := z_row zl_cX3_told 26 11665590 (Nat.le_of_ble_eq_true rfl) (by decide +kernel) z_o182 (by decide +kernel)
theorem dX3_told_29 : decode cX3_told 29 = .ok (.goto 5, 3) := z_row zl_cX3_told 29 327847 (Nat.le_of_ble_eq_true rfl) (by decide +kernel) z_o167 (by decide +kernel)
theorem dX3_told_32 : decode cX3_told 32 = .ok (.bipush (-9), 2) := z_row zl_cX3_told 32 11335440 (Nat.le_of_ble_eq_true rfl) (by decide +kernel) z_o16 (by decide +kernel)
set_option maxRecDepth 100000 in
theorem dX3_told_34 : decode cX3_told 34 = .ok (.ireturn, 1) := by decide +kernel
set_option maxRecDepth 100000 in
theorem dX3_open_0 : decode cX3_open 0 = .ok (.aload_n 0, 1) := by decide +kernel
set_option maxRecDepth 100000 in
theorem dX3_open_1 : decode cX3_open 1 = .ok (.iload_n 1, 1) := by decide +kernel
set_option maxRecDepth 100000 in
theorem dX3_open_2 : decode cX3_open 2 = .ok (.invokevirtual 94, 3) := by decide +kernel
set_option maxRecDepth 100000 in
theorem dX3_open_5 : decode cX3_open 5 = .ok (.astore_n 3, 1) := by decide +kernel
set_option maxRecDepth 100000 in
theorem dX3_open_6 : decode cX3_open 6 = .ok (.aload_n 0, 1) := by decide +kernel
set_option maxRecDepth 100000 in
theorem dX3_open_7 : decode cX3_open 7 = .ok (.iload_n 2, 1) := by decide +kernel
set_option maxRecDepth 100000 in
theorem dX3_open_8 : decode cX3_open 8 = .ok (.invokevirtual 80, 3) := by decide +kernel
set_option maxRecDepth 100000 in
theorem dX3_open_11 : decode cX3_open 11 = .ok (.aload_n 3, 1) := by decide +kernel
set_option maxRecDepth 100000 in
theorem dX3_open_12 : decode cX3_open 12 = .ok (.iload_n 2, 1) := by decide +kernel
set_option maxRecDepth 100000 in
theorem dX3_open_13 : decode cX3_open 13 = .ok (.invokevirtual 170, 3) := by decide +kernel
set_option maxRecDepth 100000 in
theorem dX3_open_16 : decode cX3_open 16 = .ok (.ifCond .eq 13, 3) := by decide +kernel
set_option maxRecDepth 100000 in
theorem dX3_open_19 : decode cX3_open 19 = .ok (.aload_n 0, 1) := by decide +kernel
set_option maxRecDepth 100000 in
theorem dX3_open_20 : decode cX3_open 20 = .ok (.aload_n 3, 1) := by decide +kernel
set_option maxRecDepth 100000 in
theorem dX3_open_21 : decode cX3_open 21 = .ok (.iload_n 2, 1) := by decide +kernel
set_option maxRecDepth 100000 in
theorem dX3_open_22 : decode cX3_open 22 = .ok (.iconst 0, 1) := by decide +kernel
set_option maxRecDepth 100000 in
theorem dX3_open_23 : decode cX3_open 23 = .ok (.invokevirtual 178, 3) := by decide +kernel
def zN_cX3_open : Nat := 0xacf7100500a7b200b6031c2d2a0d0099aa00b61c2d5000b61c2a4e5e00b61b2a
set_option maxRecDepth 100000 in
theorem zl_cX3_open : cX3_open.data.toList = z_un 32 zN_cX3_open := eq_of_beq (by decide +kernel)
theorem dX3_open_26 : decode cX3_open 26 = .ok (.goto 5, 3) := z_row zl_cX3_open 26 327847 (Nat.le_of_ble_eq_true rfl) (by decide +kernel) z_o167 (by decide +kernel)
theorem dX3_open_29 : decode cX3_open 29 = .ok (.bipush (-9), 2) := z_row zl_cX3_open 29 11335440 (Nat.le_of_ble_eq_true rfl) (by decide +kernel) z_o16 (by decide +kernel)
set_option maxRecDepth 100000 in
theorem dX3_open_31 : decode cX3_open 31 = .ok (.ireturn, 1) := by decide +kernel
set_option maxRecDepth 100000 in
theorem dX3_coefficient_0 : decode cX3_coefficient 0 = .ok (.aload_n 0, 1) := by decide +kernel
set_option maxRecDepth 100000 in
theorem dX3_coefficient_1 : decode cX3_coefficient 1 = .ok (.iload_n 1, 1) := by decide +kernel
set_option maxRecDepth 100000 in
theorem dX3_coefficient_2 : decode cX3_coefficient 2 = .ok (.invokevirtual 94, 3) := by decide +kernel
set_option maxRecDepth 100000 in
theorem dX3_coefficient_5 : decode cX3_coefficient 5 = .ok (.astore 4, 2) := by decide +kernel
set_option maxRecDepth 100000 in
theorem dX3_coefficient_7 : decode cX3_coefficient 7 = .ok (.aload_n 0, 1) := by decide +kernel
set_option maxRecDepth 100000 in
theorem dX3_coefficient_8 : decode cX3_coefficient 8 = .ok (.iload_n 2, 1) := by decide +kernel
set_option maxRecDepth 100000 in
theorem dX3_coefficient_9 : decode cX3_coefficient 9 = .ok (.invokevirtual 80, 3) := by decide +kernel
set_option maxRecDepth 100000 in
theorem dX3_coefficient_12 : decode cX3_coefficient 12 = .ok (.iload_n 3, 1) := by decide +kernel
set_option maxRecDepth 100000 in
theorem dX3_coefficient_13 : decode cX3_coefficient 13 = .ok (.invokestatic 210, 3) := by decide +kernel
set_option maxRecDepth 100000 in
theorem dX3_coefficient_16 : decode cX3_coefficient 16 = .ok (.aload 4, 2) := by decide +kernel
set_option maxRecDepth 100000 in
theorem dX3_coefficient_18 : decode cX3_coefficient 18 = .ok (.iload_n 2, 1) := by decide +kernel
set_option maxRecDepth 100000 in
theorem dX3_coefficient_19 : decode cX3_coefficient 19 = .ok (.invokevirtual 207, 3) := by decide +kernel
set_option maxRecDepth 100000 in
theorem dX3_coefficient_22 : decode cX3_coefficient 22 = .ok (.ifCond .ne 6, 3) := by decide +kernel
def zN_cX3_coefficient : Nat := 0xac8c00b61d1300b42ad500b61c04190a00b42a1300b42aacf71006009acf00b61c0419d200b81d5000b61c2a043a5e00b61b2a
set_option maxRecDepth 100000 in
theorem zl_cX3_coefficient : cX3_coefficient.data.toList = z_un 51 zN_cX3_coefficient := eq_of_beq (by decide +kernel)
theorem dX3_coefficient_25 : decode cX3_coefficient 25 = .ok (.bipush (-9), 2) := z_row zl_cX3_coefficient 25 11335440 (Nat.le_of_ble_eq_true rfl) (by decide +kernel) z_o16 (by decide +kernel)
theorem dX3_coefficient_27 : decode cX3_coefficient 27 = .ok (.ireturn, 1) := z_row zl_cX3_coefficient 27 11807404 (Nat.le_of_ble_eq_true rfl) (by decide +kernel) z_o172 (by decide +kernel)
theorem dX3_coefficient_28 : decode cX3_coefficient 28 = .ok (.aload_n 0, 1) := z_row zl_cX3_coefficient 28 46122 (Nat.le_of_ble_eq_true rfl) (by decide +kernel) z_o42 (by decide +kernel)
theorem dX3_coefficient_29 : decode cX3_coefficient 29 = .ok (.getfield 19, 3) := z_row zl_cX3_coefficient 29 1245364 (Nat.le_of_ble_eq_true rfl) (by decide +kernel) z_o180 (by decide +kernel)
theorem dX3_coefficient_32 : decode cX3_coefficient 32 = .ok (.aload_n 0, 1) := z_row zl_cX3_coefficient 32 46122 (Nat.le_of_ble_eq_true rfl) (by decide +kernel) z_o42 (by decide +kernel)
theorem dX3_coefficient_33 : decode cX3_coefficient 33 = .ok (.getfield 10, 3) := z_row zl_cX3_coefficient 33 655540 (Nat.le_of_ble_eq_true rfl) (by decide +kernel) z_o180 (by decide +kernel)
theorem dX3_coefficient_36 : decode cX3_coefficient 36 = .ok (.aload 4, 2) := z_row zl_cX3_coefficient 36 1836057 (Nat.le_of_ble_eq_true rfl) (by decide +kernel) z_o25 (by decide +kernel)
theorem dX3_coefficient_38 : decode cX3_coefficient 38 = .ok (.iload_n 2, 1) := z_row zl_cX3_coefficient 38 46620 (Nat.le_of_ble_eq_true rfl) (by decide +kernel) z_o28 (by decide +kernel)
theorem dX3_coefficient_39 : decode cX3_coefficient 39 = .ok (.invokevirtual 213, 3) := z_row zl_cX3_coefficient 39 13959350 (Nat.le_of_ble_eq_true rfl) (by decide +kernel) z_o182 (by decide +kernel)
theorem dX3_coefficient_42 : decode cX3_coefficient 42 = .ok (.aload_n 0, 1) := z_row zl_cX3_coefficient 42 46122 (Nat.le_of_ble_eq_true rfl) (by decide +kernel) z_o42 (by decide +kernel)
theorem dX3_coefficient_43 : decode cX3_coefficient 43 = .ok (.getfield 19, 3) := z_row zl_cX3_coefficient 43 1245364 (Nat.le_of_ble_eq_true rfl) (by decide +kernel) z_o180 (by decide +kernel)
theorem dX3_coefficient_46 : decode cX3_coefficient 46 = .ok (.iload_n 3, 1) := z_row zl_cX3_coefficient 46 46621 (Nat.le_of_ble_eq_true rfl) (by decide +kernel) z_o29 (by decide +kernel)
theorem dX3_coefficient_47 : decode cX3_coefficient 47 = .ok (.invokevirtual 140, 3) := z_row zl_cX3_coefficient 47 9175222 (Nat.le_of_ble_eq_true rfl) (by decide +kernel) z_o182 (by decide +kernel)
set_option maxRecDepth 100000 in
theorem dX3_coefficient_50 : decode cX3_coefficient 50 = .ok (.ireturn, 1) := by decide +kernel
set_option maxRecDepth 100000 in
theorem dX3_degreeBy_0 : decode cX3_degreeBy 0 = .ok (.aload_n 0, 1) := by decide +kernel
set_option maxRecDepth 100000 in
theorem dX3_degreeBy_1 : decode cX3_degreeBy 1 = .ok (.iload_n 1, 1) := by decide +kernel
set_option maxRecDepth 100000 in
theorem dX3_degreeBy_2 : decode cX3_degreeBy 2 = .ok (.invokevirtual 94, 3) := by decide +kernel
set_option maxRecDepth 100000 in
theorem dX3_degreeBy_5 : decode cX3_degreeBy 5 = .ok (.astore_n 3, 1) := by decide +kernel
set_option maxRecDepth 100000 in
theorem dX3_degreeBy_6 : decode cX3_degreeBy 6 = .ok (.aload_n 0, 1) := by decide +kernel
set_option maxRecDepth 100000 in
theorem dX3_degreeBy_7 : decode cX3_degreeBy 7 = .ok (.iload_n 2, 1) := by decide +kernel
set_option maxRecDepth 100000 in
theorem dX3_degreeBy_8 : decode cX3_degreeBy 8 = .ok (.invokevirtual 80, 3) := by decide +kernel
set_option maxRecDepth 100000 in
theorem dX3_degreeBy_11 : decode cX3_degreeBy 11 = .ok (.aload_n 3, 1) := by decide +kernel
set_option maxRecDepth 100000 in
theorem dX3_degreeBy_12 : decode cX3_degreeBy 12 = .ok (.iload_n 2, 1) := by decide +kernel
set_option maxRecDepth 100000 in
theorem dX3_degreeBy_13 : decode cX3_degreeBy 13 = .ok (.invokevirtual 207, 3) := by decide +kernel
set_option maxRecDepth 100000 in
theorem dX3_degreeBy_16 : decode cX3_degreeBy 16 = .ok (.ifCond .ne 6, 3) := by decide +kernel
set_option maxRecDepth 100000 in
theorem dX3_degreeBy_19 : decode cX3_degreeBy 19 = .ok (.bipush (-9), 2) := by decide +kernel
set_option maxRecDepth 100000 in
theorem dX3_degreeBy_21 : decode cX3_degreeBy 21 = .ok (.ireturn, 1) := by decide +kernel
set_option maxRecDepth 100000 in
theorem dX3_degreeBy_22 : decode cX3_degreeBy 22 = .ok (.aload_n 0, 1) := by decide +kernel
set_option maxRecDepth 100000 in
theorem dX3_degreeBy_23 : decode cX3_degreeBy 23 = .ok (.getfield 19, 3) := by decide +kernel
def zN_cX3_degreeBy : Nat := 0xacd900b61300b42ad500b61c2d0a00b42a1300b42aacf71006009acf00b61c2d5000b61c2a4e5e00b61b2a
set_option maxRecDepth 100000 in
theorem zl_cX3_degreeBy : cX3_degreeBy.data.toList = z_un 43 zN_cX3_degreeBy := eq_of_beq (by decide +kernel)
theorem dX3_degreeBy_26 : decode cX3_degreeBy 26 = .ok (.aload_n 0, 1) := z_row zl_cX3_degreeBy 26 46122 (Nat.le_of_ble_eq_true rfl) (by decide +kernel) z_o42 (by decide +kernel)
theorem dX3_degreeBy_27 : decode cX3_degreeBy 27 = .ok (.getfield 10, 3) := z_row zl_cX3_degreeBy 27 655540 (Nat.le_of_ble_eq_true rfl) (by decide +kernel) z_o180 (by decide +kernel)
theorem dX3_degreeBy_30 : decode cX3_degreeBy 30 = .ok (.aload_n 3, 1) := z_row zl_cX3_degreeBy 30 11934765 (Nat.le_of_ble_eq_true rfl) (by decide +kernel) z_o45 (by decide +kernel)
theorem dX3_degreeBy_31 : decode cX3_degreeBy 31 = .ok (.iload_n 2, 1) := z_row zl_cX3_degreeBy 31 46620 (Nat.le_of_ble_eq_true rfl) (by decide +kernel) z_o28 (by decide +kernel)
theorem dX3_degreeBy_32 : decode cX3_degreeBy 32 = .ok (.invokevirtual 213, 3) := z_row zl_cX3_degreeBy 32 13959350 (Nat.le_of_ble_eq_true rfl) (by decide +kernel) z_o182 (by decide +kernel)
theorem dX3_degreeBy_35 : decode cX3_degreeBy 35 = .ok (.aload_n 0, 1) := z_row zl_cX3_degreeBy 35 46122 (Nat.le_of_ble_eq_true rfl) (by decide +kernel) z_o42 (by decide +kernel)
theorem dX3_degreeBy_36 : decode cX3_degreeBy 36 = .ok (.getfield 19, 3) := z_row zl_cX3_degreeBy 36 1245364 (Nat.le_of_ble_eq_true rfl) (by decide +kernel) z_o180 (by decide +kernel)
theorem dX3_degreeBy_39 : decode cX3_degreeBy 39 = .ok (.invokevirtual 217, 3) := z_row zl_cX3_degreeBy 39 14221494 (Nat.le_of_ble_eq_true rfl) (by decide +kernel) z_o182 (by decide +kernel)
set_option maxRecDepth 100000 in
theorem dX3_degreeBy_42 : decode cX3_degreeBy 42 = .ok (.ireturn, 1) := by decide +kernel
set_option maxRecDepth 100000 in
theorem dX3_agrees_0 : decode cX3_agrees 0 = .ok (.aload_n 0, 1) := by decide +kernel
set_option maxRecDepth 100000 in
theorem dX3_agrees_1 : decode cX3_agrees 1 = .ok (.iload_n 1, 1) := by decide +kernel
set_option maxRecDepth 100000 in
theorem dX3_agrees_2 : decode cX3_agrees 2 = .ok (.invokevirtual 94, 3) := by decide +kernel
set_option maxRecDepth 100000 in
theorem dX3_agrees_5 : decode cX3_agrees 5 = .ok (.astore_n 3, 1) := by decide +kernel
set_option maxRecDepth 100000 in
theorem dX3_agrees_6 : decode cX3_agrees 6 = .ok (.aload_n 0, 1) := by decide +kernel
set_option maxRecDepth 100000 in
theorem dX3_agrees_7 : decode cX3_agrees 7 = .ok (.iload_n 2, 1) := by decide +kernel
set_option maxRecDepth 100000 in
theorem dX3_agrees_8 : decode cX3_agrees 8 = .ok (.invokevirtual 80, 3) := by decide +kernel
set_option maxRecDepth 100000 in
theorem dX3_agrees_11 : decode cX3_agrees 11 = .ok (.aload_n 3, 1) := by decide +kernel
set_option maxRecDepth 100000 in
theorem dX3_agrees_12 : decode cX3_agrees 12 = .ok (.iload_n 2, 1) := by decide +kernel
set_option maxRecDepth 100000 in
theorem dX3_agrees_13 : decode cX3_agrees 13 = .ok (.invokevirtual 207, 3) := by decide +kernel
set_option maxRecDepth 100000 in
theorem dX3_agrees_16 : decode cX3_agrees 16 = .ok (.ifCond .ne 6, 3) := by decide +kernel
set_option maxRecDepth 100000 in
theorem dX3_agrees_19 : decode cX3_agrees 19 = .ok (.bipush (-9), 2) := by decide +kernel
set_option maxRecDepth 100000 in
theorem dX3_agrees_21 : decode cX3_agrees 21 = .ok (.ireturn, 1) := by decide +kernel
set_option maxRecDepth 100000 in
theorem dX3_agrees_22 : decode cX3_agrees 22 = .ok (.aload_n 0, 1) := by decide +kernel
set_option maxRecDepth 100000 in
theorem dX3_agrees_23 : decode cX3_agrees 23 = .ok (.aload_n 3, 1) := by decide +kernel
def zN_cX3_agrees : Nat := 0xac030400a704070099c600b61c2d2aacf71006009acf00b61c2d5000b61c2a4e5e00b61b2a
set_option maxRecDepth 100000 in
theorem zl_cX3_agrees : cX3_agrees.data.toList = z_un 37 zN_cX3_agrees := eq_of_beq (by decide +kernel)
theorem dX3_agrees_24 : decode cX3_agrees 24 = .ok (.iload_n 2, 1) := z_row zl_cX3_agrees 24 46620 (Nat.le_of_ble_eq_true rfl) (by decide +kernel) z_o28 (by decide +kernel)
theorem dX3_agrees_25 : decode cX3_agrees 25 = .ok (.invokevirtual 198, 3) := z_row zl_cX3_agrees 25 12976310 (Nat.le_of_ble_eq_true rfl) (by decide +kernel) z_o182 (by decide +kernel)
theorem dX3_agrees_28 : decode cX3_agrees 28 = .ok (.ifCond .eq 7, 3) := z_row zl_cX3_agrees 28 458905 (Nat.le_of_ble_eq_true rfl) (by decide +kernel) z_o153 (by decide +kernel)
theorem dX3_agrees_31 : decode cX3_agrees 31 = .ok (.iconst 1, 1) := z_row zl_cX3_agrees 31 42756 (Nat.le_of_ble_eq_true rfl) (by decide +kernel) z_o4 (by decide +kernel)
theorem dX3_agrees_32 : decode cX3_agrees 32 = .ok (.goto 4, 3) := z_row zl_cX3_agrees 32 262311 (Nat.le_of_ble_eq_true rfl) (by decide +kernel) z_o167 (by decide +kernel)
set_option maxRecDepth 100000 in
theorem dX3_agrees_35 : decode cX3_agrees 35 = .ok (.iconst 0, 1) := by decide +kernel
set_option maxRecDepth 100000 in
theorem dX3_agrees_36 : decode cX3_agrees 36 = .ok (.ireturn, 1) := by decide +kernel
set_option maxRecDepth 100000 in
theorem dX3_suspects_0 : decode cX3_suspects 0 = .ok (.aload_n 0, 1) := by decide +kernel
set_option maxRecDepth 100000 in
theorem dX3_suspects_1 : decode cX3_suspects 1 = .ok (.iload_n 1, 1) := by decide +kernel
set_option maxRecDepth 100000 in
theorem dX3_suspects_2 : decode cX3_suspects 2 = .ok (.invokevirtual 94, 3) := by decide +kernel
set_option maxRecDepth 100000 in
theorem dX3_suspects_5 : decode cX3_suspects 5 = .ok (.astore_n 2, 1) := by decide +kernel
set_option maxRecDepth 100000 in
theorem dX3_suspects_6 : decode cX3_suspects 6 = .ok (.aload_n 2, 1) := by decide +kernel
set_option maxRecDepth 100000 in
theorem dX3_suspects_7 : decode cX3_suspects 7 = .ok (.invokevirtual 109, 3) := by decide +kernel
set_option maxRecDepth 100000 in
theorem dX3_suspects_10 : decode cX3_suspects 10 = .ok (.ifCond .eq 8, 3) := by decide +kernel
set_option maxRecDepth 100000 in
theorem dX3_suspects_13 : decode cX3_suspects 13 = .ok (.bipush (-9), 2) := by decide +kernel
set_option maxRecDepth 100000 in
theorem dX3_suspects_15 : decode cX3_suspects 15 = .ok (.goto 8, 3) := by decide +kernel
set_option maxRecDepth 100000 in
theorem dX3_suspects_18 : decode cX3_suspects 18 = .ok (.aload_n 0, 1) := by decide +kernel
set_option maxRecDepth 100000 in
theorem dX3_suspects_19 : decode cX3_suspects 19 = .ok (.aload_n 2, 1) := by decide +kernel
set_option maxRecDepth 100000 in
theorem dX3_suspects_20 : decode cX3_suspects 20 = .ok (.invokevirtual 220, 3) := by decide +kernel
set_option maxRecDepth 100000 in
theorem dX3_suspects_23 : decode cX3_suspects 23 = .ok (.ireturn, 1) := by decide +kernel
set_option maxRecDepth 100000 in
theorem dX3_wrong_0 : decode cX3_wrong 0 = .ok (.aload_n 0, 1) := by decide +kernel
set_option maxRecDepth 100000 in
theorem dX3_wrong_1 : decode cX3_wrong 1 = .ok (.aload_n 0, 1) := by decide +kernel
set_option maxRecDepth 100000 in
theorem dX3_wrong_2 : decode cX3_wrong 2 = .ok (.iload_n 1, 1) := by decide +kernel
set_option maxRecDepth 100000 in
theorem dX3_wrong_3 : decode cX3_wrong 3 = .ok (.invokevirtual 94, 3) := by decide +kernel
set_option maxRecDepth 100000 in
theorem dX3_wrong_6 : decode cX3_wrong 6 = .ok (.invokevirtual 182, 3) := by decide +kernel
set_option maxRecDepth 100000 in
theorem dX3_wrong_9 : decode cX3_wrong 9 = .ok (.ireturn, 1) := by decide +kernel
set_option maxRecDepth 100000 in
theorem dX3_ways_0 : decode cX3_ways 0 = .ok (.aload_n 0, 1) := by decide +kernel
set_option maxRecDepth 100000 in
theorem dX3_ways_1 : decode cX3_ways 1 = .ok (.iload_n 1, 1) := by decide +kernel
set_option maxRecDepth 100000 in
theorem dX3_ways_2 : decode cX3_ways 2 = .ok (.invokevirtual 94, 3) := by decide +kernel
set_option maxRecDepth 100000 in
theorem dX3_ways_5 : decode cX3_ways 5 = .ok (.astore 4, 2) := by decide +kernel
set_option maxRecDepth 100000 in
theorem dX3_ways_7 : decode cX3_ways 7 = .ok (.aload_n 0, 1) := by decide +kernel
set_option maxRecDepth 100000 in
theorem dX3_ways_8 : decode cX3_ways 8 = .ok (.iload_n 2, 1) := by decide +kernel
set_option maxRecDepth 100000 in
theorem dX3_ways_9 : decode cX3_ways 9 = .ok (.invokevirtual 80, 3) := by decide +kernel
set_option maxRecDepth 100000 in
theorem dX3_ways_12 : decode cX3_ways 12 = .ok (.aload 4, 2) := by decide +kernel
set_option maxRecDepth 100000 in
theorem dX3_ways_14 : decode cX3_ways 14 = .ok (.iload_n 2, 1) := by decide +kernel
set_option maxRecDepth 100000 in
theorem dX3_ways_15 : decode cX3_ways 15 = .ok (.invokevirtual 207, 3) := by decide +kernel
set_option maxRecDepth 100000 in
theorem dX3_ways_18 : decode cX3_ways 18 = .ok (.ifCond .eq 17, 3) := by decide +kernel
set_option maxRecDepth 100000 in
theorem dX3_ways_21 : decode cX3_ways 21 = .ok (.aload_n 0, 1) := by decide +kernel
set_option maxRecDepth 100000 in
theorem dX3_ways_22 : decode cX3_ways 22 = .ok (.aload 4, 2) := by decide +kernel
def zN_cX3_ways : Nat := 0xac030400a7040700a03b00b6851d0a00b42ab200b6031c04192a1b0099c600b61c04192aacdf00b605152a0a009b0515053664e200b81c7100b40419acf7100600a47d10df00b67100b404192a110099cf00b61c04195000b61c2a043a5e00b61b2a
set_option maxRecDepth 100000 in
theorem zl_cX3_ways : cX3_ways.data.toList = z_un 98 zN_cX3_ways := eq_of_beq (by decide +kernel)
theorem dX3_ways_24 : decode cX3_ways 24 = .ok (.getfield 113, 3) := z_row zl_cX3_ways 24 7405748 (Nat.le_of_ble_eq_true rfl) (by decide +kernel) z_o180 (by decide +kernel)
theorem dX3_ways_27 : decode cX3_ways 27 = .ok (.invokevirtual 223, 3) := z_row zl_cX3_ways 27 14614710 (Nat.le_of_ble_eq_true rfl) (by decide +kernel) z_o182 (by decide +kernel)
theorem dX3_ways_30 : decode cX3_ways 30 = .ok (.bipush 125, 2) := z_row zl_cX3_ways 30 10779920 (Nat.le_of_ble_eq_true rfl) (by decide +kernel) z_o16 (by decide +kernel)
theorem dX3_ways_32 : decode cX3_ways 32 = .ok (.if_icmp .le 6, 3) := z_row zl_cX3_ways 32 393380 (Nat.le_of_ble_eq_true rfl) (by decide +kernel) z_o164 (by decide +kernel)
theorem dX3_ways_35 : decode cX3_ways 35 = .ok (.bipush (-9), 2) := z_row zl_cX3_ways 35 11335440 (Nat.le_of_ble_eq_true rfl) (by decide +kernel) z_o16 (by decide +kernel)
theorem dX3_ways_37 : decode cX3_ways 37 = .ok (.ireturn, 1) := z_row zl_cX3_ways 37 268716 (Nat.le_of_ble_eq_true rfl) (by decide +kernel) z_o172 (by decide +kernel)
theorem dX3_ways_38 : decode cX3_ways 38 = .ok (.aload 4, 2) := z_row zl_cX3_ways 38 11797529 (Nat.le_of_ble_eq_true rfl) (by decide +kernel) z_o25 (by decide +kernel)
theorem dX3_ways_40 : decode cX3_ways 40 = .ok (.getfield 113, 3) := z_row zl_cX3_ways 40 7405748 (Nat.le_of_ble_eq_true rfl) (by decide +kernel) z_o180 (by decide +kernel)
theorem dX3_ways_43 : decode cX3_ways 43 = .ok (.iload_n 2, 1) := z_row zl_cX3_ways 43 47132 (Nat.le_of_ble_eq_true rfl) (by decide +kernel) z_o28 (by decide +kernel)
theorem dX3_ways_44 : decode cX3_ways 44 = .ok (.invokestatic 226, 3) := z_row zl_cX3_ways 44 14811320 (Nat.le_of_ble_eq_true rfl) (by decide +kernel) z_o184 (by decide +kernel)
theorem dX3_ways_47 : decode cX3_ways 47 = .ok (.isub, 1) := z_row zl_cX3_ways 47 341604 (Nat.le_of_ble_eq_true rfl) (by decide +kernel) z_o100 (by decide +kernel)
theorem dX3_ways_48 : decode cX3_ways 48 = .ok (.istore 5, 2) := z_row zl_cX3_ways 48 1377590 (Nat.le_of_ble_eq_true rfl) (by decide +kernel) z_o54 (by decide +kernel)
theorem dX3_ways_50 : decode cX3_ways 50 = .ok (.iload 5, 2) := z_row zl_cX3_ways 50 10159381 (Nat.le_of_ble_eq_true rfl) (by decide +kernel) z_o21 (by decide +kernel)
theorem dX3_ways_52 : decode cX3_ways 52 = .ok (.ifCond .lt 10, 3) := z_row zl_cX3_ways 52 655515 (Nat.le_of_ble_eq_true rfl) (by decide +kernel) z_o155 (by decide +kernel)
theorem dX3_ways_55 : decode cX3_ways 55 = .ok (.aload_n 0, 1) := z_row zl_cX3_ways 55 333098 (Nat.le_of_ble_eq_true rfl) (by decide +kernel) z_o42 (by decide +kernel)
theorem dX3_ways_56 : decode cX3_ways 56 = .ok (.iload 5, 2) := z_row zl_cX3_ways 56 11928853 (Nat.le_of_ble_eq_true rfl) (by decide +kernel) z_o21 (by decide +kernel)
theorem dX3_ways_58 : decode cX3_ways 58 = .ok (.invokevirtual 223, 3) := z_row zl_cX3_ways 58 14614710 (Nat.le_of_ble_eq_true rfl) (by decide +kernel) z_o182 (by decide +kernel)
theorem dX3_ways_61 : decode cX3_ways 61 = .ok (.ireturn, 1) := z_row zl_cX3_ways 61 1649324 (Nat.le_of_ble_eq_true rfl) (by decide +kernel) z_o172 (by decide +kernel)
theorem dX3_ways_62 : decode cX3_ways 62 = .ok (.aload_n 0, 1) := z_row zl_cX3_ways 62 268586 (Nat.le_of_ble_eq_true rfl) (by decide +kernel) z_o42 (by decide +kernel)
theorem dX3_ways_63 : decode cX3_ways 63 = .ok (.aload 4, 2) := z_row zl_cX3_ways 63 1836057 (Nat.le_of_ble_eq_true rfl) (by decide +kernel) z_o25 (by decide +kernel)
theorem dX3_ways_65 : decode cX3_ways 65 = .ok (.iload_n 2, 1) := z_row zl_cX3_ways 65 46620 (Nat.le_of_ble_eq_true rfl) (by decide +kernel) z_o28 (by decide +kernel)
theorem dX3_ways_66 : decode cX3_ways 66 = .ok (.invokevirtual 198, 3) := z_row zl_cX3_ways 66 12976310 (Nat.le_of_ble_eq_true rfl) (by decide +kernel) z_o182 (by decide +kernel)
theorem dX3_ways_69 : decode cX3_ways 69 = .ok (.ifCond .eq 27, 3) := z_row zl_cX3_ways 69 1769625 (Nat.le_of_ble_eq_true rfl) (by decide +kernel) z_o153 (by decide +kernel)
theorem dX3_ways_72 : decode cX3_ways 72 = .ok (.aload_n 0, 1) := z_row zl_cX3_ways 72 268586 (Nat.le_of_ble_eq_true rfl) (by decide +kernel) z_o42 (by decide +kernel)
theorem dX3_ways_73 : decode cX3_ways 73 = .ok (.aload 4, 2) := z_row zl_cX3_ways 73 1836057 (Nat.le_of_ble_eq_true rfl) (by decide +kernel) z_o25 (by decide +kernel)
theorem dX3_ways_75 : decode cX3_ways 75 = .ok (.iload_n 2, 1) := z_row zl_cX3_ways 75 11928348 (Nat.le_of_ble_eq_true rfl) (by decide +kernel) z_o28 (by decide +kernel)
theorem dX3_ways_76 : decode cX3_ways 76 = .ok (.iconst 0, 1) := z_row zl_cX3_ways 76 46595 (Nat.le_of_ble_eq_true rfl) (by decide +kernel) z_o3 (by decide +kernel)
theorem dX3_ways_77 : decode cX3_ways 77 = .ok (.invokevirtual 178, 3) := z_row zl_cX3_ways 77 11665590 (Nat.le_of_ble_eq_true rfl) (by decide +kernel) z_o182 (by decide +kernel)
theorem dX3_ways_80 : decode cX3_ways 80 = .ok (.aload_n 0, 1) := z_row zl_cX3_ways 80 46122 (Nat.le_of_ble_eq_true rfl) (by decide +kernel) z_o42 (by decide +kernel)
theorem dX3_ways_81 : decode cX3_ways 81 = .ok (.getfield 10, 3) := z_row zl_cX3_ways 81 655540 (Nat.le_of_ble_eq_true rfl) (by decide +kernel) z_o180 (by decide +kernel)
theorem dX3_ways_84 : decode cX3_ways 84 = .ok (.iload_n 3, 1) := z_row zl_cX3_ways 84 11961629 (Nat.le_of_ble_eq_true rfl) (by decide +kernel) z_o29 (by decide +kernel)
theorem dX3_ways_85 : decode cX3_ways 85 = .ok (.i2l, 1) := z_row zl_cX3_ways 85 46725 (Nat.le_of_ble_eq_true rfl) (by decide +kernel) z_o133 (by decide +kernel)
theorem dX3_ways_86 : decode cX3_ways 86 = .ok (.invokevirtual 59, 3) := z_row zl_cX3_ways 86 3866806 (Nat.le_of_ble_eq_true rfl) (by decide +kernel) z_o182 (by decide +kernel)
theorem dX3_ways_89 : decode cX3_ways 89 = .ok (.if_icmp .ne 7, 3) := z_row zl_cX3_ways 89 458912 (Nat.le_of_ble_eq_true rfl) (by decide +kernel) z_o160 (by decide +kernel)
theorem dX3_ways_92 : decode cX3_ways 92 = .ok (.iconst 1, 1) := z_row zl_cX3_ways 92 42756 (Nat.le_of_ble_eq_true rfl) (by decide +kernel) z_o4 (by decide +kernel)
theorem dX3_ways_93 : decode cX3_ways 93 = .ok (.goto 4, 3) := z_row zl_cX3_ways 93 262311 (Nat.le_of_ble_eq_true rfl) (by decide +kernel) z_o167 (by decide +kernel)
set_option maxRecDepth 100000 in
theorem dX3_ways_96 : decode cX3_ways 96 = .ok (.iconst 0, 1) := by decide +kernel
set_option maxRecDepth 100000 in
theorem dX3_ways_97 : decode cX3_ways 97 = .ok (.ireturn, 1) := by decide +kernel
set_option maxRecDepth 100000 in
theorem dX3_total_0 : decode cX3_total 0 = .ok (.aload_n 0, 1) := by decide +kernel
set_option maxRecDepth 100000 in
theorem dX3_total_1 : decode cX3_total 1 = .ok (.iload_n 1, 1) := by decide +kernel
set_option maxRecDepth 100000 in
theorem dX3_total_2 : decode cX3_total 2 = .ok (.invokevirtual 94, 3) := by decide +kernel
set_option maxRecDepth 100000 in
theorem dX3_total_5 : decode cX3_total 5 = .ok (.astore_n 3, 1) := by decide +kernel
set_option maxRecDepth 100000 in
theorem dX3_total_6 : decode cX3_total 6 = .ok (.aload_n 0, 1) := by decide +kernel
set_option maxRecDepth 100000 in
theorem dX3_total_7 : decode cX3_total 7 = .ok (.iload_n 2, 1) := by decide +kernel
set_option maxRecDepth 100000 in
theorem dX3_total_8 : decode cX3_total 8 = .ok (.invokevirtual 80, 3) := by decide +kernel
set_option maxRecDepth 100000 in
theorem dX3_total_11 : decode cX3_total 11 = .ok (.aload_n 3, 1) := by decide +kernel
set_option maxRecDepth 100000 in
theorem dX3_total_12 : decode cX3_total 12 = .ok (.iload_n 2, 1) := by decide +kernel
set_option maxRecDepth 100000 in
theorem dX3_total_13 : decode cX3_total 13 = .ok (.invokevirtual 207, 3) := by decide +kernel
set_option maxRecDepth 100000 in
theorem dX3_total_16 : decode cX3_total 16 = .ok (.ifCond .ne 6, 3) := by decide +kernel
set_option maxRecDepth 100000 in
theorem dX3_total_19 : decode cX3_total 19 = .ok (.bipush (-9), 2) := by decide +kernel
set_option maxRecDepth 100000 in
theorem dX3_total_21 : decode cX3_total 21 = .ok (.ireturn, 1) := by decide +kernel
set_option maxRecDepth 100000 in
theorem dX3_total_22 : decode cX3_total 22 = .ok (.iconst 0, 1) := by decide +kernel
set_option maxRecDepth 100000 in
theorem dX3_total_23 : decode cX3_total 23 = .ok (.istore 4, 2) := by decide +kernel
def zN_cX3_total : Nat := 0xac0415ddffa70105840436607b00b605152d04150e00995300b805151c1d00a37400b40a00b42a0515053604043603acf71006009acf00b61c2d5000b61c2a4e5e00b61b2a
set_option maxRecDepth 100000 in
theorem zl_cX3_total : cX3_total.data.toList = z_un 69 zN_cX3_total := eq_of_beq (by decide +kernel)
theorem dX3_total_25 : decode cX3_total 25 = .ok (.iconst 1, 1) := z_row zl_cX3_total 25 341508 (Nat.le_of_ble_eq_true rfl) (by decide +kernel) z_o4 (by decide +kernel)
theorem dX3_total_26 : decode cX3_total 26 = .ok (.istore 5, 2) := z_row zl_cX3_total 26 1377590 (Nat.le_of_ble_eq_true rfl) (by decide +kernel) z_o54 (by decide +kernel)
theorem dX3_total_28 : decode cX3_total 28 = .ok (.iload 5, 2) := z_row zl_cX3_total 28 2753813 (Nat.le_of_ble_eq_true rfl) (by decide +kernel) z_o21 (by decide +kernel)
theorem dX3_total_30 : decode cX3_total 30 = .ok (.aload_n 0, 1) := z_row zl_cX3_total 30 46122 (Nat.le_of_ble_eq_true rfl) (by decide +kernel) z_o42 (by decide +kernel)
theorem dX3_total_31 : decode cX3_total 31 = .ok (.getfield 10, 3) := z_row zl_cX3_total 31 655540 (Nat.le_of_ble_eq_true rfl) (by decide +kernel) z_o180 (by decide +kernel)
theorem dX3_total_34 : decode cX3_total 34 = .ok (.getfield 116, 3) := z_row zl_cX3_total 34 7602356 (Nat.le_of_ble_eq_true rfl) (by decide +kernel) z_o180 (by decide +kernel)
theorem dX3_total_37 : decode cX3_total 37 = .ok (.if_icmp .gt 29, 3) := z_row zl_cX3_total 37 1900707 (Nat.le_of_ble_eq_true rfl) (by decide +kernel) z_o163 (by decide +kernel)
theorem dX3_total_40 : decode cX3_total 40 = .ok (.iload_n 2, 1) := z_row zl_cX3_total 40 333084 (Nat.le_of_ble_eq_true rfl) (by decide +kernel) z_o28 (by decide +kernel)
theorem dX3_total_41 : decode cX3_total 41 = .ok (.iload 5, 2) := z_row zl_cX3_total 41 12059925 (Nat.le_of_ble_eq_true rfl) (by decide +kernel) z_o21 (by decide +kernel)
theorem dX3_total_43 : decode cX3_total 43 = .ok (.invokestatic 83, 3) := z_row zl_cX3_total 43 5439672 (Nat.le_of_ble_eq_true rfl) (by decide +kernel) z_o184 (by decide +kernel)
theorem dX3_total_46 : decode cX3_total 46 = .ok (.ifCond .eq 14, 3) := z_row zl_cX3_total 46 917657 (Nat.le_of_ble_eq_true rfl) (by decide +kernel) z_o153 (by decide +kernel)
theorem dX3_total_49 : decode cX3_total 49 = .ok (.iload 4, 2) := z_row zl_cX3_total 49 2950165 (Nat.le_of_ble_eq_true rfl) (by decide +kernel) z_o21 (by decide +kernel)
theorem dX3_total_51 : decode cX3_total 51 = .ok (.aload_n 3, 1) := z_row zl_cX3_total 51 333101 (Nat.le_of_ble_eq_true rfl) (by decide +kernel) z_o45 (by decide +kernel)
theorem dX3_total_52 : decode cX3_total 52 = .ok (.iload 5, 2) := z_row zl_cX3_total 52 11928853 (Nat.le_of_ble_eq_true rfl) (by decide +kernel) z_o21 (by decide +kernel)
theorem dX3_total_54 : decode cX3_total 54 = .ok (.invokevirtual 123, 3) := z_row zl_cX3_total 54 8061110 (Nat.le_of_ble_eq_true rfl) (by decide +kernel) z_o182 (by decide +kernel)
theorem dX3_total_57 : decode cX3_total 57 = .ok (.iadd, 1) := z_row zl_cX3_total 57 276064 (Nat.le_of_ble_eq_true rfl) (by decide +kernel) z_o96 (by decide +kernel)
theorem dX3_total_58 : decode cX3_total 58 = .ok (.istore 4, 2) := z_row zl_cX3_total 58 8651830 (Nat.le_of_ble_eq_true rfl) (by decide +kernel) z_o54 (by decide +kernel)
theorem dX3_total_60 : decode cX3_total 60 = .ok (.iinc 5 1, 3) := z_row zl_cX3_total 60 66948 (Nat.le_of_ble_eq_true rfl) (by decide +kernel) z_o132 (by decide +kernel)
theorem dX3_total_63 : decode cX3_total 63 = .ok (.goto (-35), 3) := z_row zl_cX3_total 63 14548903 (Nat.le_of_ble_eq_true rfl) (by decide +kernel) z_o167 (by decide +kernel)
theorem dX3_total_66 : decode cX3_total 66 = .ok (.iload 4, 2) := z_row zl_cX3_total 66 11273237 (Nat.le_of_ble_eq_true rfl) (by decide +kernel) z_o21 (by decide +kernel)
set_option maxRecDepth 100000 in
theorem dX3_total_68 : decode cX3_total 68 = .ok (.ireturn, 1) := by decide +kernel
set_option maxRecDepth 100000 in
theorem dX3_seal_0 : decode cX3_seal 0 = .ok (.aload_n 0, 1) := by decide +kernel
set_option maxRecDepth 100000 in
theorem dX3_seal_1 : decode cX3_seal 1 = .ok (.iload_n 1, 1) := by decide +kernel
set_option maxRecDepth 100000 in
theorem dX3_seal_2 : decode cX3_seal 2 = .ok (.invokevirtual 94, 3) := by decide +kernel
set_option maxRecDepth 100000 in
theorem dX3_seal_5 : decode cX3_seal 5 = .ok (.astore_n 3, 1) := by decide +kernel
set_option maxRecDepth 100000 in
theorem dX3_seal_6 : decode cX3_seal 6 = .ok (.iload_n 2, 1) := by decide +kernel
set_option maxRecDepth 100000 in
theorem dX3_seal_7 : decode cX3_seal 7 = .ok (.invokestatic 210, 3) := by decide +kernel
set_option maxRecDepth 100000 in
theorem dX3_seal_10 : decode cX3_seal 10 = .ok (.aload_n 3, 1) := by decide +kernel
set_option maxRecDepth 100000 in
theorem dX3_seal_11 : decode cX3_seal 11 = .ok (.iload_n 2, 1) := by decide +kernel
set_option maxRecDepth 100000 in
theorem dX3_seal_12 : decode cX3_seal 12 = .ok (.invokevirtual 137, 3) := by decide +kernel
set_option maxRecDepth 100000 in
theorem dX3_seal_15 : decode cX3_seal 15 = .ok (.ireturn, 1) := by decide +kernel
set_option maxRecDepth 100000 in
theorem dX3_fits_0 : decode cX3_fits 0 = .ok (.aload_n 0, 1) := by decide +kernel
set_option maxRecDepth 100000 in
theorem dX3_fits_1 : decode cX3_fits 1 = .ok (.iload_n 1, 1) := by decide +kernel
set_option maxRecDepth 100000 in
theorem dX3_fits_2 : decode cX3_fits 2 = .ok (.invokevirtual 94, 3) := by decide +kernel
set_option maxRecDepth 100000 in
theorem dX3_fits_5 : decode cX3_fits 5 = .ok (.astore_n 3, 1) := by decide +kernel
set_option maxRecDepth 100000 in
theorem dX3_fits_6 : decode cX3_fits 6 = .ok (.aload_n 0, 1) := by decide +kernel
set_option maxRecDepth 100000 in
theorem dX3_fits_7 : decode cX3_fits 7 = .ok (.iload_n 2, 1) := by decide +kernel
set_option maxRecDepth 100000 in
theorem dX3_fits_8 : decode cX3_fits 8 = .ok (.invokevirtual 77, 3) := by decide +kernel
set_option maxRecDepth 100000 in
theorem dX3_fits_11 : decode cX3_fits 11 = .ok (.aload_n 3, 1) := by decide +kernel
set_option maxRecDepth 100000 in
theorem dX3_fits_12 : decode cX3_fits 12 = .ok (.invokevirtual 195, 3) := by decide +kernel
set_option maxRecDepth 100000 in
theorem dX3_fits_15 : decode cX3_fits 15 = .ok (.ifCond .eq 11, 3) := by decide +kernel
set_option maxRecDepth 100000 in
theorem dX3_fits_18 : decode cX3_fits 18 = .ok (.aload_n 3, 1) := by decide +kernel
set_option maxRecDepth 100000 in
theorem dX3_fits_19 : decode cX3_fits 19 = .ok (.iload_n 2, 1) := by decide +kernel
set_option maxRecDepth 100000 in
theorem dX3_fits_20 : decode cX3_fits 20 = .ok (.invokevirtual 119, 3) := by decide +kernel
set_option maxRecDepth 100000 in
theorem dX3_fits_23 : decode cX3_fits 23 = .ok (.ifCond .ne 6, 3) := by decide +kernel
def zN_cX3_fits : Nat := 0xac030400a704070099e700b61c2d2aacf71006009a7700b61c2d0b0099c300b62d4d00b61c2a4e5e00b61b2a
set_option maxRecDepth 100000 in
theorem zl_cX3_fits : cX3_fits.data.toList = z_un 44 zN_cX3_fits := eq_of_beq (by decide +kernel)
theorem dX3_fits_26 : decode cX3_fits 26 = .ok (.bipush (-9), 2) := z_row zl_cX3_fits 26 11335440 (Nat.le_of_ble_eq_true rfl) (by decide +kernel) z_o16 (by decide +kernel)
theorem dX3_fits_28 : decode cX3_fits 28 = .ok (.ireturn, 1) := z_row zl_cX3_fits 28 2960044 (Nat.le_of_ble_eq_true rfl) (by decide +kernel) z_o172 (by decide +kernel)
theorem dX3_fits_29 : decode cX3_fits 29 = .ok (.aload_n 0, 1) := z_row zl_cX3_fits 29 1846570 (Nat.le_of_ble_eq_true rfl) (by decide +kernel) z_o42 (by decide +kernel)
theorem dX3_fits_30 : decode cX3_fits 30 = .ok (.aload_n 3, 1) := z_row zl_cX3_fits 30 11934765 (Nat.le_of_ble_eq_true rfl) (by decide +kernel) z_o45 (by decide +kernel)
theorem dX3_fits_31 : decode cX3_fits 31 = .ok (.iload_n 2, 1) := z_row zl_cX3_fits 31 46620 (Nat.le_of_ble_eq_true rfl) (by decide +kernel) z_o28 (by decide +kernel)
theorem dX3_fits_32 : decode cX3_fits 32 = .ok (.invokevirtual 231, 3) := z_row zl_cX3_fits 32 15138998 (Nat.le_of_ble_eq_true rfl) (by decide +kernel) z_o182 (by decide +kernel)
theorem dX3_fits_35 : decode cX3_fits 35 = .ok (.ifCond .eq 7, 3) := z_row zl_cX3_fits 35 458905 (Nat.le_of_ble_eq_true rfl) (by decide +kernel) z_o153 (by decide +kernel)
theorem dX3_fits_38 : decode cX3_fits 38 = .ok (.iconst 1, 1) := z_row zl_cX3_fits 38 42756 (Nat.le_of_ble_eq_true rfl) (by decide +kernel) z_o4 (by decide +kernel)
theorem dX3_fits_39 : decode cX3_fits 39 = .ok (.goto 4, 3) := z_row zl_cX3_fits 39 262311 (Nat.le_of_ble_eq_true rfl) (by decide +kernel) z_o167 (by decide +kernel)
set_option maxRecDepth 100000 in
theorem dX3_fits_42 : decode cX3_fits 42 = .ok (.iconst 0, 1) := by decide +kernel
set_option maxRecDepth 100000 in
theorem dX3_fits_43 : decode cX3_fits 43 = .ok (.ireturn, 1) := by decide +kernel
set_option maxRecDepth 100000 in
theorem dX3_order_0 : decode cX3_order 0 = .ok (.aload_n 0, 1) := by decide +kernel
set_option maxRecDepth 100000 in
theorem dX3_order_1 : decode cX3_order 1 = .ok (.iload_n 1, 1) := by decide +kernel
set_option maxRecDepth 100000 in
theorem dX3_order_2 : decode cX3_order 2 = .ok (.invokevirtual 94, 3) := by decide +kernel
set_option maxRecDepth 100000 in
theorem dX3_order_5 : decode cX3_order 5 = .ok (.astore 4, 2) := by decide +kernel
set_option maxRecDepth 100000 in
theorem dX3_order_7 : decode cX3_order 7 = .ok (.aload_n 0, 1) := by decide +kernel
set_option maxRecDepth 100000 in
theorem dX3_order_8 : decode cX3_order 8 = .ok (.iload_n 2, 1) := by decide +kernel
set_option maxRecDepth 100000 in
theorem dX3_order_9 : decode cX3_order 9 = .ok (.invokevirtual 94, 3) := by decide +kernel
set_option maxRecDepth 100000 in
theorem dX3_order_12 : decode cX3_order 12 = .ok (.astore 5, 2) := by decide +kernel
set_option maxRecDepth 100000 in
theorem dX3_order_14 : decode cX3_order 14 = .ok (.aload_n 0, 1) := by decide +kernel
set_option maxRecDepth 100000 in
theorem dX3_order_15 : decode cX3_order 15 = .ok (.iload_n 3, 1) := by decide +kernel
set_option maxRecDepth 100000 in
theorem dX3_order_16 : decode cX3_order 16 = .ok (.invokevirtual 77, 3) := by decide +kernel
set_option maxRecDepth 100000 in
theorem dX3_order_19 : decode cX3_order 19 = .ok (.aload 4, 2) := by decide +kernel
set_option maxRecDepth 100000 in
theorem dX3_order_21 : decode cX3_order 21 = .ok (.iload_n 3, 1) := by decide +kernel
set_option maxRecDepth 100000 in
theorem dX3_order_22 : decode cX3_order 22 = .ok (.invokevirtual 119, 3) := by decide +kernel
def zN_cX3_order : Nat := 0xac030400a7040700a4071506150f00a7020700a20715061507367b00b61d051906367b00b61d0419acf71006009a7700b61d05190c00997700b61d04194d00b61d2a053a5e00b61c2a043a5e00b61b2a
set_option maxRecDepth 100000 in
theorem zl_cX3_order : cX3_order.data.toList = z_un 80 zN_cX3_order := eq_of_beq (by decide +kernel)
theorem dX3_order_25 : decode cX3_order 25 = .ok (.ifCond .eq 12, 3) := z_row zl_cX3_order 25 786585 (Nat.le_of_ble_eq_true rfl) (by decide +kernel) z_o153 (by decide +kernel)
theorem dX3_order_28 : decode cX3_order 28 = .ok (.aload 5, 2) := z_row zl_cX3_order 28 1901849 (Nat.le_of_ble_eq_true rfl) (by decide +kernel) z_o25 (by decide +kernel)
theorem dX3_order_30 : decode cX3_order 30 = .ok (.iload_n 3, 1) := z_row zl_cX3_order 30 46621 (Nat.le_of_ble_eq_true rfl) (by decide +kernel) z_o29 (by decide +kernel)
theorem dX3_order_31 : decode cX3_order 31 = .ok (.invokevirtual 119, 3) := z_row zl_cX3_order 31 7798966 (Nat.le_of_ble_eq_true rfl) (by decide +kernel) z_o182 (by decide +kernel)
theorem dX3_order_34 : decode cX3_order 34 = .ok (.ifCond .ne 6, 3) := z_row zl_cX3_order 34 393370 (Nat.le_of_ble_eq_true rfl) (by decide +kernel) z_o154 (by decide +kernel)
theorem dX3_order_37 : decode cX3_order 37 = .ok (.bipush (-9), 2) := z_row zl_cX3_order 37 11335440 (Nat.le_of_ble_eq_true rfl) (by decide +kernel) z_o16 (by decide +kernel)
theorem dX3_order_39 : decode cX3_order 39 = .ok (.ireturn, 1) := z_row zl_cX3_order 39 268716 (Nat.le_of_ble_eq_true rfl) (by decide +kernel) z_o172 (by decide +kernel)
theorem dX3_order_40 : decode cX3_order 40 = .ok (.aload 4, 2) := z_row zl_cX3_order 40 1901593 (Nat.le_of_ble_eq_true rfl) (by decide +kernel) z_o25 (by decide +kernel)
theorem dX3_order_42 : decode cX3_order 42 = .ok (.iload_n 3, 1) := z_row zl_cX3_order 42 46621 (Nat.le_of_ble_eq_true rfl) (by decide +kernel) z_o29 (by decide +kernel)
theorem dX3_order_43 : decode cX3_order 43 = .ok (.invokevirtual 123, 3) := z_row zl_cX3_order 43 8061110 (Nat.le_of_ble_eq_true rfl) (by decide +kernel) z_o182 (by decide +kernel)
theorem dX3_order_46 : decode cX3_order 46 = .ok (.istore 6, 2) := z_row zl_cX3_order 46 1639990 (Nat.le_of_ble_eq_true rfl) (by decide +kernel) z_o54 (by decide +kernel)
theorem dX3_order_48 : decode cX3_order 48 = .ok (.aload 5, 2) := z_row zl_cX3_order 48 1901849 (Nat.le_of_ble_eq_true rfl) (by decide +kernel) z_o25 (by decide +kernel)
theorem dX3_order_50 : decode cX3_order 50 = .ok (.iload_n 3, 1) := z_row zl_cX3_order 50 46621 (Nat.le_of_ble_eq_true rfl) (by decide +kernel) z_o29 (by decide +kernel)
theorem dX3_order_51 : decode cX3_order 51 = .ok (.invokevirtual 123, 3) := z_row zl_cX3_order 51 8061110 (Nat.le_of_ble_eq_true rfl) (by decide +kernel) z_o182 (by decide +kernel)
theorem dX3_order_54 : decode cX3_order 54 = .ok (.istore 7, 2) := z_row zl_cX3_order 54 1378102 (Nat.le_of_ble_eq_true rfl) (by decide +kernel) z_o54 (by decide +kernel)
theorem dX3_order_56 : decode cX3_order 56 = .ok (.iload 6, 2) := z_row zl_cX3_order 56 1377813 (Nat.le_of_ble_eq_true rfl) (by decide +kernel) z_o21 (by decide +kernel)
theorem dX3_order_58 : decode cX3_order 58 = .ok (.iload 7, 2) := z_row zl_cX3_order 58 10618645 (Nat.le_of_ble_eq_true rfl) (by decide +kernel) z_o21 (by decide +kernel)
theorem dX3_order_60 : decode cX3_order 60 = .ok (.if_icmp .ge 7, 3) := z_row zl_cX3_order 60 458914 (Nat.le_of_ble_eq_true rfl) (by decide +kernel) z_o162 (by decide +kernel)
theorem dX3_order_63 : decode cX3_order 63 = .ok (.iconst (-1), 1) := z_row zl_cX3_order 63 42754 (Nat.le_of_ble_eq_true rfl) (by decide +kernel) z_o2 (by decide +kernel)
theorem dX3_order_64 : decode cX3_order 64 = .ok (.goto 15, 3) := z_row zl_cX3_order 64 983207 (Nat.le_of_ble_eq_true rfl) (by decide +kernel) z_o167 (by decide +kernel)
theorem dX3_order_67 : decode cX3_order 67 = .ok (.iload 6, 2) := z_row zl_cX3_order 67 1377813 (Nat.le_of_ble_eq_true rfl) (by decide +kernel) z_o21 (by decide +kernel)
theorem dX3_order_69 : decode cX3_order 69 = .ok (.iload 7, 2) := z_row zl_cX3_order 69 10749717 (Nat.le_of_ble_eq_true rfl) (by decide +kernel) z_o21 (by decide +kernel)
theorem dX3_order_71 : decode cX3_order 71 = .ok (.if_icmp .le 7, 3) := z_row zl_cX3_order 71 458916 (Nat.le_of_ble_eq_true rfl) (by decide +kernel) z_o164 (by decide +kernel)
theorem dX3_order_74 : decode cX3_order 74 = .ok (.iconst 1, 1) := z_row zl_cX3_order 74 42756 (Nat.le_of_ble_eq_true rfl) (by decide +kernel) z_o4 (by decide +kernel)
theorem dX3_order_75 : decode cX3_order 75 = .ok (.goto 4, 3) := z_row zl_cX3_order 75 262311 (Nat.le_of_ble_eq_true rfl) (by decide +kernel) z_o167 (by decide +kernel)
set_option maxRecDepth 100000 in
theorem dX3_order_78 : decode cX3_order 78 = .ok (.iconst 0, 1) := by decide +kernel
set_option maxRecDepth 100000 in
theorem dX3_order_79 : decode cX3_order 79 = .ok (.ireturn, 1) := by decide +kernel
set_option maxRecDepth 100000 in
theorem dX3_most_0 : decode cX3_most 0 = .ok (.aload_n 0, 1) := by decide +kernel
set_option maxRecDepth 100000 in
theorem dX3_most_1 : decode cX3_most 1 = .ok (.iload_n 1, 1) := by decide +kernel
set_option maxRecDepth 100000 in
theorem dX3_most_2 : decode cX3_most 2 = .ok (.invokevirtual 94, 3) := by decide +kernel
set_option maxRecDepth 100000 in
theorem dX3_most_5 : decode cX3_most 5 = .ok (.astore_n 3, 1) := by decide +kernel
set_option maxRecDepth 100000 in
theorem dX3_most_6 : decode cX3_most 6 = .ok (.aload_n 3, 1) := by decide +kernel
set_option maxRecDepth 100000 in
theorem dX3_most_7 : decode cX3_most 7 = .ok (.invokevirtual 109, 3) := by decide +kernel
set_option maxRecDepth 100000 in
theorem dX3_most_10 : decode cX3_most 10 = .ok (.ifCond .eq 6, 3) := by decide +kernel
set_option maxRecDepth 100000 in
theorem dX3_most_13 : decode cX3_most 13 = .ok (.bipush (-9), 2) := by decide +kernel
set_option maxRecDepth 100000 in
theorem dX3_most_15 : decode cX3_most 15 = .ok (.ireturn, 1) := by decide +kernel
set_option maxRecDepth 100000 in
theorem dX3_most_16 : decode cX3_most 16 = .ok (.iconst 0, 1) := by decide +kernel
set_option maxRecDepth 100000 in
theorem dX3_most_17 : decode cX3_most 17 = .ok (.istore 4, 2) := by decide +kernel
set_option maxRecDepth 100000 in
theorem dX3_most_19 : decode cX3_most 19 = .ok (.iconst 0, 1) := by decide +kernel
set_option maxRecDepth 100000 in
theorem dX3_most_20 : decode cX3_most 20 = .ok (.istore 5, 2) := by decide +kernel
set_option maxRecDepth 100000 in
theorem dX3_most_22 : decode cX3_most 22 = .ok (.iconst 1, 1) := by decide +kernel
set_option maxRecDepth 100000 in
theorem dX3_most_23 : decode cX3_most 23 = .ok (.istore 6, 2) := by decide +kernel
def zN_cX3_most : Nat := 0xac0415b5ffa701068405360715043606150b0099081510009f0207150836030400a7040700a4051507150a00a71100a2051507150d00991c180099041507367b00b606152d4500a37400b40a00b42a0615063604053603043603acf7100600996d00b62d4e5e00b61b2a
set_option maxRecDepth 100000 in
theorem zl_cX3_most : cX3_most.data.toList = z_un 106 zN_cX3_most := eq_of_beq (by decide +kernel)
theorem dX3_most_25 : decode cX3_most 25 = .ok (.iload 6, 2) := z_row zl_cX3_most 25 2754069 (Nat.le_of_ble_eq_true rfl) (by decide +kernel) z_o21 (by decide +kernel)
theorem dX3_most_27 : decode cX3_most 27 = .ok (.aload_n 0, 1) := z_row zl_cX3_most 27 46122 (Nat.le_of_ble_eq_true rfl) (by decide +kernel) z_o42 (by decide +kernel)
theorem dX3_most_28 : decode cX3_most 28 = .ok (.getfield 10, 3) := z_row zl_cX3_most 28 655540 (Nat.le_of_ble_eq_true rfl) (by decide +kernel) z_o180 (by decide +kernel)
theorem dX3_most_31 : decode cX3_most 31 = .ok (.getfield 116, 3) := z_row zl_cX3_most 31 7602356 (Nat.le_of_ble_eq_true rfl) (by decide +kernel) z_o180 (by decide +kernel)
theorem dX3_most_34 : decode cX3_most 34 = .ok (.if_icmp .gt 69, 3) := z_row zl_cX3_most 34 4522147 (Nat.le_of_ble_eq_true rfl) (by decide +kernel) z_o163 (by decide +kernel)
theorem dX3_most_37 : decode cX3_most 37 = .ok (.aload_n 3, 1) := z_row zl_cX3_most 37 398637 (Nat.le_of_ble_eq_true rfl) (by decide +kernel) z_o45 (by decide +kernel)
theorem dX3_most_38 : decode cX3_most 38 = .ok (.iload 6, 2) := z_row zl_cX3_most 38 11929109 (Nat.le_of_ble_eq_true rfl) (by decide +kernel) z_o21 (by decide +kernel)
theorem dX3_most_40 : decode cX3_most 40 = .ok (.invokevirtual 123, 3) := z_row zl_cX3_most 40 8061110 (Nat.le_of_ble_eq_true rfl) (by decide +kernel) z_o182 (by decide +kernel)
theorem dX3_most_43 : decode cX3_most 43 = .ok (.istore 7, 2) := z_row zl_cX3_most 43 1378102 (Nat.le_of_ble_eq_true rfl) (by decide +kernel) z_o54 (by decide +kernel)
theorem dX3_most_45 : decode cX3_most 45 = .ok (.iload 4, 2) := z_row zl_cX3_most 45 10028053 (Nat.le_of_ble_eq_true rfl) (by decide +kernel) z_o21 (by decide +kernel)
theorem dX3_most_47 : decode cX3_most 47 = .ok (.ifCond .eq 24, 3) := z_row zl_cX3_most 47 1573017 (Nat.le_of_ble_eq_true rfl) (by decide +kernel) z_o153 (by decide +kernel)
theorem dX3_most_50 : decode cX3_most 50 = .ok (.iload_n 2, 1) := z_row zl_cX3_most 50 39196 (Nat.le_of_ble_eq_true rfl) (by decide +kernel) z_o28 (by decide +kernel)
theorem dX3_most_51 : decode cX3_most 51 = .ok (.ifCond .eq 13, 3) := z_row zl_cX3_most 51 852121 (Nat.le_of_ble_eq_true rfl) (by decide +kernel) z_o153 (by decide +kernel)
theorem dX3_most_54 : decode cX3_most 54 = .ok (.iload 7, 2) := z_row zl_cX3_most 54 1378069 (Nat.le_of_ble_eq_true rfl) (by decide +kernel) z_o21 (by decide +kernel)
theorem dX3_most_56 : decode cX3_most 56 = .ok (.iload 5, 2) := z_row zl_cX3_most 56 10618133 (Nat.le_of_ble_eq_true rfl) (by decide +kernel) z_o21 (by decide +kernel)
theorem dX3_most_58 : decode cX3_most 58 = .ok (.if_icmp .ge 17, 3) := z_row zl_cX3_most 58 1114274 (Nat.le_of_ble_eq_true rfl) (by decide +kernel) z_o162 (by decide +kernel)
theorem dX3_most_61 : decode cX3_most 61 = .ok (.goto 10, 3) := z_row zl_cX3_most 61 655527 (Nat.le_of_ble_eq_true rfl) (by decide +kernel) z_o167 (by decide +kernel)
theorem dX3_most_64 : decode cX3_most 64 = .ok (.iload 7, 2) := z_row zl_cX3_most 64 1378069 (Nat.le_of_ble_eq_true rfl) (by decide +kernel) z_o21 (by decide +kernel)
theorem dX3_most_66 : decode cX3_most 66 = .ok (.iload 5, 2) := z_row zl_cX3_most 66 10749205 (Nat.le_of_ble_eq_true rfl) (by decide +kernel) z_o21 (by decide +kernel)
theorem dX3_most_68 : decode cX3_most 68 = .ok (.if_icmp .le 7, 3) := z_row zl_cX3_most 68 458916 (Nat.le_of_ble_eq_true rfl) (by decide +kernel) z_o164 (by decide +kernel)
theorem dX3_most_71 : decode cX3_most 71 = .ok (.iconst 1, 1) := z_row zl_cX3_most 71 42756 (Nat.le_of_ble_eq_true rfl) (by decide +kernel) z_o4 (by decide +kernel)
theorem dX3_most_72 : decode cX3_most 72 = .ok (.goto 4, 3) := z_row zl_cX3_most 72 262311 (Nat.le_of_ble_eq_true rfl) (by decide +kernel) z_o167 (by decide +kernel)
theorem dX3_most_75 : decode cX3_most 75 = .ok (.iconst 0, 1) := z_row zl_cX3_most 75 538115 (Nat.le_of_ble_eq_true rfl) (by decide +kernel) z_o3 (by decide +kernel)
theorem dX3_most_76 : decode cX3_most 76 = .ok (.istore 8, 2) := z_row zl_cX3_most 76 1378358 (Nat.le_of_ble_eq_true rfl) (by decide +kernel) z_o54 (by decide +kernel)
theorem dX3_most_78 : decode cX3_most 78 = .ok (.iload 7, 2) := z_row zl_cX3_most 78 132885 (Nat.le_of_ble_eq_true rfl) (by decide +kernel) z_o21 (by decide +kernel)
theorem dX3_most_80 : decode cX3_most 80 = .ok (.iconst (-1), 1) := z_row zl_cX3_most 80 40706 (Nat.le_of_ble_eq_true rfl) (by decide +kernel) z_o2 (by decide +kernel)
theorem dX3_most_81 : decode cX3_most 81 = .ok (.if_icmp .eq 16, 3) := z_row zl_cX3_most 81 1048735 (Nat.le_of_ble_eq_true rfl) (by decide +kernel) z_o159 (by decide +kernel)
theorem dX3_most_84 : decode cX3_most 84 = .ok (.iload 8, 2) := z_row zl_cX3_most 84 10029077 (Nat.le_of_ble_eq_true rfl) (by decide +kernel) z_o21 (by decide +kernel)
theorem dX3_most_86 : decode cX3_most 86 = .ok (.ifCond .eq 11, 3) := z_row zl_cX3_most 86 721049 (Nat.le_of_ble_eq_true rfl) (by decide +kernel) z_o153 (by decide +kernel)
theorem dX3_most_89 : decode cX3_most 89 = .ok (.iload 6, 2) := z_row zl_cX3_most 89 3540501 (Nat.le_of_ble_eq_true rfl) (by decide +kernel) z_o21 (by decide +kernel)
theorem dX3_most_91 : decode cX3_most 91 = .ok (.istore 4, 2) := z_row zl_cX3_most 91 1377334 (Nat.le_of_ble_eq_true rfl) (by decide +kernel) z_o54 (by decide +kernel)
theorem dX3_most_93 : decode cX3_most 93 = .ok (.iload 7, 2) := z_row zl_cX3_most 93 3540757 (Nat.le_of_ble_eq_true rfl) (by decide +kernel) z_o21 (by decide +kernel)
theorem dX3_most_95 : decode cX3_most 95 = .ok (.istore 5, 2) := z_row zl_cX3_most 95 8652086 (Nat.le_of_ble_eq_true rfl) (by decide +kernel) z_o54 (by decide +kernel)
theorem dX3_most_97 : decode cX3_most 97 = .ok (.iinc 6 1, 3) := z_row zl_cX3_most 97 67204 (Nat.le_of_ble_eq_true rfl) (by decide +kernel) z_o132 (by decide +kernel)
theorem dX3_most_100 : decode cX3_most 100 = .ok (.goto (-75), 3) := z_row zl_cX3_most 100 11927463 (Nat.le_of_ble_eq_true rfl) (by decide +kernel) z_o167 (by decide +kernel)
theorem dX3_most_103 : decode cX3_most 103 = .ok (.iload 4, 2) := z_row zl_cX3_most 103 11273237 (Nat.le_of_ble_eq_true rfl) (by decide +kernel) z_o21 (by decide +kernel)
set_option maxRecDepth 100000 in
theorem dX3_most_105 : decode cX3_most 105 = .ok (.ireturn, 1) := by decide +kernel
set_option maxRecDepth 100000 in
theorem dX3_text_0 : decode cX3_text 0 = .ok (.aload_n 0, 1) := by decide +kernel
set_option maxRecDepth 100000 in
theorem dX3_text_1 : decode cX3_text 1 = .ok (.iload_n 1, 1) := by decide +kernel
set_option maxRecDepth 100000 in
theorem dX3_text_2 : decode cX3_text 2 = .ok (.invokevirtual 94, 3) := by decide +kernel
set_option maxRecDepth 100000 in
theorem dX3_text_5 : decode cX3_text 5 = .ok (.astore_n 2, 1) := by decide +kernel
set_option maxRecDepth 100000 in
theorem dX3_text_6 : decode cX3_text 6 = .ok (.new 234, 3) := by decide +kernel
set_option maxRecDepth 100000 in
theorem dX3_text_9 : decode cX3_text 9 = .ok (.dup, 1) := by decide +kernel
set_option maxRecDepth 100000 in
theorem dX3_text_10 : decode cX3_text 10 = .ok (.invokespecial 236, 3) := by decide +kernel
set_option maxRecDepth 100000 in
theorem dX3_text_13 : decode cX3_text 13 = .ok (.astore_n 3, 1) := by decide +kernel
set_option maxRecDepth 100000 in
theorem dX3_text_14 : decode cX3_text 14 = .ok (.aload_n 2, 1) := by decide +kernel
set_option maxRecDepth 100000 in
theorem dX3_text_15 : decode cX3_text 15 = .ok (.invokevirtual 109, 3) := by decide +kernel
set_option maxRecDepth 100000 in
theorem dX3_text_18 : decode cX3_text 18 = .ok (.ifCond .eq 8, 3) := by decide +kernel
set_option maxRecDepth 100000 in
theorem dX3_text_21 : decode cX3_text 21 = .ok (.aload_n 3, 1) := by decide +kernel
set_option maxRecDepth 100000 in
theorem dX3_text_22 : decode cX3_text 22 = .ok (.invokevirtual 237, 3) := by decide +kernel
def zN_cX3_text : Nat := 0xb0ed00b62dc6ffa701048457f100b62d102d0a00a757f500b67b00b604152c2d1100997700b604152c57f100b620102d0a00a40404153400a37400b40a00b42a0415043604b0ed00b62d0800996d00b62c4eec00b759ea00bb4d5e00b61b2a
set_option maxRecDepth 100000 in
theorem zl_cX3_text : cX3_text.data.toList = z_un 95 zN_cX3_text := eq_of_beq (by decide +kernel)
theorem dX3_text_25 : decode cX3_text 25 = .ok (.areturn, 1) := z_row zl_cX3_text 25 3540144 (Nat.le_of_ble_eq_true rfl) (by decide +kernel) z_o176 (by decide +kernel)
theorem dX3_text_26 : decode cX3_text 26 = .ok (.iconst 1, 1) := z_row zl_cX3_text 26 275972 (Nat.le_of_ble_eq_true rfl) (by decide +kernel) z_o4 (by decide +kernel)
theorem dX3_text_27 : decode cX3_text 27 = .ok (.istore 4, 2) := z_row zl_cX3_text 27 1377334 (Nat.le_of_ble_eq_true rfl) (by decide +kernel) z_o54 (by decide +kernel)
theorem dX3_text_29 : decode cX3_text 29 = .ok (.iload 4, 2) := z_row zl_cX3_text 29 2753557 (Nat.le_of_ble_eq_true rfl) (by decide +kernel) z_o21 (by decide +kernel)
theorem dX3_text_31 : decode cX3_text 31 = .ok (.aload_n 0, 1) := z_row zl_cX3_text 31 46122 (Nat.le_of_ble_eq_true rfl) (by decide +kernel) z_o42 (by decide +kernel)
theorem dX3_text_32 : decode cX3_text 32 = .ok (.getfield 10, 3) := z_row zl_cX3_text 32 655540 (Nat.le_of_ble_eq_true rfl) (by decide +kernel) z_o180 (by decide +kernel)
theorem dX3_text_35 : decode cX3_text 35 = .ok (.getfield 116, 3) := z_row zl_cX3_text 35 7602356 (Nat.le_of_ble_eq_true rfl) (by decide +kernel) z_o180 (by decide +kernel)
theorem dX3_text_38 : decode cX3_text 38 = .ok (.if_icmp .gt 52, 3) := z_row zl_cX3_text 38 3408035 (Nat.le_of_ble_eq_true rfl) (by decide +kernel) z_o163 (by decide +kernel)
theorem dX3_text_41 : decode cX3_text 41 = .ok (.iload 4, 2) := z_row zl_cX3_text 41 263189 (Nat.le_of_ble_eq_true rfl) (by decide +kernel) z_o21 (by decide +kernel)
theorem dX3_text_43 : decode cX3_text 43 = .ok (.iconst 1, 1) := z_row zl_cX3_text 43 41988 (Nat.le_of_ble_eq_true rfl) (by decide +kernel) z_o4 (by decide +kernel)
theorem dX3_text_44 : decode cX3_text 44 = .ok (.if_icmp .le 10, 3) := z_row zl_cX3_text 44 655524 (Nat.le_of_ble_eq_true rfl) (by decide +kernel) z_o164 (by decide +kernel)
theorem dX3_text_47 : decode cX3_text 47 = .ok (.aload_n 3, 1) := z_row zl_cX3_text 47 2101293 (Nat.le_of_ble_eq_true rfl) (by decide +kernel) z_o45 (by decide +kernel)
theorem dX3_text_48 : decode cX3_text 48 = .ok (.bipush 32, 2) := z_row zl_cX3_text 48 11935760 (Nat.le_of_ble_eq_true rfl) (by decide +kernel) z_o16 (by decide +kernel)
theorem dX3_text_50 : decode cX3_text 50 = .ok (.invokevirtual 241, 3) := z_row zl_cX3_text 50 15794358 (Nat.le_of_ble_eq_true rfl) (by decide +kernel) z_o182 (by decide +kernel)
theorem dX3_text_53 : decode cX3_text 53 = .ok (.pop, 1) := z_row zl_cX3_text 53 1387607 (Nat.le_of_ble_eq_true rfl) (by decide +kernel) z_o87 (by decide +kernel)
theorem dX3_text_54 : decode cX3_text 54 = .ok (.aload_n 2, 1) := z_row zl_cX3_text 54 267564 (Nat.le_of_ble_eq_true rfl) (by decide +kernel) z_o44 (by decide +kernel)
theorem dX3_text_55 : decode cX3_text 55 = .ok (.iload 4, 2) := z_row zl_cX3_text 55 11928597 (Nat.le_of_ble_eq_true rfl) (by decide +kernel) z_o21 (by decide +kernel)
theorem dX3_text_57 : decode cX3_text 57 = .ok (.invokevirtual 119, 3) := z_row zl_cX3_text 57 7798966 (Nat.le_of_ble_eq_true rfl) (by decide +kernel) z_o182 (by decide +kernel)
theorem dX3_text_60 : decode cX3_text 60 = .ok (.ifCond .eq 17, 3) := z_row zl_cX3_text 60 1114265 (Nat.le_of_ble_eq_true rfl) (by decide +kernel) z_o153 (by decide +kernel)
theorem dX3_text_63 : decode cX3_text 63 = .ok (.aload_n 3, 1) := z_row zl_cX3_text 63 1387565 (Nat.le_of_ble_eq_true rfl) (by decide +kernel) z_o45 (by decide +kernel)
theorem dX3_text_64 : decode cX3_text 64 = .ok (.aload_n 2, 1) := z_row zl_cX3_text 64 267564 (Nat.le_of_ble_eq_true rfl) (by decide +kernel) z_o44 (by decide +kernel)
theorem dX3_text_65 : decode cX3_text 65 = .ok (.iload 4, 2) := z_row zl_cX3_text 65 11928597 (Nat.le_of_ble_eq_true rfl) (by decide +kernel) z_o21 (by decide +kernel)
theorem dX3_text_67 : decode cX3_text 67 = .ok (.invokevirtual 123, 3) := z_row zl_cX3_text 67 8061110 (Nat.le_of_ble_eq_true rfl) (by decide +kernel) z_o182 (by decide +kernel)
theorem dX3_text_70 : decode cX3_text 70 = .ok (.invokevirtual 245, 3) := z_row zl_cX3_text 70 16056502 (Nat.le_of_ble_eq_true rfl) (by decide +kernel) z_o182 (by decide +kernel)
theorem dX3_text_73 : decode cX3_text 73 = .ok (.pop, 1) := z_row zl_cX3_text 73 42839 (Nat.le_of_ble_eq_true rfl) (by decide +kernel) z_o87 (by decide +kernel)
theorem dX3_text_74 : decode cX3_text 74 = .ok (.goto 10, 3) := z_row zl_cX3_text 74 655527 (Nat.le_of_ble_eq_true rfl) (by decide +kernel) z_o167 (by decide +kernel)
theorem dX3_text_77 : decode cX3_text 77 = .ok (.aload_n 3, 1) := z_row zl_cX3_text 77 2953261 (Nat.le_of_ble_eq_true rfl) (by decide +kernel) z_o45 (by decide +kernel)
theorem dX3_text_78 : decode cX3_text 78 = .ok (.bipush 45, 2) := z_row zl_cX3_text 78 11939088 (Nat.le_of_ble_eq_true rfl) (by decide +kernel) z_o16 (by decide +kernel)
theorem dX3_text_80 : decode cX3_text 80 = .ok (.invokevirtual 241, 3) := z_row zl_cX3_text 80 15794358 (Nat.le_of_ble_eq_true rfl) (by decide +kernel) z_o182 (by decide +kernel)
theorem dX3_text_83 : decode cX3_text 83 = .ok (.pop, 1) := z_row zl_cX3_text 83 296023 (Nat.le_of_ble_eq_true rfl) (by decide +kernel) z_o87 (by decide +kernel)
theorem dX3_text_84 : decode cX3_text 84 = .ok (.iinc 4 1, 3) := z_row zl_cX3_text 84 66692 (Nat.le_of_ble_eq_true rfl) (by decide +kernel) z_o132 (by decide +kernel)
theorem dX3_text_87 : decode cX3_text 87 = .ok (.goto (-58), 3) := z_row zl_cX3_text 87 13041575 (Nat.le_of_ble_eq_true rfl) (by decide +kernel) z_o167 (by decide +kernel)
theorem dX3_text_90 : decode cX3_text 90 = .ok (.aload_n 3, 1) := z_row zl_cX3_text 90 46637 (Nat.le_of_ble_eq_true rfl) (by decide +kernel) z_o45 (by decide +kernel)
theorem dX3_text_91 : decode cX3_text 91 = .ok (.invokevirtual 237, 3) := z_row zl_cX3_text 91 15532214 (Nat.le_of_ble_eq_true rfl) (by decide +kernel) z_o182 (by decide +kernel)
set_option maxRecDepth 100000 in
theorem dX3_text_94 : decode cX3_text 94 = .ok (.areturn, 1) := by decide +kernel
set_option maxRecDepth 100000 in
theorem dX3_seals_0 : decode cX3_seals 0 = .ok (.aload_n 0, 1) := by decide +kernel
set_option maxRecDepth 100000 in
theorem dX3_seals_1 : decode cX3_seals 1 = .ok (.iload_n 1, 1) := by decide +kernel
set_option maxRecDepth 100000 in
theorem dX3_seals_2 : decode cX3_seals 2 = .ok (.invokevirtual 94, 3) := by decide +kernel
set_option maxRecDepth 100000 in
theorem dX3_seals_5 : decode cX3_seals 5 = .ok (.astore_n 2, 1) := by decide +kernel
set_option maxRecDepth 100000 in
theorem dX3_seals_6 : decode cX3_seals 6 = .ok (.new 234, 3) := by decide +kernel
set_option maxRecDepth 100000 in
theorem dX3_seals_9 : decode cX3_seals 9 = .ok (.dup, 1) := by decide +kernel
set_option maxRecDepth 100000 in
theorem dX3_seals_10 : decode cX3_seals 10 = .ok (.invokespecial 236, 3) := by decide +kernel
set_option maxRecDepth 100000 in
theorem dX3_seals_13 : decode cX3_seals 13 = .ok (.astore_n 3, 1) := by decide +kernel
set_option maxRecDepth 100000 in
theorem dX3_seals_14 : decode cX3_seals 14 = .ok (.iconst 0, 1) := by decide +kernel
set_option maxRecDepth 100000 in
theorem dX3_seals_15 : decode cX3_seals 15 = .ok (.istore 4, 2) := by decide +kernel
set_option maxRecDepth 100000 in
theorem dX3_seals_17 : decode cX3_seals 17 = .ok (.iload 4, 2) := by decide +kernel
set_option maxRecDepth 100000 in
theorem dX3_seals_19 : decode cX3_seals 19 = .ok (.aload_n 2, 1) := by decide +kernel
set_option maxRecDepth 100000 in
theorem dX3_seals_20 : decode cX3_seals 20 = .ok (.getfield 134, 3) := by decide +kernel
set_option maxRecDepth 100000 in
theorem dX3_seals_23 : decode cX3_seals 23 = .ok (.if_icmp .ge 32, 3) := by decide +kernel
def zN_cX3_seals : Nat := 0xb0ed00b62dddffa701048457f500b68900b604152c2d57f100b620102d0a009e04152000a28600b42c04150436034eec00b759ea00bb4d5e00b61b2a
set_option maxRecDepth 100000 in
theorem zl_cX3_seals : cX3_seals.data.toList = z_un 60 zN_cX3_seals := eq_of_beq (by decide +kernel)
theorem dX3_seals_26 : decode cX3_seals 26 = .ok (.iload 4, 2) := z_row zl_cX3_seals 26 10355733 (Nat.le_of_ble_eq_true rfl) (by decide +kernel) z_o21 (by decide +kernel)
theorem dX3_seals_28 : decode cX3_seals 28 = .ok (.ifCond .le 10, 3) := z_row zl_cX3_seals 28 655518 (Nat.le_of_ble_eq_true rfl) (by decide +kernel) z_o158 (by decide +kernel)
theorem dX3_seals_31 : decode cX3_seals 31 = .ok (.aload_n 3, 1) := z_row zl_cX3_seals 31 2101293 (Nat.le_of_ble_eq_true rfl) (by decide +kernel) z_o45 (by decide +kernel)
theorem dX3_seals_32 : decode cX3_seals 32 = .ok (.bipush 32, 2) := z_row zl_cX3_seals 32 11935760 (Nat.le_of_ble_eq_true rfl) (by decide +kernel) z_o16 (by decide +kernel)
theorem dX3_seals_34 : decode cX3_seals 34 = .ok (.invokevirtual 241, 3) := z_row zl_cX3_seals 34 15794358 (Nat.le_of_ble_eq_true rfl) (by decide +kernel) z_o182 (by decide +kernel)
theorem dX3_seals_37 : decode cX3_seals 37 = .ok (.pop, 1) := z_row zl_cX3_seals 37 2895191 (Nat.le_of_ble_eq_true rfl) (by decide +kernel) z_o87 (by decide +kernel)
theorem dX3_seals_38 : decode cX3_seals 38 = .ok (.aload_n 3, 1) := z_row zl_cX3_seals 38 1387565 (Nat.le_of_ble_eq_true rfl) (by decide +kernel) z_o45 (by decide +kernel)
theorem dX3_seals_39 : decode cX3_seals 39 = .ok (.aload_n 2, 1) := z_row zl_cX3_seals 39 267564 (Nat.le_of_ble_eq_true rfl) (by decide +kernel) z_o44 (by decide +kernel)
theorem dX3_seals_40 : decode cX3_seals 40 = .ok (.iload 4, 2) := z_row zl_cX3_seals 40 11928597 (Nat.le_of_ble_eq_true rfl) (by decide +kernel) z_o21 (by decide +kernel)
theorem dX3_seals_42 : decode cX3_seals 42 = .ok (.invokevirtual 137, 3) := z_row zl_cX3_seals 42 8978614 (Nat.le_of_ble_eq_true rfl) (by decide +kernel) z_o182 (by decide +kernel)
theorem dX3_seals_45 : decode cX3_seals 45 = .ok (.invokevirtual 245, 3) := z_row zl_cX3_seals 45 16056502 (Nat.le_of_ble_eq_true rfl) (by decide +kernel) z_o182 (by decide +kernel)
theorem dX3_seals_48 : decode cX3_seals 48 = .ok (.pop, 1) := z_row zl_cX3_seals 48 296023 (Nat.le_of_ble_eq_true rfl) (by decide +kernel) z_o87 (by decide +kernel)
theorem dX3_seals_49 : decode cX3_seals 49 = .ok (.iinc 4 1, 3) := z_row zl_cX3_seals 49 66692 (Nat.le_of_ble_eq_true rfl) (by decide +kernel) z_o132 (by decide +kernel)
theorem dX3_seals_52 : decode cX3_seals 52 = .ok (.goto (-35), 3) := z_row zl_cX3_seals 52 14548903 (Nat.le_of_ble_eq_true rfl) (by decide +kernel) z_o167 (by decide +kernel)
theorem dX3_seals_55 : decode cX3_seals 55 = .ok (.aload_n 3, 1) := z_row zl_cX3_seals 55 46637 (Nat.le_of_ble_eq_true rfl) (by decide +kernel) z_o45 (by decide +kernel)
theorem dX3_seals_56 : decode cX3_seals 56 = .ok (.invokevirtual 237, 3) := z_row zl_cX3_seals 56 15532214 (Nat.le_of_ble_eq_true rfl) (by decide +kernel) z_o182 (by decide +kernel)
set_option maxRecDepth 100000 in
theorem dX3_seals_59 : decode cX3_seals 59 = .ok (.areturn, 1) := by decide +kernel
set_option maxRecDepth 100000 in
theorem dX3_isSame_0 : decode cX3_isSame 0 = .ok (.aload_n 0, 1) := by decide +kernel
set_option maxRecDepth 100000 in
theorem dX3_isSame_1 : decode cX3_isSame 1 = .ok (.iload_n 1, 1) := by decide +kernel
set_option maxRecDepth 100000 in
theorem dX3_isSame_2 : decode cX3_isSame 2 = .ok (.invokevirtual 94, 3) := by decide +kernel
set_option maxRecDepth 100000 in
theorem dX3_isSame_5 : decode cX3_isSame 5 = .ok (.astore_n 3, 1) := by decide +kernel
set_option maxRecDepth 100000 in
theorem dX3_isSame_6 : decode cX3_isSame 6 = .ok (.aload_n 0, 1) := by decide +kernel
set_option maxRecDepth 100000 in
theorem dX3_isSame_7 : decode cX3_isSame 7 = .ok (.iload_n 2, 1) := by decide +kernel
set_option maxRecDepth 100000 in
theorem dX3_isSame_8 : decode cX3_isSame 8 = .ok (.invokevirtual 94, 3) := by decide +kernel
set_option maxRecDepth 100000 in
theorem dX3_isSame_11 : decode cX3_isSame 11 = .ok (.astore 4, 2) := by decide +kernel
set_option maxRecDepth 100000 in
theorem dX3_isSame_13 : decode cX3_isSame 13 = .ok (.aload_n 3, 1) := by decide +kernel
set_option maxRecDepth 100000 in
theorem dX3_isSame_14 : decode cX3_isSame 14 = .ok (.invokevirtual 109, 3) := by decide +kernel
set_option maxRecDepth 100000 in
theorem dX3_isSame_17 : decode cX3_isSame 17 = .ok (.ifCond .ne 11, 3) := by decide +kernel
set_option maxRecDepth 100000 in
theorem dX3_isSame_20 : decode cX3_isSame 20 = .ok (.aload 4, 2) := by decide +kernel
set_option maxRecDepth 100000 in
theorem dX3_isSame_22 : decode cX3_isSame 22 = .ok (.invokevirtual 109, 3) := by decide +kernel
def zN_cX3_isSame : Nat := 0xac0515d5ffa70106840536030400a7040700a07b00b6061504197b00b606152d17009905152500a37400b40a00b42a06150636040536030400a7040700a07100b404197100b42dac030400a7040700996d00b604190f00996d00b62d1800996d00b604190b009a6d00b62d043a5e00b61c2a4e5e00b61b2a
set_option maxRecDepth 100000 in
theorem zl_cX3_isSame : cX3_isSame.data.toList = z_un 120 zN_cX3_isSame := eq_of_beq (by decide +kernel)
theorem dX3_isSame_25 : decode cX3_isSame 25 = .ok (.ifCond .eq 24, 3) := z_row zl_cX3_isSame 25 1573017 (Nat.le_of_ble_eq_true rfl) (by decide +kernel) z_o153 (by decide +kernel)
theorem dX3_isSame_28 : decode cX3_isSame 28 = .ok (.aload_n 3, 1) := z_row zl_cX3_isSame 28 46637 (Nat.le_of_ble_eq_true rfl) (by decide +kernel) z_o45 (by decide +kernel)
theorem dX3_isSame_29 : decode cX3_isSame 29 = .ok (.invokevirtual 109, 3) := z_row zl_cX3_isSame 29 7143606 (Nat.le_of_ble_eq_true rfl) (by decide +kernel) z_o182 (by decide +kernel)
theorem dX3_isSame_32 : decode cX3_isSame 32 = .ok (.ifCond .eq 15, 3) := z_row zl_cX3_isSame 32 983193 (Nat.le_of_ble_eq_true rfl) (by decide +kernel) z_o153 (by decide +kernel)
theorem dX3_isSame_35 : decode cX3_isSame 35 = .ok (.aload 4, 2) := z_row zl_cX3_isSame 35 11928601 (Nat.le_of_ble_eq_true rfl) (by decide +kernel) z_o25 (by decide +kernel)
theorem dX3_isSame_37 : decode cX3_isSame 37 = .ok (.invokevirtual 109, 3) := z_row zl_cX3_isSame 37 7143606 (Nat.le_of_ble_eq_true rfl) (by decide +kernel) z_o182 (by decide +kernel)
theorem dX3_isSame_40 : decode cX3_isSame 40 = .ok (.ifCond .eq 7, 3) := z_row zl_cX3_isSame 40 458905 (Nat.le_of_ble_eq_true rfl) (by decide +kernel) z_o153 (by decide +kernel)
theorem dX3_isSame_43 : decode cX3_isSame 43 = .ok (.iconst 1, 1) := z_row zl_cX3_isSame 43 42756 (Nat.le_of_ble_eq_true rfl) (by decide +kernel) z_o4 (by decide +kernel)
theorem dX3_isSame_44 : decode cX3_isSame 44 = .ok (.goto 4, 3) := z_row zl_cX3_isSame 44 262311 (Nat.le_of_ble_eq_true rfl) (by decide +kernel) z_o167 (by decide +kernel)
theorem dX3_isSame_47 : decode cX3_isSame 47 = .ok (.iconst 0, 1) := z_row zl_cX3_isSame 47 2993155 (Nat.le_of_ble_eq_true rfl) (by decide +kernel) z_o3 (by decide +kernel)
theorem dX3_isSame_48 : decode cX3_isSame 48 = .ok (.ireturn, 1) := z_row zl_cX3_isSame 48 11808172 (Nat.le_of_ble_eq_true rfl) (by decide +kernel) z_o172 (by decide +kernel)
theorem dX3_isSame_49 : decode cX3_isSame 49 = .ok (.aload_n 3, 1) := z_row zl_cX3_isSame 49 46125 (Nat.le_of_ble_eq_true rfl) (by decide +kernel) z_o45 (by decide +kernel)
theorem dX3_isSame_50 : decode cX3_isSame 50 = .ok (.getfield 113, 3) := z_row zl_cX3_isSame 50 7405748 (Nat.le_of_ble_eq_true rfl) (by decide +kernel) z_o180 (by decide +kernel)
theorem dX3_isSame_53 : decode cX3_isSame 53 = .ok (.aload 4, 2) := z_row zl_cX3_isSame 53 11797529 (Nat.le_of_ble_eq_true rfl) (by decide +kernel) z_o25 (by decide +kernel)
theorem dX3_isSame_55 : decode cX3_isSame 55 = .ok (.getfield 113, 3) := z_row zl_cX3_isSame 55 7405748 (Nat.le_of_ble_eq_true rfl) (by decide +kernel) z_o180 (by decide +kernel)
theorem dX3_isSame_58 : decode cX3_isSame 58 = .ok (.if_icmp .ne 7, 3) := z_row zl_cX3_isSame 58 458912 (Nat.le_of_ble_eq_true rfl) (by decide +kernel) z_o160 (by decide +kernel)
theorem dX3_isSame_61 : decode cX3_isSame 61 = .ok (.iconst 1, 1) := z_row zl_cX3_isSame 61 42756 (Nat.le_of_ble_eq_true rfl) (by decide +kernel) z_o4 (by decide +kernel)
theorem dX3_isSame_62 : decode cX3_isSame 62 = .ok (.goto 4, 3) := z_row zl_cX3_isSame 62 262311 (Nat.le_of_ble_eq_true rfl) (by decide +kernel) z_o167 (by decide +kernel)
theorem dX3_isSame_65 : decode cX3_isSame 65 = .ok (.iconst 0, 1) := z_row zl_cX3_isSame 65 341507 (Nat.le_of_ble_eq_true rfl) (by decide +kernel) z_o3 (by decide +kernel)
theorem dX3_isSame_66 : decode cX3_isSame 66 = .ok (.istore 5, 2) := z_row zl_cX3_isSame 66 263478 (Nat.le_of_ble_eq_true rfl) (by decide +kernel) z_o54 (by decide +kernel)
theorem dX3_isSame_68 : decode cX3_isSame 68 = .ok (.iconst 1, 1) := z_row zl_cX3_isSame 68 407044 (Nat.le_of_ble_eq_true rfl) (by decide +kernel) z_o4 (by decide +kernel)
theorem dX3_isSame_69 : decode cX3_isSame 69 = .ok (.istore 6, 2) := z_row zl_cX3_isSame 69 1377846 (Nat.le_of_ble_eq_true rfl) (by decide +kernel) z_o54 (by decide +kernel)
theorem dX3_isSame_71 : decode cX3_isSame 71 = .ok (.iload 6, 2) := z_row zl_cX3_isSame 71 2754069 (Nat.le_of_ble_eq_true rfl) (by decide +kernel) z_o21 (by decide +kernel)
theorem dX3_isSame_73 : decode cX3_isSame 73 = .ok (.aload_n 0, 1) := z_row zl_cX3_isSame 73 46122 (Nat.le_of_ble_eq_true rfl) (by decide +kernel) z_o42 (by decide +kernel)
theorem dX3_isSame_74 : decode cX3_isSame 74 = .ok (.getfield 10, 3) := z_row zl_cX3_isSame 74 655540 (Nat.le_of_ble_eq_true rfl) (by decide +kernel) z_o180 (by decide +kernel)
theorem dX3_isSame_77 : decode cX3_isSame 77 = .ok (.getfield 116, 3) := z_row zl_cX3_isSame 77 7602356 (Nat.le_of_ble_eq_true rfl) (by decide +kernel) z_o180 (by decide +kernel)
theorem dX3_isSame_80 : decode cX3_isSame 80 = .ok (.if_icmp .gt 37, 3) := z_row zl_cX3_isSame 80 2424995 (Nat.le_of_ble_eq_true rfl) (by decide +kernel) z_o163 (by decide +kernel)
theorem dX3_isSame_83 : decode cX3_isSame 83 = .ok (.iload 5, 2) := z_row zl_cX3_isSame 83 10028309 (Nat.le_of_ble_eq_true rfl) (by decide +kernel) z_o21 (by decide +kernel)
theorem dX3_isSame_85 : decode cX3_isSame 85 = .ok (.ifCond .eq 23, 3) := z_row zl_cX3_isSame 85 1507481 (Nat.le_of_ble_eq_true rfl) (by decide +kernel) z_o153 (by decide +kernel)
theorem dX3_isSame_88 : decode cX3_isSame 88 = .ok (.aload_n 3, 1) := z_row zl_cX3_isSame 88 398637 (Nat.le_of_ble_eq_true rfl) (by decide +kernel) z_o45 (by decide +kernel)
theorem dX3_isSame_89 : decode cX3_isSame 89 = .ok (.iload 6, 2) := z_row zl_cX3_isSame 89 11929109 (Nat.le_of_ble_eq_true rfl) (by decide +kernel) z_o21 (by decide +kernel)
theorem dX3_isSame_91 : decode cX3_isSame 91 = .ok (.invokevirtual 123, 3) := z_row zl_cX3_isSame 91 8061110 (Nat.le_of_ble_eq_true rfl) (by decide +kernel) z_o182 (by decide +kernel)
theorem dX3_isSame_94 : decode cX3_isSame 94 = .ok (.aload 4, 2) := z_row zl_cX3_isSame 94 1377305 (Nat.le_of_ble_eq_true rfl) (by decide +kernel) z_o25 (by decide +kernel)
theorem dX3_isSame_96 : decode cX3_isSame 96 = .ok (.iload 6, 2) := z_row zl_cX3_isSame 96 11929109 (Nat.le_of_ble_eq_true rfl) (by decide +kernel) z_o21 (by decide +kernel)
theorem dX3_isSame_98 : decode cX3_isSame 98 = .ok (.invokevirtual 123, 3) := z_row zl_cX3_isSame 98 8061110 (Nat.le_of_ble_eq_true rfl) (by decide +kernel) z_o182 (by decide +kernel)
theorem dX3_isSame_101 : decode cX3_isSame 101 = .ok (.if_icmp .ne 7, 3) := z_row zl_cX3_isSame 101 458912 (Nat.le_of_ble_eq_true rfl) (by decide +kernel) z_o160 (by decide +kernel)
theorem dX3_isSame_104 : decode cX3_isSame 104 = .ok (.iconst 1, 1) := z_row zl_cX3_isSame 104 42756 (Nat.le_of_ble_eq_true rfl) (by decide +kernel) z_o4 (by decide +kernel)
theorem dX3_isSame_105 : decode cX3_isSame 105 = .ok (.goto 4, 3) := z_row zl_cX3_isSame 105 262311 (Nat.le_of_ble_eq_true rfl) (by decide +kernel) z_o167 (by decide +kernel)
theorem dX3_isSame_108 : decode cX3_isSame 108 = .ok (.iconst 0, 1) := z_row zl_cX3_isSame 108 341507 (Nat.le_of_ble_eq_true rfl) (by decide +kernel) z_o3 (by decide +kernel)
theorem dX3_isSame_109 : decode cX3_isSame 109 = .ok (.istore 5, 2) := z_row zl_cX3_isSame 109 8652086 (Nat.le_of_ble_eq_true rfl) (by decide +kernel) z_o54 (by decide +kernel)
theorem dX3_isSame_111 : decode cX3_isSame 111 = .ok (.iinc 6 1, 3) := z_row zl_cX3_isSame 111 67204 (Nat.le_of_ble_eq_true rfl) (by decide +kernel) z_o132 (by decide +kernel)
theorem dX3_isSame_114 : decode cX3_isSame 114 = .ok (.goto (-43), 3) := z_row zl_cX3_isSame 114 14024615 (Nat.le_of_ble_eq_true rfl) (by decide +kernel) z_o167 (by decide +kernel)
theorem dX3_isSame_117 : decode cX3_isSame 117 = .ok (.iload 5, 2) := z_row zl_cX3_isSame 117 11273493 (Nat.le_of_ble_eq_true rfl) (by decide +kernel) z_o21 (by decide +kernel)
set_option maxRecDepth 100000 in
theorem dX3_isSame_119 : decode cX3_isSame 119 = .ok (.ireturn, 1) := by decide +kernel
set_option maxRecDepth 100000 in
theorem dX3_house_0 : decode cX3_house 0 = .ok (.iload_n 1, 1) := by decide +kernel
set_option maxRecDepth 100000 in
theorem dX3_house_1 : decode cX3_house 1 = .ok (.tableswitch 93 0 6 #[43, 51, 59, 67, 75, 83, 88], 43) := by decide +kernel
def zN_cX3_house : Nat := 0xbf2e00b7010113592a00bbac2200b42aacfe00b62aac7400b40a00b42aacfb00b40a00b42aaca400b40a00b42aac3100b40a00b42aacf800b40a00b42a58000000530000004b000000430000003b000000330000002b00000006000000000000005d0000000000aa1b
set_option maxRecDepth 100000 in
theorem zl_cX3_house : cX3_house.data.toList = z_un 105 zN_cX3_house := eq_of_beq (by decide +kernel)
theorem dX3_house_44 : decode cX3_house 44 = .ok (.aload_n 0, 1) := z_row zl_cX3_house 44 46122 (Nat.le_of_ble_eq_true rfl) (by decide +kernel) z_o42 (by decide +kernel)
theorem dX3_house_45 : decode cX3_house 45 = .ok (.getfield 10, 3) := z_row zl_cX3_house 45 655540 (Nat.le_of_ble_eq_true rfl) (by decide +kernel) z_o180 (by decide +kernel)
theorem dX3_house_48 : decode cX3_house 48 = .ok (.getfield 248, 3) := z_row zl_cX3_house 48 16253108 (Nat.le_of_ble_eq_true rfl) (by decide +kernel) z_o180 (by decide +kernel)
theorem dX3_house_51 : decode cX3_house 51 = .ok (.ireturn, 1) := z_row zl_cX3_house 51 11807404 (Nat.le_of_ble_eq_true rfl) (by decide +kernel) z_o172 (by decide +kernel)
theorem dX3_house_52 : decode cX3_house 52 = .ok (.aload_n 0, 1) := z_row zl_cX3_house 52 46122 (Nat.le_of_ble_eq_true rfl) (by decide +kernel) z_o42 (by decide +kernel)
theorem dX3_house_53 : decode cX3_house 53 = .ok (.getfield 10, 3) := z_row zl_cX3_house 53 655540 (Nat.le_of_ble_eq_true rfl) (by decide +kernel) z_o180 (by decide +kernel)
theorem dX3_house_56 : decode cX3_house 56 = .ok (.getfield 49, 3) := z_row zl_cX3_house 56 3211444 (Nat.le_of_ble_eq_true rfl) (by decide +kernel) z_o180 (by decide +kernel)
theorem dX3_house_59 : decode cX3_house 59 = .ok (.ireturn, 1) := z_row zl_cX3_house 59 11807404 (Nat.le_of_ble_eq_true rfl) (by decide +kernel) z_o172 (by decide +kernel)
theorem dX3_house_60 : decode cX3_house 60 = .ok (.aload_n 0, 1) := z_row zl_cX3_house 60 46122 (Nat.le_of_ble_eq_true rfl) (by decide +kernel) z_o42 (by decide +kernel)
theorem dX3_house_61 : decode cX3_house 61 = .ok (.getfield 10, 3) := z_row zl_cX3_house 61 655540 (Nat.le_of_ble_eq_true rfl) (by decide +kernel) z_o180 (by decide +kernel)
theorem dX3_house_64 : decode cX3_house 64 = .ok (.getfield 164, 3) := z_row zl_cX3_house 64 10748084 (Nat.le_of_ble_eq_true rfl) (by decide +kernel) z_o180 (by decide +kernel)
theorem dX3_house_67 : decode cX3_house 67 = .ok (.ireturn, 1) := z_row zl_cX3_house 67 11807404 (Nat.le_of_ble_eq_true rfl) (by decide +kernel) z_o172 (by decide +kernel)
theorem dX3_house_68 : decode cX3_house 68 = .ok (.aload_n 0, 1) := z_row zl_cX3_house 68 46122 (Nat.le_of_ble_eq_true rfl) (by decide +kernel) z_o42 (by decide +kernel)
theorem dX3_house_69 : decode cX3_house 69 = .ok (.getfield 10, 3) := z_row zl_cX3_house 69 655540 (Nat.le_of_ble_eq_true rfl) (by decide +kernel) z_o180 (by decide +kernel)
theorem dX3_house_72 : decode cX3_house 72 = .ok (.getfield 251, 3) := z_row zl_cX3_house 72 16449716 (Nat.le_of_ble_eq_true rfl) (by decide +kernel) z_o180 (by decide +kernel)
theorem dX3_house_75 : decode cX3_house 75 = .ok (.ireturn, 1) := z_row zl_cX3_house 75 11807404 (Nat.le_of_ble_eq_true rfl) (by decide +kernel) z_o172 (by decide +kernel)
theorem dX3_house_76 : decode cX3_house 76 = .ok (.aload_n 0, 1) := z_row zl_cX3_house 76 46122 (Nat.le_of_ble_eq_true rfl) (by decide +kernel) z_o42 (by decide +kernel)
theorem dX3_house_77 : decode cX3_house 77 = .ok (.getfield 10, 3) := z_row zl_cX3_house 77 655540 (Nat.le_of_ble_eq_true rfl) (by decide +kernel) z_o180 (by decide +kernel)
theorem dX3_house_80 : decode cX3_house 80 = .ok (.getfield 116, 3) := z_row zl_cX3_house 80 7602356 (Nat.le_of_ble_eq_true rfl) (by decide +kernel) z_o180 (by decide +kernel)
theorem dX3_house_83 : decode cX3_house 83 = .ok (.ireturn, 1) := z_row zl_cX3_house 83 11938476 (Nat.le_of_ble_eq_true rfl) (by decide +kernel) z_o172 (by decide +kernel)
theorem dX3_house_84 : decode cX3_house 84 = .ok (.aload_n 0, 1) := z_row zl_cX3_house 84 46634 (Nat.le_of_ble_eq_true rfl) (by decide +kernel) z_o42 (by decide +kernel)
theorem dX3_house_85 : decode cX3_house 85 = .ok (.invokevirtual 254, 3) := z_row zl_cX3_house 85 16646326 (Nat.le_of_ble_eq_true rfl) (by decide +kernel) z_o182 (by decide +kernel)
theorem dX3_house_88 : decode cX3_house 88 = .ok (.ireturn, 1) := z_row zl_cX3_house 88 11807404 (Nat.le_of_ble_eq_true rfl) (by decide +kernel) z_o172 (by decide +kernel)
theorem dX3_house_89 : decode cX3_house 89 = .ok (.aload_n 0, 1) := z_row zl_cX3_house 89 46122 (Nat.le_of_ble_eq_true rfl) (by decide +kernel) z_o42 (by decide +kernel)
theorem dX3_house_90 : decode cX3_house 90 = .ok (.getfield 34, 3) := z_row zl_cX3_house 90 2228404 (Nat.le_of_ble_eq_true rfl) (by decide +kernel) z_o180 (by decide +kernel)
theorem dX3_house_93 : decode cX3_house 93 = .ok (.ireturn, 1) := z_row zl_cX3_house 93 48044 (Nat.le_of_ble_eq_true rfl) (by decide +kernel) z_o172 (by decide +kernel)
theorem dX3_house_94 : decode cX3_house 94 = .ok (.new 42, 3) := z_row zl_cX3_house 94 2752699 (Nat.le_of_ble_eq_true rfl) (by decide +kernel) z_o187 (by decide +kernel)
theorem dX3_house_97 : decode cX3_house 97 = .ok (.dup, 1) := z_row zl_cX3_house 97 70489 (Nat.le_of_ble_eq_true rfl) (by decide +kernel) z_o89 (by decide +kernel)
theorem dX3_house_98 : decode cX3_house 98 = .ok (.ldc_w 257, 3) := z_row zl_cX3_house 98 65811 (Nat.le_of_ble_eq_true rfl) (by decide +kernel) z_o19 (by decide +kernel)
theorem dX3_house_101 : decode cX3_house 101 = .ok (.invokespecial 46, 3) := z_row zl_cX3_house 101 3014839 (Nat.le_of_ble_eq_true rfl) (by decide +kernel) z_o183 (by decide +kernel)
set_option maxRecDepth 100000 in
theorem dX3_house_104 : decode cX3_house 104 = .ok (.athrow, 1) := by decide +kernel
set_option maxRecDepth 100000 in
theorem dX3_isSound_0 : decode cX3_isSound 0 = .ok (.iconst 0, 1) := by decide +kernel
set_option maxRecDepth 100000 in
theorem dX3_isSound_1 : decode cX3_isSound 1 = .ok (.istore_n 1, 1) := by decide +kernel
set_option maxRecDepth 100000 in
theorem dX3_isSound_2 : decode cX3_isSound 2 = .ok (.iload_n 1, 1) := by decide +kernel
set_option maxRecDepth 100000 in
theorem dX3_isSound_3 : decode cX3_isSound 3 = .ok (.aload_n 0, 1) := by decide +kernel
set_option maxRecDepth 100000 in
theorem dX3_isSound_4 : decode cX3_isSound 4 = .ok (.getfield 25, 3) := by decide +kernel
set_option maxRecDepth 100000 in
theorem dX3_isSound_7 : decode cX3_isSound 7 = .ok (.arraylength, 1) := by decide +kernel
set_option maxRecDepth 100000 in
theorem dX3_isSound_8 : decode cX3_isSound 8 = .ok (.if_icmp .ge 37, 3) := by decide +kernel
set_option maxRecDepth 100000 in
theorem dX3_isSound_11 : decode cX3_isSound 11 = .ok (.aload_n 0, 1) := by decide +kernel
set_option maxRecDepth 100000 in
theorem dX3_isSound_12 : decode cX3_isSound 12 = .ok (.aload_n 0, 1) := by decide +kernel
set_option maxRecDepth 100000 in
theorem dX3_isSound_13 : decode cX3_isSound 13 = .ok (.getfield 25, 3) := by decide +kernel
set_option maxRecDepth 100000 in
theorem dX3_isSound_16 : decode cX3_isSound 16 = .ok (.iload_n 1, 1) := by decide +kernel
set_option maxRecDepth 100000 in
theorem dX3_isSound_17 : decode cX3_isSound 17 = .ok (.aaload, 1) := by decide +kernel
set_option maxRecDepth 100000 in
theorem dX3_isSound_18 : decode cX3_isSound 18 = .ok (.invokevirtual 259, 3) := by decide +kernel
set_option maxRecDepth 100000 in
theorem dX3_isSound_21 : decode cX3_isSound 21 = .ok (.ifCond .eq 16, 3) := by decide +kernel
def zN_cX3_isSound : Nat := 0xac030400a7040700990d01b62a0e00a0045b00b6030a01b62a2ad8ffa7010184ac0305009a0701b6321b1900b42a2a1000990301b6321b1900b42a2a2500a2be1900b42a1b3c03
set_option maxRecDepth 100000 in
theorem zl_cX3_isSound : cX3_isSound.data.toList = z_un 71 zN_cX3_isSound := eq_of_beq (by decide +kernel)
theorem dX3_isSound_24 : decode cX3_isSound 24 = .ok (.aload_n 0, 1) := z_row zl_cX3_isSound 24 11807274 (Nat.le_of_ble_eq_true rfl) (by decide +kernel) z_o42 (by decide +kernel)
theorem dX3_isSound_25 : decode cX3_isSound 25 = .ok (.aload_n 0, 1) := z_row zl_cX3_isSound 25 46122 (Nat.le_of_ble_eq_true rfl) (by decide +kernel) z_o42 (by decide +kernel)
theorem dX3_isSound_26 : decode cX3_isSound 26 = .ok (.getfield 25, 3) := z_row zl_cX3_isSound 26 1638580 (Nat.le_of_ble_eq_true rfl) (by decide +kernel) z_o180 (by decide +kernel)
theorem dX3_isSound_29 : decode cX3_isSound 29 = .ok (.iload_n 1, 1) := z_row zl_cX3_isSound 29 11940379 (Nat.le_of_ble_eq_true rfl) (by decide +kernel) z_o27 (by decide +kernel)
theorem dX3_isSound_30 : decode cX3_isSound 30 = .ok (.aaload, 1) := z_row zl_cX3_isSound 30 112178 (Nat.le_of_ble_eq_true rfl) (by decide +kernel) z_o50 (by decide +kernel)
theorem dX3_isSound_31 : decode cX3_isSound 31 = .ok (.invokevirtual 263, 3) := z_row zl_cX3_isSound 31 459190 (Nat.le_of_ble_eq_true rfl) (by decide +kernel) z_o182 (by decide +kernel)
theorem dX3_isSound_34 : decode cX3_isSound 34 = .ok (.ifCond .ne 5, 3) := z_row zl_cX3_isSound 34 327834 (Nat.le_of_ble_eq_true rfl) (by decide +kernel) z_o154 (by decide +kernel)
theorem dX3_isSound_39 : decode cX3_isSound 39 = .ok (.iinc 1 1, 3) := z_row zl_cX3_isSound 39 65924 (Nat.le_of_ble_eq_true rfl) (by decide +kernel) z_o132 (by decide +kernel)
theorem dX3_isSound_42 : decode cX3_isSound 42 = .ok (.goto (-40), 3) := z_row zl_cX3_isSound 42 14221223 (Nat.le_of_ble_eq_true rfl) (by decide +kernel) z_o167 (by decide +kernel)
theorem dX3_isSound_45 : decode cX3_isSound 45 = .ok (.aload_n 0, 1) := z_row zl_cX3_isSound 45 11938346 (Nat.le_of_ble_eq_true rfl) (by decide +kernel) z_o42 (by decide +kernel)
theorem dX3_isSound_46 : decode cX3_isSound 46 = .ok (.aload_n 0, 1) := z_row zl_cX3_isSound 46 112170 (Nat.le_of_ble_eq_true rfl) (by decide +kernel) z_o42 (by decide +kernel)
theorem dX3_isSound_47 : decode cX3_isSound 47 = .ok (.invokevirtual 266, 3) := z_row zl_cX3_isSound 47 655798 (Nat.le_of_ble_eq_true rfl) (by decide +kernel) z_o182 (by decide +kernel)
theorem dX3_isSound_50 : decode cX3_isSound 50 = .ok (.iconst 0, 1) := z_row zl_cX3_isSound 50 46595 (Nat.le_of_ble_eq_true rfl) (by decide +kernel) z_o3 (by decide +kernel)
theorem dX3_isSound_51 : decode cX3_isSound 51 = .ok (.invokevirtual 91, 3) := z_row zl_cX3_isSound 51 5963958 (Nat.le_of_ble_eq_true rfl) (by decide +kernel) z_o182 (by decide +kernel)
theorem dX3_isSound_54 : decode cX3_isSound 54 = .ok (.iconst 1, 1) := z_row zl_cX3_isSound 54 40964 (Nat.le_of_ble_eq_true rfl) (by decide +kernel) z_o4 (by decide +kernel)
theorem dX3_isSound_55 : decode cX3_isSound 55 = .ok (.if_icmp .ne 14, 3) := z_row zl_cX3_isSound 55 917664 (Nat.le_of_ble_eq_true rfl) (by decide +kernel) z_o160 (by decide +kernel)
theorem dX3_isSound_58 : decode cX3_isSound 58 = .ok (.aload_n 0, 1) := z_row zl_cX3_isSound 58 112170 (Nat.le_of_ble_eq_true rfl) (by decide +kernel) z_o42 (by decide +kernel)
theorem dX3_isSound_59 : decode cX3_isSound 59 = .ok (.invokevirtual 269, 3) := z_row zl_cX3_isSound 59 852406 (Nat.le_of_ble_eq_true rfl) (by decide +kernel) z_o182 (by decide +kernel)
theorem dX3_isSound_62 : decode cX3_isSound 62 = .ok (.ifCond .eq 7, 3) := z_row zl_cX3_isSound 62 458905 (Nat.le_of_ble_eq_true rfl) (by decide +kernel) z_o153 (by decide +kernel)
theorem dX3_isSound_65 : decode cX3_isSound 65 = .ok (.iconst 1, 1) := z_row zl_cX3_isSound 65 42756 (Nat.le_of_ble_eq_true rfl) (by decide +kernel) z_o4 (by decide +kernel)
theorem dX3_isSound_66 : decode cX3_isSound 66 = .ok (.goto 4, 3) := z_row zl_cX3_isSound 66 262311 (Nat.le_of_ble_eq_true rfl) (by decide +kernel) z_o167 (by decide +kernel)
set_option maxRecDepth 100000 in
theorem dX3_isSound_69 : decode cX3_isSound 69 = .ok (.iconst 0, 1) := by decide +kernel
set_option maxRecDepth 100000 in
theorem dX3_isSound_70 : decode cX3_isSound 70 = .ok (.ireturn, 1) := by decide +kernel
set_option maxRecDepth 100000 in
theorem dX3_digest_0 : decode cX3_digest 0 = .ok (.ldc2_w 272, 3) := by decide +kernel
set_option maxRecDepth 100000 in
theorem dX3_digest_3 : decode cX3_digest 3 = .ok (.lstore_n 1, 1) := by decide +kernel
set_option maxRecDepth 100000 in
theorem dX3_digest_4 : decode cX3_digest 4 = .ok (.iconst 0, 1) := by decide +kernel
set_option maxRecDepth 100000 in
theorem dX3_digest_5 : decode cX3_digest 5 = .ok (.istore_n 3, 1) := by decide +kernel
set_option maxRecDepth 100000 in
theorem dX3_digest_6 : decode cX3_digest 6 = .ok (.iload_n 3, 1) := by decide +kernel
set_option maxRecDepth 100000 in
theorem dX3_digest_7 : decode cX3_digest 7 = .ok (.bipush 6, 2) := by decide +kernel
set_option maxRecDepth 100000 in
theorem dX3_digest_9 : decode cX3_digest 9 = .ok (.if_icmp .gt 22, 3) := by decide +kernel
set_option maxRecDepth 100000 in
theorem dX3_digest_12 : decode cX3_digest 12 = .ok (.lload_n 1, 1) := by decide +kernel
set_option maxRecDepth 100000 in
theorem dX3_digest_13 : decode cX3_digest 13 = .ok (.ldc2_w 274, 3) := by decide +kernel
set_option maxRecDepth 100000 in
theorem dX3_digest_16 : decode cX3_digest 16 = .ok (.lmul, 1) := by decide +kernel
set_option maxRecDepth 100000 in
theorem dX3_digest_17 : decode cX3_digest 17 = .ok (.aload_n 0, 1) := by decide +kernel
set_option maxRecDepth 100000 in
theorem dX3_digest_18 : decode cX3_digest 18 = .ok (.iload_n 3, 1) := by decide +kernel
set_option maxRecDepth 100000 in
theorem dX3_digest_19 : decode cX3_digest 19 = .ok (.invokevirtual 276, 3) := by decide +kernel
set_option maxRecDepth 100000 in
theorem dX3_digest_22 : decode cX3_digest 22 = .ok (.i2l, 1) := by decide +kernel
set_option maxRecDepth 100000 in
theorem dX3_digest_23 : decode cX3_digest 23 = .ok (.ladd, 1) := by decide +kernel
def zN_cX3_digest : Nat := 0xad6185030400a7040700992001b62a691201141f97ffa7010384e8ffa70104844061851d01b604151d2a691201141f1800a3060415043603e2ffa70104844061851a01b604151d2a691201141f1800a37400b40a00b42a0415043604e8ffa70104844061851701b604151d2a691201141f1800a30604150436036900a206101d3e03eaffa70103844061851401b61d2a691201141f1600a306101d3e0340100114
set_option maxRecDepth 100000 in
theorem zl_cX3_digest : cX3_digest.data.toList = z_un 161 zN_cX3_digest := eq_of_beq (by decide +kernel)
theorem dX3_digest_24 : decode cX3_digest 24 = .ok (.lstore_n 1, 1) := z_row zl_cX3_digest 24 230464 (Nat.le_of_ble_eq_true rfl) (by decide +kernel) z_o64 (by decide +kernel)
theorem dX3_digest_25 : decode cX3_digest 25 = .ok (.iinc 3 1, 3) := z_row zl_cX3_digest 25 66436 (Nat.le_of_ble_eq_true rfl) (by decide +kernel) z_o132 (by decide +kernel)
theorem dX3_digest_28 : decode cX3_digest 28 = .ok (.goto (-22), 3) := z_row zl_cX3_digest 28 15400871 (Nat.le_of_ble_eq_true rfl) (by decide +kernel) z_o167 (by decide +kernel)
theorem dX3_digest_31 : decode cX3_digest 31 = .ok (.iconst 0, 1) := z_row zl_cX3_digest 31 1916419 (Nat.le_of_ble_eq_true rfl) (by decide +kernel) z_o3 (by decide +kernel)
theorem dX3_digest_32 : decode cX3_digest 32 = .ok (.istore_n 3, 1) := z_row zl_cX3_digest 32 1056062 (Nat.le_of_ble_eq_true rfl) (by decide +kernel) z_o62 (by decide +kernel)
theorem dX3_digest_33 : decode cX3_digest 33 = .ok (.iload_n 3, 1) := z_row zl_cX3_digest 33 397341 (Nat.le_of_ble_eq_true rfl) (by decide +kernel) z_o29 (by decide +kernel)
theorem dX3_digest_34 : decode cX3_digest 34 = .ok (.bipush 6, 2) := z_row zl_cX3_digest 34 10618384 (Nat.le_of_ble_eq_true rfl) (by decide +kernel) z_o16 (by decide +kernel)
theorem dX3_digest_36 : decode cX3_digest 36 = .ok (.if_icmp .ge 105, 3) := z_row zl_cX3_digest 36 6881442 (Nat.le_of_ble_eq_true rfl) (by decide +kernel) z_o162 (by decide +kernel)
theorem dX3_digest_39 : decode cX3_digest 39 = .ok (.iconst 0, 1) := z_row zl_cX3_digest 39 275971 (Nat.le_of_ble_eq_true rfl) (by decide +kernel) z_o3 (by decide +kernel)
theorem dX3_digest_40 : decode cX3_digest 40 = .ok (.istore 4, 2) := z_row zl_cX3_digest 40 1377334 (Nat.le_of_ble_eq_true rfl) (by decide +kernel) z_o54 (by decide +kernel)
theorem dX3_digest_42 : decode cX3_digest 42 = .ok (.iload 4, 2) := z_row zl_cX3_digest 42 394261 (Nat.le_of_ble_eq_true rfl) (by decide +kernel) z_o21 (by decide +kernel)
theorem dX3_digest_44 : decode cX3_digest 44 = .ok (.iconst 3, 1) := z_row zl_cX3_digest 44 41734 (Nat.le_of_ble_eq_true rfl) (by decide +kernel) z_o6 (by decide +kernel)
theorem dX3_digest_45 : decode cX3_digest 45 = .ok (.if_icmp .gt 24, 3) := z_row zl_cX3_digest 45 1573027 (Nat.le_of_ble_eq_true rfl) (by decide +kernel) z_o163 (by decide +kernel)
theorem dX3_digest_48 : decode cX3_digest 48 = .ok (.lload_n 1, 1) := z_row zl_cX3_digest 48 70687 (Nat.le_of_ble_eq_true rfl) (by decide +kernel) z_o31 (by decide +kernel)
theorem dX3_digest_49 : decode cX3_digest 49 = .ok (.ldc2_w 274, 3) := z_row zl_cX3_digest 49 1179924 (Nat.le_of_ble_eq_true rfl) (by decide +kernel) z_o20 (by decide +kernel)
theorem dX3_digest_52 : decode cX3_digest 52 = .ok (.lmul, 1) := z_row zl_cX3_digest 52 1911401 (Nat.le_of_ble_eq_true rfl) (by decide +kernel) z_o105 (by decide +kernel)
theorem dX3_digest_53 : decode cX3_digest 53 = .ok (.aload_n 0, 1) := z_row zl_cX3_digest 53 1383722 (Nat.le_of_ble_eq_true rfl) (by decide +kernel) z_o42 (by decide +kernel)
theorem dX3_digest_54 : decode cX3_digest 54 = .ok (.iload_n 3, 1) := z_row zl_cX3_digest 54 267549 (Nat.le_of_ble_eq_true rfl) (by decide +kernel) z_o29 (by decide +kernel)
theorem dX3_digest_55 : decode cX3_digest 55 = .ok (.iload 4, 2) := z_row zl_cX3_digest 55 11928597 (Nat.le_of_ble_eq_true rfl) (by decide +kernel) z_o21 (by decide +kernel)
theorem dX3_digest_57 : decode cX3_digest 57 = .ok (.invokevirtual 279, 3) := z_row zl_cX3_digest 57 1507766 (Nat.le_of_ble_eq_true rfl) (by decide +kernel) z_o182 (by decide +kernel)
theorem dX3_digest_60 : decode cX3_digest 60 = .ok (.i2l, 1) := z_row zl_cX3_digest 60 4219269 (Nat.le_of_ble_eq_true rfl) (by decide +kernel) z_o133 (by decide +kernel)
theorem dX3_digest_61 : decode cX3_digest 61 = .ok (.ladd, 1) := z_row zl_cX3_digest 61 8667233 (Nat.le_of_ble_eq_true rfl) (by decide +kernel) z_o97 (by decide +kernel)
theorem dX3_digest_62 : decode cX3_digest 62 = .ok (.lstore_n 1, 1) := z_row zl_cX3_digest 62 296000 (Nat.le_of_ble_eq_true rfl) (by decide +kernel) z_o64 (by decide +kernel)
theorem dX3_digest_63 : decode cX3_digest 63 = .ok (.iinc 4 1, 3) := z_row zl_cX3_digest 63 66692 (Nat.le_of_ble_eq_true rfl) (by decide +kernel) z_o132 (by decide +kernel)
theorem dX3_digest_66 : decode cX3_digest 66 = .ok (.goto (-24), 3) := z_row zl_cX3_digest 66 15269799 (Nat.le_of_ble_eq_true rfl) (by decide +kernel) z_o167 (by decide +kernel)
theorem dX3_digest_69 : decode cX3_digest 69 = .ok (.iconst 1, 1) := z_row zl_cX3_digest 69 275972 (Nat.le_of_ble_eq_true rfl) (by decide +kernel) z_o4 (by decide +kernel)
theorem dX3_digest_70 : decode cX3_digest 70 = .ok (.istore 4, 2) := z_row zl_cX3_digest 70 1377334 (Nat.le_of_ble_eq_true rfl) (by decide +kernel) z_o54 (by decide +kernel)
theorem dX3_digest_72 : decode cX3_digest 72 = .ok (.iload 4, 2) := z_row zl_cX3_digest 72 2753557 (Nat.le_of_ble_eq_true rfl) (by decide +kernel) z_o21 (by decide +kernel)
theorem dX3_digest_74 : decode cX3_digest 74 = .ok (.aload_n 0, 1) := z_row zl_cX3_digest 74 46122 (Nat.le_of_ble_eq_true rfl) (by decide +kernel) z_o42 (by decide +kernel)
theorem dX3_digest_75 : decode cX3_digest 75 = .ok (.getfield 10, 3) := z_row zl_cX3_digest 75 655540 (Nat.le_of_ble_eq_true rfl) (by decide +kernel) z_o180 (by decide +kernel)
theorem dX3_digest_78 : decode cX3_digest 78 = .ok (.getfield 116, 3) := z_row zl_cX3_digest 78 7602356 (Nat.le_of_ble_eq_true rfl) (by decide +kernel) z_o180 (by decide +kernel)
theorem dX3_digest_81 : decode cX3_digest 81 = .ok (.if_icmp .gt 24, 3) := z_row zl_cX3_digest 81 1573027 (Nat.le_of_ble_eq_true rfl) (by decide +kernel) z_o163 (by decide +kernel)
theorem dX3_digest_84 : decode cX3_digest 84 = .ok (.lload_n 1, 1) := z_row zl_cX3_digest 84 70687 (Nat.le_of_ble_eq_true rfl) (by decide +kernel) z_o31 (by decide +kernel)
theorem dX3_digest_85 : decode cX3_digest 85 = .ok (.ldc2_w 274, 3) := z_row zl_cX3_digest 85 1179924 (Nat.le_of_ble_eq_true rfl) (by decide +kernel) z_o20 (by decide +kernel)
theorem dX3_digest_88 : decode cX3_digest 88 = .ok (.lmul, 1) := z_row zl_cX3_digest 88 1911401 (Nat.le_of_ble_eq_true rfl) (by decide +kernel) z_o105 (by decide +kernel)
theorem dX3_digest_89 : decode cX3_digest 89 = .ok (.aload_n 0, 1) := z_row zl_cX3_digest 89 1383722 (Nat.le_of_ble_eq_true rfl) (by decide +kernel) z_o42 (by decide +kernel)
theorem dX3_digest_90 : decode cX3_digest 90 = .ok (.iload_n 3, 1) := z_row zl_cX3_digest 90 267549 (Nat.le_of_ble_eq_true rfl) (by decide +kernel) z_o29 (by decide +kernel)
theorem dX3_digest_91 : decode cX3_digest 91 = .ok (.iload 4, 2) := z_row zl_cX3_digest 91 11928597 (Nat.le_of_ble_eq_true rfl) (by decide +kernel) z_o21 (by decide +kernel)
theorem dX3_digest_93 : decode cX3_digest 93 = .ok (.invokevirtual 282, 3) := z_row zl_cX3_digest 93 1704374 (Nat.le_of_ble_eq_true rfl) (by decide +kernel) z_o182 (by decide +kernel)
theorem dX3_digest_96 : decode cX3_digest 96 = .ok (.i2l, 1) := z_row zl_cX3_digest 96 4219269 (Nat.le_of_ble_eq_true rfl) (by decide +kernel) z_o133 (by decide +kernel)
theorem dX3_digest_97 : decode cX3_digest 97 = .ok (.ladd, 1) := z_row zl_cX3_digest 97 8667233 (Nat.le_of_ble_eq_true rfl) (by decide +kernel) z_o97 (by decide +kernel)
theorem dX3_digest_98 : decode cX3_digest 98 = .ok (.lstore_n 1, 1) := z_row zl_cX3_digest 98 296000 (Nat.le_of_ble_eq_true rfl) (by decide +kernel) z_o64 (by decide +kernel)
theorem dX3_digest_99 : decode cX3_digest 99 = .ok (.iinc 4 1, 3) := z_row zl_cX3_digest 99 66692 (Nat.le_of_ble_eq_true rfl) (by decide +kernel) z_o132 (by decide +kernel)
theorem dX3_digest_102 : decode cX3_digest 102 = .ok (.goto (-30), 3) := z_row zl_cX3_digest 102 14876583 (Nat.le_of_ble_eq_true rfl) (by decide +kernel) z_o167 (by decide +kernel)
theorem dX3_digest_105 : decode cX3_digest 105 = .ok (.iconst 0, 1) := z_row zl_cX3_digest 105 275971 (Nat.le_of_ble_eq_true rfl) (by decide +kernel) z_o3 (by decide +kernel)
theorem dX3_digest_106 : decode cX3_digest 106 = .ok (.istore 4, 2) := z_row zl_cX3_digest 106 1377334 (Nat.le_of_ble_eq_true rfl) (by decide +kernel) z_o54 (by decide +kernel)
theorem dX3_digest_108 : decode cX3_digest 108 = .ok (.iload 4, 2) := z_row zl_cX3_digest 108 394261 (Nat.le_of_ble_eq_true rfl) (by decide +kernel) z_o21 (by decide +kernel)
theorem dX3_digest_110 : decode cX3_digest 110 = .ok (.iconst 3, 1) := z_row zl_cX3_digest 110 41734 (Nat.le_of_ble_eq_true rfl) (by decide +kernel) z_o6 (by decide +kernel)
theorem dX3_digest_111 : decode cX3_digest 111 = .ok (.if_icmp .gt 24, 3) := z_row zl_cX3_digest 111 1573027 (Nat.le_of_ble_eq_true rfl) (by decide +kernel) z_o163 (by decide +kernel)
theorem dX3_digest_114 : decode cX3_digest 114 = .ok (.lload_n 1, 1) := z_row zl_cX3_digest 114 70687 (Nat.le_of_ble_eq_true rfl) (by decide +kernel) z_o31 (by decide +kernel)
theorem dX3_digest_115 : decode cX3_digest 115 = .ok (.ldc2_w 274, 3) := z_row zl_cX3_digest 115 1179924 (Nat.le_of_ble_eq_true rfl) (by decide +kernel) z_o20 (by decide +kernel)
theorem dX3_digest_118 : decode cX3_digest 118 = .ok (.lmul, 1) := z_row zl_cX3_digest 118 1911401 (Nat.le_of_ble_eq_true rfl) (by decide +kernel) z_o105 (by decide +kernel)
theorem dX3_digest_119 : decode cX3_digest 119 = .ok (.aload_n 0, 1) := z_row zl_cX3_digest 119 1383722 (Nat.le_of_ble_eq_true rfl) (by decide +kernel) z_o42 (by decide +kernel)
theorem dX3_digest_120 : decode cX3_digest 120 = .ok (.iload_n 3, 1) := z_row zl_cX3_digest 120 267549 (Nat.le_of_ble_eq_true rfl) (by decide +kernel) z_o29 (by decide +kernel)
theorem dX3_digest_121 : decode cX3_digest 121 = .ok (.iload 4, 2) := z_row zl_cX3_digest 121 11928597 (Nat.le_of_ble_eq_true rfl) (by decide +kernel) z_o21 (by decide +kernel)
theorem dX3_digest_123 : decode cX3_digest 123 = .ok (.invokevirtual 285, 3) := z_row zl_cX3_digest 123 1900982 (Nat.le_of_ble_eq_true rfl) (by decide +kernel) z_o182 (by decide +kernel)
theorem dX3_digest_126 : decode cX3_digest 126 = .ok (.i2l, 1) := z_row zl_cX3_digest 126 4219269 (Nat.le_of_ble_eq_true rfl) (by decide +kernel) z_o133 (by decide +kernel)
theorem dX3_digest_127 : decode cX3_digest 127 = .ok (.ladd, 1) := z_row zl_cX3_digest 127 8667233 (Nat.le_of_ble_eq_true rfl) (by decide +kernel) z_o97 (by decide +kernel)
theorem dX3_digest_128 : decode cX3_digest 128 = .ok (.lstore_n 1, 1) := z_row zl_cX3_digest 128 296000 (Nat.le_of_ble_eq_true rfl) (by decide +kernel) z_o64 (by decide +kernel)
theorem dX3_digest_129 : decode cX3_digest 129 = .ok (.iinc 4 1, 3) := z_row zl_cX3_digest 129 66692 (Nat.le_of_ble_eq_true rfl) (by decide +kernel) z_o132 (by decide +kernel)
theorem dX3_digest_132 : decode cX3_digest 132 = .ok (.goto (-24), 3) := z_row zl_cX3_digest 132 15269799 (Nat.le_of_ble_eq_true rfl) (by decide +kernel) z_o167 (by decide +kernel)
theorem dX3_digest_135 : decode cX3_digest 135 = .ok (.iinc 3 1, 3) := z_row zl_cX3_digest 135 66436 (Nat.le_of_ble_eq_true rfl) (by decide +kernel) z_o132 (by decide +kernel)
theorem dX3_digest_138 : decode cX3_digest 138 = .ok (.goto (-105), 3) := z_row zl_cX3_digest 138 9961383 (Nat.le_of_ble_eq_true rfl) (by decide +kernel) z_o167 (by decide +kernel)
theorem dX3_digest_141 : decode cX3_digest 141 = .ok (.lload_n 1, 1) := z_row zl_cX3_digest 141 70687 (Nat.le_of_ble_eq_true rfl) (by decide +kernel) z_o31 (by decide +kernel)
theorem dX3_digest_142 : decode cX3_digest 142 = .ok (.ldc2_w 274, 3) := z_row zl_cX3_digest 142 1179924 (Nat.le_of_ble_eq_true rfl) (by decide +kernel) z_o20 (by decide +kernel)
theorem dX3_digest_145 : decode cX3_digest 145 = .ok (.lmul, 1) := z_row zl_cX3_digest 145 11938409 (Nat.le_of_ble_eq_true rfl) (by decide +kernel) z_o105 (by decide +kernel)
theorem dX3_digest_146 : decode cX3_digest 146 = .ok (.aload_n 0, 1) := z_row zl_cX3_digest 146 112170 (Nat.le_of_ble_eq_true rfl) (by decide +kernel) z_o42 (by decide +kernel)
theorem dX3_digest_147 : decode cX3_digest 147 = .ok (.invokevirtual 288, 3) := z_row zl_cX3_digest 147 2097590 (Nat.le_of_ble_eq_true rfl) (by decide +kernel) z_o182 (by decide +kernel)
theorem dX3_digest_150 : decode cX3_digest 150 = .ok (.ifCond .eq 7, 3) := z_row zl_cX3_digest 150 458905 (Nat.le_of_ble_eq_true rfl) (by decide +kernel) z_o153 (by decide +kernel)
theorem dX3_digest_153 : decode cX3_digest 153 = .ok (.iconst 1, 1) := z_row zl_cX3_digest 153 42756 (Nat.le_of_ble_eq_true rfl) (by decide +kernel) z_o4 (by decide +kernel)
theorem dX3_digest_154 : decode cX3_digest 154 = .ok (.goto 4, 3) := z_row zl_cX3_digest 154 262311 (Nat.le_of_ble_eq_true rfl) (by decide +kernel) z_o167 (by decide +kernel)
theorem dX3_digest_157 : decode cX3_digest 157 = .ok (.iconst 0, 1) := z_row zl_cX3_digest 157 6391043 (Nat.le_of_ble_eq_true rfl) (by decide +kernel) z_o3 (by decide +kernel)
theorem dX3_digest_158 : decode cX3_digest 158 = .ok (.i2l, 1) := z_row zl_cX3_digest 158 11362693 (Nat.le_of_ble_eq_true rfl) (by decide +kernel) z_o133 (by decide +kernel)
set_option maxRecDepth 100000 in
theorem dX3_digest_159 : decode cX3_digest 159 = .ok (.ladd, 1) := by decide +kernel
set_option maxRecDepth 100000 in
theorem dX3_digest_160 : decode cX3_digest 160 = .ok (.lreturn, 1) := by decide +kernel
set_option maxRecDepth 100000 in
theorem dX3_dealAt_0 : decode cX3_dealAt 0 = .ok (.iload_n 1, 1) := by decide +kernel
set_option maxRecDepth 100000 in
theorem dX3_dealAt_1 : decode cX3_dealAt 1 = .ok (.ifCond .lt 12, 3) := by decide +kernel
set_option maxRecDepth 100000 in
theorem dX3_dealAt_4 : decode cX3_dealAt 4 = .ok (.iload_n 1, 1) := by decide +kernel
set_option maxRecDepth 100000 in
theorem dX3_dealAt_5 : decode cX3_dealAt 5 = .ok (.aload_n 0, 1) := by decide +kernel
set_option maxRecDepth 100000 in
theorem dX3_dealAt_6 : decode cX3_dealAt 6 = .ok (.getfield 25, 3) := by decide +kernel
set_option maxRecDepth 100000 in
theorem dX3_dealAt_9 : decode cX3_dealAt 9 = .ok (.arraylength, 1) := by decide +kernel
set_option maxRecDepth 100000 in
theorem dX3_dealAt_10 : decode cX3_dealAt 10 = .ok (.if_icmp .lt 14, 3) := by decide +kernel
set_option maxRecDepth 100000 in
theorem dX3_dealAt_13 : decode cX3_dealAt 13 = .ok (.new 291, 3) := by decide +kernel
set_option maxRecDepth 100000 in
theorem dX3_dealAt_16 : decode cX3_dealAt 16 = .ok (.dup, 1) := by decide +kernel
set_option maxRecDepth 100000 in
theorem dX3_dealAt_17 : decode cX3_dealAt 17 = .ok (.ldc_w 293, 3) := by decide +kernel
set_option maxRecDepth 100000 in
theorem dX3_dealAt_20 : decode cX3_dealAt 20 = .ok (.invokespecial 295, 3) := by decide +kernel
set_option maxRecDepth 100000 in
theorem dX3_dealAt_23 : decode cX3_dealAt 23 = .ok (.athrow, 1) := by decide +kernel
def zN_cX3_dealAt : Nat := 0xb0321b1900b42abf2701b7250113592301bb0e00a1be1900b42a1b0c009b1b
set_option maxRecDepth 100000 in
theorem zl_cX3_dealAt : cX3_dealAt.data.toList = z_un 31 zN_cX3_dealAt := eq_of_beq (by decide +kernel)
theorem dX3_dealAt_24 : decode cX3_dealAt 24 = .ok (.aload_n 0, 1) := z_row zl_cX3_dealAt 24 46122 (Nat.le_of_ble_eq_true rfl) (by decide +kernel) z_o42 (by decide +kernel)
theorem dX3_dealAt_25 : decode cX3_dealAt 25 = .ok (.getfield 25, 3) := z_row zl_cX3_dealAt 25 1638580 (Nat.le_of_ble_eq_true rfl) (by decide +kernel) z_o180 (by decide +kernel)
theorem dX3_dealAt_28 : decode cX3_dealAt 28 = .ok (.iload_n 1, 1) := z_row zl_cX3_dealAt 28 11547163 (Nat.le_of_ble_eq_true rfl) (by decide +kernel) z_o27 (by decide +kernel)
set_option maxRecDepth 100000 in
theorem dX3_dealAt_29 : decode cX3_dealAt 29 = .ok (.aaload, 1) := by decide +kernel
set_option maxRecDepth 100000 in
theorem dX3_dealAt_30 : decode cX3_dealAt 30 = .ok (.areturn, 1) := by decide +kernel
set_option maxRecDepth 100000 in
theorem dX3_requireHolder_0 : decode cX3_requireHolder 0 = .ok (.iload_n 1, 1) := by decide +kernel
set_option maxRecDepth 100000 in
theorem dX3_requireHolder_1 : decode cX3_requireHolder 1 = .ok (.iconst 1, 1) := by decide +kernel
set_option maxRecDepth 100000 in
theorem dX3_requireHolder_2 : decode cX3_requireHolder 2 = .ok (.if_icmp .lt 14, 3) := by decide +kernel
set_option maxRecDepth 100000 in
theorem dX3_requireHolder_5 : decode cX3_requireHolder 5 = .ok (.iload_n 1, 1) := by decide +kernel
set_option maxRecDepth 100000 in
theorem dX3_requireHolder_6 : decode cX3_requireHolder 6 = .ok (.aload_n 0, 1) := by decide +kernel
set_option maxRecDepth 100000 in
theorem dX3_requireHolder_7 : decode cX3_requireHolder 7 = .ok (.getfield 10, 3) := by decide +kernel
set_option maxRecDepth 100000 in
theorem dX3_requireHolder_10 : decode cX3_requireHolder 10 = .ok (.getfield 116, 3) := by decide +kernel
set_option maxRecDepth 100000 in
theorem dX3_requireHolder_13 : decode cX3_requireHolder 13 = .ok (.if_icmp .le 14, 3) := by decide +kernel
set_option maxRecDepth 100000 in
theorem dX3_requireHolder_16 : decode cX3_requireHolder 16 = .ok (.new 291, 3) := by decide +kernel
set_option maxRecDepth 100000 in
theorem dX3_requireHolder_19 : decode cX3_requireHolder 19 = .ok (.dup, 1) := by decide +kernel
set_option maxRecDepth 100000 in
theorem dX3_requireHolder_20 : decode cX3_requireHolder 20 = .ok (.ldc_w 296, 3) := by decide +kernel
set_option maxRecDepth 100000 in
theorem dX3_requireHolder_23 : decode cX3_requireHolder 23 = .ok (.invokespecial 295, 3) := by decide +kernel
set_option maxRecDepth 100000 in
theorem dX3_requireHolder_26 : decode cX3_requireHolder 26 = .ok (.athrow, 1) := by decide +kernel
set_option maxRecDepth 100000 in
theorem dX3_requireHolder_27 : decode cX3_requireHolder 27 = .ok (.return_, 1) := by decide +kernel
set_option maxRecDepth 100000 in
theorem dX3_requireSet_0 : decode cX3_requireSet 0 = .ok (.iload_n 1, 1) := by decide +kernel
set_option maxRecDepth 100000 in
theorem dX3_requireSet_1 : decode cX3_requireSet 1 = .ok (.iconst 1, 1) := by decide +kernel
set_option maxRecDepth 100000 in
theorem dX3_requireSet_2 : decode cX3_requireSet 2 = .ok (.if_icmp .lt 11, 3) := by decide +kernel
set_option maxRecDepth 100000 in
theorem dX3_requireSet_5 : decode cX3_requireSet 5 = .ok (.iload_n 1, 1) := by decide +kernel
set_option maxRecDepth 100000 in
theorem dX3_requireSet_6 : decode cX3_requireSet 6 = .ok (.aload_n 0, 1) := by decide +kernel
set_option maxRecDepth 100000 in
theorem dX3_requireSet_7 : decode cX3_requireSet 7 = .ok (.invokevirtual 266, 3) := by decide +kernel
set_option maxRecDepth 100000 in
theorem dX3_requireSet_10 : decode cX3_requireSet 10 = .ok (.if_icmp .le 14, 3) := by decide +kernel
set_option maxRecDepth 100000 in
theorem dX3_requireSet_13 : decode cX3_requireSet 13 = .ok (.new 42, 3) := by decide +kernel
set_option maxRecDepth 100000 in
theorem dX3_requireSet_16 : decode cX3_requireSet 16 = .ok (.dup, 1) := by decide +kernel
set_option maxRecDepth 100000 in
theorem dX3_requireSet_17 : decode cX3_requireSet 17 = .ok (.ldc_w 298, 3) := by decide +kernel
set_option maxRecDepth 100000 in
theorem dX3_requireSet_20 : decode cX3_requireSet 20 = .ok (.invokespecial 46, 3) := by decide +kernel
set_option maxRecDepth 100000 in
theorem dX3_requireSet_23 : decode cX3_requireSet 23 = .ok (.athrow, 1) := by decide +kernel
set_option maxRecDepth 100000 in
theorem dX3_requireSet_24 : decode cX3_requireSet 24 = .ok (.return_, 1) := by decide +kernel
set_option maxRecDepth 100000 in
theorem dX3_requireToldDegree_0 : decode cX3_requireToldDegree 0 = .ok (.iload_n 0, 1) := by decide +kernel
set_option maxRecDepth 100000 in
theorem dX3_requireToldDegree_1 : decode cX3_requireToldDegree 1 = .ok (.ifCond .lt 8, 3) := by decide +kernel
set_option maxRecDepth 100000 in
theorem dX3_requireToldDegree_4 : decode cX3_requireToldDegree 4 = .ok (.iload_n 0, 1) := by decide +kernel
set_option maxRecDepth 100000 in
theorem dX3_requireToldDegree_5 : decode cX3_requireToldDegree 5 = .ok (.iconst 3, 1) := by decide +kernel
set_option maxRecDepth 100000 in
theorem dX3_requireToldDegree_6 : decode cX3_requireToldDegree 6 = .ok (.if_icmp .le 14, 3) := by decide +kernel
set_option maxRecDepth 100000 in
theorem dX3_requireToldDegree_9 : decode cX3_requireToldDegree 9 = .ok (.new 42, 3) := by decide +kernel
set_option maxRecDepth 100000 in
theorem dX3_requireToldDegree_12 : decode cX3_requireToldDegree 12 = .ok (.dup, 1) := by decide +kernel
set_option maxRecDepth 100000 in
theorem dX3_requireToldDegree_13 : decode cX3_requireToldDegree 13 = .ok (.ldc_w 300, 3) := by decide +kernel
set_option maxRecDepth 100000 in
theorem dX3_requireToldDegree_16 : decode cX3_requireToldDegree 16 = .ok (.invokespecial 46, 3) := by decide +kernel
set_option maxRecDepth 100000 in
theorem dX3_requireToldDegree_19 : decode cX3_requireToldDegree 19 = .ok (.athrow, 1) := by decide +kernel
set_option maxRecDepth 100000 in
theorem dX3_requireToldDegree_20 : decode cX3_requireToldDegree 20 = .ok (.return_, 1) := by decide +kernel
set_option maxRecDepth 100000 in
theorem dX3_requireCoefficient_0 : decode cX3_requireCoefficient 0 = .ok (.iload_n 0, 1) := by decide +kernel
set_option maxRecDepth 100000 in
theorem dX3_requireCoefficient_1 : decode cX3_requireCoefficient 1 = .ok (.ifCond .lt 9, 3) := by decide +kernel
set_option maxRecDepth 100000 in
theorem dX3_requireCoefficient_4 : decode cX3_requireCoefficient 4 = .ok (.iload_n 0, 1) := by decide +kernel
set_option maxRecDepth 100000 in
theorem dX3_requireCoefficient_5 : decode cX3_requireCoefficient 5 = .ok (.bipush 6, 2) := by decide +kernel
set_option maxRecDepth 100000 in
theorem dX3_requireCoefficient_7 : decode cX3_requireCoefficient 7 = .ok (.if_icmp .le 14, 3) := by decide +kernel
set_option maxRecDepth 100000 in
theorem dX3_requireCoefficient_10 : decode cX3_requireCoefficient 10 = .ok (.new 42, 3) := by decide +kernel
set_option maxRecDepth 100000 in
theorem dX3_requireCoefficient_13 : decode cX3_requireCoefficient 13 = .ok (.dup, 1) := by decide +kernel
set_option maxRecDepth 100000 in
theorem dX3_requireCoefficient_14 : decode cX3_requireCoefficient 14 = .ok (.ldc_w 302, 3) := by decide +kernel
set_option maxRecDepth 100000 in
theorem dX3_requireCoefficient_17 : decode cX3_requireCoefficient 17 = .ok (.invokespecial 46, 3) := by decide +kernel
set_option maxRecDepth 100000 in
theorem dX3_requireCoefficient_20 : decode cX3_requireCoefficient 20 = .ok (.athrow, 1) := by decide +kernel
set_option maxRecDepth 100000 in
theorem dX3_requireCoefficient_21 : decode cX3_requireCoefficient 21 = .ok (.return_, 1) := by decide +kernel
set_option maxRecDepth 100000 in
theorem dX3_bitOf_0 : decode cX3_bitOf 0 = .ok (.iconst 1, 1) := by decide +kernel
set_option maxRecDepth 100000 in
theorem dX3_bitOf_1 : decode cX3_bitOf 1 = .ok (.iload_n 0, 1) := by decide +kernel
set_option maxRecDepth 100000 in
theorem dX3_bitOf_2 : decode cX3_bitOf 2 = .ok (.iconst 1, 1) := by decide +kernel
set_option maxRecDepth 100000 in
theorem dX3_bitOf_3 : decode cX3_bitOf 3 = .ok (.isub, 1) := by decide +kernel
set_option maxRecDepth 100000 in
theorem dX3_bitOf_4 : decode cX3_bitOf 4 = .ok (.ishl, 1) := by decide +kernel
set_option maxRecDepth 100000 in
theorem dX3_bitOf_5 : decode cX3_bitOf 5 = .ok (.ireturn, 1) := by decide +kernel
set_option maxRecDepth 100000 in
theorem dX3_isIn_0 : decode cX3_isIn 0 = .ok (.iload_n 0, 1) := by decide +kernel
set_option maxRecDepth 100000 in
theorem dX3_isIn_1 : decode cX3_isIn 1 = .ok (.iload_n 1, 1) := by decide +kernel
set_option maxRecDepth 100000 in
theorem dX3_isIn_2 : decode cX3_isIn 2 = .ok (.iconst 1, 1) := by decide +kernel
set_option maxRecDepth 100000 in
theorem dX3_isIn_3 : decode cX3_isIn 3 = .ok (.isub, 1) := by decide +kernel
set_option maxRecDepth 100000 in
theorem dX3_isIn_4 : decode cX3_isIn 4 = .ok (.ishr, 1) := by decide +kernel
set_option maxRecDepth 100000 in
theorem dX3_isIn_5 : decode cX3_isIn 5 = .ok (.iconst 1, 1) := by decide +kernel
set_option maxRecDepth 100000 in
theorem dX3_isIn_6 : decode cX3_isIn 6 = .ok (.iand, 1) := by decide +kernel
set_option maxRecDepth 100000 in
theorem dX3_isIn_7 : decode cX3_isIn 7 = .ok (.iconst 1, 1) := by decide +kernel
set_option maxRecDepth 100000 in
theorem dX3_isIn_8 : decode cX3_isIn 8 = .ok (.if_icmp .ne 7, 3) := by decide +kernel
set_option maxRecDepth 100000 in
theorem dX3_isIn_11 : decode cX3_isIn 11 = .ok (.iconst 1, 1) := by decide +kernel
set_option maxRecDepth 100000 in
theorem dX3_isIn_12 : decode cX3_isIn 12 = .ok (.goto 4, 3) := by decide +kernel
set_option maxRecDepth 100000 in
theorem dX3_isIn_15 : decode cX3_isIn 15 = .ok (.iconst 0, 1) := by decide +kernel
set_option maxRecDepth 100000 in
theorem dX3_isIn_16 : decode cX3_isIn 16 = .ok (.ireturn, 1) := by decide +kernel
set_option maxRecDepth 100000 in
theorem dX3_allHolders_0 : decode cX3_allHolders 0 = .ok (.iconst 1, 1) := by decide +kernel
set_option maxRecDepth 100000 in
theorem dX3_allHolders_1 : decode cX3_allHolders 1 = .ok (.aload_n 0, 1) := by decide +kernel
set_option maxRecDepth 100000 in
theorem dX3_allHolders_2 : decode cX3_allHolders 2 = .ok (.getfield 10, 3) := by decide +kernel
set_option maxRecDepth 100000 in
theorem dX3_allHolders_5 : decode cX3_allHolders 5 = .ok (.getfield 116, 3) := by decide +kernel
set_option maxRecDepth 100000 in
theorem dX3_allHolders_8 : decode cX3_allHolders 8 = .ok (.ishl, 1) := by decide +kernel
set_option maxRecDepth 100000 in
theorem dX3_allHolders_9 : decode cX3_allHolders 9 = .ok (.iconst 1, 1) := by decide +kernel
set_option maxRecDepth 100000 in
theorem dX3_allHolders_10 : decode cX3_allHolders 10 = .ok (.isub, 1) := by decide +kernel
set_option maxRecDepth 100000 in
theorem dX3_allHolders_11 : decode cX3_allHolders 11 = .ok (.ireturn, 1) := by decide +kernel
set_option maxRecDepth 100000 in
theorem dX3_quotient_0 : decode cX3_quotient 0 = .ok (.iload_n 2, 1) := by decide +kernel
set_option maxRecDepth 100000 in
theorem dX3_quotient_1 : decode cX3_quotient 1 = .ok (.ifCond .ne 8, 3) := by decide +kernel
set_option maxRecDepth 100000 in
theorem dX3_quotient_4 : decode cX3_quotient 4 = .ok (.bipush (-9), 2) := by decide +kernel
set_option maxRecDepth 100000 in
theorem dX3_quotient_6 : decode cX3_quotient 6 = .ok (.goto 22, 3) := by decide +kernel
set_option maxRecDepth 100000 in
theorem dX3_quotient_9 : decode cX3_quotient 9 = .ok (.aload_n 0, 1) := by decide +kernel
set_option maxRecDepth 100000 in
theorem dX3_quotient_10 : decode cX3_quotient 10 = .ok (.getfield 10, 3) := by decide +kernel
set_option maxRecDepth 100000 in
theorem dX3_quotient_13 : decode cX3_quotient 13 = .ok (.iload_n 1, 1) := by decide +kernel
set_option maxRecDepth 100000 in
theorem dX3_quotient_14 : decode cX3_quotient 14 = .ok (.i2l, 1) := by decide +kernel
set_option maxRecDepth 100000 in
theorem dX3_quotient_15 : decode cX3_quotient 15 = .ok (.aload_n 0, 1) := by decide +kernel
set_option maxRecDepth 100000 in
theorem dX3_quotient_16 : decode cX3_quotient 16 = .ok (.getfield 10, 3) := by decide +kernel
set_option maxRecDepth 100000 in
theorem dX3_quotient_19 : decode cX3_quotient 19 = .ok (.iload_n 2, 1) := by decide +kernel
set_option maxRecDepth 100000 in
theorem dX3_quotient_20 : decode cX3_quotient 20 = .ok (.invokevirtual 304, 3) := by decide +kernel
set_option maxRecDepth 100000 in
theorem dX3_quotient_23 : decode cX3_quotient 23 = .ok (.i2l, 1) := by decide +kernel
def zN_cX3_quotient : Nat := 0xac3b00b669853001b61c0a00b42a851b0a00b42a1600a7f71008009a1c
set_option maxRecDepth 100000 in
theorem zl_cX3_quotient : cX3_quotient.data.toList = z_un 29 zN_cX3_quotient := eq_of_beq (by decide +kernel)
theorem dX3_quotient_24 : decode cX3_quotient 24 = .ok (.lmul, 1) := z_row zl_cX3_quotient 24 46697 (Nat.le_of_ble_eq_true rfl) (by decide +kernel) z_o105 (by decide +kernel)
theorem dX3_quotient_25 : decode cX3_quotient 25 = .ok (.invokevirtual 59, 3) := z_row zl_cX3_quotient 25 3866806 (Nat.le_of_ble_eq_true rfl) (by decide +kernel) z_o182 (by decide +kernel)
set_option maxRecDepth 100000 in
theorem dX3_quotient_28 : decode cX3_quotient 28 = .ok (.ireturn, 1) := by decide +kernel
set_option maxRecDepth 100000 in
theorem dX3_weightSum_0 : decode cX3_weightSum 0 = .ok (.lconst 0, 1) := by decide +kernel
set_option maxRecDepth 100000 in
theorem dX3_weightSum_1 : decode cX3_weightSum 1 = .ok (.lstore_n 3, 1) := by decide +kernel
set_option maxRecDepth 100000 in
theorem dX3_weightSum_2 : decode cX3_weightSum 2 = .ok (.iconst 1, 1) := by decide +kernel
set_option maxRecDepth 100000 in
theorem dX3_weightSum_3 : decode cX3_weightSum 3 = .ok (.istore 5, 2) := by decide +kernel
set_option maxRecDepth 100000 in
theorem dX3_weightSum_5 : decode cX3_weightSum 5 = .ok (.iload 5, 2) := by decide +kernel
set_option maxRecDepth 100000 in
theorem dX3_weightSum_7 : decode cX3_weightSum 7 = .ok (.aload_n 0, 1) := by decide +kernel
set_option maxRecDepth 100000 in
theorem dX3_weightSum_8 : decode cX3_weightSum 8 = .ok (.getfield 10, 3) := by decide +kernel
set_option maxRecDepth 100000 in
theorem dX3_weightSum_11 : decode cX3_weightSum 11 = .ok (.getfield 116, 3) := by decide +kernel
set_option maxRecDepth 100000 in
theorem dX3_weightSum_14 : decode cX3_weightSum 14 = .ok (.if_icmp .gt 33, 3) := by decide +kernel
set_option maxRecDepth 100000 in
theorem dX3_weightSum_17 : decode cX3_weightSum 17 = .ok (.iload_n 1, 1) := by decide +kernel
set_option maxRecDepth 100000 in
theorem dX3_weightSum_18 : decode cX3_weightSum 18 = .ok (.iload 5, 2) := by decide +kernel
set_option maxRecDepth 100000 in
theorem dX3_weightSum_20 : decode cX3_weightSum 20 = .ok (.invokestatic 83, 3) := by decide +kernel
set_option maxRecDepth 100000 in
theorem dX3_weightSum_23 : decode cX3_weightSum 23 = .ok (.ifCond .eq 18, 3) := by decide +kernel
def zN_cX3_weightSum : Nat := 0xac3b00b6210a00b42ad9ffa70105844261855700b61c05151b0a00b42a211200995300b805151b2100a37400b40a00b42a05150536044209
set_option maxRecDepth 100000 in
theorem zl_cX3_weightSum : cX3_weightSum.data.toList = z_un 56 zN_cX3_weightSum := eq_of_beq (by decide +kernel)
theorem dX3_weightSum_26 : decode cX3_weightSum 26 = .ok (.lload_n 3, 1) := z_row zl_cX3_weightSum 26 11807265 (Nat.le_of_ble_eq_true rfl) (by decide +kernel) z_o33 (by decide +kernel)
theorem dX3_weightSum_27 : decode cX3_weightSum 27 = .ok (.aload_n 0, 1) := z_row zl_cX3_weightSum 27 46122 (Nat.le_of_ble_eq_true rfl) (by decide +kernel) z_o42 (by decide +kernel)
theorem dX3_weightSum_28 : decode cX3_weightSum 28 = .ok (.getfield 10, 3) := z_row zl_cX3_weightSum 28 655540 (Nat.le_of_ble_eq_true rfl) (by decide +kernel) z_o180 (by decide +kernel)
theorem dX3_weightSum_31 : decode cX3_weightSum 31 = .ok (.iload_n 1, 1) := z_row zl_cX3_weightSum 31 333083 (Nat.le_of_ble_eq_true rfl) (by decide +kernel) z_o27 (by decide +kernel)
theorem dX3_weightSum_32 : decode cX3_weightSum 32 = .ok (.iload 5, 2) := z_row zl_cX3_weightSum 32 1836309 (Nat.le_of_ble_eq_true rfl) (by decide +kernel) z_o21 (by decide +kernel)
theorem dX3_weightSum_34 : decode cX3_weightSum 34 = .ok (.iload_n 2, 1) := z_row zl_cX3_weightSum 34 46620 (Nat.le_of_ble_eq_true rfl) (by decide +kernel) z_o28 (by decide +kernel)
theorem dX3_weightSum_35 : decode cX3_weightSum 35 = .ok (.invokevirtual 87, 3) := z_row zl_cX3_weightSum 35 5701814 (Nat.le_of_ble_eq_true rfl) (by decide +kernel) z_o182 (by decide +kernel)
theorem dX3_weightSum_38 : decode cX3_weightSum 38 = .ok (.i2l, 1) := z_row zl_cX3_weightSum 38 4350341 (Nat.le_of_ble_eq_true rfl) (by decide +kernel) z_o133 (by decide +kernel)
theorem dX3_weightSum_39 : decode cX3_weightSum 39 = .ok (.ladd, 1) := z_row zl_cX3_weightSum 39 8667745 (Nat.le_of_ble_eq_true rfl) (by decide +kernel) z_o97 (by decide +kernel)
theorem dX3_weightSum_40 : decode cX3_weightSum 40 = .ok (.lstore_n 3, 1) := z_row zl_cX3_weightSum 40 361538 (Nat.le_of_ble_eq_true rfl) (by decide +kernel) z_o66 (by decide +kernel)
theorem dX3_weightSum_41 : decode cX3_weightSum 41 = .ok (.iinc 5 1, 3) := z_row zl_cX3_weightSum 41 66948 (Nat.le_of_ble_eq_true rfl) (by decide +kernel) z_o132 (by decide +kernel)
theorem dX3_weightSum_44 : decode cX3_weightSum 44 = .ok (.goto (-39), 3) := z_row zl_cX3_weightSum 44 14286759 (Nat.le_of_ble_eq_true rfl) (by decide +kernel) z_o167 (by decide +kernel)
theorem dX3_weightSum_47 : decode cX3_weightSum 47 = .ok (.aload_n 0, 1) := z_row zl_cX3_weightSum 47 46122 (Nat.le_of_ble_eq_true rfl) (by decide +kernel) z_o42 (by decide +kernel)
theorem dX3_weightSum_48 : decode cX3_weightSum 48 = .ok (.getfield 10, 3) := z_row zl_cX3_weightSum 48 655540 (Nat.le_of_ble_eq_true rfl) (by decide +kernel) z_o180 (by decide +kernel)
theorem dX3_weightSum_51 : decode cX3_weightSum 51 = .ok (.lload_n 3, 1) := z_row zl_cX3_weightSum 51 46625 (Nat.le_of_ble_eq_true rfl) (by decide +kernel) z_o33 (by decide +kernel)
theorem dX3_weightSum_52 : decode cX3_weightSum 52 = .ok (.invokevirtual 59, 3) := z_row zl_cX3_weightSum 52 3866806 (Nat.le_of_ble_eq_true rfl) (by decide +kernel) z_o182 (by decide +kernel)
set_option maxRecDepth 100000 in
theorem dX3_weightSum_55 : decode cX3_weightSum 55 = .ok (.ireturn, 1) := by decide +kernel
set_option maxRecDepth 100000 in
theorem dX3_tell_0 : decode cX3_tell 0 = .ok (.lconst 0, 1) := by decide +kernel
set_option maxRecDepth 100000 in
theorem dX3_tell_1 : decode cX3_tell 1 = .ok (.lstore 4, 2) := by decide +kernel
set_option maxRecDepth 100000 in
theorem dX3_tell_3 : decode cX3_tell 3 = .ok (.iconst 1, 1) := by decide +kernel
set_option maxRecDepth 100000 in
theorem dX3_tell_4 : decode cX3_tell 4 = .ok (.istore 6, 2) := by decide +kernel
set_option maxRecDepth 100000 in
theorem dX3_tell_6 : decode cX3_tell 6 = .ok (.iload 6, 2) := by decide +kernel
set_option maxRecDepth 100000 in
theorem dX3_tell_8 : decode cX3_tell 8 = .ok (.aload_n 0, 1) := by decide +kernel
set_option maxRecDepth 100000 in
theorem dX3_tell_9 : decode cX3_tell 9 = .ok (.getfield 10, 3) := by decide +kernel
set_option maxRecDepth 100000 in
theorem dX3_tell_12 : decode cX3_tell 12 = .ok (.getfield 116, 3) := by decide +kernel
set_option maxRecDepth 100000 in
theorem dX3_tell_15 : decode cX3_tell 15 = .ok (.if_icmp .gt 43, 3) := by decide +kernel
set_option maxRecDepth 100000 in
theorem dX3_tell_18 : decode cX3_tell 18 = .ok (.iload_n 2, 1) := by decide +kernel
set_option maxRecDepth 100000 in
theorem dX3_tell_19 : decode cX3_tell 19 = .ok (.iload 6, 2) := by decide +kernel
set_option maxRecDepth 100000 in
theorem dX3_tell_21 : decode cX3_tell 21 = .ok (.invokestatic 83, 3) := by decide +kernel
def zN_cX3_tell : Nat := 0xac3b00b604160a00b42acfffa701068404376169855700b61d06151c0a00b42a857b00b606152b04161c00995300b806151c2b00a37400b40a00b42a0615063604043709
set_option maxRecDepth 100000 in
theorem zl_cX3_tell : cX3_tell.data.toList = z_un 68 zN_cX3_tell := eq_of_beq (by decide +kernel)
theorem dX3_tell_24 : decode cX3_tell 24 = .ok (.ifCond .eq 28, 3) := z_row zl_cX3_tell 24 1835161 (Nat.le_of_ble_eq_true rfl) (by decide +kernel) z_o153 (by decide +kernel)
theorem dX3_tell_27 : decode cX3_tell 27 = .ok (.lload 4, 2) := z_row zl_cX3_tell 27 2819094 (Nat.le_of_ble_eq_true rfl) (by decide +kernel) z_o22 (by decide +kernel)
theorem dX3_tell_29 : decode cX3_tell 29 = .ok (.aload_n 1, 1) := z_row zl_cX3_tell 29 398635 (Nat.le_of_ble_eq_true rfl) (by decide +kernel) z_o43 (by decide +kernel)
theorem dX3_tell_30 : decode cX3_tell 30 = .ok (.iload 6, 2) := z_row zl_cX3_tell 30 11929109 (Nat.le_of_ble_eq_true rfl) (by decide +kernel) z_o21 (by decide +kernel)
theorem dX3_tell_32 : decode cX3_tell 32 = .ok (.invokevirtual 123, 3) := z_row zl_cX3_tell 32 8061110 (Nat.le_of_ble_eq_true rfl) (by decide +kernel) z_o182 (by decide +kernel)
theorem dX3_tell_35 : decode cX3_tell 35 = .ok (.i2l, 1) := z_row zl_cX3_tell 35 11807365 (Nat.le_of_ble_eq_true rfl) (by decide +kernel) z_o133 (by decide +kernel)
theorem dX3_tell_36 : decode cX3_tell 36 = .ok (.aload_n 0, 1) := z_row zl_cX3_tell 36 46122 (Nat.le_of_ble_eq_true rfl) (by decide +kernel) z_o42 (by decide +kernel)
theorem dX3_tell_37 : decode cX3_tell 37 = .ok (.getfield 10, 3) := z_row zl_cX3_tell 37 655540 (Nat.le_of_ble_eq_true rfl) (by decide +kernel) z_o180 (by decide +kernel)
theorem dX3_tell_40 : decode cX3_tell 40 = .ok (.iload_n 2, 1) := z_row zl_cX3_tell 40 398620 (Nat.le_of_ble_eq_true rfl) (by decide +kernel) z_o28 (by decide +kernel)
theorem dX3_tell_41 : decode cX3_tell 41 = .ok (.iload 6, 2) := z_row zl_cX3_tell 41 1902101 (Nat.le_of_ble_eq_true rfl) (by decide +kernel) z_o21 (by decide +kernel)
theorem dX3_tell_43 : decode cX3_tell 43 = .ok (.iload_n 3, 1) := z_row zl_cX3_tell 43 46621 (Nat.le_of_ble_eq_true rfl) (by decide +kernel) z_o29 (by decide +kernel)
theorem dX3_tell_44 : decode cX3_tell 44 = .ok (.invokevirtual 87, 3) := z_row zl_cX3_tell 44 5701814 (Nat.le_of_ble_eq_true rfl) (by decide +kernel) z_o182 (by decide +kernel)
theorem dX3_tell_47 : decode cX3_tell 47 = .ok (.i2l, 1) := z_row zl_cX3_tell 47 6384005 (Nat.le_of_ble_eq_true rfl) (by decide +kernel) z_o133 (by decide +kernel)
theorem dX3_tell_48 : decode cX3_tell 48 = .ok (.lmul, 1) := z_row zl_cX3_tell 48 3629417 (Nat.le_of_ble_eq_true rfl) (by decide +kernel) z_o105 (by decide +kernel)
theorem dX3_tell_49 : decode cX3_tell 49 = .ok (.ladd, 1) := z_row zl_cX3_tell 49 276321 (Nat.le_of_ble_eq_true rfl) (by decide +kernel) z_o97 (by decide +kernel)
theorem dX3_tell_50 : decode cX3_tell 50 = .ok (.lstore 4, 2) := z_row zl_cX3_tell 50 8651831 (Nat.le_of_ble_eq_true rfl) (by decide +kernel) z_o55 (by decide +kernel)
theorem dX3_tell_52 : decode cX3_tell 52 = .ok (.iinc 6 1, 3) := z_row zl_cX3_tell 52 67204 (Nat.le_of_ble_eq_true rfl) (by decide +kernel) z_o132 (by decide +kernel)
theorem dX3_tell_55 : decode cX3_tell 55 = .ok (.goto (-49), 3) := z_row zl_cX3_tell 55 13631399 (Nat.le_of_ble_eq_true rfl) (by decide +kernel) z_o167 (by decide +kernel)
theorem dX3_tell_58 : decode cX3_tell 58 = .ok (.aload_n 0, 1) := z_row zl_cX3_tell 58 46122 (Nat.le_of_ble_eq_true rfl) (by decide +kernel) z_o42 (by decide +kernel)
theorem dX3_tell_59 : decode cX3_tell 59 = .ok (.getfield 10, 3) := z_row zl_cX3_tell 59 655540 (Nat.le_of_ble_eq_true rfl) (by decide +kernel) z_o180 (by decide +kernel)
theorem dX3_tell_62 : decode cX3_tell 62 = .ok (.lload 4, 2) := z_row zl_cX3_tell 62 11928598 (Nat.le_of_ble_eq_true rfl) (by decide +kernel) z_o22 (by decide +kernel)
theorem dX3_tell_64 : decode cX3_tell 64 = .ok (.invokevirtual 59, 3) := z_row zl_cX3_tell 64 3866806 (Nat.le_of_ble_eq_true rfl) (by decide +kernel) z_o182 (by decide +kernel)
set_option maxRecDepth 100000 in
theorem dX3_tell_67 : decode cX3_tell 67 = .ok (.ireturn, 1) := by decide +kernel
set_option maxRecDepth 100000 in
theorem dX3_layPoly_0 : decode cX3_layPoly 0 = .ok (.aload_n 1, 1) := by decide +kernel
set_option maxRecDepth 100000 in
theorem dX3_layPoly_1 : decode cX3_layPoly 1 = .ok (.iload_n 2, 1) := by decide +kernel
set_option maxRecDepth 100000 in
theorem dX3_layPoly_2 : decode cX3_layPoly 2 = .ok (.invokevirtual 157, 3) := by decide +kernel
set_option maxRecDepth 100000 in
theorem dX3_layPoly_5 : decode cX3_layPoly 5 = .ok (.iconst 1, 1) := by decide +kernel
set_option maxRecDepth 100000 in
theorem dX3_layPoly_6 : decode cX3_layPoly 6 = .ok (.istore_n 3, 1) := by decide +kernel
set_option maxRecDepth 100000 in
theorem dX3_layPoly_7 : decode cX3_layPoly 7 = .ok (.iload_n 3, 1) := by decide +kernel
set_option maxRecDepth 100000 in
theorem dX3_layPoly_8 : decode cX3_layPoly 8 = .ok (.aload_n 0, 1) := by decide +kernel
set_option maxRecDepth 100000 in
theorem dX3_layPoly_9 : decode cX3_layPoly 9 = .ok (.getfield 10, 3) := by decide +kernel
set_option maxRecDepth 100000 in
theorem dX3_layPoly_12 : decode cX3_layPoly 12 = .ok (.getfield 116, 3) := by decide +kernel
set_option maxRecDepth 100000 in
theorem dX3_layPoly_15 : decode cX3_layPoly 15 = .ok (.if_icmp .gt 26, 3) := by decide +kernel
set_option maxRecDepth 100000 in
theorem dX3_layPoly_18 : decode cX3_layPoly 18 = .ok (.aload_n 1, 1) := by decide +kernel
set_option maxRecDepth 100000 in
theorem dX3_layPoly_19 : decode cX3_layPoly 19 = .ok (.iload_n 3, 1) := by decide +kernel
set_option maxRecDepth 100000 in
theorem dX3_layPoly_20 : decode cX3_layPoly 20 = .ok (.aload_n 0, 1) := by decide +kernel
set_option maxRecDepth 100000 in
theorem dX3_layPoly_21 : decode cX3_layPoly 21 = .ok (.getfield 19, 3) := by decide +kernel
def zN_cX3_layPoly : Nat := 0xac9500b62be5ffa7010384a700b64900b68c00b61d1300b42a0a00b42a2b1c00a31c1d3e03e1ffa70103848200b67e00b61d0a00b42a1300b42a1d2b1a00a37400b40a00b42a1d3e049d00b61c2b
set_option maxRecDepth 100000 in
theorem zl_cX3_layPoly : cX3_layPoly.data.toList = z_un 78 zN_cX3_layPoly := eq_of_beq (by decide +kernel)
theorem dX3_layPoly_24 : decode cX3_layPoly 24 = .ok (.aload_n 0, 1) := z_row zl_cX3_layPoly 24 46122 (Nat.le_of_ble_eq_true rfl) (by decide +kernel) z_o42 (by decide +kernel)
theorem dX3_layPoly_25 : decode cX3_layPoly 25 = .ok (.getfield 10, 3) := z_row zl_cX3_layPoly 25 655540 (Nat.le_of_ble_eq_true rfl) (by decide +kernel) z_o180 (by decide +kernel)
theorem dX3_layPoly_28 : decode cX3_layPoly 28 = .ok (.iload_n 3, 1) := z_row zl_cX3_layPoly 28 46621 (Nat.le_of_ble_eq_true rfl) (by decide +kernel) z_o29 (by decide +kernel)
theorem dX3_layPoly_29 : decode cX3_layPoly 29 = .ok (.invokevirtual 126, 3) := z_row zl_cX3_layPoly 29 8257718 (Nat.le_of_ble_eq_true rfl) (by decide +kernel) z_o182 (by decide +kernel)
theorem dX3_layPoly_32 : decode cX3_layPoly 32 = .ok (.invokevirtual 130, 3) := z_row zl_cX3_layPoly 32 8519862 (Nat.le_of_ble_eq_true rfl) (by decide +kernel) z_o182 (by decide +kernel)
theorem dX3_layPoly_35 : decode cX3_layPoly 35 = .ok (.iinc 3 1, 3) := z_row zl_cX3_layPoly 35 66436 (Nat.le_of_ble_eq_true rfl) (by decide +kernel) z_o132 (by decide +kernel)
theorem dX3_layPoly_38 : decode cX3_layPoly 38 = .ok (.goto (-31), 3) := z_row zl_cX3_layPoly 38 14811047 (Nat.le_of_ble_eq_true rfl) (by decide +kernel) z_o167 (by decide +kernel)
theorem dX3_layPoly_41 : decode cX3_layPoly 41 = .ok (.iconst 0, 1) := z_row zl_cX3_layPoly 41 1916419 (Nat.le_of_ble_eq_true rfl) (by decide +kernel) z_o3 (by decide +kernel)
theorem dX3_layPoly_42 : decode cX3_layPoly 42 = .ok (.istore_n 3, 1) := z_row zl_cX3_layPoly 42 1842494 (Nat.le_of_ble_eq_true rfl) (by decide +kernel) z_o62 (by decide +kernel)
theorem dX3_layPoly_43 : decode cX3_layPoly 43 = .ok (.iload_n 3, 1) := z_row zl_cX3_layPoly 43 10689565 (Nat.le_of_ble_eq_true rfl) (by decide +kernel) z_o29 (by decide +kernel)
theorem dX3_layPoly_44 : decode cX3_layPoly 44 = .ok (.iload_n 2, 1) := z_row zl_cX3_layPoly 44 41756 (Nat.le_of_ble_eq_true rfl) (by decide +kernel) z_o28 (by decide +kernel)
theorem dX3_layPoly_45 : decode cX3_layPoly 45 = .ok (.if_icmp .gt 28, 3) := z_row zl_cX3_layPoly 45 1835171 (Nat.le_of_ble_eq_true rfl) (by decide +kernel) z_o163 (by decide +kernel)
theorem dX3_layPoly_48 : decode cX3_layPoly 48 = .ok (.aload_n 1, 1) := z_row zl_cX3_layPoly 48 11807275 (Nat.le_of_ble_eq_true rfl) (by decide +kernel) z_o43 (by decide +kernel)
theorem dX3_layPoly_49 : decode cX3_layPoly 49 = .ok (.aload_n 0, 1) := z_row zl_cX3_layPoly 49 46122 (Nat.le_of_ble_eq_true rfl) (by decide +kernel) z_o42 (by decide +kernel)
theorem dX3_layPoly_50 : decode cX3_layPoly 50 = .ok (.getfield 10, 3) := z_row zl_cX3_layPoly 50 655540 (Nat.le_of_ble_eq_true rfl) (by decide +kernel) z_o180 (by decide +kernel)
theorem dX3_layPoly_53 : decode cX3_layPoly 53 = .ok (.aload_n 0, 1) := z_row zl_cX3_layPoly 53 46122 (Nat.le_of_ble_eq_true rfl) (by decide +kernel) z_o42 (by decide +kernel)
theorem dX3_layPoly_54 : decode cX3_layPoly 54 = .ok (.getfield 19, 3) := z_row zl_cX3_layPoly 54 1245364 (Nat.le_of_ble_eq_true rfl) (by decide +kernel) z_o180 (by decide +kernel)
theorem dX3_layPoly_57 : decode cX3_layPoly 57 = .ok (.iload_n 3, 1) := z_row zl_cX3_layPoly 57 46621 (Nat.le_of_ble_eq_true rfl) (by decide +kernel) z_o29 (by decide +kernel)
theorem dX3_layPoly_58 : decode cX3_layPoly 58 = .ok (.invokevirtual 140, 3) := z_row zl_cX3_layPoly 58 9175222 (Nat.le_of_ble_eq_true rfl) (by decide +kernel) z_o182 (by decide +kernel)
theorem dX3_layPoly_61 : decode cX3_layPoly 61 = .ok (.invokevirtual 73, 3) := z_row zl_cX3_layPoly 61 4784310 (Nat.le_of_ble_eq_true rfl) (by decide +kernel) z_o182 (by decide +kernel)
theorem dX3_layPoly_64 : decode cX3_layPoly 64 = .ok (.invokevirtual 167, 3) := z_row zl_cX3_layPoly 64 10944694 (Nat.le_of_ble_eq_true rfl) (by decide +kernel) z_o182 (by decide +kernel)
theorem dX3_layPoly_67 : decode cX3_layPoly 67 = .ok (.iinc 3 1, 3) := z_row zl_cX3_layPoly 67 66436 (Nat.le_of_ble_eq_true rfl) (by decide +kernel) z_o132 (by decide +kernel)
theorem dX3_layPoly_70 : decode cX3_layPoly 70 = .ok (.goto (-27), 3) := z_row zl_cX3_layPoly 70 15073191 (Nat.le_of_ble_eq_true rfl) (by decide +kernel) z_o167 (by decide +kernel)
theorem dX3_layPoly_73 : decode cX3_layPoly 73 = .ok (.aload_n 1, 1) := z_row zl_cX3_layPoly 73 46635 (Nat.le_of_ble_eq_true rfl) (by decide +kernel) z_o43 (by decide +kernel)
theorem dX3_layPoly_74 : decode cX3_layPoly 74 = .ok (.invokevirtual 149, 3) := z_row zl_cX3_layPoly 74 9765046 (Nat.le_of_ble_eq_true rfl) (by decide +kernel) z_o182 (by decide +kernel)
set_option maxRecDepth 100000 in
theorem dX3_layPoly_77 : decode cX3_layPoly 77 = .ok (.ireturn, 1) := by decide +kernel
set_option maxRecDepth 100000 in
theorem dX3_laySpare_0 : decode cX3_laySpare 0 = .ok (.aload_n 1, 1) := by decide +kernel
set_option maxRecDepth 100000 in
theorem dX3_laySpare_1 : decode cX3_laySpare 1 = .ok (.aload_n 0, 1) := by decide +kernel
set_option maxRecDepth 100000 in
theorem dX3_laySpare_2 : decode cX3_laySpare 2 = .ok (.getfield 30, 3) := by decide +kernel
set_option maxRecDepth 100000 in
theorem dX3_laySpare_5 : decode cX3_laySpare 5 = .ok (.invokevirtual 191, 3) := by decide +kernel
set_option maxRecDepth 100000 in
theorem dX3_laySpare_8 : decode cX3_laySpare 8 = .ok (.aload_n 1, 1) := by decide +kernel
set_option maxRecDepth 100000 in
theorem dX3_laySpare_9 : decode cX3_laySpare 9 = .ok (.invokevirtual 149, 3) := by decide +kernel
set_option maxRecDepth 100000 in
theorem dX3_laySpare_12 : decode cX3_laySpare 12 = .ok (.ireturn, 1) := by decide +kernel
set_option maxRecDepth 100000 in
theorem dX3_addUp_0 : decode cX3_addUp 0 = .ok (.aload_n 1, 1) := by decide +kernel
set_option maxRecDepth 100000 in
theorem dX3_addUp_1 : decode cX3_addUp 1 = .ok (.invokevirtual 109, 3) := by decide +kernel
set_option maxRecDepth 100000 in
theorem dX3_addUp_4 : decode cX3_addUp 4 = .ok (.ifCond .ne 10, 3) := by decide +kernel
set_option maxRecDepth 100000 in
theorem dX3_addUp_7 : decode cX3_addUp 7 = .ok (.aload_n 2, 1) := by decide +kernel
set_option maxRecDepth 100000 in
theorem dX3_addUp_8 : decode cX3_addUp 8 = .ok (.invokevirtual 109, 3) := by decide +kernel
set_option maxRecDepth 100000 in
theorem dX3_addUp_11 : decode cX3_addUp 11 = .ok (.ifCond .eq 6, 3) := by decide +kernel
set_option maxRecDepth 100000 in
theorem dX3_addUp_14 : decode cX3_addUp 14 = .ok (.bipush (-9), 2) := by decide +kernel
set_option maxRecDepth 100000 in
theorem dX3_addUp_16 : decode cX3_addUp 16 = .ok (.ireturn, 1) := by decide +kernel
set_option maxRecDepth 100000 in
theorem dX3_addUp_17 : decode cX3_addUp 17 = .ok (.aload_n 0, 1) := by decide +kernel
set_option maxRecDepth 100000 in
theorem dX3_addUp_18 : decode cX3_addUp 18 = .ok (.getfield 30, 3) := by decide +kernel
set_option maxRecDepth 100000 in
theorem dX3_addUp_21 : decode cX3_addUp 21 = .ok (.aload_n 1, 1) := by decide +kernel
set_option maxRecDepth 100000 in
theorem dX3_addUp_22 : decode cX3_addUp 22 = .ok (.getfield 113, 3) := by decide +kernel
def zN_cX3_addUp : Nat := 0xaca000b62d2a3801b604152c2b2a0b0099c300b62c120099c300b62bacffa70105848200b63b00b6610616857b00b605152b0a00b42a05151e00b42a0637857b00b605152c0a00a775857b00b605152c0e009904153600997700b605152c3f00997700b605152b4e00a37400b40a00b42a05150536049d00b63301b87100b42c7100b42b1e00b42aacf7100600996d00b62c0a009a6d00b62b
set_option maxRecDepth 100000 in
theorem zl_cX3_addUp : cX3_addUp.data.toList = z_un 153 zN_cX3_addUp := eq_of_beq (by decide +kernel)
theorem dX3_addUp_25 : decode cX3_addUp 25 = .ok (.aload_n 2, 1) := z_row zl_cX3_addUp 25 46124 (Nat.le_of_ble_eq_true rfl) (by decide +kernel) z_o44 (by decide +kernel)
theorem dX3_addUp_26 : decode cX3_addUp 26 = .ok (.getfield 113, 3) := z_row zl_cX3_addUp 26 7405748 (Nat.le_of_ble_eq_true rfl) (by decide +kernel) z_o180 (by decide +kernel)
theorem dX3_addUp_29 : decode cX3_addUp 29 = .ok (.invokestatic 307, 3) := z_row zl_cX3_addUp 29 3342776 (Nat.le_of_ble_eq_true rfl) (by decide +kernel) z_o184 (by decide +kernel)
theorem dX3_addUp_32 : decode cX3_addUp 32 = .ok (.invokevirtual 157, 3) := z_row zl_cX3_addUp 32 10289334 (Nat.le_of_ble_eq_true rfl) (by decide +kernel) z_o182 (by decide +kernel)
theorem dX3_addUp_35 : decode cX3_addUp 35 = .ok (.iconst 1, 1) := z_row zl_cX3_addUp 35 341508 (Nat.le_of_ble_eq_true rfl) (by decide +kernel) z_o4 (by decide +kernel)
theorem dX3_addUp_36 : decode cX3_addUp 36 = .ok (.istore 5, 2) := z_row zl_cX3_addUp 36 1377590 (Nat.le_of_ble_eq_true rfl) (by decide +kernel) z_o54 (by decide +kernel)
theorem dX3_addUp_38 : decode cX3_addUp 38 = .ok (.iload 5, 2) := z_row zl_cX3_addUp 38 2753813 (Nat.le_of_ble_eq_true rfl) (by decide +kernel) z_o21 (by decide +kernel)
theorem dX3_addUp_40 : decode cX3_addUp 40 = .ok (.aload_n 0, 1) := z_row zl_cX3_addUp 40 46122 (Nat.le_of_ble_eq_true rfl) (by decide +kernel) z_o42 (by decide +kernel)
theorem dX3_addUp_41 : decode cX3_addUp 41 = .ok (.getfield 10, 3) := z_row zl_cX3_addUp 41 655540 (Nat.le_of_ble_eq_true rfl) (by decide +kernel) z_o180 (by decide +kernel)
theorem dX3_addUp_44 : decode cX3_addUp 44 = .ok (.getfield 116, 3) := z_row zl_cX3_addUp 44 7602356 (Nat.le_of_ble_eq_true rfl) (by decide +kernel) z_o180 (by decide +kernel)
theorem dX3_addUp_47 : decode cX3_addUp 47 = .ok (.if_icmp .gt 78, 3) := z_row zl_cX3_addUp 47 5111971 (Nat.le_of_ble_eq_true rfl) (by decide +kernel) z_o163 (by decide +kernel)
theorem dX3_addUp_50 : decode cX3_addUp 50 = .ok (.aload_n 1, 1) := z_row zl_cX3_addUp 50 333099 (Nat.le_of_ble_eq_true rfl) (by decide +kernel) z_o43 (by decide +kernel)
theorem dX3_addUp_51 : decode cX3_addUp 51 = .ok (.iload 5, 2) := z_row zl_cX3_addUp 51 11928853 (Nat.le_of_ble_eq_true rfl) (by decide +kernel) z_o21 (by decide +kernel)
theorem dX3_addUp_53 : decode cX3_addUp 53 = .ok (.invokevirtual 119, 3) := z_row zl_cX3_addUp 53 7798966 (Nat.le_of_ble_eq_true rfl) (by decide +kernel) z_o182 (by decide +kernel)
theorem dX3_addUp_56 : decode cX3_addUp 56 = .ok (.ifCond .eq 63, 3) := z_row zl_cX3_addUp 56 4128921 (Nat.le_of_ble_eq_true rfl) (by decide +kernel) z_o153 (by decide +kernel)
theorem dX3_addUp_59 : decode cX3_addUp 59 = .ok (.aload_n 2, 1) := z_row zl_cX3_addUp 59 333100 (Nat.le_of_ble_eq_true rfl) (by decide +kernel) z_o44 (by decide +kernel)
theorem dX3_addUp_60 : decode cX3_addUp 60 = .ok (.iload 5, 2) := z_row zl_cX3_addUp 60 11928853 (Nat.le_of_ble_eq_true rfl) (by decide +kernel) z_o21 (by decide +kernel)
theorem dX3_addUp_62 : decode cX3_addUp 62 = .ok (.invokevirtual 119, 3) := z_row zl_cX3_addUp 62 7798966 (Nat.le_of_ble_eq_true rfl) (by decide +kernel) z_o182 (by decide +kernel)
theorem dX3_addUp_65 : decode cX3_addUp 65 = .ok (.ifCond .eq 54, 3) := z_row zl_cX3_addUp 65 3539097 (Nat.le_of_ble_eq_true rfl) (by decide +kernel) z_o153 (by decide +kernel)
theorem dX3_addUp_68 : decode cX3_addUp 68 = .ok (.iload 4, 2) := z_row zl_cX3_addUp 68 10028053 (Nat.le_of_ble_eq_true rfl) (by decide +kernel) z_o21 (by decide +kernel)
theorem dX3_addUp_70 : decode cX3_addUp 70 = .ok (.ifCond .eq 14, 3) := z_row zl_cX3_addUp 70 917657 (Nat.le_of_ble_eq_true rfl) (by decide +kernel) z_o153 (by decide +kernel)
theorem dX3_addUp_73 : decode cX3_addUp 73 = .ok (.aload_n 2, 1) := z_row zl_cX3_addUp 73 333100 (Nat.le_of_ble_eq_true rfl) (by decide +kernel) z_o44 (by decide +kernel)
theorem dX3_addUp_74 : decode cX3_addUp 74 = .ok (.iload 5, 2) := z_row zl_cX3_addUp 74 11928853 (Nat.le_of_ble_eq_true rfl) (by decide +kernel) z_o21 (by decide +kernel)
theorem dX3_addUp_76 : decode cX3_addUp 76 = .ok (.invokevirtual 123, 3) := z_row zl_cX3_addUp 76 8061110 (Nat.le_of_ble_eq_true rfl) (by decide +kernel) z_o182 (by decide +kernel)
theorem dX3_addUp_79 : decode cX3_addUp 79 = .ok (.i2l, 1) := z_row zl_cX3_addUp 79 10974597 (Nat.le_of_ble_eq_true rfl) (by decide +kernel) z_o133 (by decide +kernel)
theorem dX3_addUp_80 : decode cX3_addUp 80 = .ok (.lneg, 1) := z_row zl_cX3_addUp 80 42869 (Nat.le_of_ble_eq_true rfl) (by decide +kernel) z_o117 (by decide +kernel)
theorem dX3_addUp_81 : decode cX3_addUp 81 = .ok (.goto 10, 3) := z_row zl_cX3_addUp 81 655527 (Nat.le_of_ble_eq_true rfl) (by decide +kernel) z_o167 (by decide +kernel)
theorem dX3_addUp_84 : decode cX3_addUp 84 = .ok (.aload_n 2, 1) := z_row zl_cX3_addUp 84 333100 (Nat.le_of_ble_eq_true rfl) (by decide +kernel) z_o44 (by decide +kernel)
theorem dX3_addUp_85 : decode cX3_addUp 85 = .ok (.iload 5, 2) := z_row zl_cX3_addUp 85 11928853 (Nat.le_of_ble_eq_true rfl) (by decide +kernel) z_o21 (by decide +kernel)
theorem dX3_addUp_87 : decode cX3_addUp 87 = .ok (.invokevirtual 123, 3) := z_row zl_cX3_addUp 87 8061110 (Nat.le_of_ble_eq_true rfl) (by decide +kernel) z_o182 (by decide +kernel)
theorem dX3_addUp_90 : decode cX3_addUp 90 = .ok (.i2l, 1) := z_row zl_cX3_addUp 90 407429 (Nat.le_of_ble_eq_true rfl) (by decide +kernel) z_o133 (by decide +kernel)
theorem dX3_addUp_91 : decode cX3_addUp 91 = .ok (.lstore 6, 2) := z_row zl_cX3_addUp 91 2754103 (Nat.le_of_ble_eq_true rfl) (by decide +kernel) z_o55 (by decide +kernel)
theorem dX3_addUp_93 : decode cX3_addUp 93 = .ok (.aload_n 0, 1) := z_row zl_cX3_addUp 93 46122 (Nat.le_of_ble_eq_true rfl) (by decide +kernel) z_o42 (by decide +kernel)
theorem dX3_addUp_94 : decode cX3_addUp 94 = .ok (.getfield 30, 3) := z_row zl_cX3_addUp 94 1966260 (Nat.le_of_ble_eq_true rfl) (by decide +kernel) z_o180 (by decide +kernel)
theorem dX3_addUp_97 : decode cX3_addUp 97 = .ok (.iload 5, 2) := z_row zl_cX3_addUp 97 2753813 (Nat.le_of_ble_eq_true rfl) (by decide +kernel) z_o21 (by decide +kernel)
theorem dX3_addUp_99 : decode cX3_addUp 99 = .ok (.aload_n 0, 1) := z_row zl_cX3_addUp 99 46122 (Nat.le_of_ble_eq_true rfl) (by decide +kernel) z_o42 (by decide +kernel)
theorem dX3_addUp_100 : decode cX3_addUp 100 = .ok (.getfield 10, 3) := z_row zl_cX3_addUp 100 655540 (Nat.le_of_ble_eq_true rfl) (by decide +kernel) z_o180 (by decide +kernel)
theorem dX3_addUp_103 : decode cX3_addUp 103 = .ok (.aload_n 1, 1) := z_row zl_cX3_addUp 103 333099 (Nat.le_of_ble_eq_true rfl) (by decide +kernel) z_o43 (by decide +kernel)
theorem dX3_addUp_104 : decode cX3_addUp 104 = .ok (.iload 5, 2) := z_row zl_cX3_addUp 104 11928853 (Nat.le_of_ble_eq_true rfl) (by decide +kernel) z_o21 (by decide +kernel)
theorem dX3_addUp_106 : decode cX3_addUp 106 = .ok (.invokevirtual 123, 3) := z_row zl_cX3_addUp 106 8061110 (Nat.le_of_ble_eq_true rfl) (by decide +kernel) z_o182 (by decide +kernel)
theorem dX3_addUp_109 : decode cX3_addUp 109 = .ok (.i2l, 1) := z_row zl_cX3_addUp 109 398981 (Nat.le_of_ble_eq_true rfl) (by decide +kernel) z_o133 (by decide +kernel)
theorem dX3_addUp_110 : decode cX3_addUp 110 = .ok (.lload 6, 2) := z_row zl_cX3_addUp 110 6358550 (Nat.le_of_ble_eq_true rfl) (by decide +kernel) z_o22 (by decide +kernel)
theorem dX3_addUp_112 : decode cX3_addUp 112 = .ok (.ladd, 1) := z_row zl_cX3_addUp 112 46689 (Nat.le_of_ble_eq_true rfl) (by decide +kernel) z_o97 (by decide +kernel)
theorem dX3_addUp_113 : decode cX3_addUp 113 = .ok (.invokevirtual 59, 3) := z_row zl_cX3_addUp 113 3866806 (Nat.le_of_ble_eq_true rfl) (by decide +kernel) z_o182 (by decide +kernel)
theorem dX3_addUp_116 : decode cX3_addUp 116 = .ok (.invokevirtual 130, 3) := z_row zl_cX3_addUp 116 8519862 (Nat.le_of_ble_eq_true rfl) (by decide +kernel) z_o182 (by decide +kernel)
theorem dX3_addUp_119 : decode cX3_addUp 119 = .ok (.iinc 5 1, 3) := z_row zl_cX3_addUp 119 66948 (Nat.le_of_ble_eq_true rfl) (by decide +kernel) z_o132 (by decide +kernel)
theorem dX3_addUp_122 : decode cX3_addUp 122 = .ok (.goto (-84), 3) := z_row zl_cX3_addUp 122 11337639 (Nat.le_of_ble_eq_true rfl) (by decide +kernel) z_o167 (by decide +kernel)
theorem dX3_addUp_125 : decode cX3_addUp 125 = .ok (.aload_n 1, 1) := z_row zl_cX3_addUp 125 46635 (Nat.le_of_ble_eq_true rfl) (by decide +kernel) z_o43 (by decide +kernel)
theorem dX3_addUp_126 : decode cX3_addUp 126 = .ok (.invokevirtual 195, 3) := z_row zl_cX3_addUp 126 12779702 (Nat.le_of_ble_eq_true rfl) (by decide +kernel) z_o182 (by decide +kernel)
theorem dX3_addUp_129 : decode cX3_addUp 129 = .ok (.ifCond .eq 18, 3) := z_row zl_cX3_addUp 129 1179801 (Nat.le_of_ble_eq_true rfl) (by decide +kernel) z_o153 (by decide +kernel)
theorem dX3_addUp_132 : decode cX3_addUp 132 = .ok (.aload_n 2, 1) := z_row zl_cX3_addUp 132 46636 (Nat.le_of_ble_eq_true rfl) (by decide +kernel) z_o44 (by decide +kernel)
theorem dX3_addUp_133 : decode cX3_addUp 133 = .ok (.invokevirtual 195, 3) := z_row zl_cX3_addUp 133 12779702 (Nat.le_of_ble_eq_true rfl) (by decide +kernel) z_o182 (by decide +kernel)
theorem dX3_addUp_136 : decode cX3_addUp 136 = .ok (.ifCond .eq 11, 3) := z_row zl_cX3_addUp 136 721049 (Nat.le_of_ble_eq_true rfl) (by decide +kernel) z_o153 (by decide +kernel)
theorem dX3_addUp_139 : decode cX3_addUp 139 = .ok (.aload_n 0, 1) := z_row zl_cX3_addUp 139 2894634 (Nat.le_of_ble_eq_true rfl) (by decide +kernel) z_o42 (by decide +kernel)
theorem dX3_addUp_140 : decode cX3_addUp 140 = .ok (.aload_n 1, 1) := z_row zl_cX3_addUp 140 1387563 (Nat.le_of_ble_eq_true rfl) (by decide +kernel) z_o43 (by decide +kernel)
theorem dX3_addUp_141 : decode cX3_addUp 141 = .ok (.aload_n 2, 1) := z_row zl_cX3_addUp 141 267564 (Nat.le_of_ble_eq_true rfl) (by decide +kernel) z_o44 (by decide +kernel)
theorem dX3_addUp_142 : decode cX3_addUp 142 = .ok (.iload 4, 2) := z_row zl_cX3_addUp 142 11928597 (Nat.le_of_ble_eq_true rfl) (by decide +kernel) z_o21 (by decide +kernel)
theorem dX3_addUp_144 : decode cX3_addUp 144 = .ok (.invokevirtual 312, 3) := z_row zl_cX3_addUp 144 3670454 (Nat.le_of_ble_eq_true rfl) (by decide +kernel) z_o182 (by decide +kernel)
theorem dX3_addUp_147 : decode cX3_addUp 147 = .ok (.aload_n 0, 1) := z_row zl_cX3_addUp 147 11939114 (Nat.le_of_ble_eq_true rfl) (by decide +kernel) z_o42 (by decide +kernel)
theorem dX3_addUp_148 : decode cX3_addUp 148 = .ok (.aload_n 3, 1) := z_row zl_cX3_addUp 148 46637 (Nat.le_of_ble_eq_true rfl) (by decide +kernel) z_o45 (by decide +kernel)
theorem dX3_addUp_149 : decode cX3_addUp 149 = .ok (.invokevirtual 160, 3) := z_row zl_cX3_addUp 149 10485942 (Nat.le_of_ble_eq_true rfl) (by decide +kernel) z_o182 (by decide +kernel)
set_option maxRecDepth 100000 in
theorem dX3_addUp_152 : decode cX3_addUp 152 = .ok (.ireturn, 1) := by decide +kernel
set_option maxRecDepth 100000 in
theorem dX3_addUpSeals_0 : decode cX3_addUpSeals 0 = .ok (.iconst 0, 1) := by decide +kernel
set_option maxRecDepth 100000 in
theorem dX3_addUpSeals_1 : decode cX3_addUpSeals 1 = .ok (.istore 4, 2) := by decide +kernel
set_option maxRecDepth 100000 in
theorem dX3_addUpSeals_3 : decode cX3_addUpSeals 3 = .ok (.iload 4, 2) := by decide +kernel
set_option maxRecDepth 100000 in
theorem dX3_addUpSeals_5 : decode cX3_addUpSeals 5 = .ok (.aload_n 0, 1) := by decide +kernel
set_option maxRecDepth 100000 in
theorem dX3_addUpSeals_6 : decode cX3_addUpSeals 6 = .ok (.getfield 30, 3) := by decide +kernel
set_option maxRecDepth 100000 in
theorem dX3_addUpSeals_9 : decode cX3_addUpSeals 9 = .ok (.getfield 113, 3) := by decide +kernel
set_option maxRecDepth 100000 in
theorem dX3_addUpSeals_12 : decode cX3_addUpSeals 12 = .ok (.if_icmp .gt 85, 3) := by decide +kernel
set_option maxRecDepth 100000 in
theorem dX3_addUpSeals_15 : decode cX3_addUpSeals 15 = .ok (.iload 4, 2) := by decide +kernel
set_option maxRecDepth 100000 in
theorem dX3_addUpSeals_17 : decode cX3_addUpSeals 17 = .ok (.aload_n 1, 1) := by decide +kernel
set_option maxRecDepth 100000 in
theorem dX3_addUpSeals_18 : decode cX3_addUpSeals 18 = .ok (.getfield 134, 3) := by decide +kernel
set_option maxRecDepth 100000 in
theorem dX3_addUpSeals_21 : decode cX3_addUpSeals 21 = .ok (.if_icmp .ge 12, 3) := by decide +kernel
def zN_cX3_addUpSeals : Nat := 0xb1a5ffa7010484a700b68f00b606150500a73c01b606150a00b42a0f00991d05150a00b42a1e00b42a0636040400a78900b604152c0c00a28600b42c04150536040400a78900b604152b0c00a28600b42b04155500a37100b41e00b42a0415043603
set_option maxRecDepth 100000 in
theorem zl_cX3_addUpSeals : cX3_addUpSeals.data.toList = z_un 98 zN_cX3_addUpSeals := eq_of_beq (by decide +kernel)
theorem dX3_addUpSeals_24 : decode cX3_addUpSeals 24 = .ok (.aload_n 1, 1) := z_row zl_cX3_addUpSeals 24 267563 (Nat.le_of_ble_eq_true rfl) (by decide +kernel) z_o43 (by decide +kernel)
theorem dX3_addUpSeals_25 : decode cX3_addUpSeals 25 = .ok (.iload 4, 2) := z_row zl_cX3_addUpSeals 25 11928597 (Nat.le_of_ble_eq_true rfl) (by decide +kernel) z_o21 (by decide +kernel)
theorem dX3_addUpSeals_27 : decode cX3_addUpSeals 27 = .ok (.invokevirtual 137, 3) := z_row zl_cX3_addUpSeals 27 8978614 (Nat.le_of_ble_eq_true rfl) (by decide +kernel) z_o182 (by decide +kernel)
theorem dX3_addUpSeals_30 : decode cX3_addUpSeals 30 = .ok (.goto 4, 3) := z_row zl_cX3_addUpSeals 30 262311 (Nat.le_of_ble_eq_true rfl) (by decide +kernel) z_o167 (by decide +kernel)
theorem dX3_addUpSeals_33 : decode cX3_addUpSeals 33 = .ok (.iconst 1, 1) := z_row zl_cX3_addUpSeals 33 341508 (Nat.le_of_ble_eq_true rfl) (by decide +kernel) z_o4 (by decide +kernel)
theorem dX3_addUpSeals_34 : decode cX3_addUpSeals 34 = .ok (.istore 5, 2) := z_row zl_cX3_addUpSeals 34 1377590 (Nat.le_of_ble_eq_true rfl) (by decide +kernel) z_o54 (by decide +kernel)
theorem dX3_addUpSeals_36 : decode cX3_addUpSeals 36 = .ok (.iload 4, 2) := z_row zl_cX3_addUpSeals 36 2884629 (Nat.le_of_ble_eq_true rfl) (by decide +kernel) z_o21 (by decide +kernel)
theorem dX3_addUpSeals_38 : decode cX3_addUpSeals 38 = .ok (.aload_n 2, 1) := z_row zl_cX3_addUpSeals 38 46124 (Nat.le_of_ble_eq_true rfl) (by decide +kernel) z_o44 (by decide +kernel)
theorem dX3_addUpSeals_39 : decode cX3_addUpSeals 39 = .ok (.getfield 134, 3) := z_row zl_cX3_addUpSeals 39 8782004 (Nat.le_of_ble_eq_true rfl) (by decide +kernel) z_o180 (by decide +kernel)
theorem dX3_addUpSeals_42 : decode cX3_addUpSeals 42 = .ok (.if_icmp .ge 12, 3) := z_row zl_cX3_addUpSeals 42 786594 (Nat.le_of_ble_eq_true rfl) (by decide +kernel) z_o162 (by decide +kernel)
theorem dX3_addUpSeals_45 : decode cX3_addUpSeals 45 = .ok (.aload_n 2, 1) := z_row zl_cX3_addUpSeals 45 267564 (Nat.le_of_ble_eq_true rfl) (by decide +kernel) z_o44 (by decide +kernel)
theorem dX3_addUpSeals_46 : decode cX3_addUpSeals 46 = .ok (.iload 4, 2) := z_row zl_cX3_addUpSeals 46 11928597 (Nat.le_of_ble_eq_true rfl) (by decide +kernel) z_o21 (by decide +kernel)
theorem dX3_addUpSeals_48 : decode cX3_addUpSeals 48 = .ok (.invokevirtual 137, 3) := z_row zl_cX3_addUpSeals 48 8978614 (Nat.le_of_ble_eq_true rfl) (by decide +kernel) z_o182 (by decide +kernel)
theorem dX3_addUpSeals_51 : decode cX3_addUpSeals 51 = .ok (.goto 4, 3) := z_row zl_cX3_addUpSeals 51 262311 (Nat.le_of_ble_eq_true rfl) (by decide +kernel) z_o167 (by decide +kernel)
theorem dX3_addUpSeals_54 : decode cX3_addUpSeals 54 = .ok (.iconst 1, 1) := z_row zl_cX3_addUpSeals 54 407044 (Nat.le_of_ble_eq_true rfl) (by decide +kernel) z_o4 (by decide +kernel)
theorem dX3_addUpSeals_55 : decode cX3_addUpSeals 55 = .ok (.istore 6, 2) := z_row zl_cX3_addUpSeals 55 2754102 (Nat.le_of_ble_eq_true rfl) (by decide +kernel) z_o54 (by decide +kernel)
theorem dX3_addUpSeals_57 : decode cX3_addUpSeals 57 = .ok (.aload_n 0, 1) := z_row zl_cX3_addUpSeals 57 46122 (Nat.le_of_ble_eq_true rfl) (by decide +kernel) z_o42 (by decide +kernel)
theorem dX3_addUpSeals_58 : decode cX3_addUpSeals 58 = .ok (.getfield 30, 3) := z_row zl_cX3_addUpSeals 58 1966260 (Nat.le_of_ble_eq_true rfl) (by decide +kernel) z_o180 (by decide +kernel)
theorem dX3_addUpSeals_61 : decode cX3_addUpSeals 61 = .ok (.aload_n 0, 1) := z_row zl_cX3_addUpSeals 61 46122 (Nat.le_of_ble_eq_true rfl) (by decide +kernel) z_o42 (by decide +kernel)
theorem dX3_addUpSeals_62 : decode cX3_addUpSeals 62 = .ok (.getfield 10, 3) := z_row zl_cX3_addUpSeals 62 655540 (Nat.le_of_ble_eq_true rfl) (by decide +kernel) z_o180 (by decide +kernel)
theorem dX3_addUpSeals_65 : decode cX3_addUpSeals 65 = .ok (.iload 5, 2) := z_row zl_cX3_addUpSeals 65 1901845 (Nat.le_of_ble_eq_true rfl) (by decide +kernel) z_o21 (by decide +kernel)
theorem dX3_addUpSeals_67 : decode cX3_addUpSeals 67 = .ok (.iload_n 3, 1) := z_row zl_cX3_addUpSeals 67 39197 (Nat.le_of_ble_eq_true rfl) (by decide +kernel) z_o29 (by decide +kernel)
theorem dX3_addUpSeals_68 : decode cX3_addUpSeals 68 = .ok (.ifCond .eq 15, 3) := z_row zl_cX3_addUpSeals 68 983193 (Nat.le_of_ble_eq_true rfl) (by decide +kernel) z_o153 (by decide +kernel)
theorem dX3_addUpSeals_71 : decode cX3_addUpSeals 71 = .ok (.aload_n 0, 1) := z_row zl_cX3_addUpSeals 71 46122 (Nat.le_of_ble_eq_true rfl) (by decide +kernel) z_o42 (by decide +kernel)
theorem dX3_addUpSeals_72 : decode cX3_addUpSeals 72 = .ok (.getfield 10, 3) := z_row zl_cX3_addUpSeals 72 655540 (Nat.le_of_ble_eq_true rfl) (by decide +kernel) z_o180 (by decide +kernel)
theorem dX3_addUpSeals_75 : decode cX3_addUpSeals 75 = .ok (.iload 6, 2) := z_row zl_cX3_addUpSeals 75 11929109 (Nat.le_of_ble_eq_true rfl) (by decide +kernel) z_o21 (by decide +kernel)
theorem dX3_addUpSeals_77 : decode cX3_addUpSeals 77 = .ok (.invokevirtual 316, 3) := z_row zl_cX3_addUpSeals 77 3932598 (Nat.le_of_ble_eq_true rfl) (by decide +kernel) z_o182 (by decide +kernel)
theorem dX3_addUpSeals_80 : decode cX3_addUpSeals 80 = .ok (.goto 5, 3) := z_row zl_cX3_addUpSeals 80 327847 (Nat.le_of_ble_eq_true rfl) (by decide +kernel) z_o167 (by decide +kernel)
theorem dX3_addUpSeals_83 : decode cX3_addUpSeals 83 = .ok (.iload 6, 2) := z_row zl_cX3_addUpSeals 83 11929109 (Nat.le_of_ble_eq_true rfl) (by decide +kernel) z_o21 (by decide +kernel)
theorem dX3_addUpSeals_85 : decode cX3_addUpSeals 85 = .ok (.invokevirtual 143, 3) := z_row zl_cX3_addUpSeals 85 9371830 (Nat.le_of_ble_eq_true rfl) (by decide +kernel) z_o182 (by decide +kernel)
theorem dX3_addUpSeals_88 : decode cX3_addUpSeals 88 = .ok (.invokevirtual 167, 3) := z_row zl_cX3_addUpSeals 88 10944694 (Nat.le_of_ble_eq_true rfl) (by decide +kernel) z_o182 (by decide +kernel)
theorem dX3_addUpSeals_91 : decode cX3_addUpSeals 91 = .ok (.iinc 4 1, 3) := z_row zl_cX3_addUpSeals 91 66692 (Nat.le_of_ble_eq_true rfl) (by decide +kernel) z_o132 (by decide +kernel)
theorem dX3_addUpSeals_94 : decode cX3_addUpSeals 94 = .ok (.goto (-91), 3) := z_row zl_cX3_addUpSeals 94 10878887 (Nat.le_of_ble_eq_true rfl) (by decide +kernel) z_o167 (by decide +kernel)
set_option maxRecDepth 100000 in
theorem dX3_addUpSeals_97 : decode cX3_addUpSeals 97 = .ok (.return_, 1) := by decide +kernel
set_option maxRecDepth 100000 in
theorem dX3_isInLine_0 : decode cX3_isInLine 0 = .ok (.aload_n 1, 1) := by decide +kernel
set_option maxRecDepth 100000 in
theorem dX3_isInLine_1 : decode cX3_isInLine 1 = .ok (.invokevirtual 109, 3) := by decide +kernel
set_option maxRecDepth 100000 in
theorem dX3_isInLine_4 : decode cX3_isInLine 4 = .ok (.ifCond .eq 5, 3) := by decide +kernel
set_option maxRecDepth 100000 in
theorem dX3_isInLine_7 : decode cX3_isInLine 7 = .ok (.iconst 0, 1) := by decide +kernel
set_option maxRecDepth 100000 in
theorem dX3_isInLine_8 : decode cX3_isInLine 8 = .ok (.ireturn, 1) := by decide +kernel
set_option maxRecDepth 100000 in
theorem dX3_isInLine_9 : decode cX3_isInLine 9 = .ok (.aload_n 0, 1) := by decide +kernel
set_option maxRecDepth 100000 in
theorem dX3_isInLine_10 : decode cX3_isInLine 10 = .ok (.getfield 19, 3) := by decide +kernel
set_option maxRecDepth 100000 in
theorem dX3_isInLine_13 : decode cX3_isInLine 13 = .ok (.aload_n 0, 1) := by decide +kernel
set_option maxRecDepth 100000 in
theorem dX3_isInLine_14 : decode cX3_isInLine 14 = .ok (.getfield 10, 3) := by decide +kernel
set_option maxRecDepth 100000 in
theorem dX3_isInLine_17 : decode cX3_isInLine 17 = .ok (.aload_n 1, 1) := by decide +kernel
set_option maxRecDepth 100000 in
theorem dX3_isInLine_18 : decode cX3_isInLine 18 = .ok (.iload_n 2, 1) := by decide +kernel
set_option maxRecDepth 100000 in
theorem dX3_isInLine_19 : decode cX3_isInLine 19 = .ok (.invokevirtual 213, 3) := by decide +kernel
set_option maxRecDepth 100000 in
theorem dX3_isInLine_22 : decode cX3_isInLine 22 = .ok (.aload_n 0, 1) := by decide +kernel
set_option maxRecDepth 100000 in
theorem dX3_isInLine_23 : decode cX3_isInLine 23 = .ok (.getfield 19, 3) := by decide +kernel
def zN_cX3_isInLine : Nat := 0xac030400a7040700a37100b42bd900b61300b42ad500b61c2b0a00b42a1300b42aac030500996d00b62b
set_option maxRecDepth 100000 in
theorem zl_cX3_isInLine : cX3_isInLine.data.toList = z_un 42 zN_cX3_isInLine := eq_of_beq (by decide +kernel)
theorem dX3_isInLine_26 : decode cX3_isInLine 26 = .ok (.invokevirtual 217, 3) := z_row zl_cX3_isInLine 26 14221494 (Nat.le_of_ble_eq_true rfl) (by decide +kernel) z_o182 (by decide +kernel)
theorem dX3_isInLine_29 : decode cX3_isInLine 29 = .ok (.aload_n 1, 1) := z_row zl_cX3_isInLine 29 46123 (Nat.le_of_ble_eq_true rfl) (by decide +kernel) z_o43 (by decide +kernel)
theorem dX3_isInLine_30 : decode cX3_isInLine 30 = .ok (.getfield 113, 3) := z_row zl_cX3_isInLine 30 7405748 (Nat.le_of_ble_eq_true rfl) (by decide +kernel) z_o180 (by decide +kernel)
theorem dX3_isInLine_33 : decode cX3_isInLine 33 = .ok (.if_icmp .gt 7, 3) := z_row zl_cX3_isInLine 33 458915 (Nat.le_of_ble_eq_true rfl) (by decide +kernel) z_o163 (by decide +kernel)
theorem dX3_isInLine_36 : decode cX3_isInLine 36 = .ok (.iconst 1, 1) := z_row zl_cX3_isInLine 36 42756 (Nat.le_of_ble_eq_true rfl) (by decide +kernel) z_o4 (by decide +kernel)
theorem dX3_isInLine_37 : decode cX3_isInLine 37 = .ok (.goto 4, 3) := z_row zl_cX3_isInLine 37 262311 (Nat.le_of_ble_eq_true rfl) (by decide +kernel) z_o167 (by decide +kernel)
set_option maxRecDepth 100000 in
theorem dX3_isInLine_40 : decode cX3_isInLine 40 = .ok (.iconst 0, 1) := by decide +kernel
set_option maxRecDepth 100000 in
theorem dX3_isInLine_41 : decode cX3_isInLine 41 = .ok (.ireturn, 1) := by decide +kernel
set_option maxRecDepth 100000 in
theorem dX3_suspectSet_0 : decode cX3_suspectSet 0 = .ok (.aload_n 1, 1) := by decide +kernel
set_option maxRecDepth 100000 in
theorem dX3_suspectSet_1 : decode cX3_suspectSet 1 = .ok (.invokevirtual 185, 3) := by decide +kernel
set_option maxRecDepth 100000 in
theorem dX3_suspectSet_4 : decode cX3_suspectSet 4 = .ok (.istore_n 2, 1) := by decide +kernel
set_option maxRecDepth 100000 in
theorem dX3_suspectSet_5 : decode cX3_suspectSet 5 = .ok (.iconst 0, 1) := by decide +kernel
set_option maxRecDepth 100000 in
theorem dX3_suspectSet_6 : decode cX3_suspectSet 6 = .ok (.istore_n 3, 1) := by decide +kernel
set_option maxRecDepth 100000 in
theorem dX3_suspectSet_7 : decode cX3_suspectSet 7 = .ok (.iconst 1, 1) := by decide +kernel
set_option maxRecDepth 100000 in
theorem dX3_suspectSet_8 : decode cX3_suspectSet 8 = .ok (.istore 4, 2) := by decide +kernel
set_option maxRecDepth 100000 in
theorem dX3_suspectSet_10 : decode cX3_suspectSet 10 = .ok (.iload 4, 2) := by decide +kernel
set_option maxRecDepth 100000 in
theorem dX3_suspectSet_12 : decode cX3_suspectSet 12 = .ok (.aload_n 0, 1) := by decide +kernel
set_option maxRecDepth 100000 in
theorem dX3_suspectSet_13 : decode cX3_suspectSet 13 = .ok (.getfield 10, 3) := by decide +kernel
set_option maxRecDepth 100000 in
theorem dX3_suspectSet_16 : decode cX3_suspectSet 16 = .ok (.getfield 116, 3) := by decide +kernel
set_option maxRecDepth 100000 in
theorem dX3_suspectSet_19 : decode cX3_suspectSet 19 = .ok (.if_icmp .gt 43, 3) := by decide +kernel
set_option maxRecDepth 100000 in
theorem dX3_suspectSet_22 : decode cX3_suspectSet 22 = .ok (.iload_n 2, 1) := by decide +kernel
set_option maxRecDepth 100000 in
theorem dX3_suspectSet_23 : decode cX3_suspectSet 23 = .ok (.iload 4, 2) := by decide +kernel
def zN_cX3_suspectSet : Nat := 0xac1dcfffa70104843e80bc00b804151d0b0099c600b67e8202bc00b804151c2b2a1c00995300b804151c2b00a37400b40a00b42a04150436043e033db900b62b
set_option maxRecDepth 100000 in
theorem zl_cX3_suspectSet : cX3_suspectSet.data.toList = z_un 64 zN_cX3_suspectSet := eq_of_beq (by decide +kernel)
theorem dX3_suspectSet_25 : decode cX3_suspectSet 25 = .ok (.invokestatic 83, 3) := z_row zl_cX3_suspectSet 25 5439672 (Nat.le_of_ble_eq_true rfl) (by decide +kernel) z_o184 (by decide +kernel)
theorem dX3_suspectSet_28 : decode cX3_suspectSet 28 = .ok (.ifCond .eq 28, 3) := z_row zl_cX3_suspectSet 28 1835161 (Nat.le_of_ble_eq_true rfl) (by decide +kernel) z_o153 (by decide +kernel)
theorem dX3_suspectSet_31 : decode cX3_suspectSet 31 = .ok (.aload_n 0, 1) := z_row zl_cX3_suspectSet 31 1846058 (Nat.le_of_ble_eq_true rfl) (by decide +kernel) z_o42 (by decide +kernel)
theorem dX3_suspectSet_32 : decode cX3_suspectSet 32 = .ok (.aload_n 1, 1) := z_row zl_cX3_suspectSet 32 1383467 (Nat.le_of_ble_eq_true rfl) (by decide +kernel) z_o43 (by decide +kernel)
theorem dX3_suspectSet_33 : decode cX3_suspectSet 33 = .ok (.iload_n 2, 1) := z_row zl_cX3_suspectSet 33 267548 (Nat.le_of_ble_eq_true rfl) (by decide +kernel) z_o28 (by decide +kernel)
theorem dX3_suspectSet_34 : decode cX3_suspectSet 34 = .ok (.iload 4, 2) := z_row zl_cX3_suspectSet 34 12059669 (Nat.le_of_ble_eq_true rfl) (by decide +kernel) z_o21 (by decide +kernel)
theorem dX3_suspectSet_36 : decode cX3_suspectSet 36 = .ok (.invokestatic 188, 3) := z_row zl_cX3_suspectSet 36 12320952 (Nat.le_of_ble_eq_true rfl) (by decide +kernel) z_o184 (by decide +kernel)
theorem dX3_suspectSet_39 : decode cX3_suspectSet 39 = .ok (.iconst (-1), 1) := z_row zl_cX3_suspectSet 39 8290818 (Nat.le_of_ble_eq_true rfl) (by decide +kernel) z_o2 (by decide +kernel)
theorem dX3_suspectSet_40 : decode cX3_suspectSet 40 = .ok (.ixor, 1) := z_row zl_cX3_suspectSet 40 11959938 (Nat.le_of_ble_eq_true rfl) (by decide +kernel) z_o130 (by decide +kernel)
theorem dX3_suspectSet_41 : decode cX3_suspectSet 41 = .ok (.iand, 1) := z_row zl_cX3_suspectSet 41 46718 (Nat.le_of_ble_eq_true rfl) (by decide +kernel) z_o126 (by decide +kernel)
theorem dX3_suspectSet_42 : decode cX3_suspectSet 42 = .ok (.invokevirtual 198, 3) := z_row zl_cX3_suspectSet 42 12976310 (Nat.le_of_ble_eq_true rfl) (by decide +kernel) z_o182 (by decide +kernel)
theorem dX3_suspectSet_45 : decode cX3_suspectSet 45 = .ok (.ifCond .eq 11, 3) := z_row zl_cX3_suspectSet 45 721049 (Nat.le_of_ble_eq_true rfl) (by decide +kernel) z_o153 (by decide +kernel)
theorem dX3_suspectSet_48 : decode cX3_suspectSet 48 = .ok (.iload_n 3, 1) := z_row zl_cX3_suspectSet 48 267549 (Nat.le_of_ble_eq_true rfl) (by decide +kernel) z_o29 (by decide +kernel)
theorem dX3_suspectSet_49 : decode cX3_suspectSet 49 = .ok (.iload 4, 2) := z_row zl_cX3_suspectSet 49 12059669 (Nat.le_of_ble_eq_true rfl) (by decide +kernel) z_o21 (by decide +kernel)
theorem dX3_suspectSet_51 : decode cX3_suspectSet 51 = .ok (.invokestatic 188, 3) := z_row zl_cX3_suspectSet 51 12320952 (Nat.le_of_ble_eq_true rfl) (by decide +kernel) z_o184 (by decide +kernel)
theorem dX3_suspectSet_54 : decode cX3_suspectSet 54 = .ok (.ior, 1) := z_row zl_cX3_suspectSet 54 8666752 (Nat.le_of_ble_eq_true rfl) (by decide +kernel) z_o128 (by decide +kernel)
theorem dX3_suspectSet_55 : decode cX3_suspectSet 55 = .ok (.istore_n 3, 1) := z_row zl_cX3_suspectSet 55 295998 (Nat.le_of_ble_eq_true rfl) (by decide +kernel) z_o62 (by decide +kernel)
theorem dX3_suspectSet_56 : decode cX3_suspectSet 56 = .ok (.iinc 4 1, 3) := z_row zl_cX3_suspectSet 56 66692 (Nat.le_of_ble_eq_true rfl) (by decide +kernel) z_o132 (by decide +kernel)
theorem dX3_suspectSet_59 : decode cX3_suspectSet 59 = .ok (.goto (-49), 3) := z_row zl_cX3_suspectSet 59 13631399 (Nat.le_of_ble_eq_true rfl) (by decide +kernel) z_o167 (by decide +kernel)
set_option maxRecDepth 100000 in
theorem dX3_suspectSet_62 : decode cX3_suspectSet 62 = .ok (.iload_n 3, 1) := by decide +kernel
set_option maxRecDepth 100000 in
theorem dX3_suspectSet_63 : decode cX3_suspectSet 63 = .ok (.ireturn, 1) := by decide +kernel
set_option maxRecDepth 100000 in
theorem dX3_wrongHolder_0 : decode cX3_wrongHolder 0 = .ok (.aload_n 1, 1) := by decide +kernel
set_option maxRecDepth 100000 in
theorem dX3_wrongHolder_1 : decode cX3_wrongHolder 1 = .ok (.invokevirtual 109, 3) := by decide +kernel
set_option maxRecDepth 100000 in
theorem dX3_wrongHolder_4 : decode cX3_wrongHolder 4 = .ok (.ifCond .eq 6, 3) := by decide +kernel
set_option maxRecDepth 100000 in
theorem dX3_wrongHolder_7 : decode cX3_wrongHolder 7 = .ok (.bipush (-9), 2) := by decide +kernel
set_option maxRecDepth 100000 in
theorem dX3_wrongHolder_9 : decode cX3_wrongHolder 9 = .ok (.ireturn, 1) := by decide +kernel
set_option maxRecDepth 100000 in
theorem dX3_wrongHolder_10 : decode cX3_wrongHolder 10 = .ok (.aload_n 0, 1) := by decide +kernel
set_option maxRecDepth 100000 in
theorem dX3_wrongHolder_11 : decode cX3_wrongHolder 11 = .ok (.aload_n 1, 1) := by decide +kernel
set_option maxRecDepth 100000 in
theorem dX3_wrongHolder_12 : decode cX3_wrongHolder 12 = .ok (.aload_n 1, 1) := by decide +kernel
set_option maxRecDepth 100000 in
theorem dX3_wrongHolder_13 : decode cX3_wrongHolder 13 = .ok (.invokevirtual 185, 3) := by decide +kernel
set_option maxRecDepth 100000 in
theorem dX3_wrongHolder_16 : decode cX3_wrongHolder 16 = .ok (.invokevirtual 198, 3) := by decide +kernel
set_option maxRecDepth 100000 in
theorem dX3_wrongHolder_19 : decode cX3_wrongHolder 19 = .ok (.ifCond .eq 5, 3) := by decide +kernel
set_option maxRecDepth 100000 in
theorem dX3_wrongHolder_22 : decode cX3_wrongHolder 22 = .ok (.iconst 0, 1) := by decide +kernel
set_option maxRecDepth 100000 in
theorem dX3_wrongHolder_23 : decode cX3_wrongHolder 23 = .ok (.ireturn, 1) := by decide +kernel
def zN_cX3_wrongHolder : Nat := 0xacf710e8ffa7010384ac1d0500995300b81d1c1300a37400b40a00b42a1d3e043ddc00b62b2aacf7100600a260067100b42b9500b62bac03050099c600b6b900b62b2b2aacf7100600996d00b62b
set_option maxRecDepth 100000 in
theorem zl_cX3_wrongHolder : cX3_wrongHolder.data.toList = z_un 78 zN_cX3_wrongHolder := eq_of_beq (by decide +kernel)
theorem dX3_wrongHolder_24 : decode cX3_wrongHolder 24 = .ok (.aload_n 1, 1) := z_row zl_cX3_wrongHolder 24 46635 (Nat.le_of_ble_eq_true rfl) (by decide +kernel) z_o43 (by decide +kernel)
theorem dX3_wrongHolder_25 : decode cX3_wrongHolder 25 = .ok (.invokevirtual 149, 3) := z_row zl_cX3_wrongHolder 25 9765046 (Nat.le_of_ble_eq_true rfl) (by decide +kernel) z_o182 (by decide +kernel)
theorem dX3_wrongHolder_28 : decode cX3_wrongHolder 28 = .ok (.aload_n 1, 1) := z_row zl_cX3_wrongHolder 28 46123 (Nat.le_of_ble_eq_true rfl) (by decide +kernel) z_o43 (by decide +kernel)
theorem dX3_wrongHolder_29 : decode cX3_wrongHolder 29 = .ok (.getfield 113, 3) := z_row zl_cX3_wrongHolder 29 7405748 (Nat.le_of_ble_eq_true rfl) (by decide +kernel) z_o180 (by decide +kernel)
theorem dX3_wrongHolder_32 : decode cX3_wrongHolder 32 = .ok (.iconst 3, 1) := z_row zl_cX3_wrongHolder 32 10641414 (Nat.le_of_ble_eq_true rfl) (by decide +kernel) z_o6 (by decide +kernel)
theorem dX3_wrongHolder_33 : decode cX3_wrongHolder 33 = .ok (.iadd, 1) := z_row zl_cX3_wrongHolder 33 41568 (Nat.le_of_ble_eq_true rfl) (by decide +kernel) z_o96 (by decide +kernel)
theorem dX3_wrongHolder_34 : decode cX3_wrongHolder 34 = .ok (.if_icmp .ge 6, 3) := z_row zl_cX3_wrongHolder 34 393378 (Nat.le_of_ble_eq_true rfl) (by decide +kernel) z_o162 (by decide +kernel)
theorem dX3_wrongHolder_37 : decode cX3_wrongHolder 37 = .ok (.bipush (-9), 2) := z_row zl_cX3_wrongHolder 37 11335440 (Nat.le_of_ble_eq_true rfl) (by decide +kernel) z_o16 (by decide +kernel)
theorem dX3_wrongHolder_39 : decode cX3_wrongHolder 39 = .ok (.ireturn, 1) := z_row zl_cX3_wrongHolder 39 2828972 (Nat.le_of_ble_eq_true rfl) (by decide +kernel) z_o172 (by decide +kernel)
theorem dX3_wrongHolder_40 : decode cX3_wrongHolder 40 = .ok (.aload_n 0, 1) := z_row zl_cX3_wrongHolder 40 11938602 (Nat.le_of_ble_eq_true rfl) (by decide +kernel) z_o42 (by decide +kernel)
theorem dX3_wrongHolder_41 : decode cX3_wrongHolder 41 = .ok (.aload_n 1, 1) := z_row zl_cX3_wrongHolder 41 46635 (Nat.le_of_ble_eq_true rfl) (by decide +kernel) z_o43 (by decide +kernel)
theorem dX3_wrongHolder_42 : decode cX3_wrongHolder 42 = .ok (.invokevirtual 220, 3) := z_row zl_cX3_wrongHolder 42 14418102 (Nat.le_of_ble_eq_true rfl) (by decide +kernel) z_o182 (by decide +kernel)
theorem dX3_wrongHolder_45 : decode cX3_wrongHolder 45 = .ok (.istore_n 2, 1) := z_row zl_cX3_wrongHolder 45 4064317 (Nat.le_of_ble_eq_true rfl) (by decide +kernel) z_o61 (by decide +kernel)
theorem dX3_wrongHolder_46 : decode cX3_wrongHolder 46 = .ok (.iconst 1, 1) := z_row zl_cX3_wrongHolder 46 1916420 (Nat.le_of_ble_eq_true rfl) (by decide +kernel) z_o4 (by decide +kernel)
theorem dX3_wrongHolder_47 : decode cX3_wrongHolder 47 = .ok (.istore_n 3, 1) := z_row zl_cX3_wrongHolder 47 2759998 (Nat.le_of_ble_eq_true rfl) (by decide +kernel) z_o62 (by decide +kernel)
theorem dX3_wrongHolder_48 : decode cX3_wrongHolder 48 = .ok (.iload_n 3, 1) := z_row zl_cX3_wrongHolder 48 11807261 (Nat.le_of_ble_eq_true rfl) (by decide +kernel) z_o29 (by decide +kernel)
theorem dX3_wrongHolder_49 : decode cX3_wrongHolder 49 = .ok (.aload_n 0, 1) := z_row zl_cX3_wrongHolder 49 46122 (Nat.le_of_ble_eq_true rfl) (by decide +kernel) z_o42 (by decide +kernel)
theorem dX3_wrongHolder_50 : decode cX3_wrongHolder 50 = .ok (.getfield 10, 3) := z_row zl_cX3_wrongHolder 50 655540 (Nat.le_of_ble_eq_true rfl) (by decide +kernel) z_o180 (by decide +kernel)
theorem dX3_wrongHolder_53 : decode cX3_wrongHolder 53 = .ok (.getfield 116, 3) := z_row zl_cX3_wrongHolder 53 7602356 (Nat.le_of_ble_eq_true rfl) (by decide +kernel) z_o180 (by decide +kernel)
theorem dX3_wrongHolder_56 : decode cX3_wrongHolder 56 = .ok (.if_icmp .gt 19, 3) := z_row zl_cX3_wrongHolder 56 1245347 (Nat.le_of_ble_eq_true rfl) (by decide +kernel) z_o163 (by decide +kernel)
theorem dX3_wrongHolder_59 : decode cX3_wrongHolder 59 = .ok (.iload_n 2, 1) := z_row zl_cX3_wrongHolder 59 12066076 (Nat.le_of_ble_eq_true rfl) (by decide +kernel) z_o28 (by decide +kernel)
theorem dX3_wrongHolder_60 : decode cX3_wrongHolder 60 = .ok (.iload_n 3, 1) := z_row zl_cX3_wrongHolder 60 47133 (Nat.le_of_ble_eq_true rfl) (by decide +kernel) z_o29 (by decide +kernel)
theorem dX3_wrongHolder_61 : decode cX3_wrongHolder 61 = .ok (.invokestatic 83, 3) := z_row zl_cX3_wrongHolder 61 5439672 (Nat.le_of_ble_eq_true rfl) (by decide +kernel) z_o184 (by decide +kernel)
theorem dX3_wrongHolder_64 : decode cX3_wrongHolder 64 = .ok (.ifCond .eq 5, 3) := z_row zl_cX3_wrongHolder 64 327833 (Nat.le_of_ble_eq_true rfl) (by decide +kernel) z_o153 (by decide +kernel)
theorem dX3_wrongHolder_67 : decode cX3_wrongHolder 67 = .ok (.iload_n 3, 1) := z_row zl_cX3_wrongHolder 67 8694813 (Nat.le_of_ble_eq_true rfl) (by decide +kernel) z_o29 (by decide +kernel)
theorem dX3_wrongHolder_68 : decode cX3_wrongHolder 68 = .ok (.ireturn, 1) := z_row zl_cX3_wrongHolder 68 230572 (Nat.le_of_ble_eq_true rfl) (by decide +kernel) z_o172 (by decide +kernel)
theorem dX3_wrongHolder_69 : decode cX3_wrongHolder 69 = .ok (.iinc 3 1, 3) := z_row zl_cX3_wrongHolder 69 66436 (Nat.le_of_ble_eq_true rfl) (by decide +kernel) z_o132 (by decide +kernel)
theorem dX3_wrongHolder_72 : decode cX3_wrongHolder 72 = .ok (.goto (-24), 3) := z_row zl_cX3_wrongHolder 72 15269799 (Nat.le_of_ble_eq_true rfl) (by decide +kernel) z_o167 (by decide +kernel)
theorem dX3_wrongHolder_75 : decode cX3_wrongHolder 75 = .ok (.bipush (-9), 2) := z_row zl_cX3_wrongHolder 75 11335440 (Nat.le_of_ble_eq_true rfl) (by decide +kernel) z_o16 (by decide +kernel)
set_option maxRecDepth 100000 in
theorem dX3_wrongHolder_77 : decode cX3_wrongHolder 77 = .ok (.ireturn, 1) := by decide +kernel
set_option maxRecDepth 100000 in
theorem dX3_polysBeyond_0 : decode cX3_polysBeyond 0 = .ok (.iconst 1, 1) := by decide +kernel
set_option maxRecDepth 100000 in
theorem dX3_polysBeyond_1 : decode cX3_polysBeyond 1 = .ok (.istore_n 2, 1) := by decide +kernel
set_option maxRecDepth 100000 in
theorem dX3_polysBeyond_2 : decode cX3_polysBeyond 2 = .ok (.iconst 0, 1) := by decide +kernel
set_option maxRecDepth 100000 in
theorem dX3_polysBeyond_3 : decode cX3_polysBeyond 3 = .ok (.istore_n 3, 1) := by decide +kernel
set_option maxRecDepth 100000 in
theorem dX3_polysBeyond_4 : decode cX3_polysBeyond 4 = .ok (.iload_n 3, 1) := by decide +kernel
set_option maxRecDepth 100000 in
theorem dX3_polysBeyond_5 : decode cX3_polysBeyond 5 = .ok (.iload_n 1, 1) := by decide +kernel
set_option maxRecDepth 100000 in
theorem dX3_polysBeyond_6 : decode cX3_polysBeyond 6 = .ok (.if_icmp .ge 25, 3) := by decide +kernel
set_option maxRecDepth 100000 in
theorem dX3_polysBeyond_9 : decode cX3_polysBeyond 9 = .ok (.iload_n 2, 1) := by decide +kernel
set_option maxRecDepth 100000 in
theorem dX3_polysBeyond_10 : decode cX3_polysBeyond 10 = .ok (.bipush 125, 2) := by decide +kernel
set_option maxRecDepth 100000 in
theorem dX3_polysBeyond_12 : decode cX3_polysBeyond 12 = .ok (.if_icmp .gt 19, 3) := by decide +kernel
set_option maxRecDepth 100000 in
theorem dX3_polysBeyond_15 : decode cX3_polysBeyond 15 = .ok (.iload_n 2, 1) := by decide +kernel
set_option maxRecDepth 100000 in
theorem dX3_polysBeyond_16 : decode cX3_polysBeyond 16 = .ok (.aload_n 0, 1) := by decide +kernel
set_option maxRecDepth 100000 in
theorem dX3_polysBeyond_17 : decode cX3_polysBeyond 17 = .ok (.getfield 10, 3) := by decide +kernel
set_option maxRecDepth 100000 in
theorem dX3_polysBeyond_20 : decode cX3_polysBeyond 20 = .ok (.getfield 49, 3) := by decide +kernel
set_option maxRecDepth 100000 in
theorem dX3_polysBeyond_23 : decode cX3_polysBeyond 23 = .ok (.imul, 1) := by decide +kernel
def zN_cX3_polysBeyond : Nat := 0xac1ce8ffa70103843d683100b40a00b42a1c1300a37d101c1900a21b1d3e033d04
set_option maxRecDepth 100000 in
theorem zl_cX3_polysBeyond : cX3_polysBeyond.data.toList = z_un 33 zN_cX3_polysBeyond := eq_of_beq (by decide +kernel)
theorem dX3_polysBeyond_24 : decode cX3_polysBeyond 24 = .ok (.istore_n 2, 1) := z_row zl_cX3_polysBeyond 24 230461 (Nat.le_of_ble_eq_true rfl) (by decide +kernel) z_o61 (by decide +kernel)
theorem dX3_polysBeyond_25 : decode cX3_polysBeyond 25 = .ok (.iinc 3 1, 3) := z_row zl_cX3_polysBeyond 25 66436 (Nat.le_of_ble_eq_true rfl) (by decide +kernel) z_o132 (by decide +kernel)
theorem dX3_polysBeyond_28 : decode cX3_polysBeyond 28 = .ok (.goto (-24), 3) := z_row zl_cX3_polysBeyond 28 15269799 (Nat.le_of_ble_eq_true rfl) (by decide +kernel) z_o167 (by decide +kernel)
set_option maxRecDepth 100000 in
theorem dX3_polysBeyond_31 : decode cX3_polysBeyond 31 = .ok (.iload_n 2, 1) := by decide +kernel
set_option maxRecDepth 100000 in
theorem dX3_polysBeyond_32 : decode cX3_polysBeyond 32 = .ok (.ireturn, 1) := by decide +kernel
set_option maxRecDepth 100000 in
theorem dX3_doesFit_0 : decode cX3_doesFit 0 = .ok (.iconst 1, 1) := by decide +kernel
set_option maxRecDepth 100000 in
theorem dX3_doesFit_1 : decode cX3_doesFit 1 = .ok (.istore_n 3, 1) := by decide +kernel
set_option maxRecDepth 100000 in
theorem dX3_doesFit_2 : decode cX3_doesFit 2 = .ok (.lconst 1, 1) := by decide +kernel
set_option maxRecDepth 100000 in
theorem dX3_doesFit_3 : decode cX3_doesFit 3 = .ok (.lstore 4, 2) := by decide +kernel
set_option maxRecDepth 100000 in
theorem dX3_doesFit_5 : decode cX3_doesFit 5 = .ok (.iconst 0, 1) := by decide +kernel
set_option maxRecDepth 100000 in
theorem dX3_doesFit_6 : decode cX3_doesFit 6 = .ok (.istore 6, 2) := by decide +kernel
set_option maxRecDepth 100000 in
theorem dX3_doesFit_8 : decode cX3_doesFit 8 = .ok (.iload 6, 2) := by decide +kernel
set_option maxRecDepth 100000 in
theorem dX3_doesFit_10 : decode cX3_doesFit 10 = .ok (.aload_n 1, 1) := by decide +kernel
set_option maxRecDepth 100000 in
theorem dX3_doesFit_11 : decode cX3_doesFit 11 = .ok (.getfield 134, 3) := by decide +kernel
set_option maxRecDepth 100000 in
theorem dX3_doesFit_14 : decode cX3_doesFit 14 = .ok (.if_icmp .ge 43, 3) := by decide +kernel
set_option maxRecDepth 100000 in
theorem dX3_doesFit_17 : decode cX3_doesFit 17 = .ok (.aload_n 0, 1) := by decide +kernel
set_option maxRecDepth 100000 in
theorem dX3_doesFit_18 : decode cX3_doesFit 18 = .ok (.getfield 10, 3) := by decide +kernel
set_option maxRecDepth 100000 in
theorem dX3_doesFit_21 : decode cX3_doesFit 21 = .ok (.iload_n 3, 1) := by decide +kernel
set_option maxRecDepth 100000 in
theorem dX3_doesFit_22 : decode cX3_doesFit 22 = .ok (.aload_n 1, 1) := by decide +kernel
set_option maxRecDepth 100000 in
theorem dX3_doesFit_23 : decode cX3_doesFit 23 = .ok (.iload 6, 2) := by decide +kernel
def zN_cX3_doesFit : Nat := 0xac030400a7040700a01d4900b67b00b61c2b0a00b42ad2ffa7010684043769851c04163e8f00b64500b8a400b40a00b42a04168900b606152b1d0a00b42a2b00a28600b42b061506360304370a3e04
set_option maxRecDepth 100000 in
theorem zl_cX3_doesFit : cX3_doesFit.data.toList = z_un 79 zN_cX3_doesFit := eq_of_beq (by decide +kernel)
theorem dX3_doesFit_25 : decode cX3_doesFit 25 = .ok (.invokevirtual 137, 3) := z_row zl_cX3_doesFit 25 8978614 (Nat.le_of_ble_eq_true rfl) (by decide +kernel) z_o182 (by decide +kernel)
theorem dX3_doesFit_28 : decode cX3_doesFit 28 = .ok (.lload 4, 2) := z_row zl_cX3_doesFit 28 2753558 (Nat.le_of_ble_eq_true rfl) (by decide +kernel) z_o22 (by decide +kernel)
theorem dX3_doesFit_30 : decode cX3_doesFit 30 = .ok (.aload_n 0, 1) := z_row zl_cX3_doesFit 30 46122 (Nat.le_of_ble_eq_true rfl) (by decide +kernel) z_o42 (by decide +kernel)
theorem dX3_doesFit_31 : decode cX3_doesFit 31 = .ok (.getfield 10, 3) := z_row zl_cX3_doesFit 31 655540 (Nat.le_of_ble_eq_true rfl) (by decide +kernel) z_o180 (by decide +kernel)
theorem dX3_doesFit_34 : decode cX3_doesFit 34 = .ok (.getfield 164, 3) := z_row zl_cX3_doesFit 34 10748084 (Nat.le_of_ble_eq_true rfl) (by decide +kernel) z_o180 (by decide +kernel)
theorem dX3_doesFit_37 : decode cX3_doesFit 37 = .ok (.invokestatic 69, 3) := z_row zl_cX3_doesFit 37 4522168 (Nat.le_of_ble_eq_true rfl) (by decide +kernel) z_o184 (by decide +kernel)
theorem dX3_doesFit_40 : decode cX3_doesFit 40 = .ok (.invokevirtual 143, 3) := z_row zl_cX3_doesFit 40 9371830 (Nat.le_of_ble_eq_true rfl) (by decide +kernel) z_o182 (by decide +kernel)
theorem dX3_doesFit_43 : decode cX3_doesFit 43 = .ok (.istore_n 3, 1) := z_row zl_cX3_doesFit 43 267838 (Nat.le_of_ble_eq_true rfl) (by decide +kernel) z_o62 (by decide +kernel)
theorem dX3_doesFit_44 : decode cX3_doesFit 44 = .ok (.lload 4, 2) := z_row zl_cX3_doesFit 44 1836054 (Nat.le_of_ble_eq_true rfl) (by decide +kernel) z_o22 (by decide +kernel)
theorem dX3_doesFit_46 : decode cX3_doesFit 46 = .ok (.iload_n 2, 1) := z_row zl_cX3_doesFit 46 6915356 (Nat.le_of_ble_eq_true rfl) (by decide +kernel) z_o28 (by decide +kernel)
theorem dX3_doesFit_47 : decode cX3_doesFit 47 = .ok (.i2l, 1) := z_row zl_cX3_doesFit 47 3631493 (Nat.le_of_ble_eq_true rfl) (by decide +kernel) z_o133 (by decide +kernel)
theorem dX3_doesFit_48 : decode cX3_doesFit 48 = .ok (.lmul, 1) := z_row zl_cX3_doesFit 48 276329 (Nat.le_of_ble_eq_true rfl) (by decide +kernel) z_o105 (by decide +kernel)
theorem dX3_doesFit_49 : decode cX3_doesFit 49 = .ok (.lstore 4, 2) := z_row zl_cX3_doesFit 49 8651831 (Nat.le_of_ble_eq_true rfl) (by decide +kernel) z_o55 (by decide +kernel)
theorem dX3_doesFit_51 : decode cX3_doesFit 51 = .ok (.iinc 6 1, 3) := z_row zl_cX3_doesFit 51 67204 (Nat.le_of_ble_eq_true rfl) (by decide +kernel) z_o132 (by decide +kernel)
theorem dX3_doesFit_54 : decode cX3_doesFit 54 = .ok (.goto (-46), 3) := z_row zl_cX3_doesFit 54 13828007 (Nat.le_of_ble_eq_true rfl) (by decide +kernel) z_o167 (by decide +kernel)
theorem dX3_doesFit_57 : decode cX3_doesFit 57 = .ok (.aload_n 0, 1) := z_row zl_cX3_doesFit 57 46122 (Nat.le_of_ble_eq_true rfl) (by decide +kernel) z_o42 (by decide +kernel)
theorem dX3_doesFit_58 : decode cX3_doesFit 58 = .ok (.getfield 10, 3) := z_row zl_cX3_doesFit 58 655540 (Nat.le_of_ble_eq_true rfl) (by decide +kernel) z_o180 (by decide +kernel)
theorem dX3_doesFit_61 : decode cX3_doesFit 61 = .ok (.aload_n 1, 1) := z_row zl_cX3_doesFit 61 11934763 (Nat.le_of_ble_eq_true rfl) (by decide +kernel) z_o43 (by decide +kernel)
theorem dX3_doesFit_62 : decode cX3_doesFit 62 = .ok (.iload_n 2, 1) := z_row zl_cX3_doesFit 62 46620 (Nat.le_of_ble_eq_true rfl) (by decide +kernel) z_o28 (by decide +kernel)
theorem dX3_doesFit_63 : decode cX3_doesFit 63 = .ok (.invokevirtual 123, 3) := z_row zl_cX3_doesFit 63 8061110 (Nat.le_of_ble_eq_true rfl) (by decide +kernel) z_o182 (by decide +kernel)
theorem dX3_doesFit_66 : decode cX3_doesFit 66 = .ok (.invokevirtual 73, 3) := z_row zl_cX3_doesFit 66 4784310 (Nat.le_of_ble_eq_true rfl) (by decide +kernel) z_o182 (by decide +kernel)
theorem dX3_doesFit_69 : decode cX3_doesFit 69 = .ok (.iload_n 3, 1) := z_row zl_cX3_doesFit 69 40989 (Nat.le_of_ble_eq_true rfl) (by decide +kernel) z_o29 (by decide +kernel)
theorem dX3_doesFit_70 : decode cX3_doesFit 70 = .ok (.if_icmp .ne 7, 3) := z_row zl_cX3_doesFit 70 458912 (Nat.le_of_ble_eq_true rfl) (by decide +kernel) z_o160 (by decide +kernel)
theorem dX3_doesFit_73 : decode cX3_doesFit 73 = .ok (.iconst 1, 1) := z_row zl_cX3_doesFit 73 42756 (Nat.le_of_ble_eq_true rfl) (by decide +kernel) z_o4 (by decide +kernel)
theorem dX3_doesFit_74 : decode cX3_doesFit 74 = .ok (.goto 4, 3) := z_row zl_cX3_doesFit 74 262311 (Nat.le_of_ble_eq_true rfl) (by decide +kernel) z_o167 (by decide +kernel)
set_option maxRecDepth 100000 in
theorem dX3_doesFit_77 : decode cX3_doesFit 77 = .ok (.iconst 0, 1) := by decide +kernel
set_option maxRecDepth 100000 in
theorem dX3_doesFit_78 : decode cX3_doesFit 78 = .ok (.ireturn, 1) := by decide +kernel
set_option maxRecDepth 100000 in
theorem dX3_filledDeals_0 : decode cX3_filledDeals 0 = .ok (.iconst 0, 1) := by decide +kernel
set_option maxRecDepth 100000 in
theorem dX3_filledDeals_1 : decode cX3_filledDeals 1 = .ok (.istore_n 1, 1) := by decide +kernel
set_option maxRecDepth 100000 in
theorem dX3_filledDeals_2 : decode cX3_filledDeals 2 = .ok (.iconst 0, 1) := by decide +kernel
set_option maxRecDepth 100000 in
theorem dX3_filledDeals_3 : decode cX3_filledDeals 3 = .ok (.istore_n 2, 1) := by decide +kernel
set_option maxRecDepth 100000 in
theorem dX3_filledDeals_4 : decode cX3_filledDeals 4 = .ok (.iload_n 2, 1) := by decide +kernel
set_option maxRecDepth 100000 in
theorem dX3_filledDeals_5 : decode cX3_filledDeals 5 = .ok (.aload_n 0, 1) := by decide +kernel
set_option maxRecDepth 100000 in
theorem dX3_filledDeals_6 : decode cX3_filledDeals 6 = .ok (.getfield 25, 3) := by decide +kernel
set_option maxRecDepth 100000 in
theorem dX3_filledDeals_9 : decode cX3_filledDeals 9 = .ok (.arraylength, 1) := by decide +kernel
set_option maxRecDepth 100000 in
theorem dX3_filledDeals_10 : decode cX3_filledDeals 10 = .ok (.if_icmp .ge 24, 3) := by decide +kernel
set_option maxRecDepth 100000 in
theorem dX3_filledDeals_13 : decode cX3_filledDeals 13 = .ok (.aload_n 0, 1) := by decide +kernel
set_option maxRecDepth 100000 in
theorem dX3_filledDeals_14 : decode cX3_filledDeals 14 = .ok (.getfield 25, 3) := by decide +kernel
set_option maxRecDepth 100000 in
theorem dX3_filledDeals_17 : decode cX3_filledDeals 17 = .ok (.iload_n 2, 1) := by decide +kernel
set_option maxRecDepth 100000 in
theorem dX3_filledDeals_18 : decode cX3_filledDeals 18 = .ok (.aaload, 1) := by decide +kernel
set_option maxRecDepth 100000 in
theorem dX3_filledDeals_19 : decode cX3_filledDeals 19 = .ok (.invokevirtual 109, 3) := by decide +kernel
set_option maxRecDepth 100000 in
theorem dX3_filledDeals_22 : decode cX3_filledDeals 22 = .ok (.ifCond .ne 6, 3) := by decide +kernel
def zN_cX3_filledDeals : Nat := 0xac1be5ffa701028401018406009a6d00b6321c1900b42a1800a2be1900b42a1c3d033c03
set_option maxRecDepth 100000 in
theorem zl_cX3_filledDeals : cX3_filledDeals.data.toList = z_un 36 zN_cX3_filledDeals := eq_of_beq (by decide +kernel)
theorem dX3_filledDeals_25 : decode cX3_filledDeals 25 = .ok (.iinc 1 1, 3) := z_row zl_cX3_filledDeals 25 65924 (Nat.le_of_ble_eq_true rfl) (by decide +kernel) z_o132 (by decide +kernel)
theorem dX3_filledDeals_28 : decode cX3_filledDeals 28 = .ok (.iinc 2 1, 3) := z_row zl_cX3_filledDeals 28 66180 (Nat.le_of_ble_eq_true rfl) (by decide +kernel) z_o132 (by decide +kernel)
theorem dX3_filledDeals_31 : decode cX3_filledDeals 31 = .ok (.goto (-27), 3) := z_row zl_cX3_filledDeals 31 15073191 (Nat.le_of_ble_eq_true rfl) (by decide +kernel) z_o167 (by decide +kernel)
set_option maxRecDepth 100000 in
theorem dX3_filledDeals_34 : decode cX3_filledDeals 34 = .ok (.iload_n 1, 1) := by decide +kernel
set_option maxRecDepth 100000 in
theorem dX3_filledDeals_35 : decode cX3_filledDeals 35 = .ok (.ireturn, 1) := by decide +kernel
set_option maxRecDepth 100000 in
theorem dX3_areSharesSound_0 : decode cX3_areSharesSound 0 = .ok (.iconst 1, 1) := by decide +kernel
set_option maxRecDepth 100000 in
theorem dX3_areSharesSound_1 : decode cX3_areSharesSound 1 = .ok (.istore_n 2, 1) := by decide +kernel
set_option maxRecDepth 100000 in
theorem dX3_areSharesSound_2 : decode cX3_areSharesSound 2 = .ok (.iload_n 2, 1) := by decide +kernel
set_option maxRecDepth 100000 in
theorem dX3_areSharesSound_3 : decode cX3_areSharesSound 3 = .ok (.aload_n 0, 1) := by decide +kernel
set_option maxRecDepth 100000 in
theorem dX3_areSharesSound_4 : decode cX3_areSharesSound 4 = .ok (.getfield 10, 3) := by decide +kernel
set_option maxRecDepth 100000 in
theorem dX3_areSharesSound_7 : decode cX3_areSharesSound 7 = .ok (.getfield 116, 3) := by decide +kernel
set_option maxRecDepth 100000 in
theorem dX3_areSharesSound_10 : decode cX3_areSharesSound 10 = .ok (.if_icmp .gt 37, 3) := by decide +kernel
set_option maxRecDepth 100000 in
theorem dX3_areSharesSound_13 : decode cX3_areSharesSound 13 = .ok (.aload_n 1, 1) := by decide +kernel
set_option maxRecDepth 100000 in
theorem dX3_areSharesSound_14 : decode cX3_areSharesSound 14 = .ok (.iload_n 2, 1) := by decide +kernel
set_option maxRecDepth 100000 in
theorem dX3_areSharesSound_15 : decode cX3_areSharesSound 15 = .ok (.invokevirtual 123, 3) := by decide +kernel
set_option maxRecDepth 100000 in
theorem dX3_areSharesSound_18 : decode cX3_areSharesSound 18 = .ok (.istore_n 3, 1) := by decide +kernel
set_option maxRecDepth 100000 in
theorem dX3_areSharesSound_19 : decode cX3_areSharesSound 19 = .ok (.iload_n 3, 1) := by decide +kernel
set_option maxRecDepth 100000 in
theorem dX3_areSharesSound_20 : decode cX3_areSharesSound 20 = .ok (.iconst (-1), 1) := by decide +kernel
set_option maxRecDepth 100000 in
theorem dX3_areSharesSound_21 : decode cX3_areSharesSound 21 = .ok (.if_icmp .eq 20, 3) := by decide +kernel
def zN_cX3_areSharesSound : Nat := 0xac04d6ffa7010284ac030500a13100b40a00b42a1d0e009b1d14009f021d3e7b00b61c2b2500a37400b40a00b42a1c3d04
set_option maxRecDepth 100000 in
theorem zl_cX3_areSharesSound : cX3_areSharesSound.data.toList = z_un 49 zN_cX3_areSharesSound := eq_of_beq (by decide +kernel)
theorem dX3_areSharesSound_24 : decode cX3_areSharesSound 24 = .ok (.iload_n 3, 1) := z_row zl_cX3_areSharesSound 24 39709 (Nat.le_of_ble_eq_true rfl) (by decide +kernel) z_o29 (by decide +kernel)
theorem dX3_areSharesSound_25 : decode cX3_areSharesSound 25 = .ok (.ifCond .lt 14, 3) := z_row zl_cX3_areSharesSound 25 917659 (Nat.le_of_ble_eq_true rfl) (by decide +kernel) z_o155 (by decide +kernel)
theorem dX3_areSharesSound_28 : decode cX3_areSharesSound 28 = .ok (.iload_n 3, 1) := z_row zl_cX3_areSharesSound 28 11807261 (Nat.le_of_ble_eq_true rfl) (by decide +kernel) z_o29 (by decide +kernel)
theorem dX3_areSharesSound_29 : decode cX3_areSharesSound 29 = .ok (.aload_n 0, 1) := z_row zl_cX3_areSharesSound 29 46122 (Nat.le_of_ble_eq_true rfl) (by decide +kernel) z_o42 (by decide +kernel)
theorem dX3_areSharesSound_30 : decode cX3_areSharesSound 30 = .ok (.getfield 10, 3) := z_row zl_cX3_areSharesSound 30 655540 (Nat.le_of_ble_eq_true rfl) (by decide +kernel) z_o180 (by decide +kernel)
theorem dX3_areSharesSound_33 : decode cX3_areSharesSound 33 = .ok (.getfield 49, 3) := z_row zl_cX3_areSharesSound 33 3211444 (Nat.le_of_ble_eq_true rfl) (by decide +kernel) z_o180 (by decide +kernel)
theorem dX3_areSharesSound_36 : decode cX3_areSharesSound 36 = .ok (.if_icmp .lt 5, 3) := z_row zl_cX3_areSharesSound 36 327841 (Nat.le_of_ble_eq_true rfl) (by decide +kernel) z_o161 (by decide +kernel)
theorem dX3_areSharesSound_41 : decode cX3_areSharesSound 41 = .ok (.iinc 2 1, 3) := z_row zl_cX3_areSharesSound 41 66180 (Nat.le_of_ble_eq_true rfl) (by decide +kernel) z_o132 (by decide +kernel)
theorem dX3_areSharesSound_44 : decode cX3_areSharesSound 44 = .ok (.goto (-42), 3) := z_row zl_cX3_areSharesSound 44 14090151 (Nat.le_of_ble_eq_true rfl) (by decide +kernel) z_o167 (by decide +kernel)
set_option maxRecDepth 100000 in
theorem dX3_areSharesSound_47 : decode cX3_areSharesSound 47 = .ok (.iconst 1, 1) := by decide +kernel
set_option maxRecDepth 100000 in
theorem dX3_areSharesSound_48 : decode cX3_areSharesSound 48 = .ok (.ireturn, 1) := by decide +kernel
set_option maxRecDepth 100000 in
theorem dX3_areSealsSound_0 : decode cX3_areSealsSound 0 = .ok (.iconst 0, 1) := by decide +kernel
set_option maxRecDepth 100000 in
theorem dX3_areSealsSound_1 : decode cX3_areSealsSound 1 = .ok (.istore_n 2, 1) := by decide +kernel
set_option maxRecDepth 100000 in
theorem dX3_areSealsSound_2 : decode cX3_areSealsSound 2 = .ok (.iload_n 2, 1) := by decide +kernel
set_option maxRecDepth 100000 in
theorem dX3_areSealsSound_3 : decode cX3_areSealsSound 3 = .ok (.aload_n 1, 1) := by decide +kernel
set_option maxRecDepth 100000 in
theorem dX3_areSealsSound_4 : decode cX3_areSealsSound 4 = .ok (.getfield 134, 3) := by decide +kernel
set_option maxRecDepth 100000 in
theorem dX3_areSealsSound_7 : decode cX3_areSealsSound 7 = .ok (.if_icmp .ge 35, 3) := by decide +kernel
set_option maxRecDepth 100000 in
theorem dX3_areSealsSound_10 : decode cX3_areSealsSound 10 = .ok (.aload_n 1, 1) := by decide +kernel
set_option maxRecDepth 100000 in
theorem dX3_areSealsSound_11 : decode cX3_areSealsSound 11 = .ok (.iload_n 2, 1) := by decide +kernel
set_option maxRecDepth 100000 in
theorem dX3_areSealsSound_12 : decode cX3_areSealsSound 12 = .ok (.invokevirtual 137, 3) := by decide +kernel
set_option maxRecDepth 100000 in
theorem dX3_areSealsSound_15 : decode cX3_areSealsSound 15 = .ok (.iconst 1, 1) := by decide +kernel
set_option maxRecDepth 100000 in
theorem dX3_areSealsSound_16 : decode cX3_areSealsSound 16 = .ok (.if_icmp .lt 18, 3) := by decide +kernel
set_option maxRecDepth 100000 in
theorem dX3_areSealsSound_19 : decode cX3_areSealsSound 19 = .ok (.aload_n 1, 1) := by decide +kernel
set_option maxRecDepth 100000 in
theorem dX3_areSealsSound_20 : decode cX3_areSealsSound 20 = .ok (.iload_n 2, 1) := by decide +kernel
set_option maxRecDepth 100000 in
theorem dX3_areSealsSound_21 : decode cX3_areSealsSound 21 = .ok (.invokevirtual 137, 3) := by decide +kernel
def zN_cX3_areSealsSound : Nat := 0xac030400a7040700a060047100b42b8600b42b100099c300b62bdbffa7010284ac030500a1a400b40a00b42a8900b61c2b1200a1048900b61c2b2300a28600b42b1c3d03
set_option maxRecDepth 100000 in
theorem zl_cX3_areSealsSound : cX3_areSealsSound.data.toList = z_un 68 zN_cX3_areSealsSound := eq_of_beq (by decide +kernel)
theorem dX3_areSealsSound_24 : decode cX3_areSealsSound 24 = .ok (.aload_n 0, 1) := z_row zl_cX3_areSealsSound 24 46122 (Nat.le_of_ble_eq_true rfl) (by decide +kernel) z_o42 (by decide +kernel)
theorem dX3_areSealsSound_25 : decode cX3_areSealsSound 25 = .ok (.getfield 10, 3) := z_row zl_cX3_areSealsSound 25 655540 (Nat.le_of_ble_eq_true rfl) (by decide +kernel) z_o180 (by decide +kernel)
theorem dX3_areSealsSound_28 : decode cX3_areSealsSound 28 = .ok (.getfield 164, 3) := z_row zl_cX3_areSealsSound 28 10748084 (Nat.le_of_ble_eq_true rfl) (by decide +kernel) z_o180 (by decide +kernel)
theorem dX3_areSealsSound_31 : decode cX3_areSealsSound 31 = .ok (.if_icmp .lt 5, 3) := z_row zl_cX3_areSealsSound 31 327841 (Nat.le_of_ble_eq_true rfl) (by decide +kernel) z_o161 (by decide +kernel)
theorem dX3_areSealsSound_36 : decode cX3_areSealsSound 36 = .ok (.iinc 2 1, 3) := z_row zl_cX3_areSealsSound 36 66180 (Nat.le_of_ble_eq_true rfl) (by decide +kernel) z_o132 (by decide +kernel)
theorem dX3_areSealsSound_39 : decode cX3_areSealsSound 39 = .ok (.goto (-37), 3) := z_row zl_cX3_areSealsSound 39 14417831 (Nat.le_of_ble_eq_true rfl) (by decide +kernel) z_o167 (by decide +kernel)
theorem dX3_areSealsSound_42 : decode cX3_areSealsSound 42 = .ok (.aload_n 1, 1) := z_row zl_cX3_areSealsSound 42 46635 (Nat.le_of_ble_eq_true rfl) (by decide +kernel) z_o43 (by decide +kernel)
theorem dX3_areSealsSound_43 : decode cX3_areSealsSound 43 = .ok (.invokevirtual 195, 3) := z_row zl_cX3_areSealsSound 43 12779702 (Nat.le_of_ble_eq_true rfl) (by decide +kernel) z_o182 (by decide +kernel)
theorem dX3_areSealsSound_46 : decode cX3_areSealsSound 46 = .ok (.ifCond .eq 16, 3) := z_row zl_cX3_areSealsSound 46 1048729 (Nat.le_of_ble_eq_true rfl) (by decide +kernel) z_o153 (by decide +kernel)
theorem dX3_areSealsSound_49 : decode cX3_areSealsSound 49 = .ok (.aload_n 1, 1) := z_row zl_cX3_areSealsSound 49 46123 (Nat.le_of_ble_eq_true rfl) (by decide +kernel) z_o43 (by decide +kernel)
theorem dX3_areSealsSound_50 : decode cX3_areSealsSound 50 = .ok (.getfield 134, 3) := z_row zl_cX3_areSealsSound 50 8782004 (Nat.le_of_ble_eq_true rfl) (by decide +kernel) z_o180 (by decide +kernel)
theorem dX3_areSealsSound_53 : decode cX3_areSealsSound 53 = .ok (.aload_n 1, 1) := z_row zl_cX3_areSealsSound 53 46123 (Nat.le_of_ble_eq_true rfl) (by decide +kernel) z_o43 (by decide +kernel)
theorem dX3_areSealsSound_54 : decode cX3_areSealsSound 54 = .ok (.getfield 113, 3) := z_row zl_cX3_areSealsSound 54 7405748 (Nat.le_of_ble_eq_true rfl) (by decide +kernel) z_o180 (by decide +kernel)
theorem dX3_areSealsSound_57 : decode cX3_areSealsSound 57 = .ok (.iconst 1, 1) := z_row zl_cX3_areSealsSound 57 10510340 (Nat.le_of_ble_eq_true rfl) (by decide +kernel) z_o4 (by decide +kernel)
theorem dX3_areSealsSound_58 : decode cX3_areSealsSound 58 = .ok (.iadd, 1) := z_row zl_cX3_areSealsSound 58 41056 (Nat.le_of_ble_eq_true rfl) (by decide +kernel) z_o96 (by decide +kernel)
theorem dX3_areSealsSound_59 : decode cX3_areSealsSound 59 = .ok (.if_icmp .ne 7, 3) := z_row zl_cX3_areSealsSound 59 458912 (Nat.le_of_ble_eq_true rfl) (by decide +kernel) z_o160 (by decide +kernel)
theorem dX3_areSealsSound_62 : decode cX3_areSealsSound 62 = .ok (.iconst 1, 1) := z_row zl_cX3_areSealsSound 62 42756 (Nat.le_of_ble_eq_true rfl) (by decide +kernel) z_o4 (by decide +kernel)
theorem dX3_areSealsSound_63 : decode cX3_areSealsSound 63 = .ok (.goto 4, 3) := z_row zl_cX3_areSealsSound 63 262311 (Nat.le_of_ble_eq_true rfl) (by decide +kernel) z_o167 (by decide +kernel)
set_option maxRecDepth 100000 in
theorem dX3_areSealsSound_67 : decode cX3_areSealsSound 67 = .ok (.ireturn, 1) := by decide +kernel
set_option maxRecDepth 100000 in
theorem dX3_isFirstSealSound_0 : decode cX3_isFirstSealSound 0 = .ok (.iconst 0, 1) := by decide +kernel
set_option maxRecDepth 100000 in
theorem dX3_isFirstSealSound_1 : decode cX3_isFirstSealSound 1 = .ok (.istore_n 1, 1) := by decide +kernel
set_option maxRecDepth 100000 in
theorem dX3_isFirstSealSound_2 : decode cX3_isFirstSealSound 2 = .ok (.iload_n 1, 1) := by decide +kernel
set_option maxRecDepth 100000 in
theorem dX3_isFirstSealSound_3 : decode cX3_isFirstSealSound 3 = .ok (.aload_n 0, 1) := by decide +kernel
set_option maxRecDepth 100000 in
theorem dX3_isFirstSealSound_4 : decode cX3_isFirstSealSound 4 = .ok (.getfield 25, 3) := by decide +kernel
set_option maxRecDepth 100000 in
theorem dX3_isFirstSealSound_7 : decode cX3_isFirstSealSound 7 = .ok (.arraylength, 1) := by decide +kernel
set_option maxRecDepth 100000 in
theorem dX3_isFirstSealSound_8 : decode cX3_isFirstSealSound 8 = .ok (.if_icmp .ge 87, 3) := by decide +kernel
set_option maxRecDepth 100000 in
theorem dX3_isFirstSealSound_11 : decode cX3_isFirstSealSound 11 = .ok (.aload_n 0, 1) := by decide +kernel
set_option maxRecDepth 100000 in
theorem dX3_isFirstSealSound_12 : decode cX3_isFirstSealSound 12 = .ok (.getfield 25, 3) := by decide +kernel
set_option maxRecDepth 100000 in
theorem dX3_isFirstSealSound_15 : decode cX3_isFirstSealSound 15 = .ok (.iload_n 1, 1) := by decide +kernel
set_option maxRecDepth 100000 in
theorem dX3_isFirstSealSound_16 : decode cX3_isFirstSealSound 16 = .ok (.aaload, 1) := by decide +kernel
set_option maxRecDepth 100000 in
theorem dX3_isFirstSealSound_17 : decode cX3_isFirstSealSound 17 = .ok (.invokevirtual 195, 3) := by decide +kernel
set_option maxRecDepth 100000 in
theorem dX3_isFirstSealSound_20 : decode cX3_isFirstSealSound 20 = .ok (.ifCond .eq 69, 3) := by decide +kernel
set_option maxRecDepth 100000 in
theorem dX3_isFirstSealSound_23 : decode cX3_isFirstSealSound 23 = .ok (.aload_n 0, 1) := by decide +kernel
def zN_cX3_isFirstSealSound : Nat := 0xac04a6ffa7010184ac030400a7040700a08900b603321b1900b42a4900b6b200b6031c321b1900b42a2a0a00b42a2300993f01b61c321b1900b42a2a3100991c3dca00b6321b1900b42a450099c300b6321b1900b42a5700a2be1900b42a1b3c03
set_option maxRecDepth 100000 in
theorem zl_cX3_isFirstSealSound : cX3_isFirstSealSound.data.toList = z_un 97 zN_cX3_isFirstSealSound := eq_of_beq (by decide +kernel)
theorem dX3_isFirstSealSound_24 : decode cX3_isFirstSealSound 24 = .ok (.getfield 25, 3) := z_row zl_cX3_isFirstSealSound 24 1638580 (Nat.le_of_ble_eq_true rfl) (by decide +kernel) z_o180 (by decide +kernel)
theorem dX3_isFirstSealSound_27 : decode cX3_isFirstSealSound 27 = .ok (.iload_n 1, 1) := z_row zl_cX3_isFirstSealSound 27 11940379 (Nat.le_of_ble_eq_true rfl) (by decide +kernel) z_o27 (by decide +kernel)
theorem dX3_isFirstSealSound_28 : decode cX3_isFirstSealSound 28 = .ok (.aaload, 1) := z_row zl_cX3_isFirstSealSound 28 46642 (Nat.le_of_ble_eq_true rfl) (by decide +kernel) z_o50 (by decide +kernel)
theorem dX3_isFirstSealSound_29 : decode cX3_isFirstSealSound 29 = .ok (.invokevirtual 202, 3) := z_row zl_cX3_isFirstSealSound 29 13238454 (Nat.le_of_ble_eq_true rfl) (by decide +kernel) z_o182 (by decide +kernel)
theorem dX3_isFirstSealSound_32 : decode cX3_isFirstSealSound 32 = .ok (.istore_n 2, 1) := z_row zl_cX3_isFirstSealSound 32 10034237 (Nat.le_of_ble_eq_true rfl) (by decide +kernel) z_o61 (by decide +kernel)
theorem dX3_isFirstSealSound_33 : decode cX3_isFirstSealSound 33 = .ok (.iload_n 2, 1) := z_row zl_cX3_isFirstSealSound 33 39196 (Nat.le_of_ble_eq_true rfl) (by decide +kernel) z_o28 (by decide +kernel)
theorem dX3_isFirstSealSound_34 : decode cX3_isFirstSealSound 34 = .ok (.ifCond .eq 49, 3) := z_row zl_cX3_isFirstSealSound 34 3211417 (Nat.le_of_ble_eq_true rfl) (by decide +kernel) z_o153 (by decide +kernel)
theorem dX3_isFirstSealSound_37 : decode cX3_isFirstSealSound 37 = .ok (.aload_n 0, 1) := z_row zl_cX3_isFirstSealSound 37 11807274 (Nat.le_of_ble_eq_true rfl) (by decide +kernel) z_o42 (by decide +kernel)
theorem dX3_isFirstSealSound_38 : decode cX3_isFirstSealSound 38 = .ok (.aload_n 0, 1) := z_row zl_cX3_isFirstSealSound 38 46122 (Nat.le_of_ble_eq_true rfl) (by decide +kernel) z_o42 (by decide +kernel)
theorem dX3_isFirstSealSound_39 : decode cX3_isFirstSealSound 39 = .ok (.getfield 25, 3) := z_row zl_cX3_isFirstSealSound 39 1638580 (Nat.le_of_ble_eq_true rfl) (by decide +kernel) z_o180 (by decide +kernel)
theorem dX3_isFirstSealSound_42 : decode cX3_isFirstSealSound 42 = .ok (.iload_n 1, 1) := z_row zl_cX3_isFirstSealSound 42 1847835 (Nat.le_of_ble_eq_true rfl) (by decide +kernel) z_o27 (by decide +kernel)
theorem dX3_isFirstSealSound_43 : decode cX3_isFirstSealSound 43 = .ok (.aaload, 1) := z_row zl_cX3_isFirstSealSound 43 11934770 (Nat.le_of_ble_eq_true rfl) (by decide +kernel) z_o50 (by decide +kernel)
theorem dX3_isFirstSealSound_44 : decode cX3_isFirstSealSound 44 = .ok (.iload_n 2, 1) := z_row zl_cX3_isFirstSealSound 44 112156 (Nat.le_of_ble_eq_true rfl) (by decide +kernel) z_o28 (by decide +kernel)
theorem dX3_isFirstSealSound_45 : decode cX3_isFirstSealSound 45 = .ok (.invokevirtual 319, 3) := z_row zl_cX3_isFirstSealSound 45 4129206 (Nat.le_of_ble_eq_true rfl) (by decide +kernel) z_o182 (by decide +kernel)
theorem dX3_isFirstSealSound_48 : decode cX3_isFirstSealSound 48 = .ok (.ifCond .eq 35, 3) := z_row zl_cX3_isFirstSealSound 48 2293913 (Nat.le_of_ble_eq_true rfl) (by decide +kernel) z_o153 (by decide +kernel)
theorem dX3_isFirstSealSound_51 : decode cX3_isFirstSealSound 51 = .ok (.aload_n 0, 1) := z_row zl_cX3_isFirstSealSound 51 46122 (Nat.le_of_ble_eq_true rfl) (by decide +kernel) z_o42 (by decide +kernel)
theorem dX3_isFirstSealSound_52 : decode cX3_isFirstSealSound 52 = .ok (.getfield 10, 3) := z_row zl_cX3_isFirstSealSound 52 655540 (Nat.le_of_ble_eq_true rfl) (by decide +kernel) z_o180 (by decide +kernel)
theorem dX3_isFirstSealSound_55 : decode cX3_isFirstSealSound 55 = .ok (.aload_n 0, 1) := z_row zl_cX3_isFirstSealSound 55 11807274 (Nat.le_of_ble_eq_true rfl) (by decide +kernel) z_o42 (by decide +kernel)
theorem dX3_isFirstSealSound_56 : decode cX3_isFirstSealSound 56 = .ok (.aload_n 0, 1) := z_row zl_cX3_isFirstSealSound 56 46122 (Nat.le_of_ble_eq_true rfl) (by decide +kernel) z_o42 (by decide +kernel)
theorem dX3_isFirstSealSound_57 : decode cX3_isFirstSealSound 57 = .ok (.getfield 25, 3) := z_row zl_cX3_isFirstSealSound 57 1638580 (Nat.le_of_ble_eq_true rfl) (by decide +kernel) z_o180 (by decide +kernel)
theorem dX3_isFirstSealSound_60 : decode cX3_isFirstSealSound 60 = .ok (.iload_n 1, 1) := z_row zl_cX3_isFirstSealSound 60 1847835 (Nat.le_of_ble_eq_true rfl) (by decide +kernel) z_o27 (by decide +kernel)
theorem dX3_isFirstSealSound_61 : decode cX3_isFirstSealSound 61 = .ok (.aaload, 1) := z_row zl_cX3_isFirstSealSound 61 203826 (Nat.le_of_ble_eq_true rfl) (by decide +kernel) z_o50 (by decide +kernel)
theorem dX3_isFirstSealSound_62 : decode cX3_isFirstSealSound 62 = .ok (.iload_n 2, 1) := z_row zl_cX3_isFirstSealSound 62 11928348 (Nat.le_of_ble_eq_true rfl) (by decide +kernel) z_o28 (by decide +kernel)
theorem dX3_isFirstSealSound_63 : decode cX3_isFirstSealSound 63 = .ok (.iconst 0, 1) := z_row zl_cX3_isFirstSealSound 63 46595 (Nat.le_of_ble_eq_true rfl) (by decide +kernel) z_o3 (by decide +kernel)
theorem dX3_isFirstSealSound_64 : decode cX3_isFirstSealSound 64 = .ok (.invokevirtual 178, 3) := z_row zl_cX3_isFirstSealSound 64 11665590 (Nat.le_of_ble_eq_true rfl) (by decide +kernel) z_o182 (by decide +kernel)
theorem dX3_isFirstSealSound_67 : decode cX3_isFirstSealSound 67 = .ok (.invokevirtual 73, 3) := z_row zl_cX3_isFirstSealSound 67 4784310 (Nat.le_of_ble_eq_true rfl) (by decide +kernel) z_o182 (by decide +kernel)
theorem dX3_isFirstSealSound_70 : decode cX3_isFirstSealSound 70 = .ok (.aload_n 0, 1) := z_row zl_cX3_isFirstSealSound 70 46122 (Nat.le_of_ble_eq_true rfl) (by decide +kernel) z_o42 (by decide +kernel)
theorem dX3_isFirstSealSound_71 : decode cX3_isFirstSealSound 71 = .ok (.getfield 25, 3) := z_row zl_cX3_isFirstSealSound 71 1638580 (Nat.le_of_ble_eq_true rfl) (by decide +kernel) z_o180 (by decide +kernel)
theorem dX3_isFirstSealSound_74 : decode cX3_isFirstSealSound 74 = .ok (.iload_n 1, 1) := z_row zl_cX3_isFirstSealSound 74 209435 (Nat.le_of_ble_eq_true rfl) (by decide +kernel) z_o27 (by decide +kernel)
theorem dX3_isFirstSealSound_75 : decode cX3_isFirstSealSound 75 = .ok (.aaload, 1) := z_row zl_cX3_isFirstSealSound 75 11928370 (Nat.le_of_ble_eq_true rfl) (by decide +kernel) z_o50 (by decide +kernel)
theorem dX3_isFirstSealSound_76 : decode cX3_isFirstSealSound 76 = .ok (.iconst 0, 1) := z_row zl_cX3_isFirstSealSound 76 46595 (Nat.le_of_ble_eq_true rfl) (by decide +kernel) z_o3 (by decide +kernel)
theorem dX3_isFirstSealSound_77 : decode cX3_isFirstSealSound 77 = .ok (.invokevirtual 137, 3) := z_row zl_cX3_isFirstSealSound 77 8978614 (Nat.le_of_ble_eq_true rfl) (by decide +kernel) z_o182 (by decide +kernel)
theorem dX3_isFirstSealSound_80 : decode cX3_isFirstSealSound 80 = .ok (.if_icmp .ne 7, 3) := z_row zl_cX3_isFirstSealSound 80 458912 (Nat.le_of_ble_eq_true rfl) (by decide +kernel) z_o160 (by decide +kernel)
theorem dX3_isFirstSealSound_83 : decode cX3_isFirstSealSound 83 = .ok (.iconst 1, 1) := z_row zl_cX3_isFirstSealSound 83 42756 (Nat.le_of_ble_eq_true rfl) (by decide +kernel) z_o4 (by decide +kernel)
theorem dX3_isFirstSealSound_84 : decode cX3_isFirstSealSound 84 = .ok (.goto 4, 3) := z_row zl_cX3_isFirstSealSound 84 262311 (Nat.le_of_ble_eq_true rfl) (by decide +kernel) z_o167 (by decide +kernel)
theorem dX3_isFirstSealSound_87 : decode cX3_isFirstSealSound 87 = .ok (.iconst 0, 1) := z_row zl_cX3_isFirstSealSound 87 8694787 (Nat.le_of_ble_eq_true rfl) (by decide +kernel) z_o3 (by decide +kernel)
theorem dX3_isFirstSealSound_88 : decode cX3_isFirstSealSound 88 = .ok (.ireturn, 1) := z_row zl_cX3_isFirstSealSound 88 99500 (Nat.le_of_ble_eq_true rfl) (by decide +kernel) z_o172 (by decide +kernel)
theorem dX3_isFirstSealSound_89 : decode cX3_isFirstSealSound 89 = .ok (.iinc 1 1, 3) := z_row zl_cX3_isFirstSealSound 89 65924 (Nat.le_of_ble_eq_true rfl) (by decide +kernel) z_o132 (by decide +kernel)
theorem dX3_isFirstSealSound_92 : decode cX3_isFirstSealSound 92 = .ok (.goto (-90), 3) := z_row zl_cX3_isFirstSealSound 92 10944423 (Nat.le_of_ble_eq_true rfl) (by decide +kernel) z_o167 (by decide +kernel)
set_option maxRecDepth 100000 in
theorem dX3_isFirstSealSound_95 : decode cX3_isFirstSealSound 95 = .ok (.iconst 1, 1) := by decide +kernel
set_option maxRecDepth 100000 in
theorem dX3_isFirstSealSound_96 : decode cX3_isFirstSealSound 96 = .ok (.ireturn, 1) := by decide +kernel
set_option maxRecDepth 100000 in
theorem dX3_doAllFit_0 : decode cX3_doAllFit 0 = .ok (.iconst 1, 1) := by decide +kernel
set_option maxRecDepth 100000 in
theorem dX3_doAllFit_1 : decode cX3_doAllFit 1 = .ok (.istore_n 3, 1) := by decide +kernel
set_option maxRecDepth 100000 in
theorem dX3_doAllFit_2 : decode cX3_doAllFit 2 = .ok (.iload_n 3, 1) := by decide +kernel
set_option maxRecDepth 100000 in
theorem dX3_doAllFit_3 : decode cX3_doAllFit 3 = .ok (.aload_n 0, 1) := by decide +kernel
set_option maxRecDepth 100000 in
theorem dX3_doAllFit_4 : decode cX3_doAllFit 4 = .ok (.getfield 10, 3) := by decide +kernel
set_option maxRecDepth 100000 in
theorem dX3_doAllFit_7 : decode cX3_doAllFit 7 = .ok (.getfield 116, 3) := by decide +kernel
set_option maxRecDepth 100000 in
theorem dX3_doAllFit_10 : decode cX3_doAllFit 10 = .ok (.if_icmp .gt 28, 3) := by decide +kernel
set_option maxRecDepth 100000 in
theorem dX3_doAllFit_13 : decode cX3_doAllFit 13 = .ok (.iload_n 2, 1) := by decide +kernel
set_option maxRecDepth 100000 in
theorem dX3_doAllFit_14 : decode cX3_doAllFit 14 = .ok (.iload_n 3, 1) := by decide +kernel
set_option maxRecDepth 100000 in
theorem dX3_doAllFit_15 : decode cX3_doAllFit 15 = .ok (.invokestatic 83, 3) := by decide +kernel
set_option maxRecDepth 100000 in
theorem dX3_doAllFit_18 : decode cX3_doAllFit 18 = .ok (.ifCond .eq 14, 3) := by decide +kernel
set_option maxRecDepth 100000 in
theorem dX3_doAllFit_21 : decode cX3_doAllFit 21 = .ok (.aload_n 0, 1) := by decide +kernel
set_option maxRecDepth 100000 in
theorem dX3_doAllFit_22 : decode cX3_doAllFit 22 = .ok (.aload_n 1, 1) := by decide +kernel
set_option maxRecDepth 100000 in
theorem dX3_doAllFit_23 : decode cX3_doAllFit 23 = .ok (.iload_n 3, 1) := by decide +kernel
def zN_cX3_doAllFit : Nat := 0xac04dfffa7010384ac0305009ae700b61d2b2a0e00995300b81d1c1c00a37400b40a00b42a1d3e04
set_option maxRecDepth 100000 in
theorem zl_cX3_doAllFit : cX3_doAllFit.data.toList = z_un 40 zN_cX3_doAllFit := eq_of_beq (by decide +kernel)
theorem dX3_doAllFit_24 : decode cX3_doAllFit 24 = .ok (.invokevirtual 231, 3) := z_row zl_cX3_doAllFit 24 15138998 (Nat.le_of_ble_eq_true rfl) (by decide +kernel) z_o182 (by decide +kernel)
theorem dX3_doAllFit_27 : decode cX3_doAllFit 27 = .ok (.ifCond .ne 5, 3) := z_row zl_cX3_doAllFit 27 327834 (Nat.le_of_ble_eq_true rfl) (by decide +kernel) z_o154 (by decide +kernel)
theorem dX3_doAllFit_30 : decode cX3_doAllFit 30 = .ok (.iconst 0, 1) := z_row zl_cX3_doAllFit 30 8694787 (Nat.le_of_ble_eq_true rfl) (by decide +kernel) z_o3 (by decide +kernel)
theorem dX3_doAllFit_31 : decode cX3_doAllFit 31 = .ok (.ireturn, 1) := z_row zl_cX3_doAllFit 31 230572 (Nat.le_of_ble_eq_true rfl) (by decide +kernel) z_o172 (by decide +kernel)
theorem dX3_doAllFit_32 : decode cX3_doAllFit 32 = .ok (.iinc 3 1, 3) := z_row zl_cX3_doAllFit 32 66436 (Nat.le_of_ble_eq_true rfl) (by decide +kernel) z_o132 (by decide +kernel)
theorem dX3_doAllFit_35 : decode cX3_doAllFit 35 = .ok (.goto (-33), 3) := z_row zl_cX3_doAllFit 35 14679975 (Nat.le_of_ble_eq_true rfl) (by decide +kernel) z_o167 (by decide +kernel)
set_option maxRecDepth 100000 in
theorem dX3_doAllFit_38 : decode cX3_doAllFit 38 = .ok (.iconst 1, 1) := by decide +kernel
set_option maxRecDepth 100000 in
theorem dX3_doAllFit_39 : decode cX3_doAllFit 39 = .ok (.ireturn, 1) := by decide +kernel
set_option maxRecDepth 100000 in
theorem dX4_init_0 : decode cX4_init 0 = .ok (.aload_n 0, 1) := by decide +kernel
set_option maxRecDepth 100000 in
theorem dX4_init_1 : decode cX4_init 1 = .ok (.invokespecial 1, 3) := by decide +kernel
set_option maxRecDepth 100000 in
theorem dX4_init_4 : decode cX4_init 4 = .ok (.return_, 1) := by decide +kernel
set_option maxRecDepth 100000 in
theorem dJ5_init_d00df_0 : decode cJ5_init_d00df 0 = .ok (.aload_n 0, 1) := by decide +kernel
set_option maxRecDepth 100000 in
theorem dJ5_init_d00df_1 : decode cJ5_init_d00df 1 = .ok (.invokespecial 3, 3) := by decide +kernel
set_option maxRecDepth 100000 in
theorem dJ5_init_d00df_4 : decode cJ5_init_d00df 4 = .ok (.getstatic 18, 3) := by decide +kernel
set_option maxRecDepth 100000 in
theorem dJ5_init_d00df_7 : decode cJ5_init_d00df 7 = .ok (.ifCond .eq 18, 3) := by decide +kernel
set_option maxRecDepth 100000 in
theorem dJ5_init_d00df_10 : decode cJ5_init_d00df 10 = .ok (.aload_n 0, 1) := by decide +kernel
set_option maxRecDepth 100000 in
theorem dJ5_init_d00df_11 : decode cJ5_init_d00df 11 = .ok (.iload_n 1, 1) := by decide +kernel
set_option maxRecDepth 100000 in
theorem dJ5_init_d00df_12 : decode cJ5_init_d00df 12 = .ok (.newarray .byte, 2) := by decide +kernel
set_option maxRecDepth 100000 in
theorem dJ5_init_d00df_14 : decode cJ5_init_d00df 14 = .ok (.putfield 15, 3) := by decide +kernel
set_option maxRecDepth 100000 in
theorem dJ5_init_d00df_17 : decode cJ5_init_d00df 17 = .ok (.aload_n 0, 1) := by decide +kernel
set_option maxRecDepth 100000 in
theorem dJ5_init_d00df_18 : decode cJ5_init_d00df 18 = .ok (.iconst 0, 1) := by decide +kernel
set_option maxRecDepth 100000 in
theorem dJ5_init_d00df_19 : decode cJ5_init_d00df 19 = .ok (.putfield 22, 3) := by decide +kernel
set_option maxRecDepth 100000 in
theorem dJ5_init_d00df_22 : decode cJ5_init_d00df 22 = .ok (.goto 16, 3) := by decide +kernel
set_option maxRecDepth 100000 in
theorem dJ5_init_d00df_38 : decode cJ5_init_d00df 38 = .ok (.return_, 1) := by decide +kernel
set_option maxRecDepth 100000 in
theorem dJ5_length_8abf5_0 : decode cJ5_length_8abf5 0 = .ok (.aload_n 0, 1) := by decide +kernel
set_option maxRecDepth 100000 in
theorem dJ5_length_8abf5_1 : decode cJ5_length_8abf5 1 = .ok (.getfield 79, 3) := by decide +kernel
set_option maxRecDepth 100000 in
theorem dJ5_length_8abf5_4 : decode cJ5_length_8abf5 4 = .ok (.ireturn, 1) := by decide +kernel
set_option maxRecDepth 100000 in
theorem dJ5_ensureCapacityInternal_d00df_0 : decode cJ5_ensureCapacityInternal_d00df 0 = .ok (.aload_n 0, 1) := by decide +kernel
set_option maxRecDepth 100000 in
theorem dJ5_ensureCapacityInternal_d00df_1 : decode cJ5_ensureCapacityInternal_d00df 1 = .ok (.getfield 15, 3) := by decide +kernel
set_option maxRecDepth 100000 in
theorem dJ5_ensureCapacityInternal_d00df_4 : decode cJ5_ensureCapacityInternal_d00df 4 = .ok (.arraylength, 1) := by decide +kernel
set_option maxRecDepth 100000 in
theorem dJ5_ensureCapacityInternal_d00df_5 : decode cJ5_ensureCapacityInternal_d00df 5 = .ok (.aload_n 0, 1) := by decide +kernel
set_option maxRecDepth 100000 in
theorem dJ5_ensureCapacityInternal_d00df_6 : decode cJ5_ensureCapacityInternal_d00df 6 = .ok (.getfield 22, 3) := by decide +kernel
set_option maxRecDepth 100000 in
theorem dJ5_ensureCapacityInternal_d00df_9 : decode cJ5_ensureCapacityInternal_d00df 9 = .ok (.ishr, 1) := by decide +kernel
set_option maxRecDepth 100000 in
theorem dJ5_ensureCapacityInternal_d00df_10 : decode cJ5_ensureCapacityInternal_d00df 10 = .ok (.istore_n 2, 1) := by decide +kernel
set_option maxRecDepth 100000 in
theorem dJ5_ensureCapacityInternal_d00df_11 : decode cJ5_ensureCapacityInternal_d00df 11 = .ok (.iload_n 1, 1) := by decide +kernel
set_option maxRecDepth 100000 in
theorem dJ5_ensureCapacityInternal_d00df_12 : decode cJ5_ensureCapacityInternal_d00df 12 = .ok (.iload_n 2, 1) := by decide +kernel
set_option maxRecDepth 100000 in
theorem dJ5_ensureCapacityInternal_d00df_13 : decode cJ5_ensureCapacityInternal_d00df 13 = .ok (.isub, 1) := by decide +kernel
set_option maxRecDepth 100000 in
theorem dJ5_ensureCapacityInternal_d00df_14 : decode cJ5_ensureCapacityInternal_d00df 14 = .ok (.ifCond .le 24, 3) := by decide +kernel
set_option maxRecDepth 100000 in
theorem dJ5_ensureCapacityInternal_d00df_17 : decode cJ5_ensureCapacityInternal_d00df 17 = .ok (.aload_n 0, 1) := by decide +kernel
set_option maxRecDepth 100000 in
theorem dJ5_ensureCapacityInternal_d00df_18 : decode cJ5_ensureCapacityInternal_d00df 18 = .ok (.aload_n 0, 1) := by decide +kernel
set_option maxRecDepth 100000 in
theorem dJ5_ensureCapacityInternal_d00df_19 : decode cJ5_ensureCapacityInternal_d00df 19 = .ok (.getfield 15, 3) := by decide +kernel
set_option maxRecDepth 100000 in
theorem dJ5_ensureCapacityInternal_d00df_22 : decode cJ5_ensureCapacityInternal_d00df 22 = .ok (.aload_n 0, 1) := by decide +kernel
set_option maxRecDepth 100000 in
theorem dJ5_ensureCapacityInternal_d00df_23 : decode cJ5_ensureCapacityInternal_d00df 23 = .ok (.iload_n 1, 1) := by decide +kernel
def zN_cJ5_ensureCapacityInternal_d00df : Nat := 0xb10f00b56c00b8781600b42a6800b61b2a0f00b42a2a18009e641c1b3d7a1600b42abe0f00b42a
set_option maxRecDepth 100000 in
theorem zl_cJ5_ensureCapacityInternal_d00df : cJ5_ensureCapacityInternal_d00df.data.toList = z_un 39 zN_cJ5_ensureCapacityInternal_d00df := eq_of_beq (by decide +kernel)
theorem dJ5_ensureCapacityInternal_d00df_24 : decode cJ5_ensureCapacityInternal_d00df 24 = .ok (.invokevirtual 104, 3) := z_row zl_cJ5_ensureCapacityInternal_d00df 24 6815926 (Nat.le_of_ble_eq_true rfl) (by decide +kernel) z_o182 (by decide +kernel)
theorem dJ5_ensureCapacityInternal_d00df_27 : decode cJ5_ensureCapacityInternal_d00df 27 = .ok (.aload_n 0, 1) := z_row zl_cJ5_ensureCapacityInternal_d00df 27 46122 (Nat.le_of_ble_eq_true rfl) (by decide +kernel) z_o42 (by decide +kernel)
theorem dJ5_ensureCapacityInternal_d00df_28 : decode cJ5_ensureCapacityInternal_d00df 28 = .ok (.getfield 22, 3) := z_row zl_cJ5_ensureCapacityInternal_d00df 28 1441972 (Nat.le_of_ble_eq_true rfl) (by decide +kernel) z_o180 (by decide +kernel)
theorem dJ5_ensureCapacityInternal_d00df_31 : decode cJ5_ensureCapacityInternal_d00df 31 = .ok (.ishl, 1) := z_row zl_cJ5_ensureCapacityInternal_d00df 31 47224 (Nat.le_of_ble_eq_true rfl) (by decide +kernel) z_o120 (by decide +kernel)
theorem dJ5_ensureCapacityInternal_d00df_32 : decode cJ5_ensureCapacityInternal_d00df 32 = .ok (.invokestatic 108, 3) := z_row zl_cJ5_ensureCapacityInternal_d00df 32 7078072 (Nat.le_of_ble_eq_true rfl) (by decide +kernel) z_o184 (by decide +kernel)
theorem dJ5_ensureCapacityInternal_d00df_35 : decode cJ5_ensureCapacityInternal_d00df 35 = .ok (.putfield 15, 3) := z_row zl_cJ5_ensureCapacityInternal_d00df 35 983221 (Nat.le_of_ble_eq_true rfl) (by decide +kernel) z_o181 (by decide +kernel)
set_option maxRecDepth 100000 in
theorem dJ5_ensureCapacityInternal_d00df_38 : decode cJ5_ensureCapacityInternal_d00df 38 = .ok (.return_, 1) := by decide +kernel
set_option maxRecDepth 100000 in
theorem dJ5_newCapacity_0f7a4_0 : decode cJ5_newCapacity_0f7a4 0 = .ok (.aload_n 0, 1) := by decide +kernel
set_option maxRecDepth 100000 in
theorem dJ5_newCapacity_0f7a4_1 : decode cJ5_newCapacity_0f7a4 1 = .ok (.getfield 15, 3) := by decide +kernel
set_option maxRecDepth 100000 in
theorem dJ5_newCapacity_0f7a4_4 : decode cJ5_newCapacity_0f7a4 4 = .ok (.arraylength, 1) := by decide +kernel
set_option maxRecDepth 100000 in
theorem dJ5_newCapacity_0f7a4_5 : decode cJ5_newCapacity_0f7a4 5 = .ok (.istore_n 2, 1) := by decide +kernel
set_option maxRecDepth 100000 in
theorem dJ5_newCapacity_0f7a4_6 : decode cJ5_newCapacity_0f7a4 6 = .ok (.iload_n 1, 1) := by decide +kernel
set_option maxRecDepth 100000 in
theorem dJ5_newCapacity_0f7a4_7 : decode cJ5_newCapacity_0f7a4 7 = .ok (.aload_n 0, 1) := by decide +kernel
set_option maxRecDepth 100000 in
theorem dJ5_newCapacity_0f7a4_8 : decode cJ5_newCapacity_0f7a4 8 = .ok (.getfield 22, 3) := by decide +kernel
set_option maxRecDepth 100000 in
theorem dJ5_newCapacity_0f7a4_11 : decode cJ5_newCapacity_0f7a4 11 = .ok (.ishl, 1) := by decide +kernel
set_option maxRecDepth 100000 in
theorem dJ5_newCapacity_0f7a4_12 : decode cJ5_newCapacity_0f7a4 12 = .ok (.istore_n 3, 1) := by decide +kernel
set_option maxRecDepth 100000 in
theorem dJ5_newCapacity_0f7a4_13 : decode cJ5_newCapacity_0f7a4 13 = .ok (.iload_n 3, 1) := by decide +kernel
set_option maxRecDepth 100000 in
theorem dJ5_newCapacity_0f7a4_14 : decode cJ5_newCapacity_0f7a4 14 = .ok (.iload_n 2, 1) := by decide +kernel
set_option maxRecDepth 100000 in
theorem dJ5_newCapacity_0f7a4_15 : decode cJ5_newCapacity_0f7a4 15 = .ok (.isub, 1) := by decide +kernel
set_option maxRecDepth 100000 in
theorem dJ5_newCapacity_0f7a4_16 : decode cJ5_newCapacity_0f7a4 16 = .ok (.istore 4, 2) := by decide +kernel
set_option maxRecDepth 100000 in
theorem dJ5_newCapacity_0f7a4_18 : decode cJ5_newCapacity_0f7a4 18 = .ok (.iload_n 2, 1) := by decide +kernel
set_option maxRecDepth 100000 in
theorem dJ5_newCapacity_0f7a4_19 : decode cJ5_newCapacity_0f7a4 19 = .ok (.iload 4, 2) := by decide +kernel
set_option maxRecDepth 100000 in
theorem dJ5_newCapacity_0f7a4_21 : decode cJ5_newCapacity_0f7a4 21 = .ok (.iload_n 2, 1) := by decide +kernel
set_option maxRecDepth 100000 in
theorem dJ5_newCapacity_0f7a4_22 : decode cJ5_newCapacity_0f7a4 22 = .ok (.iconst 2, 1) := by decide +kernel
set_option maxRecDepth 100000 in
theorem dJ5_newCapacity_0f7a4_23 : decode cJ5_newCapacity_0f7a4 23 = .ok (.aload_n 0, 1) := by decide +kernel
def zN_cJ5_newCapacity_0f7a4 : Nat := 0xac7a1600b42a0515bf7c00b77a12597800bb0d00a02712051505367200b860781600b42a051c04151c0436641c1d3e781600b42a1b3dbe0f00b42a
set_option maxRecDepth 100000 in
theorem zl_cJ5_newCapacity_0f7a4 : cJ5_newCapacity_0f7a4.data.toList = z_un 59 zN_cJ5_newCapacity_0f7a4 := eq_of_beq (by decide +kernel)
theorem dJ5_newCapacity_0f7a4_24 : decode cJ5_newCapacity_0f7a4 24 = .ok (.getfield 22, 3) := z_row zl_cJ5_newCapacity_0f7a4 24 1441972 (Nat.le_of_ble_eq_true rfl) (by decide +kernel) z_o180 (by decide +kernel)
theorem dJ5_newCapacity_0f7a4_27 : decode cJ5_newCapacity_0f7a4 27 = .ok (.ishl, 1) := z_row zl_cJ5_newCapacity_0f7a4 27 12083320 (Nat.le_of_ble_eq_true rfl) (by decide +kernel) z_o120 (by decide +kernel)
theorem dJ5_newCapacity_0f7a4_28 : decode cJ5_newCapacity_0f7a4 28 = .ok (.iadd, 1) := z_row zl_cJ5_newCapacity_0f7a4 28 47200 (Nat.le_of_ble_eq_true rfl) (by decide +kernel) z_o96 (by decide +kernel)
theorem dJ5_newCapacity_0f7a4_29 : decode cJ5_newCapacity_0f7a4 29 = .ok (.invokestatic 114, 3) := z_row zl_cJ5_newCapacity_0f7a4 29 7471288 (Nat.le_of_ble_eq_true rfl) (by decide +kernel) z_o184 (by decide +kernel)
theorem dJ5_newCapacity_0f7a4_32 : decode cJ5_newCapacity_0f7a4 32 = .ok (.istore 5, 2) := z_row zl_cJ5_newCapacity_0f7a4 32 1377590 (Nat.le_of_ble_eq_true rfl) (by decide +kernel) z_o54 (by decide +kernel)
theorem dJ5_newCapacity_0f7a4_34 : decode cJ5_newCapacity_0f7a4 34 = .ok (.iload 5, 2) := z_row zl_cJ5_newCapacity_0f7a4 34 1180949 (Nat.le_of_ble_eq_true rfl) (by decide +kernel) z_o21 (by decide +kernel)
theorem dJ5_newCapacity_0f7a4_36 : decode cJ5_newCapacity_0f7a4 36 = .ok (.ldc 39, 2) := z_row zl_cJ5_newCapacity_0f7a4 36 10495762 (Nat.le_of_ble_eq_true rfl) (by decide +kernel) z_o18 (by decide +kernel)
theorem dJ5_newCapacity_0f7a4_38 : decode cJ5_newCapacity_0f7a4 38 = .ok (.if_icmp .ne 13, 3) := z_row zl_cJ5_newCapacity_0f7a4 38 852128 (Nat.le_of_ble_eq_true rfl) (by decide +kernel) z_o160 (by decide +kernel)
theorem dJ5_newCapacity_0f7a4_51 : decode cJ5_newCapacity_0f7a4 51 = .ok (.iload 5, 2) := z_row zl_cJ5_newCapacity_0f7a4 51 2753813 (Nat.le_of_ble_eq_true rfl) (by decide +kernel) z_o21 (by decide +kernel)
theorem dJ5_newCapacity_0f7a4_53 : decode cJ5_newCapacity_0f7a4 53 = .ok (.aload_n 0, 1) := z_row zl_cJ5_newCapacity_0f7a4 53 46122 (Nat.le_of_ble_eq_true rfl) (by decide +kernel) z_o42 (by decide +kernel)
theorem dJ5_newCapacity_0f7a4_54 : decode cJ5_newCapacity_0f7a4 54 = .ok (.getfield 22, 3) := z_row zl_cJ5_newCapacity_0f7a4 54 1441972 (Nat.le_of_ble_eq_true rfl) (by decide +kernel) z_o180 (by decide +kernel)
set_option maxRecDepth 100000 in
theorem dJ5_newCapacity_0f7a4_57 : decode cJ5_newCapacity_0f7a4 57 = .ok (.ishr, 1) := by decide +kernel
set_option maxRecDepth 100000 in
theorem dJ5_newCapacity_0f7a4_58 : decode cJ5_newCapacity_0f7a4 58 = .ok (.ireturn, 1) := by decide +kernel
set_option maxRecDepth 100000 in
theorem dJ5_append_3fe6f_0 : decode cJ5_append_3fe6f 0 = .ok (.aload_n 0, 1) := by decide +kernel
set_option maxRecDepth 100000 in
theorem dJ5_append_3fe6f_1 : decode cJ5_append_3fe6f 1 = .ok (.aload_n 0, 1) := by decide +kernel
set_option maxRecDepth 100000 in
theorem dJ5_append_3fe6f_2 : decode cJ5_append_3fe6f 2 = .ok (.getfield 79, 3) := by decide +kernel
set_option maxRecDepth 100000 in
theorem dJ5_append_3fe6f_5 : decode cJ5_append_3fe6f 5 = .ok (.iconst 1, 1) := by decide +kernel
set_option maxRecDepth 100000 in
theorem dJ5_append_3fe6f_6 : decode cJ5_append_3fe6f 6 = .ok (.iadd, 1) := by decide +kernel
set_option maxRecDepth 100000 in
theorem dJ5_append_3fe6f_7 : decode cJ5_append_3fe6f 7 = .ok (.invokevirtual 100, 3) := by decide +kernel
set_option maxRecDepth 100000 in
theorem dJ5_append_3fe6f_10 : decode cJ5_append_3fe6f 10 = .ok (.aload_n 0, 1) := by decide +kernel
set_option maxRecDepth 100000 in
theorem dJ5_append_3fe6f_11 : decode cJ5_append_3fe6f 11 = .ok (.invokevirtual 83, 3) := by decide +kernel
set_option maxRecDepth 100000 in
theorem dJ5_append_3fe6f_14 : decode cJ5_append_3fe6f 14 = .ok (.ifCond .eq 31, 3) := by decide +kernel
set_option maxRecDepth 100000 in
theorem dJ5_append_3fe6f_17 : decode cJ5_append_3fe6f 17 = .ok (.iload_n 1, 1) := by decide +kernel
set_option maxRecDepth 100000 in
theorem dJ5_append_3fe6f_18 : decode cJ5_append_3fe6f 18 = .ok (.invokestatic 191, 3) := by decide +kernel
set_option maxRecDepth 100000 in
theorem dJ5_append_3fe6f_21 : decode cJ5_append_3fe6f 21 = .ok (.ifCond .eq 24, 3) := by decide +kernel
def zN_cJ5_append_3fe6f : Nat := 0xb02ac500b81b4f00b560045a4f00b4592a0f00b42ac300b62a0700995300b62a2100a754911b4f00b560045a4f00b4592a0f00b42a180099bf00b81b1f00995300b62a6400b660044f00b42a2a
set_option maxRecDepth 100000 in
theorem zl_cJ5_append_3fe6f : cJ5_append_3fe6f.data.toList = z_un 77 zN_cJ5_append_3fe6f := eq_of_beq (by decide +kernel)
theorem dJ5_append_3fe6f_24 : decode cJ5_append_3fe6f 24 = .ok (.aload_n 0, 1) := z_row zl_cJ5_append_3fe6f 24 46122 (Nat.le_of_ble_eq_true rfl) (by decide +kernel) z_o42 (by decide +kernel)
theorem dJ5_append_3fe6f_25 : decode cJ5_append_3fe6f 25 = .ok (.getfield 15, 3) := z_row zl_cJ5_append_3fe6f 25 983220 (Nat.le_of_ble_eq_true rfl) (by decide +kernel) z_o180 (by decide +kernel)
theorem dJ5_append_3fe6f_28 : decode cJ5_append_3fe6f 28 = .ok (.aload_n 0, 1) := z_row zl_cJ5_append_3fe6f 28 11819306 (Nat.le_of_ble_eq_true rfl) (by decide +kernel) z_o42 (by decide +kernel)
theorem dJ5_append_3fe6f_29 : decode cJ5_append_3fe6f 29 = .ok (.dup, 1) := z_row zl_cJ5_append_3fe6f 29 46169 (Nat.le_of_ble_eq_true rfl) (by decide +kernel) z_o89 (by decide +kernel)
theorem dJ5_append_3fe6f_30 : decode cJ5_append_3fe6f 30 = .ok (.getfield 79, 3) := z_row zl_cJ5_append_3fe6f 30 5177524 (Nat.le_of_ble_eq_true rfl) (by decide +kernel) z_o180 (by decide +kernel)
theorem dJ5_append_3fe6f_33 : decode cJ5_append_3fe6f 33 = .ok (.dup_x1, 1) := z_row zl_cJ5_append_3fe6f 33 6292570 (Nat.le_of_ble_eq_true rfl) (by decide +kernel) z_o90 (by decide +kernel)
theorem dJ5_append_3fe6f_34 : decode cJ5_append_3fe6f 34 = .ok (.iconst 1, 1) := z_row zl_cJ5_append_3fe6f 34 11886596 (Nat.le_of_ble_eq_true rfl) (by decide +kernel) z_o4 (by decide +kernel)
theorem dJ5_append_3fe6f_35 : decode cJ5_append_3fe6f 35 = .ok (.iadd, 1) := z_row zl_cJ5_append_3fe6f 35 46432 (Nat.le_of_ble_eq_true rfl) (by decide +kernel) z_o96 (by decide +kernel)
theorem dJ5_append_3fe6f_36 : decode cJ5_append_3fe6f 36 = .ok (.putfield 79, 3) := z_row zl_cJ5_append_3fe6f 36 5177525 (Nat.le_of_ble_eq_true rfl) (by decide +kernel) z_o181 (by decide +kernel)
theorem dJ5_append_3fe6f_39 : decode cJ5_append_3fe6f 39 = .ok (.iload_n 1, 1) := z_row zl_cJ5_append_3fe6f 39 5542171 (Nat.le_of_ble_eq_true rfl) (by decide +kernel) z_o27 (by decide +kernel)
theorem dJ5_append_3fe6f_40 : decode cJ5_append_3fe6f 40 = .ok (.i2b, 1) := z_row zl_cJ5_append_3fe6f 40 10966161 (Nat.le_of_ble_eq_true rfl) (by decide +kernel) z_o145 (by decide +kernel)
theorem dJ5_append_3fe6f_41 : decode cJ5_append_3fe6f 41 = .ok (.bastore, 1) := z_row zl_cJ5_append_3fe6f 41 42836 (Nat.le_of_ble_eq_true rfl) (by decide +kernel) z_o84 (by decide +kernel)
theorem dJ5_append_3fe6f_42 : decode cJ5_append_3fe6f 42 = .ok (.goto 33, 3) := z_row zl_cJ5_append_3fe6f 42 2162855 (Nat.le_of_ble_eq_true rfl) (by decide +kernel) z_o167 (by decide +kernel)
set_option maxRecDepth 100000 in
theorem dJ5_append_3fe6f_75 : decode cJ5_append_3fe6f 75 = .ok (.aload_n 0, 1) := by decide +kernel
set_option maxRecDepth 100000 in
theorem dJ5_append_3fe6f_76 : decode cJ5_append_3fe6f 76 = .ok (.areturn, 1) := by decide +kernel
set_option maxRecDepth 100000 in
theorem dJ5_append_c97b9_0 : decode cJ5_append_c97b9 0 = .ok (.aload_n 0, 1) := by decide +kernel
set_option maxRecDepth 100000 in
theorem dJ5_append_c97b9_1 : decode cJ5_append_c97b9 1 = .ok (.getfield 79, 3) := by decide +kernel
set_option maxRecDepth 100000 in
theorem dJ5_append_c97b9_4 : decode cJ5_append_c97b9 4 = .ok (.istore_n 2, 1) := by decide +kernel
set_option maxRecDepth 100000 in
theorem dJ5_append_c97b9_5 : decode cJ5_append_c97b9 5 = .ok (.iload_n 2, 1) := by decide +kernel
set_option maxRecDepth 100000 in
theorem dJ5_append_c97b9_6 : decode cJ5_append_c97b9 6 = .ok (.iload_n 1, 1) := by decide +kernel
set_option maxRecDepth 100000 in
theorem dJ5_append_c97b9_7 : decode cJ5_append_c97b9 7 = .ok (.invokestatic 245, 3) := by decide +kernel
set_option maxRecDepth 100000 in
theorem dJ5_append_c97b9_10 : decode cJ5_append_c97b9 10 = .ok (.iadd, 1) := by decide +kernel
set_option maxRecDepth 100000 in
theorem dJ5_append_c97b9_11 : decode cJ5_append_c97b9 11 = .ok (.istore_n 3, 1) := by decide +kernel
set_option maxRecDepth 100000 in
theorem dJ5_append_c97b9_12 : decode cJ5_append_c97b9 12 = .ok (.aload_n 0, 1) := by decide +kernel
set_option maxRecDepth 100000 in
theorem dJ5_append_c97b9_13 : decode cJ5_append_c97b9 13 = .ok (.iload_n 3, 1) := by decide +kernel
set_option maxRecDepth 100000 in
theorem dJ5_append_c97b9_14 : decode cJ5_append_c97b9 14 = .ok (.invokevirtual 100, 3) := by decide +kernel
set_option maxRecDepth 100000 in
theorem dJ5_append_c97b9_17 : decode cJ5_append_c97b9 17 = .ok (.aload_n 0, 1) := by decide +kernel
set_option maxRecDepth 100000 in
theorem dJ5_append_c97b9_18 : decode cJ5_append_c97b9 18 = .ok (.invokevirtual 83, 3) := by decide +kernel
set_option maxRecDepth 100000 in
theorem dJ5_append_c97b9_21 : decode cJ5_append_c97b9 21 = .ok (.ifCond .eq 16, 3) := by decide +kernel
def zN_cJ5_append_c97b9 : Nat := 0xb02a4f00b51d2a57fb00b80f00b42a1d1c1b0e00a757f800b80f00b42a1d1b1000995300b62a6400b61d2a3e60f500b81b1c3d4f00b42a
set_option maxRecDepth 100000 in
theorem zl_cJ5_append_c97b9 : cJ5_append_c97b9.data.toList = z_un 55 zN_cJ5_append_c97b9 := eq_of_beq (by decide +kernel)
theorem dJ5_append_c97b9_24 : decode cJ5_append_c97b9 24 = .ok (.iload_n 1, 1) := z_row zl_cJ5_append_c97b9 24 2759963 (Nat.le_of_ble_eq_true rfl) (by decide +kernel) z_o27 (by decide +kernel)
theorem dJ5_append_c97b9_25 : decode cJ5_append_c97b9 25 = .ok (.iload_n 3, 1) := z_row zl_cJ5_append_c97b9 25 11807261 (Nat.le_of_ble_eq_true rfl) (by decide +kernel) z_o29 (by decide +kernel)
theorem dJ5_append_c97b9_26 : decode cJ5_append_c97b9 26 = .ok (.aload_n 0, 1) := z_row zl_cJ5_append_c97b9 26 46122 (Nat.le_of_ble_eq_true rfl) (by decide +kernel) z_o42 (by decide +kernel)
theorem dJ5_append_c97b9_27 : decode cJ5_append_c97b9 27 = .ok (.getfield 15, 3) := z_row zl_cJ5_append_c97b9 27 983220 (Nat.le_of_ble_eq_true rfl) (by decide +kernel) z_o180 (by decide +kernel)
theorem dJ5_append_c97b9_30 : decode cJ5_append_c97b9 30 = .ok (.invokestatic 248, 3) := z_row zl_cJ5_append_c97b9 30 16253112 (Nat.le_of_ble_eq_true rfl) (by decide +kernel) z_o184 (by decide +kernel)
theorem dJ5_append_c97b9_33 : decode cJ5_append_c97b9 33 = .ok (.pop, 1) := z_row zl_cJ5_append_c97b9 33 42839 (Nat.le_of_ble_eq_true rfl) (by decide +kernel) z_o87 (by decide +kernel)
theorem dJ5_append_c97b9_34 : decode cJ5_append_c97b9 34 = .ok (.goto 14, 3) := z_row zl_cJ5_append_c97b9 34 917671 (Nat.le_of_ble_eq_true rfl) (by decide +kernel) z_o167 (by decide +kernel)
theorem dJ5_append_c97b9_48 : decode cJ5_append_c97b9 48 = .ok (.aload_n 0, 1) := z_row zl_cJ5_append_c97b9 48 11869482 (Nat.le_of_ble_eq_true rfl) (by decide +kernel) z_o42 (by decide +kernel)
theorem dJ5_append_c97b9_49 : decode cJ5_append_c97b9 49 = .ok (.iload_n 3, 1) := z_row zl_cJ5_append_c97b9 49 46365 (Nat.le_of_ble_eq_true rfl) (by decide +kernel) z_o29 (by decide +kernel)
theorem dJ5_append_c97b9_50 : decode cJ5_append_c97b9 50 = .ok (.putfield 79, 3) := z_row zl_cJ5_append_c97b9 50 5177525 (Nat.le_of_ble_eq_true rfl) (by decide +kernel) z_o181 (by decide +kernel)
set_option maxRecDepth 100000 in
theorem dJ5_append_c97b9_53 : decode cJ5_append_c97b9 53 = .ok (.aload_n 0, 1) := by decide +kernel
set_option maxRecDepth 100000 in
theorem dJ5_append_c97b9_54 : decode cJ5_append_c97b9 54 = .ok (.areturn, 1) := by decide +kernel
set_option maxRecDepth 100000 in
theorem dJ5_getValue_6d5f1_0 : decode cJ5_getValue_6d5f1 0 = .ok (.aload_n 0, 1) := by decide +kernel
set_option maxRecDepth 100000 in
theorem dJ5_getValue_6d5f1_1 : decode cJ5_getValue_6d5f1 1 = .ok (.getfield 15, 3) := by decide +kernel
set_option maxRecDepth 100000 in
theorem dJ5_getValue_6d5f1_4 : decode cJ5_getValue_6d5f1 4 = .ok (.areturn, 1) := by decide +kernel
set_option maxRecDepth 100000 in
theorem dJ5_isLatin1_aae02_0 : decode cJ5_isLatin1_aae02 0 = .ok (.getstatic 18, 3) := by decide +kernel
set_option maxRecDepth 100000 in
theorem dJ5_isLatin1_aae02_3 : decode cJ5_isLatin1_aae02 3 = .ok (.ifCond .eq 14, 3) := by decide +kernel
set_option maxRecDepth 100000 in
theorem dJ5_isLatin1_aae02_6 : decode cJ5_isLatin1_aae02 6 = .ok (.aload_n 0, 1) := by decide +kernel
set_option maxRecDepth 100000 in
theorem dJ5_isLatin1_aae02_7 : decode cJ5_isLatin1_aae02 7 = .ok (.getfield 22, 3) := by decide +kernel
set_option maxRecDepth 100000 in
theorem dJ5_isLatin1_aae02_10 : decode cJ5_isLatin1_aae02 10 = .ok (.ifCond .ne 7, 3) := by decide +kernel
set_option maxRecDepth 100000 in
theorem dJ5_isLatin1_aae02_13 : decode cJ5_isLatin1_aae02 13 = .ok (.iconst 1, 1) := by decide +kernel
set_option maxRecDepth 100000 in
theorem dJ5_isLatin1_aae02_14 : decode cJ5_isLatin1_aae02 14 = .ok (.goto 4, 3) := by decide +kernel
set_option maxRecDepth 100000 in
theorem dJ5_isLatin1_aae02_18 : decode cJ5_isLatin1_aae02 18 = .ok (.ireturn, 1) := by decide +kernel
set_option maxRecDepth 100000 in
theorem dJ6_getChars_ba4f3_0 : decode cJ6_getChars_ba4f3 0 = .ok (.iload_n 1, 1) := by decide +kernel
set_option maxRecDepth 100000 in
theorem dJ6_getChars_ba4f3_1 : decode cJ6_getChars_ba4f3 1 = .ok (.istore 5, 2) := by decide +kernel
set_option maxRecDepth 100000 in
theorem dJ6_getChars_ba4f3_3 : decode cJ6_getChars_ba4f3 3 = .ok (.iload_n 0, 1) := by decide +kernel
set_option maxRecDepth 100000 in
theorem dJ6_getChars_ba4f3_4 : decode cJ6_getChars_ba4f3 4 = .ok (.ifCond .ge 7, 3) := by decide +kernel
set_option maxRecDepth 100000 in
theorem dJ6_getChars_ba4f3_11 : decode cJ6_getChars_ba4f3 11 = .ok (.iconst 0, 1) := by decide +kernel
set_option maxRecDepth 100000 in
theorem dJ6_getChars_ba4f3_12 : decode cJ6_getChars_ba4f3 12 = .ok (.istore 6, 2) := by decide +kernel
set_option maxRecDepth 100000 in
theorem dJ6_getChars_ba4f3_14 : decode cJ6_getChars_ba4f3 14 = .ok (.iload 6, 2) := by decide +kernel
set_option maxRecDepth 100000 in
theorem dJ6_getChars_ba4f3_16 : decode cJ6_getChars_ba4f3 16 = .ok (.ifCond .ne 6, 3) := by decide +kernel
set_option maxRecDepth 100000 in
theorem dJ6_getChars_ba4f3_19 : decode cJ6_getChars_ba4f3 19 = .ok (.iload_n 0, 1) := by decide +kernel
set_option maxRecDepth 100000 in
theorem dJ6_getChars_ba4f3_20 : decode cJ6_getChars_ba4f3 20 = .ok (.ineg, 1) := by decide +kernel
set_option maxRecDepth 100000 in
theorem dJ6_getChars_ba4f3_21 : decode cJ6_getChars_ba4f3 21 = .ok (.istore_n 0, 1) := by decide +kernel
set_option maxRecDepth 100000 in
theorem dJ6_getChars_ba4f3_22 : decode cJ6_getChars_ba4f3 22 = .ok (.iload_n 0, 1) := by decide +kernel
set_option maxRecDepth 100000 in
theorem dJ6_getChars_ba4f3_23 : decode cJ6_getChars_ba4f3 23 = .ok (.bipush (-100), 2) := by decide +kernel
def zN_cJ6_getChars_ba4f3 : Nat := 0xac0515542d100515ff05842c0c009906155433741a5700b20515ff05842c1000a2f7101a5433741a5300b20515ff05842cd1ffa7543304155700b20515ff05842c543304155300b20515ff05842c3b1d0436641a6864101d3e6c64101a2f00a39c101a3b741a06009a06150636030400a70407009c1a05361b
set_option maxRecDepth 100000 in
theorem zl_cJ6_getChars_ba4f3 : cJ6_getChars_ba4f3.data.toList = z_un 121 zN_cJ6_getChars_ba4f3 := eq_of_beq (by decide +kernel)
theorem dJ6_getChars_ba4f3_25 : decode cJ6_getChars_ba4f3 25 = .ok (.if_icmp .gt 47, 3) := z_row zl_cJ6_getChars_ba4f3 25 3080355 (Nat.le_of_ble_eq_true rfl) (by decide +kernel) z_o163 (by decide +kernel)
theorem dJ6_getChars_ba4f3_28 : decode cJ6_getChars_ba4f3 28 = .ok (.iload_n 0, 1) := z_row zl_cJ6_getChars_ba4f3 28 6557722 (Nat.le_of_ble_eq_true rfl) (by decide +kernel) z_o26 (by decide +kernel)
theorem dJ6_getChars_ba4f3_29 : decode cJ6_getChars_ba4f3 29 = .ok (.bipush 100, 2) := z_row zl_cJ6_getChars_ba4f3 29 7103504 (Nat.le_of_ble_eq_true rfl) (by decide +kernel) z_o16 (by decide +kernel)
theorem dJ6_getChars_ba4f3_31 : decode cJ6_getChars_ba4f3 31 = .ok (.idiv, 1) := z_row zl_cJ6_getChars_ba4f3 31 1916524 (Nat.le_of_ble_eq_true rfl) (by decide +kernel) z_o108 (by decide +kernel)
theorem dJ6_getChars_ba4f3_32 : decode cJ6_getChars_ba4f3 32 = .ok (.istore_n 3, 1) := z_row zl_cJ6_getChars_ba4f3 32 1056062 (Nat.le_of_ble_eq_true rfl) (by decide +kernel) z_o62 (by decide +kernel)
theorem dJ6_getChars_ba4f3_33 : decode cJ6_getChars_ba4f3 33 = .ok (.iload_n 3, 1) := z_row zl_cJ6_getChars_ba4f3 33 6557725 (Nat.le_of_ble_eq_true rfl) (by decide +kernel) z_o29 (by decide +kernel)
theorem dJ6_getChars_ba4f3_34 : decode cJ6_getChars_ba4f3 34 = .ok (.bipush 100, 2) := z_row zl_cJ6_getChars_ba4f3 34 6841360 (Nat.le_of_ble_eq_true rfl) (by decide +kernel) z_o16 (by decide +kernel)
theorem dJ6_getChars_ba4f3_36 : decode cJ6_getChars_ba4f3 36 = .ok (.imul, 1) := z_row zl_cJ6_getChars_ba4f3 36 6560360 (Nat.le_of_ble_eq_true rfl) (by decide +kernel) z_o104 (by decide +kernel)
theorem dJ6_getChars_ba4f3_37 : decode cJ6_getChars_ba4f3 37 = .ok (.iload_n 0, 1) := z_row zl_cJ6_getChars_ba4f3 37 3564570 (Nat.le_of_ble_eq_true rfl) (by decide +kernel) z_o26 (by decide +kernel)
theorem dJ6_getChars_ba4f3_38 : decode cJ6_getChars_ba4f3 38 = .ok (.isub, 1) := z_row zl_cJ6_getChars_ba4f3 38 276068 (Nat.le_of_ble_eq_true rfl) (by decide +kernel) z_o100 (by decide +kernel)
theorem dJ6_getChars_ba4f3_39 : decode cJ6_getChars_ba4f3 39 = .ok (.istore 4, 2) := z_row zl_cJ6_getChars_ba4f3 39 1901622 (Nat.le_of_ble_eq_true rfl) (by decide +kernel) z_o54 (by decide +kernel)
theorem dJ6_getChars_ba4f3_41 : decode cJ6_getChars_ba4f3 41 = .ok (.iload_n 3, 1) := z_row zl_cJ6_getChars_ba4f3 41 2898717 (Nat.le_of_ble_eq_true rfl) (by decide +kernel) z_o29 (by decide +kernel)
theorem dJ6_getChars_ba4f3_42 : decode cJ6_getChars_ba4f3 42 = .ok (.istore_n 0, 1) := z_row zl_cJ6_getChars_ba4f3 42 8662075 (Nat.le_of_ble_eq_true rfl) (by decide +kernel) z_o59 (by decide +kernel)
theorem dJ6_getChars_ba4f3_43 : decode cJ6_getChars_ba4f3 43 = .ok (.aload_n 2, 1) := z_row zl_cJ6_getChars_ba4f3 43 361516 (Nat.le_of_ble_eq_true rfl) (by decide +kernel) z_o44 (by decide +kernel)
theorem dJ6_getChars_ba4f3_44 : decode cJ6_getChars_ba4f3 44 = .ok (.iinc 5 (-1), 3) := z_row zl_cJ6_getChars_ba4f3 44 16713092 (Nat.le_of_ble_eq_true rfl) (by decide +kernel) z_o132 (by decide +kernel)
theorem dJ6_getChars_ba4f3_47 : decode cJ6_getChars_ba4f3 47 = .ok (.iload 5, 2) := z_row zl_cJ6_getChars_ba4f3 47 11666709 (Nat.le_of_ble_eq_true rfl) (by decide +kernel) z_o21 (by decide +kernel)
theorem dJ6_getChars_ba4f3_49 : decode cJ6_getChars_ba4f3 49 = .ok (.getstatic 83, 3) := z_row zl_cJ6_getChars_ba4f3 49 5439666 (Nat.le_of_ble_eq_true rfl) (by decide +kernel) z_o178 (by decide +kernel)
theorem dJ6_getChars_ba4f3_52 : decode cJ6_getChars_ba4f3 52 = .ok (.iload 4, 2) := z_row zl_cJ6_getChars_ba4f3 52 3343381 (Nat.le_of_ble_eq_true rfl) (by decide +kernel) z_o21 (by decide +kernel)
theorem dJ6_getChars_ba4f3_54 : decode cJ6_getChars_ba4f3 54 = .ok (.baload, 1) := z_row zl_cJ6_getChars_ba4f3 54 2905139 (Nat.le_of_ble_eq_true rfl) (by decide +kernel) z_o51 (by decide +kernel)
theorem dJ6_getChars_ba4f3_55 : decode cJ6_getChars_ba4f3 55 = .ok (.bastore, 1) := z_row zl_cJ6_getChars_ba4f3 55 8662100 (Nat.le_of_ble_eq_true rfl) (by decide +kernel) z_o84 (by decide +kernel)
theorem dJ6_getChars_ba4f3_56 : decode cJ6_getChars_ba4f3 56 = .ok (.aload_n 2, 1) := z_row zl_cJ6_getChars_ba4f3 56 361516 (Nat.le_of_ble_eq_true rfl) (by decide +kernel) z_o44 (by decide +kernel)
theorem dJ6_getChars_ba4f3_57 : decode cJ6_getChars_ba4f3 57 = .ok (.iinc 5 (-1), 3) := z_row zl_cJ6_getChars_ba4f3 57 16713092 (Nat.le_of_ble_eq_true rfl) (by decide +kernel) z_o132 (by decide +kernel)
theorem dJ6_getChars_ba4f3_60 : decode cJ6_getChars_ba4f3 60 = .ok (.iload 5, 2) := z_row zl_cJ6_getChars_ba4f3 60 11666709 (Nat.le_of_ble_eq_true rfl) (by decide +kernel) z_o21 (by decide +kernel)
theorem dJ6_getChars_ba4f3_62 : decode cJ6_getChars_ba4f3 62 = .ok (.getstatic 87, 3) := z_row zl_cJ6_getChars_ba4f3 62 5701810 (Nat.le_of_ble_eq_true rfl) (by decide +kernel) z_o178 (by decide +kernel)
theorem dJ6_getChars_ba4f3_65 : decode cJ6_getChars_ba4f3 65 = .ok (.iload 4, 2) := z_row zl_cJ6_getChars_ba4f3 65 3343381 (Nat.le_of_ble_eq_true rfl) (by decide +kernel) z_o21 (by decide +kernel)
theorem dJ6_getChars_ba4f3_67 : decode cJ6_getChars_ba4f3 67 = .ok (.baload, 1) := z_row zl_cJ6_getChars_ba4f3 67 10966067 (Nat.le_of_ble_eq_true rfl) (by decide +kernel) z_o51 (by decide +kernel)
theorem dJ6_getChars_ba4f3_68 : decode cJ6_getChars_ba4f3 68 = .ok (.bastore, 1) := z_row zl_cJ6_getChars_ba4f3 68 16754516 (Nat.le_of_ble_eq_true rfl) (by decide +kernel) z_o84 (by decide +kernel)
theorem dJ6_getChars_ba4f3_69 : decode cJ6_getChars_ba4f3 69 = .ok (.goto (-47), 3) := z_row zl_cJ6_getChars_ba4f3 69 13762471 (Nat.le_of_ble_eq_true rfl) (by decide +kernel) z_o167 (by decide +kernel)
theorem dJ6_getChars_ba4f3_72 : decode cJ6_getChars_ba4f3 72 = .ok (.aload_n 2, 1) := z_row zl_cJ6_getChars_ba4f3 72 361516 (Nat.le_of_ble_eq_true rfl) (by decide +kernel) z_o44 (by decide +kernel)
theorem dJ6_getChars_ba4f3_73 : decode cJ6_getChars_ba4f3 73 = .ok (.iinc 5 (-1), 3) := z_row zl_cJ6_getChars_ba4f3 73 16713092 (Nat.le_of_ble_eq_true rfl) (by decide +kernel) z_o132 (by decide +kernel)
theorem dJ6_getChars_ba4f3_76 : decode cJ6_getChars_ba4f3 76 = .ok (.iload 5, 2) := z_row zl_cJ6_getChars_ba4f3 76 11666709 (Nat.le_of_ble_eq_true rfl) (by decide +kernel) z_o21 (by decide +kernel)
theorem dJ6_getChars_ba4f3_78 : decode cJ6_getChars_ba4f3 78 = .ok (.getstatic 83, 3) := z_row zl_cJ6_getChars_ba4f3 78 5439666 (Nat.le_of_ble_eq_true rfl) (by decide +kernel) z_o178 (by decide +kernel)
theorem dJ6_getChars_ba4f3_81 : decode cJ6_getChars_ba4f3 81 = .ok (.iload_n 0, 1) := z_row zl_cJ6_getChars_ba4f3 81 3372058 (Nat.le_of_ble_eq_true rfl) (by decide +kernel) z_o26 (by decide +kernel)
theorem dJ6_getChars_ba4f3_82 : decode cJ6_getChars_ba4f3 82 = .ok (.ineg, 1) := z_row zl_cJ6_getChars_ba4f3 82 5518196 (Nat.le_of_ble_eq_true rfl) (by decide +kernel) z_o116 (by decide +kernel)
theorem dJ6_getChars_ba4f3_83 : decode cJ6_getChars_ba4f3 83 = .ok (.baload, 1) := z_row zl_cJ6_getChars_ba4f3 83 1725491 (Nat.le_of_ble_eq_true rfl) (by decide +kernel) z_o51 (by decide +kernel)
theorem dJ6_getChars_ba4f3_84 : decode cJ6_getChars_ba4f3 84 = .ok (.bastore, 1) := z_row zl_cJ6_getChars_ba4f3 84 1055316 (Nat.le_of_ble_eq_true rfl) (by decide +kernel) z_o84 (by decide +kernel)
theorem dJ6_getChars_ba4f3_85 : decode cJ6_getChars_ba4f3 85 = .ok (.iload_n 0, 1) := z_row zl_cJ6_getChars_ba4f3 85 16191514 (Nat.le_of_ble_eq_true rfl) (by decide +kernel) z_o26 (by decide +kernel)
theorem dJ6_getChars_ba4f3_86 : decode cJ6_getChars_ba4f3 86 = .ok (.bipush (-9), 2) := z_row zl_cJ6_getChars_ba4f3 86 10680080 (Nat.le_of_ble_eq_true rfl) (by decide +kernel) z_o16 (by decide +kernel)
theorem dJ6_getChars_ba4f3_88 : decode cJ6_getChars_ba4f3 88 = .ok (.if_icmp .ge 16, 3) := z_row zl_cJ6_getChars_ba4f3 88 1048738 (Nat.le_of_ble_eq_true rfl) (by decide +kernel) z_o162 (by decide +kernel)
theorem dJ6_getChars_ba4f3_91 : decode cJ6_getChars_ba4f3 91 = .ok (.aload_n 2, 1) := z_row zl_cJ6_getChars_ba4f3 91 361516 (Nat.le_of_ble_eq_true rfl) (by decide +kernel) z_o44 (by decide +kernel)
theorem dJ6_getChars_ba4f3_92 : decode cJ6_getChars_ba4f3 92 = .ok (.iinc 5 (-1), 3) := z_row zl_cJ6_getChars_ba4f3 92 16713092 (Nat.le_of_ble_eq_true rfl) (by decide +kernel) z_o132 (by decide +kernel)
theorem dJ6_getChars_ba4f3_95 : decode cJ6_getChars_ba4f3 95 = .ok (.iload 5, 2) := z_row zl_cJ6_getChars_ba4f3 95 11666709 (Nat.le_of_ble_eq_true rfl) (by decide +kernel) z_o21 (by decide +kernel)
theorem dJ6_getChars_ba4f3_97 : decode cJ6_getChars_ba4f3 97 = .ok (.getstatic 87, 3) := z_row zl_cJ6_getChars_ba4f3 97 5701810 (Nat.le_of_ble_eq_true rfl) (by decide +kernel) z_o178 (by decide +kernel)
theorem dJ6_getChars_ba4f3_100 : decode cJ6_getChars_ba4f3 100 = .ok (.iload_n 0, 1) := z_row zl_cJ6_getChars_ba4f3 100 3372058 (Nat.le_of_ble_eq_true rfl) (by decide +kernel) z_o26 (by decide +kernel)
theorem dJ6_getChars_ba4f3_101 : decode cJ6_getChars_ba4f3 101 = .ok (.ineg, 1) := z_row zl_cJ6_getChars_ba4f3 101 5518196 (Nat.le_of_ble_eq_true rfl) (by decide +kernel) z_o116 (by decide +kernel)
theorem dJ6_getChars_ba4f3_102 : decode cJ6_getChars_ba4f3 102 = .ok (.baload, 1) := z_row zl_cJ6_getChars_ba4f3 102 1397811 (Nat.le_of_ble_eq_true rfl) (by decide +kernel) z_o51 (by decide +kernel)
theorem dJ6_getChars_ba4f3_103 : decode cJ6_getChars_ba4f3 103 = .ok (.bastore, 1) := z_row zl_cJ6_getChars_ba4f3 103 398676 (Nat.le_of_ble_eq_true rfl) (by decide +kernel) z_o84 (by decide +kernel)
theorem dJ6_getChars_ba4f3_104 : decode cJ6_getChars_ba4f3 104 = .ok (.iload 6, 2) := z_row zl_cJ6_getChars_ba4f3 104 10028565 (Nat.le_of_ble_eq_true rfl) (by decide +kernel) z_o21 (by decide +kernel)
theorem dJ6_getChars_ba4f3_106 : decode cJ6_getChars_ba4f3 106 = .ok (.ifCond .eq 12, 3) := z_row zl_cJ6_getChars_ba4f3 106 786585 (Nat.le_of_ble_eq_true rfl) (by decide +kernel) z_o153 (by decide +kernel)
theorem dJ6_getChars_ba4f3_118 : decode cJ6_getChars_ba4f3 118 = .ok (.iload 5, 2) := z_row zl_cJ6_getChars_ba4f3 118 11273493 (Nat.le_of_ble_eq_true rfl) (by decide +kernel) z_o21 (by decide +kernel)
set_option maxRecDepth 100000 in
theorem dJ6_getChars_ba4f3_120 : decode cJ6_getChars_ba4f3 120 = .ok (.ireturn, 1) := by decide +kernel
set_option maxRecDepth 100000 in
theorem dJ6_stringSize_0f7a4_0 : decode cJ6_stringSize_0f7a4 0 = .ok (.iconst 1, 1) := by decide +kernel
set_option maxRecDepth 100000 in
theorem dJ6_stringSize_0f7a4_1 : decode cJ6_stringSize_0f7a4 1 = .ok (.istore_n 1, 1) := by decide +kernel
set_option maxRecDepth 100000 in
theorem dJ6_stringSize_0f7a4_2 : decode cJ6_stringSize_0f7a4 2 = .ok (.iload_n 0, 1) := by decide +kernel
set_option maxRecDepth 100000 in
theorem dJ6_stringSize_0f7a4_3 : decode cJ6_stringSize_0f7a4 3 = .ok (.ifCond .lt 8, 3) := by decide +kernel
set_option maxRecDepth 100000 in
theorem dJ6_stringSize_0f7a4_6 : decode cJ6_stringSize_0f7a4 6 = .ok (.iconst 0, 1) := by decide +kernel
set_option maxRecDepth 100000 in
theorem dJ6_stringSize_0f7a4_7 : decode cJ6_stringSize_0f7a4 7 = .ok (.istore_n 1, 1) := by decide +kernel
set_option maxRecDepth 100000 in
theorem dJ6_stringSize_0f7a4_8 : decode cJ6_stringSize_0f7a4 8 = .ok (.iload_n 0, 1) := by decide +kernel
set_option maxRecDepth 100000 in
theorem dJ6_stringSize_0f7a4_9 : decode cJ6_stringSize_0f7a4 9 = .ok (.ineg, 1) := by decide +kernel
set_option maxRecDepth 100000 in
theorem dJ6_stringSize_0f7a4_10 : decode cJ6_stringSize_0f7a4 10 = .ok (.istore_n 0, 1) := by decide +kernel
set_option maxRecDepth 100000 in
theorem dJ6_stringSize_0f7a4_11 : decode cJ6_stringSize_0f7a4 11 = .ok (.bipush (-10), 2) := by decide +kernel
set_option maxRecDepth 100000 in
theorem dJ6_stringSize_0f7a4_13 : decode cJ6_stringSize_0f7a4 13 = .ok (.istore_n 2, 1) := by decide +kernel
set_option maxRecDepth 100000 in
theorem dJ6_stringSize_0f7a4_14 : decode cJ6_stringSize_0f7a4 14 = .ok (.iconst 1, 1) := by decide +kernel
set_option maxRecDepth 100000 in
theorem dJ6_stringSize_0f7a4_15 : decode cJ6_stringSize_0f7a4 15 = .ok (.istore_n 3, 1) := by decide +kernel
set_option maxRecDepth 100000 in
theorem dJ6_stringSize_0f7a4_16 : decode cJ6_stringSize_0f7a4 16 = .ok (.iload_n 3, 1) := by decide +kernel
set_option maxRecDepth 100000 in
theorem dJ6_stringSize_0f7a4_17 : decode cJ6_stringSize_0f7a4 17 = .ok (.bipush 10, 2) := by decide +kernel
set_option maxRecDepth 100000 in
theorem dJ6_stringSize_0f7a4_19 : decode cJ6_stringSize_0f7a4 19 = .ok (.if_icmp .ge 23, 3) := by decide +kernel
set_option maxRecDepth 100000 in
theorem dJ6_stringSize_0f7a4_22 : decode cJ6_stringSize_0f7a4 22 = .ok (.iload_n 0, 1) := by decide +kernel
set_option maxRecDepth 100000 in
theorem dJ6_stringSize_0f7a4_23 : decode cJ6_stringSize_0f7a4 23 = .ok (.iload_n 2, 1) := by decide +kernel
def zN_cJ6_stringSize_0f7a4 : Nat := 0xac601b0a10e9ffa70103843d681c0a10ac601b1d0700a41c1a1700a20a101d3e043df6103b741a3c0308009b1a3c04
set_option maxRecDepth 100000 in
theorem zl_cJ6_stringSize_0f7a4 : cJ6_stringSize_0f7a4.data.toList = z_un 47 zN_cJ6_stringSize_0f7a4 := eq_of_beq (by decide +kernel)
theorem dJ6_stringSize_0f7a4_24 : decode cJ6_stringSize_0f7a4 24 = .ok (.if_icmp .le 7, 3) := z_row zl_cJ6_stringSize_0f7a4 24 458916 (Nat.le_of_ble_eq_true rfl) (by decide +kernel) z_o164 (by decide +kernel)
theorem dJ6_stringSize_0f7a4_27 : decode cJ6_stringSize_0f7a4 27 = .ok (.iload_n 3, 1) := z_row zl_cJ6_stringSize_0f7a4 27 6298397 (Nat.le_of_ble_eq_true rfl) (by decide +kernel) z_o29 (by decide +kernel)
theorem dJ6_stringSize_0f7a4_28 : decode cJ6_stringSize_0f7a4 28 = .ok (.iload_n 1, 1) := z_row zl_cJ6_stringSize_0f7a4 28 11296795 (Nat.le_of_ble_eq_true rfl) (by decide +kernel) z_o27 (by decide +kernel)
theorem dJ6_stringSize_0f7a4_29 : decode cJ6_stringSize_0f7a4 29 = .ok (.iadd, 1) := z_row zl_cJ6_stringSize_0f7a4 29 1092704 (Nat.le_of_ble_eq_true rfl) (by decide +kernel) z_o96 (by decide +kernel)
theorem dJ6_stringSize_0f7a4_30 : decode cJ6_stringSize_0f7a4 30 = .ok (.ireturn, 1) := z_row zl_cJ6_stringSize_0f7a4 30 659628 (Nat.le_of_ble_eq_true rfl) (by decide +kernel) z_o172 (by decide +kernel)
theorem dJ6_stringSize_0f7a4_31 : decode cJ6_stringSize_0f7a4 31 = .ok (.bipush 10, 2) := z_row zl_cJ6_stringSize_0f7a4 31 1837584 (Nat.le_of_ble_eq_true rfl) (by decide +kernel) z_o16 (by decide +kernel)
theorem dJ6_stringSize_0f7a4_33 : decode cJ6_stringSize_0f7a4 33 = .ok (.iload_n 2, 1) := z_row zl_cJ6_stringSize_0f7a4 33 4024348 (Nat.le_of_ble_eq_true rfl) (by decide +kernel) z_o28 (by decide +kernel)
theorem dJ6_stringSize_0f7a4_34 : decode cJ6_stringSize_0f7a4 34 = .ok (.imul, 1) := z_row zl_cJ6_stringSize_0f7a4 34 8666472 (Nat.le_of_ble_eq_true rfl) (by decide +kernel) z_o104 (by decide +kernel)
theorem dJ6_stringSize_0f7a4_35 : decode cJ6_stringSize_0f7a4 35 = .ok (.istore_n 2, 1) := z_row zl_cJ6_stringSize_0f7a4 35 230461 (Nat.le_of_ble_eq_true rfl) (by decide +kernel) z_o61 (by decide +kernel)
theorem dJ6_stringSize_0f7a4_36 : decode cJ6_stringSize_0f7a4 36 = .ok (.iinc 3 1, 3) := z_row zl_cJ6_stringSize_0f7a4 36 66436 (Nat.le_of_ble_eq_true rfl) (by decide +kernel) z_o132 (by decide +kernel)
theorem dJ6_stringSize_0f7a4_39 : decode cJ6_stringSize_0f7a4 39 = .ok (.goto (-23), 3) := z_row zl_cJ6_stringSize_0f7a4 39 15335335 (Nat.le_of_ble_eq_true rfl) (by decide +kernel) z_o167 (by decide +kernel)
set_option maxRecDepth 100000 in
theorem dJ6_bitCount_0f7a4_0 : decode cJ6_bitCount_0f7a4 0 = .ok (.iload_n 0, 1) := by decide +kernel
set_option maxRecDepth 100000 in
theorem dJ6_bitCount_0f7a4_1 : decode cJ6_bitCount_0f7a4 1 = .ok (.iload_n 0, 1) := by decide +kernel
set_option maxRecDepth 100000 in
theorem dJ6_bitCount_0f7a4_2 : decode cJ6_bitCount_0f7a4 2 = .ok (.iconst 1, 1) := by decide +kernel
set_option maxRecDepth 100000 in
theorem dJ6_bitCount_0f7a4_3 : decode cJ6_bitCount_0f7a4 3 = .ok (.iushr, 1) := by decide +kernel
set_option maxRecDepth 100000 in
theorem dJ6_bitCount_0f7a4_4 : decode cJ6_bitCount_0f7a4 4 = .ok (.ldc_w 265, 3) := by decide +kernel
set_option maxRecDepth 100000 in
theorem dJ6_bitCount_0f7a4_7 : decode cJ6_bitCount_0f7a4 7 = .ok (.iand, 1) := by decide +kernel
set_option maxRecDepth 100000 in
theorem dJ6_bitCount_0f7a4_8 : decode cJ6_bitCount_0f7a4 8 = .ok (.isub, 1) := by decide +kernel
set_option maxRecDepth 100000 in
theorem dJ6_bitCount_0f7a4_9 : decode cJ6_bitCount_0f7a4 9 = .ok (.istore_n 0, 1) := by decide +kernel
set_option maxRecDepth 100000 in
theorem dJ6_bitCount_0f7a4_10 : decode cJ6_bitCount_0f7a4 10 = .ok (.iload_n 0, 1) := by decide +kernel
set_option maxRecDepth 100000 in
theorem dJ6_bitCount_0f7a4_11 : decode cJ6_bitCount_0f7a4 11 = .ok (.ldc_w 266, 3) := by decide +kernel
set_option maxRecDepth 100000 in
theorem dJ6_bitCount_0f7a4_14 : decode cJ6_bitCount_0f7a4 14 = .ok (.iand, 1) := by decide +kernel
set_option maxRecDepth 100000 in
theorem dJ6_bitCount_0f7a4_15 : decode cJ6_bitCount_0f7a4 15 = .ok (.iload_n 0, 1) := by decide +kernel
set_option maxRecDepth 100000 in
theorem dJ6_bitCount_0f7a4_16 : decode cJ6_bitCount_0f7a4 16 = .ok (.iconst 2, 1) := by decide +kernel
set_option maxRecDepth 100000 in
theorem dJ6_bitCount_0f7a4_17 : decode cJ6_bitCount_0f7a4 17 = .ok (.iushr, 1) := by decide +kernel
set_option maxRecDepth 100000 in
theorem dJ6_bitCount_0f7a4_18 : decode cJ6_bitCount_0f7a4 18 = .ok (.ldc_w 266, 3) := by decide +kernel
set_option maxRecDepth 100000 in
theorem dJ6_bitCount_0f7a4_21 : decode cJ6_bitCount_0f7a4 21 = .ok (.iand, 1) := by decide +kernel
set_option maxRecDepth 100000 in
theorem dJ6_bitCount_0f7a4_22 : decode cJ6_bitCount_0f7a4 22 = .ok (.iadd, 1) := by decide +kernel
set_option maxRecDepth 100000 in
theorem dJ6_bitCount_0f7a4_23 : decode cJ6_bitCount_0f7a4 23 = .ok (.istore_n 0, 1) := by decide +kernel
def zN_cJ6_bitCount_0f7a4 : Nat := 0xac7e3f101a3b607c10101a1a3b607c08101a1a3b7e0b0113607c071a1a3b607e0a01137c051a7e0a01131a3b647e0901137c041a1a
set_option maxRecDepth 100000 in
theorem zl_cJ6_bitCount_0f7a4 : cJ6_bitCount_0f7a4.data.toList = z_un 53 zN_cJ6_bitCount_0f7a4 := eq_of_beq (by decide +kernel)
theorem dJ6_bitCount_0f7a4_24 : decode cJ6_bitCount_0f7a4 24 = .ok (.iload_n 0, 1) := z_row zl_cJ6_bitCount_0f7a4 24 465434 (Nat.le_of_ble_eq_true rfl) (by decide +kernel) z_o26 (by decide +kernel)
theorem dJ6_bitCount_0f7a4_25 : decode cJ6_bitCount_0f7a4 25 = .ok (.iload_n 0, 1) := z_row zl_cJ6_bitCount_0f7a4 25 8128282 (Nat.le_of_ble_eq_true rfl) (by decide +kernel) z_o26 (by decide +kernel)
theorem dJ6_bitCount_0f7a4_26 : decode cJ6_bitCount_0f7a4 26 = .ok (.iconst 4, 1) := z_row zl_cJ6_bitCount_0f7a4 26 6323207 (Nat.le_of_ble_eq_true rfl) (by decide +kernel) z_o7 (by decide +kernel)
theorem dJ6_bitCount_0f7a4_27 : decode cJ6_bitCount_0f7a4 27 = .ok (.iushr, 1) := z_row zl_cJ6_bitCount_0f7a4 27 1269884 (Nat.le_of_ble_eq_true rfl) (by decide +kernel) z_o124 (by decide +kernel)
theorem dJ6_bitCount_0f7a4_28 : decode cJ6_bitCount_0f7a4 28 = .ok (.iadd, 1) := z_row zl_cJ6_bitCount_0f7a4 28 70496 (Nat.le_of_ble_eq_true rfl) (by decide +kernel) z_o96 (by decide +kernel)
theorem dJ6_bitCount_0f7a4_29 : decode cJ6_bitCount_0f7a4 29 = .ok (.ldc_w 267, 3) := z_row zl_cJ6_bitCount_0f7a4 29 721171 (Nat.le_of_ble_eq_true rfl) (by decide +kernel) z_o19 (by decide +kernel)
theorem dJ6_bitCount_0f7a4_32 : decode cJ6_bitCount_0f7a4 32 = .ok (.iand, 1) := z_row zl_cJ6_bitCount_0f7a4 32 1719166 (Nat.le_of_ble_eq_true rfl) (by decide +kernel) z_o126 (by decide +kernel)
theorem dJ6_bitCount_0f7a4_33 : decode cJ6_bitCount_0f7a4 33 = .ok (.istore_n 0, 1) := z_row zl_cJ6_bitCount_0f7a4 33 1710651 (Nat.le_of_ble_eq_true rfl) (by decide +kernel) z_o59 (by decide +kernel)
theorem dJ6_bitCount_0f7a4_34 : decode cJ6_bitCount_0f7a4 34 = .ok (.iload_n 0, 1) := z_row zl_cJ6_bitCount_0f7a4 34 1055258 (Nat.le_of_ble_eq_true rfl) (by decide +kernel) z_o26 (by decide +kernel)
theorem dJ6_bitCount_0f7a4_35 : decode cJ6_bitCount_0f7a4 35 = .ok (.iload_n 0, 1) := z_row zl_cJ6_bitCount_0f7a4 35 528410 (Nat.le_of_ble_eq_true rfl) (by decide +kernel) z_o26 (by decide +kernel)
theorem dJ6_bitCount_0f7a4_36 : decode cJ6_bitCount_0f7a4 36 = .ok (.bipush 8, 2) := z_row zl_cJ6_bitCount_0f7a4 36 8128528 (Nat.le_of_ble_eq_true rfl) (by decide +kernel) z_o16 (by decide +kernel)
theorem dJ6_bitCount_0f7a4_38 : decode cJ6_bitCount_0f7a4 38 = .ok (.iushr, 1) := z_row zl_cJ6_bitCount_0f7a4 38 3891324 (Nat.le_of_ble_eq_true rfl) (by decide +kernel) z_o124 (by decide +kernel)
theorem dJ6_bitCount_0f7a4_39 : decode cJ6_bitCount_0f7a4 39 = .ok (.iadd, 1) := z_row zl_cJ6_bitCount_0f7a4 39 1719136 (Nat.le_of_ble_eq_true rfl) (by decide +kernel) z_o96 (by decide +kernel)
theorem dJ6_bitCount_0f7a4_40 : decode cJ6_bitCount_0f7a4 40 = .ok (.istore_n 0, 1) := z_row zl_cJ6_bitCount_0f7a4 40 1710651 (Nat.le_of_ble_eq_true rfl) (by decide +kernel) z_o59 (by decide +kernel)
theorem dJ6_bitCount_0f7a4_41 : decode cJ6_bitCount_0f7a4 41 = .ok (.iload_n 0, 1) := z_row zl_cJ6_bitCount_0f7a4 41 1055258 (Nat.le_of_ble_eq_true rfl) (by decide +kernel) z_o26 (by decide +kernel)
theorem dJ6_bitCount_0f7a4_42 : decode cJ6_bitCount_0f7a4 42 = .ok (.iload_n 0, 1) := z_row zl_cJ6_bitCount_0f7a4 42 1052698 (Nat.le_of_ble_eq_true rfl) (by decide +kernel) z_o26 (by decide +kernel)
theorem dJ6_bitCount_0f7a4_43 : decode cJ6_bitCount_0f7a4 43 = .ok (.bipush 16, 2) := z_row zl_cJ6_bitCount_0f7a4 43 8130576 (Nat.le_of_ble_eq_true rfl) (by decide +kernel) z_o16 (by decide +kernel)
theorem dJ6_bitCount_0f7a4_45 : decode cJ6_bitCount_0f7a4 45 = .ok (.iushr, 1) := z_row zl_cJ6_bitCount_0f7a4 45 3891324 (Nat.le_of_ble_eq_true rfl) (by decide +kernel) z_o124 (by decide +kernel)
theorem dJ6_bitCount_0f7a4_46 : decode cJ6_bitCount_0f7a4 46 = .ok (.iadd, 1) := z_row zl_cJ6_bitCount_0f7a4 46 1719136 (Nat.le_of_ble_eq_true rfl) (by decide +kernel) z_o96 (by decide +kernel)
theorem dJ6_bitCount_0f7a4_47 : decode cJ6_bitCount_0f7a4 47 = .ok (.istore_n 0, 1) := z_row zl_cJ6_bitCount_0f7a4 47 1055291 (Nat.le_of_ble_eq_true rfl) (by decide +kernel) z_o59 (by decide +kernel)
theorem dJ6_bitCount_0f7a4_48 : decode cJ6_bitCount_0f7a4 48 = .ok (.iload_n 0, 1) := z_row zl_cJ6_bitCount_0f7a4 48 4132890 (Nat.le_of_ble_eq_true rfl) (by decide +kernel) z_o26 (by decide +kernel)
theorem dJ6_bitCount_0f7a4_49 : decode cJ6_bitCount_0f7a4 49 = .ok (.bipush 63, 2) := z_row zl_cJ6_bitCount_0f7a4 49 8273680 (Nat.le_of_ble_eq_true rfl) (by decide +kernel) z_o16 (by decide +kernel)
set_option maxRecDepth 100000 in
theorem dJ6_bitCount_0f7a4_51 : decode cJ6_bitCount_0f7a4 51 = .ok (.iand, 1) := by decide +kernel
set_option maxRecDepth 100000 in
theorem dJ6_bitCount_0f7a4_52 : decode cJ6_bitCount_0f7a4 52 = .ok (.ireturn, 1) := by decide +kernel
set_option maxRecDepth 100000 in
theorem dJ0_init_81219_0 : decode cJ0_init_81219 0 = .ok (.aload_n 0, 1) := by decide +kernel
set_option maxRecDepth 100000 in
theorem dJ0_init_81219_1 : decode cJ0_init_81219 1 = .ok (.aload_n 1, 1) := by decide +kernel
set_option maxRecDepth 100000 in
theorem dJ0_init_81219_2 : decode cJ0_init_81219 2 = .ok (.aconst_null, 1) := by decide +kernel
set_option maxRecDepth 100000 in
theorem dJ0_init_81219_3 : decode cJ0_init_81219 3 = .ok (.invokespecial 489, 3) := by decide +kernel
set_option maxRecDepth 100000 in
theorem dJ0_init_81219_6 : decode cJ0_init_81219 6 = .ok (.return_, 1) := by decide +kernel
set_option maxRecDepth 100000 in
theorem dJ0_init_db425_0 : decode cJ0_init_db425 0 = .ok (.aload_n 0, 1) := by decide +kernel
set_option maxRecDepth 100000 in
theorem dJ0_init_db425_1 : decode cJ0_init_db425 1 = .ok (.invokespecial 1, 3) := by decide +kernel
set_option maxRecDepth 100000 in
theorem dJ0_init_db425_4 : decode cJ0_init_db425 4 = .ok (.aload_n 1, 1) := by decide +kernel
set_option maxRecDepth 100000 in
theorem dJ0_init_db425_5 : decode cJ0_init_db425 5 = .ok (.invokevirtual 552, 3) := by decide +kernel
set_option maxRecDepth 100000 in
theorem dJ0_init_db425_8 : decode cJ0_init_db425 8 = .ok (.astore_n 3, 1) := by decide +kernel
set_option maxRecDepth 100000 in
theorem dJ0_init_db425_9 : decode cJ0_init_db425 9 = .ok (.aload_n 1, 1) := by decide +kernel
set_option maxRecDepth 100000 in
theorem dJ0_init_db425_10 : decode cJ0_init_db425 10 = .ok (.invokevirtual 549, 3) := by decide +kernel
set_option maxRecDepth 100000 in
theorem dJ0_init_db425_13 : decode cJ0_init_db425 13 = .ok (.istore 4, 2) := by decide +kernel
set_option maxRecDepth 100000 in
theorem dJ0_init_db425_15 : decode cJ0_init_db425 15 = .ok (.aload_n 1, 1) := by decide +kernel
set_option maxRecDepth 100000 in
theorem dJ0_init_db425_16 : decode cJ0_init_db425 16 = .ok (.invokevirtual 1047, 3) := by decide +kernel
set_option maxRecDepth 100000 in
theorem dJ0_init_db425_19 : decode cJ0_init_db425 19 = .ok (.ifCond .eq 22, 3) := by decide +kernel
set_option maxRecDepth 100000 in
theorem dJ0_init_db425_22 : decode cJ0_init_db425 22 = .ok (.aload_n 0, 1) := by decide +kernel
set_option maxRecDepth 100000 in
theorem dJ0_init_db425_23 : decode cJ0_init_db425 23 = .ok (.iconst 0, 1) := by decide +kernel
def zN_cJ0_init_db425 : Nat := 0xb10900b53600b878040415032d2a0f00b5042ab10f00b52f00b804150900b42a2a0900b51b04b80415032d2a1c00991804b42b2300992600b23b00a70900b53600b80415032d2a0f00b5032a1600991704b62b04362502b62b4e2802b62b0100b72a
set_option maxRecDepth 100000 in
theorem zl_cJ0_init_db425 : cJ0_init_db425.data.toList = z_un 98 zN_cJ0_init_db425 := eq_of_beq (by decide +kernel)
theorem dJ0_init_db425_24 : decode cJ0_init_db425 24 = .ok (.putfield 15, 3) := z_row zl_cJ0_init_db425 24 983221 (Nat.le_of_ble_eq_true rfl) (by decide +kernel) z_o181 (by decide +kernel)
theorem dJ0_init_db425_27 : decode cJ0_init_db425 27 = .ok (.aload_n 0, 1) := z_row zl_cJ0_init_db425 27 208170 (Nat.le_of_ble_eq_true rfl) (by decide +kernel) z_o42 (by decide +kernel)
theorem dJ0_init_db425_28 : decode cJ0_init_db425 28 = .ok (.aload_n 3, 1) := z_row zl_cJ0_init_db425 28 1377069 (Nat.le_of_ble_eq_true rfl) (by decide +kernel) z_o45 (by decide +kernel)
theorem dJ0_init_db425_29 : decode cJ0_init_db425 29 = .ok (.iconst 0, 1) := z_row zl_cJ0_init_db425 29 267523 (Nat.le_of_ble_eq_true rfl) (by decide +kernel) z_o3 (by decide +kernel)
theorem dJ0_init_db425_30 : decode cJ0_init_db425 30 = .ok (.iload 4, 2) := z_row zl_cJ0_init_db425 30 12059669 (Nat.le_of_ble_eq_true rfl) (by decide +kernel) z_o21 (by decide +kernel)
theorem dJ0_init_db425_32 : decode cJ0_init_db425 32 = .ok (.invokestatic 54, 3) := z_row zl_cJ0_init_db425 32 3539128 (Nat.le_of_ble_eq_true rfl) (by decide +kernel) z_o184 (by decide +kernel)
theorem dJ0_init_db425_35 : decode cJ0_init_db425 35 = .ok (.putfield 9, 3) := z_row zl_cJ0_init_db425 35 590005 (Nat.le_of_ble_eq_true rfl) (by decide +kernel) z_o181 (by decide +kernel)
theorem dJ0_init_db425_38 : decode cJ0_init_db425 38 = .ok (.goto 59, 3) := z_row zl_cJ0_init_db425 38 3866791 (Nat.le_of_ble_eq_true rfl) (by decide +kernel) z_o167 (by decide +kernel)
set_option maxRecDepth 100000 in
theorem dJ0_init_db425_97 : decode cJ0_init_db425 97 = .ok (.return_, 1) := by decide +kernel
set_option maxRecDepth 100000 in
theorem dJ4_init_da8c8_0 : decode cJ4_init_da8c8 0 = .ok (.aload_n 0, 1) := by decide +kernel
set_option maxRecDepth 100000 in
theorem dJ4_init_da8c8_1 : decode cJ4_init_da8c8 1 = .ok (.bipush 16, 2) := by decide +kernel
set_option maxRecDepth 100000 in
theorem dJ4_init_da8c8_3 : decode cJ4_init_da8c8 3 = .ok (.invokespecial 1, 3) := by decide +kernel
set_option maxRecDepth 100000 in
theorem dJ4_init_da8c8_6 : decode cJ4_init_da8c8 6 = .ok (.return_, 1) := by decide +kernel
set_option maxRecDepth 100000 in
theorem dJ4_append_cf468_0 : decode cJ4_append_cf468 0 = .ok (.aload_n 0, 1) := by decide +kernel
set_option maxRecDepth 100000 in
theorem dJ4_append_cf468_1 : decode cJ4_append_cf468 1 = .ok (.iload_n 1, 1) := by decide +kernel
set_option maxRecDepth 100000 in
theorem dJ4_append_cf468_2 : decode cJ4_append_cf468 2 = .ok (.invokespecial 50, 3) := by decide +kernel
set_option maxRecDepth 100000 in
theorem dJ4_append_cf468_5 : decode cJ4_append_cf468 5 = .ok (.pop, 1) := by decide +kernel
set_option maxRecDepth 100000 in
theorem dJ4_append_cf468_6 : decode cJ4_append_cf468 6 = .ok (.aload_n 0, 1) := by decide +kernel
set_option maxRecDepth 100000 in
theorem dJ4_append_cf468_7 : decode cJ4_append_cf468 7 = .ok (.areturn, 1) := by decide +kernel
set_option maxRecDepth 100000 in
theorem dJ4_append_bf812_0 : decode cJ4_append_bf812 0 = .ok (.aload_n 0, 1) := by decide +kernel
set_option maxRecDepth 100000 in
theorem dJ4_append_bf812_1 : decode cJ4_append_bf812 1 = .ok (.iload_n 1, 1) := by decide +kernel
set_option maxRecDepth 100000 in
theorem dJ4_append_bf812_2 : decode cJ4_append_bf812 2 = .ok (.invokespecial 53, 3) := by decide +kernel
set_option maxRecDepth 100000 in
theorem dJ4_append_bf812_5 : decode cJ4_append_bf812 5 = .ok (.pop, 1) := by decide +kernel
set_option maxRecDepth 100000 in
theorem dJ4_append_bf812_6 : decode cJ4_append_bf812 6 = .ok (.aload_n 0, 1) := by decide +kernel
set_option maxRecDepth 100000 in
theorem dJ4_append_bf812_7 : decode cJ4_append_bf812 7 = .ok (.areturn, 1) := by decide +kernel
set_option maxRecDepth 100000 in
theorem dJ4_toString_0e30d_0 : decode cJ4_toString_0e30d 0 = .ok (.new 18, 3) := by decide +kernel
set_option maxRecDepth 100000 in
theorem dJ4_toString_0e30d_3 : decode cJ4_toString_0e30d 3 = .ok (.dup, 1) := by decide +kernel
set_option maxRecDepth 100000 in
theorem dJ4_toString_0e30d_4 : decode cJ4_toString_0e30d 4 = .ok (.aload_n 0, 1) := by decide +kernel
set_option maxRecDepth 100000 in
theorem dJ4_toString_0e30d_5 : decode cJ4_toString_0e30d 5 = .ok (.invokespecial 137, 3) := by decide +kernel
set_option maxRecDepth 100000 in
theorem dJ4_toString_0e30d_8 : decode cJ4_toString_0e30d 8 = .ok (.areturn, 1) := by decide +kernel
set_option maxRecDepth 100000 in
theorem dJ4_length_8abf5_0 : decode cJ4_length_8abf5 0 = .ok (.aload_n 0, 1) := by decide +kernel
set_option maxRecDepth 100000 in
theorem dJ4_length_8abf5_1 : decode cJ4_length_8abf5 1 = .ok (.invokespecial 343, 3) := by decide +kernel
set_option maxRecDepth 100000 in
theorem dJ4_length_8abf5_4 : decode cJ4_length_8abf5 4 = .ok (.ireturn, 1) := by decide +kernel
set_option maxRecDepth 100000 in
theorem dJ1_canEncode_fc78d_0 : decode cJ1_canEncode_fc78d 0 = .ok (.iload_n 0, 1) := by decide +kernel
set_option maxRecDepth 100000 in
theorem dJ1_canEncode_fc78d_1 : decode cJ1_canEncode_fc78d 1 = .ok (.sipush 255, 3) := by decide +kernel
set_option maxRecDepth 100000 in
theorem dJ1_canEncode_fc78d_4 : decode cJ1_canEncode_fc78d 4 = .ok (.if_icmp .gt 7, 3) := by decide +kernel
set_option maxRecDepth 100000 in
theorem dJ1_canEncode_fc78d_7 : decode cJ1_canEncode_fc78d 7 = .ok (.iconst 1, 1) := by decide +kernel
set_option maxRecDepth 100000 in
theorem dJ1_canEncode_fc78d_8 : decode cJ1_canEncode_fc78d 8 = .ok (.goto 4, 3) := by decide +kernel
set_option maxRecDepth 100000 in
theorem dJ1_canEncode_fc78d_12 : decode cJ1_canEncode_fc78d 12 = .ok (.ireturn, 1) := by decide +kernel
set_option maxRecDepth 100000 in
theorem dJ7_copyOf_9075b_0 : decode cJ7_copyOf_9075b 0 = .ok (.iload_n 1, 1) := by decide +kernel
set_option maxRecDepth 100000 in
theorem dJ7_copyOf_9075b_1 : decode cJ7_copyOf_9075b 1 = .ok (.aload_n 0, 1) := by decide +kernel
set_option maxRecDepth 100000 in
theorem dJ7_copyOf_9075b_2 : decode cJ7_copyOf_9075b 2 = .ok (.arraylength, 1) := by decide +kernel
set_option maxRecDepth 100000 in
theorem dJ7_copyOf_9075b_3 : decode cJ7_copyOf_9075b 3 = .ok (.if_icmp .ne 11, 3) := by decide +kernel
set_option maxRecDepth 100000 in
theorem dJ7_copyOf_9075b_14 : decode cJ7_copyOf_9075b 14 = .ok (.iload_n 1, 1) := by decide +kernel
set_option maxRecDepth 100000 in
theorem dJ7_copyOf_9075b_15 : decode cJ7_copyOf_9075b 15 = .ok (.newarray .byte, 2) := by decide +kernel
set_option maxRecDepth 100000 in
theorem dJ7_copyOf_9075b_17 : decode cJ7_copyOf_9075b 17 = .ok (.astore_n 2, 1) := by decide +kernel
set_option maxRecDepth 100000 in
theorem dJ7_copyOf_9075b_18 : decode cJ7_copyOf_9075b 18 = .ok (.aload_n 0, 1) := by decide +kernel
set_option maxRecDepth 100000 in
theorem dJ7_copyOf_9075b_19 : decode cJ7_copyOf_9075b 19 = .ok (.iconst 0, 1) := by decide +kernel
set_option maxRecDepth 100000 in
theorem dJ7_copyOf_9075b_20 : decode cJ7_copyOf_9075b 20 = .ok (.aload_n 2, 1) := by decide +kernel
set_option maxRecDepth 100000 in
theorem dJ7_copyOf_9075b_21 : decode cJ7_copyOf_9075b 21 = .ok (.iconst 0, 1) := by decide +kernel
set_option maxRecDepth 100000 in
theorem dJ7_copyOf_9075b_22 : decode cJ7_copyOf_9075b 22 = .ok (.aload_n 0, 1) := by decide +kernel
set_option maxRecDepth 100000 in
theorem dJ7_copyOf_9075b_23 : decode cJ7_copyOf_9075b 23 = .ok (.arraylength, 1) := by decide +kernel
def zN_cJ7_copyOf_9075b : Nat := 0xb02c9600b83001b81bbe2a032c032a4d08bc1bb03701c03601b62a0b00a0be2a1b
set_option maxRecDepth 100000 in
theorem zl_cJ7_copyOf_9075b : cJ7_copyOf_9075b.data.toList = z_un 33 zN_cJ7_copyOf_9075b := eq_of_beq (by decide +kernel)
theorem dJ7_copyOf_9075b_24 : decode cJ7_copyOf_9075b 24 = .ok (.iload_n 1, 1) := z_row zl_cJ7_copyOf_9075b 24 112667 (Nat.le_of_ble_eq_true rfl) (by decide +kernel) z_o27 (by decide +kernel)
theorem dJ7_copyOf_9075b_25 : decode cJ7_copyOf_9075b 25 = .ok (.invokestatic 304, 3) := z_row zl_cJ7_copyOf_9075b 25 3146168 (Nat.le_of_ble_eq_true rfl) (by decide +kernel) z_o184 (by decide +kernel)
theorem dJ7_copyOf_9075b_28 : decode cJ7_copyOf_9075b 28 = .ok (.invokestatic 150, 3) := z_row zl_cJ7_copyOf_9075b 28 9830584 (Nat.le_of_ble_eq_true rfl) (by decide +kernel) z_o184 (by decide +kernel)
set_option maxRecDepth 100000 in
theorem dJ7_copyOf_9075b_31 : decode cJ7_copyOf_9075b 31 = .ok (.aload_n 2, 1) := by decide +kernel
set_option maxRecDepth 100000 in
theorem dJ7_copyOf_9075b_32 : decode cJ7_copyOf_9075b 32 = .ok (.areturn, 1) := by decide +kernel
set_option maxRecDepth 100000 in
theorem dJ7_checkLength_df160_0 : decode cJ7_checkLength_df160 0 = .ok (.iload_n 1, 1) := by decide +kernel
set_option maxRecDepth 100000 in
theorem dJ7_checkLength_df160_1 : decode cJ7_checkLength_df160 1 = .ok (.iload_n 0, 1) := by decide +kernel
set_option maxRecDepth 100000 in
theorem dJ7_checkLength_df160_2 : decode cJ7_checkLength_df160 2 = .ok (.if_icmp .ge 35, 3) := by decide +kernel
set_option maxRecDepth 100000 in
theorem dJ7_checkLength_df160_37 : decode cJ7_checkLength_df160 37 = .ok (.return_, 1) := by decide +kernel
set_option maxRecDepth 100000 in
theorem dJ7_copyOfRange_39247_0 : decode cJ7_copyOfRange_39247 0 = .ok (.iload_n 1, 1) := by decide +kernel
set_option maxRecDepth 100000 in
theorem dJ7_copyOfRange_39247_1 : decode cJ7_copyOfRange_39247 1 = .ok (.ifCond .ne 9, 3) := by decide +kernel
set_option maxRecDepth 100000 in
theorem dJ7_copyOfRange_39247_4 : decode cJ7_copyOfRange_39247 4 = .ok (.iload_n 2, 1) := by decide +kernel
set_option maxRecDepth 100000 in
theorem dJ7_copyOfRange_39247_5 : decode cJ7_copyOfRange_39247 5 = .ok (.aload_n 0, 1) := by decide +kernel
set_option maxRecDepth 100000 in
theorem dJ7_copyOfRange_39247_6 : decode cJ7_copyOfRange_39247 6 = .ok (.arraylength, 1) := by decide +kernel
set_option maxRecDepth 100000 in
theorem dJ7_copyOfRange_39247_7 : decode cJ7_copyOfRange_39247 7 = .ok (.if_icmp .eq 10, 3) := by decide +kernel
set_option maxRecDepth 100000 in
theorem dJ7_copyOfRange_39247_10 : decode cJ7_copyOfRange_39247 10 = .ok (.aload_n 0, 1) := by decide +kernel
set_option maxRecDepth 100000 in
theorem dJ7_copyOfRange_39247_11 : decode cJ7_copyOfRange_39247 11 = .ok (.iload_n 1, 1) := by decide +kernel
set_option maxRecDepth 100000 in
theorem dJ7_copyOfRange_39247_12 : decode cJ7_copyOfRange_39247 12 = .ok (.iload_n 2, 1) := by decide +kernel
set_option maxRecDepth 100000 in
theorem dJ7_copyOfRange_39247_13 : decode cJ7_copyOfRange_39247 13 = .ok (.invokestatic 339, 3) := by decide +kernel
set_option maxRecDepth 100000 in
theorem dJ7_copyOfRange_39247_16 : decode cJ7_copyOfRange_39247 16 = .ok (.areturn, 1) := by decide +kernel
set_option maxRecDepth 100000 in
theorem dJ7_copyOfRange_39247_17 : decode cJ7_copyOfRange_39247 17 = .ok (.aload_n 0, 1) := by decide +kernel
set_option maxRecDepth 100000 in
theorem dJ7_copyOfRange_39247_18 : decode cJ7_copyOfRange_39247 18 = .ok (.invokevirtual 310, 3) := by decide +kernel
set_option maxRecDepth 100000 in
theorem dJ7_copyOfRange_39247_21 : decode cJ7_copyOfRange_39247 21 = .ok (.checkcast 311, 3) := by decide +kernel
set_option maxRecDepth 100000 in
theorem dJ7_copyOfRange_39247_24 : decode cJ7_copyOfRange_39247 24 = .ok (.areturn, 1) := by decide +kernel
set_option maxRecDepth 100000 in
theorem dJ7_copyOfRangeByte_39247_0 : decode cJ7_copyOfRangeByte_39247 0 = .ok (.iload_n 1, 1) := by decide +kernel
set_option maxRecDepth 100000 in
theorem dJ7_copyOfRangeByte_39247_1 : decode cJ7_copyOfRangeByte_39247 1 = .ok (.iload_n 2, 1) := by decide +kernel
set_option maxRecDepth 100000 in
theorem dJ7_copyOfRangeByte_39247_2 : decode cJ7_copyOfRangeByte_39247 2 = .ok (.invokestatic 343, 3) := by decide +kernel
set_option maxRecDepth 100000 in
theorem dJ7_copyOfRangeByte_39247_5 : decode cJ7_copyOfRangeByte_39247 5 = .ok (.iload_n 2, 1) := by decide +kernel
set_option maxRecDepth 100000 in
theorem dJ7_copyOfRangeByte_39247_6 : decode cJ7_copyOfRangeByte_39247 6 = .ok (.iload_n 1, 1) := by decide +kernel
set_option maxRecDepth 100000 in
theorem dJ7_copyOfRangeByte_39247_7 : decode cJ7_copyOfRangeByte_39247 7 = .ok (.isub, 1) := by decide +kernel
set_option maxRecDepth 100000 in
theorem dJ7_copyOfRangeByte_39247_8 : decode cJ7_copyOfRangeByte_39247 8 = .ok (.istore_n 3, 1) := by decide +kernel
set_option maxRecDepth 100000 in
theorem dJ7_copyOfRangeByte_39247_9 : decode cJ7_copyOfRangeByte_39247 9 = .ok (.iload_n 3, 1) := by decide +kernel
set_option maxRecDepth 100000 in
theorem dJ7_copyOfRangeByte_39247_10 : decode cJ7_copyOfRangeByte_39247 10 = .ok (.newarray .byte, 2) := by decide +kernel
set_option maxRecDepth 100000 in
theorem dJ7_copyOfRangeByte_39247_12 : decode cJ7_copyOfRangeByte_39247 12 = .ok (.astore 4, 2) := by decide +kernel
set_option maxRecDepth 100000 in
theorem dJ7_copyOfRangeByte_39247_14 : decode cJ7_copyOfRangeByte_39247 14 = .ok (.aload_n 0, 1) := by decide +kernel
set_option maxRecDepth 100000 in
theorem dJ7_copyOfRangeByte_39247_15 : decode cJ7_copyOfRangeByte_39247 15 = .ok (.iload_n 1, 1) := by decide +kernel
set_option maxRecDepth 100000 in
theorem dJ7_copyOfRangeByte_39247_16 : decode cJ7_copyOfRangeByte_39247 16 = .ok (.aload 4, 2) := by decide +kernel
set_option maxRecDepth 100000 in
theorem dJ7_copyOfRangeByte_39247_18 : decode cJ7_copyOfRangeByte_39247 18 = .ok (.iconst 0, 1) := by decide +kernel
set_option maxRecDepth 100000 in
theorem dJ7_copyOfRangeByte_39247_19 : decode cJ7_copyOfRangeByte_39247 19 = .ok (.aload_n 0, 1) := by decide +kernel
set_option maxRecDepth 100000 in
theorem dJ7_copyOfRangeByte_39247_20 : decode cJ7_copyOfRangeByte_39247 20 = .ok (.arraylength, 1) := by decide +kernel
set_option maxRecDepth 100000 in
theorem dJ7_copyOfRangeByte_39247_21 : decode cJ7_copyOfRangeByte_39247 21 = .ok (.iload_n 1, 1) := by decide +kernel
set_option maxRecDepth 100000 in
theorem dJ7_copyOfRangeByte_39247_22 : decode cJ7_copyOfRangeByte_39247 22 = .ok (.isub, 1) := by decide +kernel
set_option maxRecDepth 100000 in
theorem dJ7_copyOfRangeByte_39247_23 : decode cJ7_copyOfRangeByte_39247 23 = .ok (.iload_n 3, 1) := by decide +kernel
def zN_cJ7_copyOfRangeByte_39247 : Nat := 0xb004199600b83001b81d641bbe2a0304191b2a043a08bc1d3e641b1c5701b81c1b
set_option maxRecDepth 100000 in
theorem zl_cJ7_copyOfRangeByte_39247 : cJ7_copyOfRangeByte_39247.data.toList = z_un 33 zN_cJ7_copyOfRangeByte_39247 := eq_of_beq (by decide +kernel)
theorem dJ7_copyOfRangeByte_39247_24 : decode cJ7_copyOfRangeByte_39247 24 = .ok (.invokestatic 304, 3) := z_row zl_cJ7_copyOfRangeByte_39247 24 3146168 (Nat.le_of_ble_eq_true rfl) (by decide +kernel) z_o184 (by decide +kernel)
theorem dJ7_copyOfRangeByte_39247_27 : decode cJ7_copyOfRangeByte_39247 27 = .ok (.invokestatic 150, 3) := z_row zl_cJ7_copyOfRangeByte_39247 27 9830584 (Nat.le_of_ble_eq_true rfl) (by decide +kernel) z_o184 (by decide +kernel)
theorem dJ7_copyOfRangeByte_39247_30 : decode cJ7_copyOfRangeByte_39247 30 = .ok (.aload 4, 2) := z_row zl_cJ7_copyOfRangeByte_39247 30 11535385 (Nat.le_of_ble_eq_true rfl) (by decide +kernel) z_o25 (by decide +kernel)
set_option maxRecDepth 100000 in
theorem dJ7_copyOfRangeByte_39247_32 : decode cJ7_copyOfRangeByte_39247 32 = .ok (.areturn, 1) := by decide +kernel
set_option maxRecDepth 100000 in
theorem dJ8_newLength_cabcc_0 : decode cJ8_newLength_cabcc 0 = .ok (.iload_n 0, 1) := by decide +kernel
set_option maxRecDepth 100000 in
theorem dJ8_newLength_cabcc_1 : decode cJ8_newLength_cabcc 1 = .ok (.iload_n 1, 1) := by decide +kernel
set_option maxRecDepth 100000 in
theorem dJ8_newLength_cabcc_2 : decode cJ8_newLength_cabcc 2 = .ok (.iload_n 2, 1) := by decide +kernel
set_option maxRecDepth 100000 in
theorem dJ8_newLength_cabcc_3 : decode cJ8_newLength_cabcc 3 = .ok (.invokestatic 194, 3) := by decide +kernel
set_option maxRecDepth 100000 in
theorem dJ8_newLength_cabcc_6 : decode cJ8_newLength_cabcc 6 = .ok (.iadd, 1) := by decide +kernel
set_option maxRecDepth 100000 in
theorem dJ8_newLength_cabcc_7 : decode cJ8_newLength_cabcc 7 = .ok (.istore_n 3, 1) := by decide +kernel
set_option maxRecDepth 100000 in
theorem dJ8_newLength_cabcc_8 : decode cJ8_newLength_cabcc 8 = .ok (.iconst 0, 1) := by decide +kernel
set_option maxRecDepth 100000 in
theorem dJ8_newLength_cabcc_9 : decode cJ8_newLength_cabcc 9 = .ok (.iload_n 3, 1) := by decide +kernel
set_option maxRecDepth 100000 in
theorem dJ8_newLength_cabcc_10 : decode cJ8_newLength_cabcc 10 = .ok (.if_icmp .ge 11, 3) := by decide +kernel
set_option maxRecDepth 100000 in
theorem dJ8_newLength_cabcc_13 : decode cJ8_newLength_cabcc 13 = .ok (.iload_n 3, 1) := by decide +kernel
set_option maxRecDepth 100000 in
theorem dJ8_newLength_cabcc_14 : decode cJ8_newLength_cabcc 14 = .ok (.ldc 200, 2) := by decide +kernel
set_option maxRecDepth 100000 in
theorem dJ8_newLength_cabcc_16 : decode cJ8_newLength_cabcc 16 = .ok (.if_icmp .gt 5, 3) := by decide +kernel
set_option maxRecDepth 100000 in
theorem dJ8_newLength_cabcc_19 : decode cJ8_newLength_cabcc 19 = .ok (.iload_n 3, 1) := by decide +kernel
set_option maxRecDepth 100000 in
theorem dJ8_newLength_cabcc_20 : decode cJ8_newLength_cabcc 20 = .ok (.ireturn, 1) := by decide +kernel