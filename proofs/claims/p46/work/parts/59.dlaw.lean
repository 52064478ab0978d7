/-! what stands at each place of the code -/
set_option maxRecDepth 100000 in
theorem dL_below_0 : decode cL_below 0 = .ok (.iload_n 0, 1) := by decide +kernel
set_option maxRecDepth 100000 in
theorem dL_below_1 : decode cL_below 1 = .ok (.ldc 7, 2) := by decide +kernel
set_option maxRecDepth 100000 in
theorem dL_below_3 : decode cL_below 3 = .ok (.iand, 1) := by decide +kernel
set_option maxRecDepth 100000 in
theorem dL_below_4 : decode cL_below 4 = .ok (.iload_n 1, 1) := by decide +kernel
set_option maxRecDepth 100000 in
theorem dL_below_5 : decode cL_below 5 = .ok (.irem, 1) := by decide +kernel
set_option maxRecDepth 100000 in
theorem dL_below_6 : decode cL_below 6 = .ok (.ireturn, 1) := by decide +kernel
set_option maxRecDepth 100000 in
theorem dL_cell_0 : decode cL_cell 0 = .ok (.iload_n 1, 1) := by decide +kernel
set_option maxRecDepth 100000 in
theorem dL_cell_1 : decode cL_cell 1 = .ok (.aload_n 0, 1) := by decide +kernel
set_option maxRecDepth 100000 in
theorem dL_cell_2 : decode cL_cell 2 = .ok (.arraylength, 1) := by decide +kernel
set_option maxRecDepth 100000 in
theorem dL_cell_3 : decode cL_cell 3 = .ok (.if_icmp .ge 9, 3) := by decide +kernel
set_option maxRecDepth 100000 in
theorem dL_cell_6 : decode cL_cell 6 = .ok (.aload_n 0, 1) := by decide +kernel
set_option maxRecDepth 100000 in
theorem dL_cell_7 : decode cL_cell 7 = .ok (.iload_n 1, 1) := by decide +kernel
set_option maxRecDepth 100000 in
theorem dL_cell_8 : decode cL_cell 8 = .ok (.iaload, 1) := by decide +kernel
set_option maxRecDepth 100000 in
theorem dL_cell_9 : decode cL_cell 9 = .ok (.goto 9, 3) := by decide +kernel
set_option maxRecDepth 100000 in
theorem dL_cell_12 : decode cL_cell 12 = .ok (.ldc 8, 2) := by decide +kernel
set_option maxRecDepth 100000 in
theorem dL_cell_14 : decode cL_cell 14 = .ok (.iload_n 1, 1) := by decide +kernel
set_option maxRecDepth 100000 in
theorem dL_cell_15 : decode cL_cell 15 = .ok (.iconst 3, 1) := by decide +kernel
set_option maxRecDepth 100000 in
theorem dL_cell_16 : decode cL_cell 16 = .ok (.iadd, 1) := by decide +kernel
set_option maxRecDepth 100000 in
theorem dL_cell_17 : decode cL_cell 17 = .ok (.imul, 1) := by decide +kernel
set_option maxRecDepth 100000 in
theorem dL_cell_18 : decode cL_cell 18 = .ok (.ireturn, 1) := by decide +kernel
set_option maxRecDepth 100000 in
theorem dL_draw_0 : decode cL_draw 0 = .ok (.aload_n 0, 1) := by decide +kernel
set_option maxRecDepth 100000 in
theorem dL_draw_1 : decode cL_draw 1 = .ok (.bipush 7, 2) := by decide +kernel
set_option maxRecDepth 100000 in
theorem dL_draw_3 : decode cL_draw 3 = .ok (.iload_n 1, 1) := by decide +kernel
set_option maxRecDepth 100000 in
theorem dL_draw_4 : decode cL_draw 4 = .ok (.imul, 1) := by decide +kernel
set_option maxRecDepth 100000 in
theorem dL_draw_5 : decode cL_draw 5 = .ok (.iload_n 2, 1) := by decide +kernel
set_option maxRecDepth 100000 in
theorem dL_draw_6 : decode cL_draw 6 = .ok (.iadd, 1) := by decide +kernel
set_option maxRecDepth 100000 in
theorem dL_draw_7 : decode cL_draw 7 = .ok (.bipush 16, 2) := by decide +kernel
set_option maxRecDepth 100000 in
theorem dL_draw_9 : decode cL_draw 9 = .ok (.irem, 1) := by decide +kernel
set_option maxRecDepth 100000 in
theorem dL_draw_10 : decode cL_draw 10 = .ok (.invokestatic 9, 3) := by decide +kernel
set_option maxRecDepth 100000 in
theorem dL_draw_13 : decode cL_draw 13 = .ok (.bipush 37, 2) := by decide +kernel
set_option maxRecDepth 100000 in
theorem dL_draw_15 : decode cL_draw 15 = .ok (.iload_n 1, 1) := by decide +kernel
set_option maxRecDepth 100000 in
theorem dL_draw_16 : decode cL_draw 16 = .ok (.imul, 1) := by decide +kernel
set_option maxRecDepth 100000 in
theorem dL_draw_17 : decode cL_draw 17 = .ok (.iadd, 1) := by decide +kernel
set_option maxRecDepth 100000 in
theorem dL_draw_18 : decode cL_draw 18 = .ok (.ireturn, 1) := by decide +kernel
set_option maxRecDepth 100000 in
theorem dL_count_0 : decode cL_count 0 = .ok (.iconst 0, 1) := by decide +kernel
set_option maxRecDepth 100000 in
theorem dL_count_1 : decode cL_count 1 = .ok (.istore_n 1, 1) := by decide +kernel
set_option maxRecDepth 100000 in
theorem dL_count_2 : decode cL_count 2 = .ok (.iconst 0, 1) := by decide +kernel
set_option maxRecDepth 100000 in
theorem dL_count_3 : decode cL_count 3 = .ok (.istore_n 2, 1) := by decide +kernel
set_option maxRecDepth 100000 in
theorem dL_count_4 : decode cL_count 4 = .ok (.iload_n 2, 1) := by decide +kernel
set_option maxRecDepth 100000 in
theorem dL_count_5 : decode cL_count 5 = .ok (.bipush 7, 2) := by decide +kernel
set_option maxRecDepth 100000 in
theorem dL_count_7 : decode cL_count 7 = .ok (.if_icmp .ge 17, 3) := by decide +kernel
set_option maxRecDepth 100000 in
theorem dL_count_10 : decode cL_count 10 = .ok (.iload_n 1, 1) := by decide +kernel
set_option maxRecDepth 100000 in
theorem dL_count_11 : decode cL_count 11 = .ok (.iload_n 0, 1) := by decide +kernel
set_option maxRecDepth 100000 in
theorem dL_count_12 : decode cL_count 12 = .ok (.iload_n 2, 1) := by decide +kernel
set_option maxRecDepth 100000 in
theorem dL_count_13 : decode cL_count 13 = .ok (.ishr, 1) := by decide +kernel
set_option maxRecDepth 100000 in
theorem dL_count_14 : decode cL_count 14 = .ok (.iconst 1, 1) := by decide +kernel
set_option maxRecDepth 100000 in
theorem dL_count_15 : decode cL_count 15 = .ok (.iand, 1) := by decide +kernel
set_option maxRecDepth 100000 in
theorem dL_count_16 : decode cL_count 16 = .ok (.iadd, 1) := by decide +kernel
set_option maxRecDepth 100000 in
theorem dL_count_17 : decode cL_count 17 = .ok (.istore_n 1, 1) := by decide +kernel
set_option maxRecDepth 100000 in
theorem dL_count_18 : decode cL_count 18 = .ok (.iinc 2 1, 3) := by decide +kernel
set_option maxRecDepth 100000 in
theorem dL_count_21 : decode cL_count 21 = .ok (.goto (-17), 3) := by decide +kernel
set_option maxRecDepth 100000 in
theorem dL_count_24 : decode cL_count 24 = .ok (.iload_n 1, 1) := by decide +kernel
set_option maxRecDepth 100000 in
theorem dL_count_25 : decode cL_count 25 = .ok (.ireturn, 1) := by decide +kernel
set_option maxRecDepth 100000 in
theorem dL_mod_0 : decode cL_mod 0 = .ok (.lload_n 0, 1) := by decide +kernel
set_option maxRecDepth 100000 in
theorem dL_mod_1 : decode cL_mod 1 = .ok (.iload_n 2, 1) := by decide +kernel
set_option maxRecDepth 100000 in
theorem dL_mod_2 : decode cL_mod 2 = .ok (.i2l, 1) := by decide +kernel
set_option maxRecDepth 100000 in
theorem dL_mod_3 : decode cL_mod 3 = .ok (.lrem, 1) := by decide +kernel
set_option maxRecDepth 100000 in
theorem dL_mod_4 : decode cL_mod 4 = .ok (.lstore_n 3, 1) := by decide +kernel
set_option maxRecDepth 100000 in
theorem dL_mod_5 : decode cL_mod 5 = .ok (.lload_n 3, 1) := by decide +kernel
set_option maxRecDepth 100000 in
theorem dL_mod_6 : decode cL_mod 6 = .ok (.lconst 0, 1) := by decide +kernel
set_option maxRecDepth 100000 in
theorem dL_mod_7 : decode cL_mod 7 = .ok (.lcmp, 1) := by decide +kernel
set_option maxRecDepth 100000 in
theorem dL_mod_8 : decode cL_mod 8 = .ok (.ifCond .ge 10, 3) := by decide +kernel
set_option maxRecDepth 100000 in
theorem dL_mod_11 : decode cL_mod 11 = .ok (.lload_n 3, 1) := by decide +kernel
set_option maxRecDepth 100000 in
theorem dL_mod_12 : decode cL_mod 12 = .ok (.iload_n 2, 1) := by decide +kernel
set_option maxRecDepth 100000 in
theorem dL_mod_13 : decode cL_mod 13 = .ok (.i2l, 1) := by decide +kernel
set_option maxRecDepth 100000 in
theorem dL_mod_14 : decode cL_mod 14 = .ok (.ladd, 1) := by decide +kernel
set_option maxRecDepth 100000 in
theorem dL_mod_15 : decode cL_mod 15 = .ok (.goto 4, 3) := by decide +kernel
set_option maxRecDepth 100000 in
theorem dL_mod_18 : decode cL_mod 18 = .ok (.lload_n 3, 1) := by decide +kernel
set_option maxRecDepth 100000 in
theorem dL_mod_19 : decode cL_mod 19 = .ok (.l2i, 1) := by decide +kernel
set_option maxRecDepth 100000 in
theorem dL_mod_20 : decode cL_mod 20 = .ok (.ireturn, 1) := by decide +kernel
set_option maxRecDepth 100000 in
theorem dL_law_0 : decode cL_law 0 = .ok (.new 15, 3) := by decide +kernel
set_option maxRecDepth 100000 in
theorem dL_law_3 : decode cL_law 3 = .ok (.dup, 1) := by decide +kernel
set_option maxRecDepth 100000 in
theorem dL_law_4 : decode cL_law 4 = .ok (.invokespecial 17, 3) := by decide +kernel
set_option maxRecDepth 100000 in
theorem dL_law_7 : decode cL_law 7 = .ok (.astore_n 1, 1) := by decide +kernel
set_option maxRecDepth 100000 in
theorem dL_law_8 : decode cL_law 8 = .ok (.aload_n 0, 1) := by decide +kernel
set_option maxRecDepth 100000 in
theorem dL_law_9 : decode cL_law 9 = .ok (.iconst 0, 1) := by decide +kernel
set_option maxRecDepth 100000 in
theorem dL_law_10 : decode cL_law 10 = .ok (.invokestatic 9, 3) := by decide +kernel
set_option maxRecDepth 100000 in
theorem dL_law_13 : decode cL_law 13 = .ok (.iconst 5, 1) := by decide +kernel
set_option maxRecDepth 100000 in
theorem dL_law_14 : decode cL_law 14 = .ok (.ishr, 1) := by decide +kernel
set_option maxRecDepth 100000 in
theorem dL_law_15 : decode cL_law 15 = .ok (.bipush 7, 2) := by decide +kernel
set_option maxRecDepth 100000 in
theorem dL_law_17 : decode cL_law 17 = .ok (.invokestatic 18, 3) := by decide +kernel
set_option maxRecDepth 100000 in
theorem dL_law_20 : decode cL_law 20 = .ok (.istore_n 2, 1) := by decide +kernel
set_option maxRecDepth 100000 in
theorem dL_law_21 : decode cL_law 21 = .ok (.aload_n 1, 1) := by decide +kernel
set_option maxRecDepth 100000 in
theorem dL_law_22 : decode cL_law 22 = .ok (.iload_n 2, 1) := by decide +kernel
set_option maxRecDepth 100000 in
theorem dL_law_23 : decode cL_law 23 = .ok (.invokevirtual 22, 3) := by decide +kernel
def zN_cL_law : Nat := 0xac0442ffa7010384ac030500999405162200b62b573f00b6082bac0305009a3b00b81200b8081a00b8061d2a04152b1600993800b80815601200b82600b6072b1a00b8051d2a0404152b3100993500b808150715091504152b4000993100b808150715091504152b4f00992d00b80915081507152b5c00992900b62b0936601200b86404782600b6072b041a00b806101d2a0408361a00b8081d2a07361a00b8071d2a05372200b62b1e00b804151d2a2b04361200b8081a00b8041d2abe00a210101d3e03571600b61c2b3d1200b807107a080900b8032a4c1100b7590f00bb
set_option maxRecDepth 100000 in
theorem zl_cL_law : cL_law.data.toList = z_un 224 zN_cL_law := eq_of_beq (by decide +kernel)
theorem dL_law_26 : decode cL_law 26 = .ok (.pop, 1) := z_row zl_cL_law 26 4064087 (Nat.le_of_ble_eq_true rfl) (by decide +kernel) z_o87 (by decide +kernel)
theorem dL_law_27 : decode cL_law 27 = .ok (.iconst 0, 1) := z_row zl_cL_law 27 1916419 (Nat.le_of_ble_eq_true rfl) (by decide +kernel) z_o3 (by decide +kernel)
theorem dL_law_28 : decode cL_law 28 = .ok (.istore_n 3, 1) := z_row zl_cL_law 28 1056062 (Nat.le_of_ble_eq_true rfl) (by decide +kernel) z_o62 (by decide +kernel)
theorem dL_law_29 : decode cL_law 29 = .ok (.iload_n 3, 1) := z_row zl_cL_law 29 1052701 (Nat.le_of_ble_eq_true rfl) (by decide +kernel) z_o29 (by decide +kernel)
theorem dL_law_30 : decode cL_law 30 = .ok (.bipush 16, 2) := z_row zl_cL_law 30 10620944 (Nat.le_of_ble_eq_true rfl) (by decide +kernel) z_o16 (by decide +kernel)
theorem dL_law_32 : decode cL_law 32 = .ok (.if_icmp .ge 190, 3) := z_row zl_cL_law 32 12452002 (Nat.le_of_ble_eq_true rfl) (by decide +kernel) z_o162 (by decide +kernel)
theorem dL_law_35 : decode cL_law 35 = .ok (.aload_n 0, 1) := z_row zl_cL_law 35 269610 (Nat.le_of_ble_eq_true rfl) (by decide +kernel) z_o42 (by decide +kernel)
theorem dL_law_36 : decode cL_law 36 = .ok (.iload_n 3, 1) := z_row zl_cL_law 36 12059677 (Nat.le_of_ble_eq_true rfl) (by decide +kernel) z_o29 (by decide +kernel)
theorem dL_law_37 : decode cL_law 37 = .ok (.iconst 1, 1) := z_row zl_cL_law 37 47108 (Nat.le_of_ble_eq_true rfl) (by decide +kernel) z_o4 (by decide +kernel)
theorem dL_law_38 : decode cL_law 38 = .ok (.invokestatic 26, 3) := z_row zl_cL_law 38 1704120 (Nat.le_of_ble_eq_true rfl) (by decide +kernel) z_o184 (by decide +kernel)
theorem dL_law_41 : decode cL_law 41 = .ok (.iconst 5, 1) := z_row zl_cL_law 41 47112 (Nat.le_of_ble_eq_true rfl) (by decide +kernel) z_o8 (by decide +kernel)
theorem dL_law_42 : decode cL_law 42 = .ok (.invokestatic 18, 3) := z_row zl_cL_law 42 1179832 (Nat.le_of_ble_eq_true rfl) (by decide +kernel) z_o184 (by decide +kernel)
theorem dL_law_45 : decode cL_law 45 = .ok (.istore 4, 2) := z_row zl_cL_law 45 2819126 (Nat.le_of_ble_eq_true rfl) (by decide +kernel) z_o54 (by decide +kernel)
theorem dL_law_47 : decode cL_law 47 = .ok (.aload_n 1, 1) := z_row zl_cL_law 47 1911339 (Nat.le_of_ble_eq_true rfl) (by decide +kernel) z_o43 (by decide +kernel)
theorem dL_law_48 : decode cL_law 48 = .ok (.aload_n 0, 1) := z_row zl_cL_law 48 1383722 (Nat.le_of_ble_eq_true rfl) (by decide +kernel) z_o42 (by decide +kernel)
theorem dL_law_49 : decode cL_law 49 = .ok (.iload_n 3, 1) := z_row zl_cL_law 49 267549 (Nat.le_of_ble_eq_true rfl) (by decide +kernel) z_o29 (by decide +kernel)
theorem dL_law_50 : decode cL_law 50 = .ok (.iload 4, 2) := z_row zl_cL_law 50 12059669 (Nat.le_of_ble_eq_true rfl) (by decide +kernel) z_o21 (by decide +kernel)
theorem dL_law_52 : decode cL_law 52 = .ok (.invokestatic 30, 3) := z_row zl_cL_law 52 1966264 (Nat.le_of_ble_eq_true rfl) (by decide +kernel) z_o184 (by decide +kernel)
theorem dL_law_55 : decode cL_law 55 = .ok (.aload_n 1, 1) := z_row zl_cL_law 55 46635 (Nat.le_of_ble_eq_true rfl) (by decide +kernel) z_o43 (by decide +kernel)
theorem dL_law_56 : decode cL_law 56 = .ok (.invokevirtual 34, 3) := z_row zl_cL_law 56 2228406 (Nat.le_of_ble_eq_true rfl) (by decide +kernel) z_o182 (by decide +kernel)
theorem dL_law_59 : decode cL_law 59 = .ok (.lstore 5, 2) := z_row zl_cL_law 59 2753847 (Nat.le_of_ble_eq_true rfl) (by decide +kernel) z_o55 (by decide +kernel)
theorem dL_law_61 : decode cL_law 61 = .ok (.aload_n 0, 1) := z_row zl_cL_law 61 466218 (Nat.le_of_ble_eq_true rfl) (by decide +kernel) z_o42 (by decide +kernel)
theorem dL_law_62 : decode cL_law 62 = .ok (.iload_n 3, 1) := z_row zl_cL_law 62 12060445 (Nat.le_of_ble_eq_true rfl) (by decide +kernel) z_o29 (by decide +kernel)
theorem dL_law_63 : decode cL_law 63 = .ok (.iconst 4, 1) := z_row zl_cL_law 63 47111 (Nat.le_of_ble_eq_true rfl) (by decide +kernel) z_o7 (by decide +kernel)
theorem dL_law_64 : decode cL_law 64 = .ok (.invokestatic 26, 3) := z_row zl_cL_law 64 1704120 (Nat.le_of_ble_eq_true rfl) (by decide +kernel) z_o184 (by decide +kernel)
theorem dL_law_67 : decode cL_law 67 = .ok (.istore 7, 2) := z_row zl_cL_law 67 2754358 (Nat.le_of_ble_eq_true rfl) (by decide +kernel) z_o54 (by decide +kernel)
theorem dL_law_69 : decode cL_law 69 = .ok (.aload_n 0, 1) := z_row zl_cL_law 69 531754 (Nat.le_of_ble_eq_true rfl) (by decide +kernel) z_o42 (by decide +kernel)
theorem dL_law_70 : decode cL_law 70 = .ok (.iload_n 3, 1) := z_row zl_cL_law 70 12060701 (Nat.le_of_ble_eq_true rfl) (by decide +kernel) z_o29 (by decide +kernel)
theorem dL_law_71 : decode cL_law 71 = .ok (.iconst 5, 1) := z_row zl_cL_law 71 47112 (Nat.le_of_ble_eq_true rfl) (by decide +kernel) z_o8 (by decide +kernel)
theorem dL_law_72 : decode cL_law 72 = .ok (.invokestatic 26, 3) := z_row zl_cL_law 72 1704120 (Nat.le_of_ble_eq_true rfl) (by decide +kernel) z_o184 (by decide +kernel)
theorem dL_law_75 : decode cL_law 75 = .ok (.istore 8, 2) := z_row zl_cL_law 75 264246 (Nat.le_of_ble_eq_true rfl) (by decide +kernel) z_o54 (by decide +kernel)
theorem dL_law_77 : decode cL_law 77 = .ok (.iconst 1, 1) := z_row zl_cL_law 77 1911300 (Nat.le_of_ble_eq_true rfl) (by decide +kernel) z_o4 (by decide +kernel)
theorem dL_law_78 : decode cL_law 78 = .ok (.aload_n 0, 1) := z_row zl_cL_law 78 1056042 (Nat.le_of_ble_eq_true rfl) (by decide +kernel) z_o42 (by decide +kernel)
theorem dL_law_79 : decode cL_law 79 = .ok (.iload_n 3, 1) := z_row zl_cL_law 79 397341 (Nat.le_of_ble_eq_true rfl) (by decide +kernel) z_o29 (by decide +kernel)
theorem dL_law_80 : decode cL_law 80 = .ok (.bipush 6, 2) := z_row zl_cL_law 80 12060176 (Nat.le_of_ble_eq_true rfl) (by decide +kernel) z_o16 (by decide +kernel)
theorem dL_law_82 : decode cL_law 82 = .ok (.invokestatic 26, 3) := z_row zl_cL_law 82 1704120 (Nat.le_of_ble_eq_true rfl) (by decide +kernel) z_o184 (by decide +kernel)
theorem dL_law_85 : decode cL_law 85 = .ok (.iconst 1, 1) := z_row zl_cL_law 85 469764 (Nat.le_of_ble_eq_true rfl) (by decide +kernel) z_o4 (by decide +kernel)
theorem dL_law_86 : decode cL_law 86 = .ok (.aload_n 1, 1) := z_row zl_cL_law 86 11929387 (Nat.le_of_ble_eq_true rfl) (by decide +kernel) z_o43 (by decide +kernel)
theorem dL_law_87 : decode cL_law 87 = .ok (.iconst 4, 1) := z_row zl_cL_law 87 46599 (Nat.le_of_ble_eq_true rfl) (by decide +kernel) z_o7 (by decide +kernel)
theorem dL_law_88 : decode cL_law 88 = .ok (.invokevirtual 38, 3) := z_row zl_cL_law 88 2490550 (Nat.le_of_ble_eq_true rfl) (by decide +kernel) z_o182 (by decide +kernel)
theorem dL_law_91 : decode cL_law 91 = .ok (.ishl, 1) := z_row zl_cL_law 91 6554744 (Nat.le_of_ble_eq_true rfl) (by decide +kernel) z_o120 (by decide +kernel)
theorem dL_law_92 : decode cL_law 92 = .ok (.iconst 1, 1) := z_row zl_cL_law 92 12084228 (Nat.le_of_ble_eq_true rfl) (by decide +kernel) z_o4 (by decide +kernel)
theorem dL_law_93 : decode cL_law 93 = .ok (.isub, 1) := z_row zl_cL_law 93 47204 (Nat.le_of_ble_eq_true rfl) (by decide +kernel) z_o100 (by decide +kernel)
theorem dL_law_94 : decode cL_law 94 = .ok (.invokestatic 18, 3) := z_row zl_cL_law 94 1179832 (Nat.le_of_ble_eq_true rfl) (by decide +kernel) z_o184 (by decide +kernel)
theorem dL_law_97 : decode cL_law 97 = .ok (.iadd, 1) := z_row zl_cL_law 97 603744 (Nat.le_of_ble_eq_true rfl) (by decide +kernel) z_o96 (by decide +kernel)
theorem dL_law_98 : decode cL_law 98 = .ok (.istore 9, 2) := z_row zl_cL_law 98 2820406 (Nat.le_of_ble_eq_true rfl) (by decide +kernel) z_o54 (by decide +kernel)
theorem dL_law_100 : decode cL_law 100 = .ok (.aload_n 1, 1) := z_row zl_cL_law 100 46635 (Nat.le_of_ble_eq_true rfl) (by decide +kernel) z_o43 (by decide +kernel)
theorem dL_law_101 : decode cL_law 101 = .ok (.invokevirtual 41, 3) := z_row zl_cL_law 101 2687158 (Nat.le_of_ble_eq_true rfl) (by decide +kernel) z_o182 (by decide +kernel)
theorem dL_law_104 : decode cL_law 104 = .ok (.ifCond .eq 92, 3) := z_row zl_cL_law 104 6029465 (Nat.le_of_ble_eq_true rfl) (by decide +kernel) z_o153 (by decide +kernel)
theorem dL_law_107 : decode cL_law 107 = .ok (.aload_n 1, 1) := z_row zl_cL_law 107 464171 (Nat.le_of_ble_eq_true rfl) (by decide +kernel) z_o43 (by decide +kernel)
theorem dL_law_108 : decode cL_law 108 = .ok (.iload 7, 2) := z_row zl_cL_law 108 1378069 (Nat.le_of_ble_eq_true rfl) (by decide +kernel) z_o21 (by decide +kernel)
theorem dL_law_110 : decode cL_law 110 = .ok (.iload 8, 2) := z_row zl_cL_law 110 1378325 (Nat.le_of_ble_eq_true rfl) (by decide +kernel) z_o21 (by decide +kernel)
theorem dL_law_112 : decode cL_law 112 = .ok (.iload 9, 2) := z_row zl_cL_law 112 12060949 (Nat.le_of_ble_eq_true rfl) (by decide +kernel) z_o21 (by decide +kernel)
theorem dL_law_114 : decode cL_law 114 = .ok (.invokestatic 45, 3) := z_row zl_cL_law 114 2949304 (Nat.le_of_ble_eq_true rfl) (by decide +kernel) z_o184 (by decide +kernel)
theorem dL_law_117 : decode cL_law 117 = .ok (.ifCond .eq 79, 3) := z_row zl_cL_law 117 5177497 (Nat.le_of_ble_eq_true rfl) (by decide +kernel) z_o153 (by decide +kernel)
theorem dL_law_120 : decode cL_law 120 = .ok (.aload_n 1, 1) := z_row zl_cL_law 120 267563 (Nat.le_of_ble_eq_true rfl) (by decide +kernel) z_o43 (by decide +kernel)
theorem dL_law_121 : decode cL_law 121 = .ok (.iload 4, 2) := z_row zl_cL_law 121 1377301 (Nat.le_of_ble_eq_true rfl) (by decide +kernel) z_o21 (by decide +kernel)
theorem dL_law_123 : decode cL_law 123 = .ok (.iload 9, 2) := z_row zl_cL_law 123 1378581 (Nat.le_of_ble_eq_true rfl) (by decide +kernel) z_o21 (by decide +kernel)
theorem dL_law_125 : decode cL_law 125 = .ok (.iload 7, 2) := z_row zl_cL_law 125 1378069 (Nat.le_of_ble_eq_true rfl) (by decide +kernel) z_o21 (by decide +kernel)
theorem dL_law_127 : decode cL_law 127 = .ok (.iload 8, 2) := z_row zl_cL_law 127 12060693 (Nat.le_of_ble_eq_true rfl) (by decide +kernel) z_o21 (by decide +kernel)
theorem dL_law_129 : decode cL_law 129 = .ok (.invokestatic 49, 3) := z_row zl_cL_law 129 3211448 (Nat.le_of_ble_eq_true rfl) (by decide +kernel) z_o184 (by decide +kernel)
theorem dL_law_132 : decode cL_law 132 = .ok (.ifCond .eq 64, 3) := z_row zl_cL_law 132 4194457 (Nat.le_of_ble_eq_true rfl) (by decide +kernel) z_o153 (by decide +kernel)
theorem dL_law_135 : decode cL_law 135 = .ok (.aload_n 1, 1) := z_row zl_cL_law 135 267563 (Nat.le_of_ble_eq_true rfl) (by decide +kernel) z_o43 (by decide +kernel)
theorem dL_law_136 : decode cL_law 136 = .ok (.iload 4, 2) := z_row zl_cL_law 136 1377301 (Nat.le_of_ble_eq_true rfl) (by decide +kernel) z_o21 (by decide +kernel)
theorem dL_law_138 : decode cL_law 138 = .ok (.iload 9, 2) := z_row zl_cL_law 138 1378581 (Nat.le_of_ble_eq_true rfl) (by decide +kernel) z_o21 (by decide +kernel)
theorem dL_law_140 : decode cL_law 140 = .ok (.iload 7, 2) := z_row zl_cL_law 140 1378069 (Nat.le_of_ble_eq_true rfl) (by decide +kernel) z_o21 (by decide +kernel)
theorem dL_law_142 : decode cL_law 142 = .ok (.iload 8, 2) := z_row zl_cL_law 142 12060693 (Nat.le_of_ble_eq_true rfl) (by decide +kernel) z_o21 (by decide +kernel)
theorem dL_law_144 : decode cL_law 144 = .ok (.invokestatic 53, 3) := z_row zl_cL_law 144 3473592 (Nat.le_of_ble_eq_true rfl) (by decide +kernel) z_o184 (by decide +kernel)
theorem dL_law_147 : decode cL_law 147 = .ok (.ifCond .eq 49, 3) := z_row zl_cL_law 147 3211417 (Nat.le_of_ble_eq_true rfl) (by decide +kernel) z_o153 (by decide +kernel)
theorem dL_law_150 : decode cL_law 150 = .ok (.aload_n 1, 1) := z_row zl_cL_law 150 267563 (Nat.le_of_ble_eq_true rfl) (by decide +kernel) z_o43 (by decide +kernel)
theorem dL_law_151 : decode cL_law 151 = .ok (.iload 4, 2) := z_row zl_cL_law 151 263189 (Nat.le_of_ble_eq_true rfl) (by decide +kernel) z_o21 (by decide +kernel)
theorem dL_law_153 : decode cL_law 153 = .ok (.iconst 1, 1) := z_row zl_cL_law 153 1911300 (Nat.le_of_ble_eq_true rfl) (by decide +kernel) z_o4 (by decide +kernel)
theorem dL_law_154 : decode cL_law 154 = .ok (.aload_n 0, 1) := z_row zl_cL_law 154 335146 (Nat.le_of_ble_eq_true rfl) (by decide +kernel) z_o42 (by decide +kernel)
theorem dL_law_155 : decode cL_law 155 = .ok (.iload_n 3, 1) := z_row zl_cL_law 155 12059933 (Nat.le_of_ble_eq_true rfl) (by decide +kernel) z_o29 (by decide +kernel)
theorem dL_law_156 : decode cL_law 156 = .ok (.iconst 2, 1) := z_row zl_cL_law 156 47109 (Nat.le_of_ble_eq_true rfl) (by decide +kernel) z_o5 (by decide +kernel)
theorem dL_law_157 : decode cL_law 157 = .ok (.invokestatic 26, 3) := z_row zl_cL_law 157 1704120 (Nat.le_of_ble_eq_true rfl) (by decide +kernel) z_o184 (by decide +kernel)
theorem dL_law_160 : decode cL_law 160 = .ok (.aload_n 1, 1) := z_row zl_cL_law 160 11929387 (Nat.le_of_ble_eq_true rfl) (by decide +kernel) z_o43 (by decide +kernel)
theorem dL_law_161 : decode cL_law 161 = .ok (.iconst 4, 1) := z_row zl_cL_law 161 46599 (Nat.le_of_ble_eq_true rfl) (by decide +kernel) z_o7 (by decide +kernel)
theorem dL_law_162 : decode cL_law 162 = .ok (.invokevirtual 38, 3) := z_row zl_cL_law 162 2490550 (Nat.le_of_ble_eq_true rfl) (by decide +kernel) z_o182 (by decide +kernel)
theorem dL_law_165 : decode cL_law 165 = .ok (.invokestatic 18, 3) := z_row zl_cL_law 165 1179832 (Nat.le_of_ble_eq_true rfl) (by decide +kernel) z_o184 (by decide +kernel)
theorem dL_law_168 : decode cL_law 168 = .ok (.iadd, 1) := z_row zl_cL_law 168 529760 (Nat.le_of_ble_eq_true rfl) (by decide +kernel) z_o96 (by decide +kernel)
theorem dL_law_169 : decode cL_law 169 = .ok (.iload 8, 2) := z_row zl_cL_law 169 12060693 (Nat.le_of_ble_eq_true rfl) (by decide +kernel) z_o21 (by decide +kernel)
theorem dL_law_171 : decode cL_law 171 = .ok (.invokestatic 56, 3) := z_row zl_cL_law 171 3670200 (Nat.le_of_ble_eq_true rfl) (by decide +kernel) z_o184 (by decide +kernel)
theorem dL_law_174 : decode cL_law 174 = .ok (.ifCond .eq 22, 3) := z_row zl_cL_law 174 1441945 (Nat.le_of_ble_eq_true rfl) (by decide +kernel) z_o153 (by decide +kernel)
theorem dL_law_177 : decode cL_law 177 = .ok (.aload_n 1, 1) := z_row zl_cL_law 177 267563 (Nat.le_of_ble_eq_true rfl) (by decide +kernel) z_o43 (by decide +kernel)
theorem dL_law_178 : decode cL_law 178 = .ok (.iload 4, 2) := z_row zl_cL_law 178 2753557 (Nat.le_of_ble_eq_true rfl) (by decide +kernel) z_o21 (by decide +kernel)
theorem dL_law_180 : decode cL_law 180 = .ok (.aload_n 0, 1) := z_row zl_cL_law 180 400682 (Nat.le_of_ble_eq_true rfl) (by decide +kernel) z_o42 (by decide +kernel)
theorem dL_law_181 : decode cL_law 181 = .ok (.iload_n 3, 1) := z_row zl_cL_law 181 12060189 (Nat.le_of_ble_eq_true rfl) (by decide +kernel) z_o29 (by decide +kernel)
theorem dL_law_182 : decode cL_law 182 = .ok (.iconst 3, 1) := z_row zl_cL_law 182 47110 (Nat.le_of_ble_eq_true rfl) (by decide +kernel) z_o6 (by decide +kernel)
theorem dL_law_183 : decode cL_law 183 = .ok (.invokestatic 26, 3) := z_row zl_cL_law 183 1704120 (Nat.le_of_ble_eq_true rfl) (by decide +kernel) z_o184 (by decide +kernel)
theorem dL_law_186 : decode cL_law 186 = .ok (.iconst 5, 1) := z_row zl_cL_law 186 47112 (Nat.le_of_ble_eq_true rfl) (by decide +kernel) z_o8 (by decide +kernel)
theorem dL_law_187 : decode cL_law 187 = .ok (.invokestatic 18, 3) := z_row zl_cL_law 187 1179832 (Nat.le_of_ble_eq_true rfl) (by decide +kernel) z_o184 (by decide +kernel)
theorem dL_law_190 : decode cL_law 190 = .ok (.invokestatic 59, 3) := z_row zl_cL_law 190 3866808 (Nat.le_of_ble_eq_true rfl) (by decide +kernel) z_o184 (by decide +kernel)
theorem dL_law_193 : decode cL_law 193 = .ok (.ifCond .ne 5, 3) := z_row zl_cL_law 193 327834 (Nat.le_of_ble_eq_true rfl) (by decide +kernel) z_o154 (by decide +kernel)
theorem dL_law_196 : decode cL_law 196 = .ok (.iconst 0, 1) := z_row zl_cL_law 196 2862083 (Nat.le_of_ble_eq_true rfl) (by decide +kernel) z_o3 (by decide +kernel)
theorem dL_law_197 : decode cL_law 197 = .ok (.ireturn, 1) := z_row zl_cL_law 197 535468 (Nat.le_of_ble_eq_true rfl) (by decide +kernel) z_o172 (by decide +kernel)
theorem dL_law_198 : decode cL_law 198 = .ok (.aload_n 1, 1) := z_row zl_cL_law 198 11929643 (Nat.le_of_ble_eq_true rfl) (by decide +kernel) z_o43 (by decide +kernel)
theorem dL_law_199 : decode cL_law 199 = .ok (.iconst 5, 1) := z_row zl_cL_law 199 46600 (Nat.le_of_ble_eq_true rfl) (by decide +kernel) z_o8 (by decide +kernel)
theorem dL_law_200 : decode cL_law 200 = .ok (.invokevirtual 63, 3) := z_row zl_cL_law 200 4128950 (Nat.le_of_ble_eq_true rfl) (by decide +kernel) z_o182 (by decide +kernel)
theorem dL_law_203 : decode cL_law 203 = .ok (.pop, 1) := z_row zl_cL_law 203 11938647 (Nat.le_of_ble_eq_true rfl) (by decide +kernel) z_o87 (by decide +kernel)
theorem dL_law_204 : decode cL_law 204 = .ok (.aload_n 1, 1) := z_row zl_cL_law 204 46635 (Nat.le_of_ble_eq_true rfl) (by decide +kernel) z_o43 (by decide +kernel)
theorem dL_law_205 : decode cL_law 205 = .ok (.invokevirtual 34, 3) := z_row zl_cL_law 205 2228406 (Nat.le_of_ble_eq_true rfl) (by decide +kernel) z_o182 (by decide +kernel)
theorem dL_law_208 : decode cL_law 208 = .ok (.lload 5, 2) := z_row zl_cL_law 208 9700630 (Nat.le_of_ble_eq_true rfl) (by decide +kernel) z_o22 (by decide +kernel)
theorem dL_law_210 : decode cL_law 210 = .ok (.lcmp, 1) := z_row zl_cL_law 210 39316 (Nat.le_of_ble_eq_true rfl) (by decide +kernel) z_o148 (by decide +kernel)
theorem dL_law_211 : decode cL_law 211 = .ok (.ifCond .eq 5, 3) := z_row zl_cL_law 211 327833 (Nat.le_of_ble_eq_true rfl) (by decide +kernel) z_o153 (by decide +kernel)
theorem dL_law_214 : decode cL_law 214 = .ok (.iconst 0, 1) := z_row zl_cL_law 214 8694787 (Nat.le_of_ble_eq_true rfl) (by decide +kernel) z_o3 (by decide +kernel)
theorem dL_law_215 : decode cL_law 215 = .ok (.ireturn, 1) := z_row zl_cL_law 215 230572 (Nat.le_of_ble_eq_true rfl) (by decide +kernel) z_o172 (by decide +kernel)
theorem dL_law_216 : decode cL_law 216 = .ok (.iinc 3 1, 3) := z_row zl_cL_law 216 66436 (Nat.le_of_ble_eq_true rfl) (by decide +kernel) z_o132 (by decide +kernel)
theorem dL_law_219 : decode cL_law 219 = .ok (.goto (-190), 3) := z_row zl_cL_law 219 4390823 (Nat.le_of_ble_eq_true rfl) (by decide +kernel) z_o167 (by decide +kernel)
set_option maxRecDepth 100000 in
theorem dL_law_222 : decode cL_law 222 = .ok (.iconst 1, 1) := by decide +kernel
set_option maxRecDepth 100000 in
theorem dL_law_223 : decode cL_law 223 = .ok (.ireturn, 1) := by decide +kernel
set_option maxRecDepth 100000 in
theorem dL_act_0 : decode cL_act 0 = .ok (.aload_n 1, 1) := by decide +kernel
set_option maxRecDepth 100000 in
theorem dL_act_1 : decode cL_act 1 = .ok (.iload_n 2, 1) := by decide +kernel
set_option maxRecDepth 100000 in
theorem dL_act_2 : decode cL_act 2 = .ok (.iconst 2, 1) := by decide +kernel
set_option maxRecDepth 100000 in
theorem dL_act_3 : decode cL_act 3 = .ok (.invokestatic 26, 3) := by decide +kernel
set_option maxRecDepth 100000 in
theorem dL_act_6 : decode cL_act 6 = .ok (.iconst 5, 1) := by decide +kernel
set_option maxRecDepth 100000 in
theorem dL_act_7 : decode cL_act 7 = .ok (.invokestatic 18, 3) := by decide +kernel
set_option maxRecDepth 100000 in
theorem dL_act_10 : decode cL_act 10 = .ok (.istore 4, 2) := by decide +kernel
set_option maxRecDepth 100000 in
theorem dL_act_12 : decode cL_act 12 = .ok (.aload_n 1, 1) := by decide +kernel
set_option maxRecDepth 100000 in
theorem dL_act_13 : decode cL_act 13 = .ok (.iload_n 2, 1) := by decide +kernel
set_option maxRecDepth 100000 in
theorem dL_act_14 : decode cL_act 14 = .ok (.iconst 3, 1) := by decide +kernel
set_option maxRecDepth 100000 in
theorem dL_act_15 : decode cL_act 15 = .ok (.invokestatic 26, 3) := by decide +kernel
set_option maxRecDepth 100000 in
theorem dL_act_18 : decode cL_act 18 = .ok (.istore 5, 2) := by decide +kernel
set_option maxRecDepth 100000 in
theorem dL_act_20 : decode cL_act 20 = .ok (.aload_n 1, 1) := by decide +kernel
set_option maxRecDepth 100000 in
theorem dL_act_21 : decode cL_act 21 = .ok (.iload_n 2, 1) := by decide +kernel
set_option maxRecDepth 100000 in
theorem dL_act_22 : decode cL_act 22 = .ok (.iconst 4, 1) := by decide +kernel
set_option maxRecDepth 100000 in
theorem dL_act_23 : decode cL_act 23 = .ok (.invokestatic 26, 3) := by decide +kernel
def zN_cL_act : Nat := 0xb1b1093ab1093a0900a7576600b61d04152a0b00a7576300b61d2a1400a7576000b61200b880001106151200b8081005151d2a2c00a7575d00b606151200b8081005151d2a3e00a7575a00b61200b8091005151d2a4e00a7575700b6071506151200b80808151d1200b8800011051504152a6b00a7575400b61d061504152a7800a7575100b61200b808051504151d2a8900a7574e00b61200b808051504151d2a9a00a7574a00b61200b808051504151d2aab00a7574600b605150815071506151d2abc00a7574200b67a0605150815071506151200b80805151d2a00010000e8000000d6000000c6000000a90000009c0000008b0000007a00000069000000580000003f0000003f0000000b00000000000000090100000000aa1200b80d101a00b8031c2b0e00a7030700a2061c08361a00b806101c2b07361a00b8081c2b06361a00b8071c2b05361a00b8061c2b04361200b8081a00b8051c2b
set_option maxRecDepth 100000 in
theorem zl_cL_act : cL_act.data.toList = z_un 348 zN_cL_act := eq_of_beq (by decide +kernel)
theorem dL_act_26 : decode cL_act 26 = .ok (.istore 6, 2) := z_row zl_cL_act 26 2819638 (Nat.le_of_ble_eq_true rfl) (by decide +kernel) z_o54 (by decide +kernel)
theorem dL_act_28 : decode cL_act 28 = .ok (.aload_n 1, 1) := z_row zl_cL_act 28 531499 (Nat.le_of_ble_eq_true rfl) (by decide +kernel) z_o43 (by decide +kernel)
theorem dL_act_29 : decode cL_act 29 = .ok (.iload_n 2, 1) := z_row zl_cL_act 29 12060700 (Nat.le_of_ble_eq_true rfl) (by decide +kernel) z_o28 (by decide +kernel)
theorem dL_act_30 : decode cL_act 30 = .ok (.iconst 5, 1) := z_row zl_cL_act 30 47112 (Nat.le_of_ble_eq_true rfl) (by decide +kernel) z_o8 (by decide +kernel)
theorem dL_act_31 : decode cL_act 31 = .ok (.invokestatic 26, 3) := z_row zl_cL_act 31 1704120 (Nat.le_of_ble_eq_true rfl) (by decide +kernel) z_o184 (by decide +kernel)
theorem dL_act_34 : decode cL_act 34 = .ok (.istore 7, 2) := z_row zl_cL_act 34 2819894 (Nat.le_of_ble_eq_true rfl) (by decide +kernel) z_o54 (by decide +kernel)
theorem dL_act_36 : decode cL_act 36 = .ok (.aload_n 1, 1) := z_row zl_cL_act 36 1055787 (Nat.le_of_ble_eq_true rfl) (by decide +kernel) z_o43 (by decide +kernel)
theorem dL_act_37 : decode cL_act 37 = .ok (.iload_n 2, 1) := z_row zl_cL_act 37 397340 (Nat.le_of_ble_eq_true rfl) (by decide +kernel) z_o28 (by decide +kernel)
theorem dL_act_38 : decode cL_act 38 = .ok (.bipush 6, 2) := z_row zl_cL_act 38 12060176 (Nat.le_of_ble_eq_true rfl) (by decide +kernel) z_o16 (by decide +kernel)
theorem dL_act_40 : decode cL_act 40 = .ok (.invokestatic 26, 3) := z_row zl_cL_act 40 1704120 (Nat.le_of_ble_eq_true rfl) (by decide +kernel) z_o184 (by decide +kernel)
theorem dL_act_43 : decode cL_act 43 = .ok (.istore 8, 2) := z_row zl_cL_act 43 1837110 (Nat.le_of_ble_eq_true rfl) (by decide +kernel) z_o54 (by decide +kernel)
theorem dL_act_45 : decode cL_act 45 = .ok (.iload_n 2, 1) := z_row zl_cL_act 45 10618396 (Nat.le_of_ble_eq_true rfl) (by decide +kernel) z_o28 (by decide +kernel)
theorem dL_act_46 : decode cL_act 46 = .ok (.iconst 3, 1) := z_row zl_cL_act 46 41478 (Nat.le_of_ble_eq_true rfl) (by decide +kernel) z_o6 (by decide +kernel)
theorem dL_act_47 : decode cL_act 47 = .ok (.if_icmp .ge 7, 3) := z_row zl_cL_act 47 458914 (Nat.le_of_ble_eq_true rfl) (by decide +kernel) z_o162 (by decide +kernel)
theorem dL_act_50 : decode cL_act 50 = .ok (.iconst 0, 1) := z_row zl_cL_act 50 42755 (Nat.le_of_ble_eq_true rfl) (by decide +kernel) z_o3 (by decide +kernel)
theorem dL_act_51 : decode cL_act 51 = .ok (.goto 14, 3) := z_row zl_cL_act 51 917671 (Nat.le_of_ble_eq_true rfl) (by decide +kernel) z_o167 (by decide +kernel)
theorem dL_act_54 : decode cL_act 54 = .ok (.aload_n 1, 1) := z_row zl_cL_act 54 203819 (Nat.le_of_ble_eq_true rfl) (by decide +kernel) z_o43 (by decide +kernel)
theorem dL_act_55 : decode cL_act 55 = .ok (.iload_n 2, 1) := z_row zl_cL_act 55 12059420 (Nat.le_of_ble_eq_true rfl) (by decide +kernel) z_o28 (by decide +kernel)
theorem dL_act_56 : decode cL_act 56 = .ok (.iconst 0, 1) := z_row zl_cL_act 56 47107 (Nat.le_of_ble_eq_true rfl) (by decide +kernel) z_o3 (by decide +kernel)
theorem dL_act_57 : decode cL_act 57 = .ok (.invokestatic 26, 3) := z_row zl_cL_act 57 1704120 (Nat.le_of_ble_eq_true rfl) (by decide +kernel) z_o184 (by decide +kernel)
theorem dL_act_60 : decode cL_act 60 = .ok (.bipush 13, 2) := z_row zl_cL_act 60 12061968 (Nat.le_of_ble_eq_true rfl) (by decide +kernel) z_o16 (by decide +kernel)
theorem dL_act_62 : decode cL_act 62 = .ok (.invokestatic 18, 3) := z_row zl_cL_act 62 1179832 (Nat.le_of_ble_eq_true rfl) (by decide +kernel) z_o184 (by decide +kernel)
set_option maxRecDepth 100000 in
theorem dL_act_65 : decode cL_act 65 = .ok (.tableswitch 265 0 11 #[63, 63, 88, 105, 122, 139, 156, 169, 198, 214, 232, 256], 63) := by decide +kernel
theorem dL_act_128 : decode cL_act 128 = .ok (.aload_n 0, 1) := z_row zl_cL_act 128 1383722 (Nat.le_of_ble_eq_true rfl) (by decide +kernel) z_o42 (by decide +kernel)
theorem dL_act_129 : decode cL_act 129 = .ok (.iload_n 3, 1) := z_row zl_cL_act 129 333085 (Nat.le_of_ble_eq_true rfl) (by decide +kernel) z_o29 (by decide +kernel)
theorem dL_act_130 : decode cL_act 130 = .ok (.iload 5, 2) := z_row zl_cL_act 130 525589 (Nat.le_of_ble_eq_true rfl) (by decide +kernel) z_o21 (by decide +kernel)
theorem dL_act_132 : decode cL_act 132 = .ok (.iconst 5, 1) := z_row zl_cL_act 132 47112 (Nat.le_of_ble_eq_true rfl) (by decide +kernel) z_o8 (by decide +kernel)
theorem dL_act_133 : decode cL_act 133 = .ok (.invokestatic 18, 3) := z_row zl_cL_act 133 1179832 (Nat.le_of_ble_eq_true rfl) (by decide +kernel) z_o184 (by decide +kernel)
theorem dL_act_136 : decode cL_act 136 = .ok (.iload 6, 2) := z_row zl_cL_act 136 1377813 (Nat.le_of_ble_eq_true rfl) (by decide +kernel) z_o21 (by decide +kernel)
theorem dL_act_138 : decode cL_act 138 = .ok (.iload 7, 2) := z_row zl_cL_act 138 1378069 (Nat.le_of_ble_eq_true rfl) (by decide +kernel) z_o21 (by decide +kernel)
theorem dL_act_140 : decode cL_act 140 = .ok (.iload 8, 2) := z_row zl_cL_act 140 1378325 (Nat.le_of_ble_eq_true rfl) (by decide +kernel) z_o21 (by decide +kernel)
theorem dL_act_142 : decode cL_act 142 = .ok (.iload 5, 2) := z_row zl_cL_act 142 394517 (Nat.le_of_ble_eq_true rfl) (by decide +kernel) z_o21 (by decide +kernel)
theorem dL_act_144 : decode cL_act 144 = .ok (.iconst 3, 1) := z_row zl_cL_act 144 11958790 (Nat.le_of_ble_eq_true rfl) (by decide +kernel) z_o6 (by decide +kernel)
theorem dL_act_145 : decode cL_act 145 = .ok (.ishr, 1) := z_row zl_cL_act 145 46714 (Nat.le_of_ble_eq_true rfl) (by decide +kernel) z_o122 (by decide +kernel)
theorem dL_act_146 : decode cL_act 146 = .ok (.invokevirtual 66, 3) := z_row zl_cL_act 146 4325558 (Nat.le_of_ble_eq_true rfl) (by decide +kernel) z_o182 (by decide +kernel)
theorem dL_act_149 : decode cL_act 149 = .ok (.pop, 1) := z_row zl_cL_act 149 42839 (Nat.le_of_ble_eq_true rfl) (by decide +kernel) z_o87 (by decide +kernel)
theorem dL_act_150 : decode cL_act 150 = .ok (.goto 188, 3) := z_row zl_cL_act 150 12320935 (Nat.le_of_ble_eq_true rfl) (by decide +kernel) z_o167 (by decide +kernel)
theorem dL_act_153 : decode cL_act 153 = .ok (.aload_n 0, 1) := z_row zl_cL_act 153 1383722 (Nat.le_of_ble_eq_true rfl) (by decide +kernel) z_o42 (by decide +kernel)
theorem dL_act_154 : decode cL_act 154 = .ok (.iload_n 3, 1) := z_row zl_cL_act 154 398621 (Nat.le_of_ble_eq_true rfl) (by decide +kernel) z_o29 (by decide +kernel)
theorem dL_act_155 : decode cL_act 155 = .ok (.iload 6, 2) := z_row zl_cL_act 155 1377813 (Nat.le_of_ble_eq_true rfl) (by decide +kernel) z_o21 (by decide +kernel)
theorem dL_act_157 : decode cL_act 157 = .ok (.iload 7, 2) := z_row zl_cL_act 157 1378069 (Nat.le_of_ble_eq_true rfl) (by decide +kernel) z_o21 (by decide +kernel)
theorem dL_act_159 : decode cL_act 159 = .ok (.iload 8, 2) := z_row zl_cL_act 159 1378325 (Nat.le_of_ble_eq_true rfl) (by decide +kernel) z_o21 (by decide +kernel)
theorem dL_act_161 : decode cL_act 161 = .ok (.iload 5, 2) := z_row zl_cL_act 161 11928853 (Nat.le_of_ble_eq_true rfl) (by decide +kernel) z_o21 (by decide +kernel)
theorem dL_act_163 : decode cL_act 163 = .ok (.invokevirtual 70, 3) := z_row zl_cL_act 163 4587702 (Nat.le_of_ble_eq_true rfl) (by decide +kernel) z_o182 (by decide +kernel)
theorem dL_act_166 : decode cL_act 166 = .ok (.pop, 1) := z_row zl_cL_act 166 42839 (Nat.le_of_ble_eq_true rfl) (by decide +kernel) z_o87 (by decide +kernel)
theorem dL_act_167 : decode cL_act 167 = .ok (.goto 171, 3) := z_row zl_cL_act 167 11206823 (Nat.le_of_ble_eq_true rfl) (by decide +kernel) z_o167 (by decide +kernel)
theorem dL_act_170 : decode cL_act 170 = .ok (.aload_n 0, 1) := z_row zl_cL_act 170 1383722 (Nat.le_of_ble_eq_true rfl) (by decide +kernel) z_o42 (by decide +kernel)
theorem dL_act_171 : decode cL_act 171 = .ok (.iload_n 3, 1) := z_row zl_cL_act 171 267549 (Nat.le_of_ble_eq_true rfl) (by decide +kernel) z_o29 (by decide +kernel)
theorem dL_act_172 : decode cL_act 172 = .ok (.iload 4, 2) := z_row zl_cL_act 172 1377301 (Nat.le_of_ble_eq_true rfl) (by decide +kernel) z_o21 (by decide +kernel)
theorem dL_act_174 : decode cL_act 174 = .ok (.iload 5, 2) := z_row zl_cL_act 174 525589 (Nat.le_of_ble_eq_true rfl) (by decide +kernel) z_o21 (by decide +kernel)
theorem dL_act_176 : decode cL_act 176 = .ok (.iconst 5, 1) := z_row zl_cL_act 176 47112 (Nat.le_of_ble_eq_true rfl) (by decide +kernel) z_o8 (by decide +kernel)
theorem dL_act_177 : decode cL_act 177 = .ok (.invokestatic 18, 3) := z_row zl_cL_act 177 1179832 (Nat.le_of_ble_eq_true rfl) (by decide +kernel) z_o184 (by decide +kernel)
theorem dL_act_180 : decode cL_act 180 = .ok (.invokevirtual 74, 3) := z_row zl_cL_act 180 4849846 (Nat.le_of_ble_eq_true rfl) (by decide +kernel) z_o182 (by decide +kernel)
theorem dL_act_183 : decode cL_act 183 = .ok (.pop, 1) := z_row zl_cL_act 183 42839 (Nat.le_of_ble_eq_true rfl) (by decide +kernel) z_o87 (by decide +kernel)
theorem dL_act_184 : decode cL_act 184 = .ok (.goto 154, 3) := z_row zl_cL_act 184 10092711 (Nat.le_of_ble_eq_true rfl) (by decide +kernel) z_o167 (by decide +kernel)
theorem dL_act_187 : decode cL_act 187 = .ok (.aload_n 0, 1) := z_row zl_cL_act 187 1383722 (Nat.le_of_ble_eq_true rfl) (by decide +kernel) z_o42 (by decide +kernel)
theorem dL_act_188 : decode cL_act 188 = .ok (.iload_n 3, 1) := z_row zl_cL_act 188 267549 (Nat.le_of_ble_eq_true rfl) (by decide +kernel) z_o29 (by decide +kernel)
theorem dL_act_189 : decode cL_act 189 = .ok (.iload 4, 2) := z_row zl_cL_act 189 1377301 (Nat.le_of_ble_eq_true rfl) (by decide +kernel) z_o21 (by decide +kernel)
theorem dL_act_191 : decode cL_act 191 = .ok (.iload 5, 2) := z_row zl_cL_act 191 525589 (Nat.le_of_ble_eq_true rfl) (by decide +kernel) z_o21 (by decide +kernel)
theorem dL_act_193 : decode cL_act 193 = .ok (.iconst 5, 1) := z_row zl_cL_act 193 47112 (Nat.le_of_ble_eq_true rfl) (by decide +kernel) z_o8 (by decide +kernel)
theorem dL_act_194 : decode cL_act 194 = .ok (.invokestatic 18, 3) := z_row zl_cL_act 194 1179832 (Nat.le_of_ble_eq_true rfl) (by decide +kernel) z_o184 (by decide +kernel)
theorem dL_act_197 : decode cL_act 197 = .ok (.invokevirtual 78, 3) := z_row zl_cL_act 197 5111990 (Nat.le_of_ble_eq_true rfl) (by decide +kernel) z_o182 (by decide +kernel)
theorem dL_act_200 : decode cL_act 200 = .ok (.pop, 1) := z_row zl_cL_act 200 42839 (Nat.le_of_ble_eq_true rfl) (by decide +kernel) z_o87 (by decide +kernel)
theorem dL_act_201 : decode cL_act 201 = .ok (.goto 137, 3) := z_row zl_cL_act 201 8978599 (Nat.le_of_ble_eq_true rfl) (by decide +kernel) z_o167 (by decide +kernel)
theorem dL_act_204 : decode cL_act 204 = .ok (.aload_n 0, 1) := z_row zl_cL_act 204 1383722 (Nat.le_of_ble_eq_true rfl) (by decide +kernel) z_o42 (by decide +kernel)
theorem dL_act_205 : decode cL_act 205 = .ok (.iload_n 3, 1) := z_row zl_cL_act 205 267549 (Nat.le_of_ble_eq_true rfl) (by decide +kernel) z_o29 (by decide +kernel)
theorem dL_act_206 : decode cL_act 206 = .ok (.iload 4, 2) := z_row zl_cL_act 206 1377301 (Nat.le_of_ble_eq_true rfl) (by decide +kernel) z_o21 (by decide +kernel)
theorem dL_act_208 : decode cL_act 208 = .ok (.iload 5, 2) := z_row zl_cL_act 208 525589 (Nat.le_of_ble_eq_true rfl) (by decide +kernel) z_o21 (by decide +kernel)
theorem dL_act_210 : decode cL_act 210 = .ok (.iconst 5, 1) := z_row zl_cL_act 210 47112 (Nat.le_of_ble_eq_true rfl) (by decide +kernel) z_o8 (by decide +kernel)
theorem dL_act_211 : decode cL_act 211 = .ok (.invokestatic 18, 3) := z_row zl_cL_act 211 1179832 (Nat.le_of_ble_eq_true rfl) (by decide +kernel) z_o184 (by decide +kernel)
theorem dL_act_214 : decode cL_act 214 = .ok (.invokevirtual 81, 3) := z_row zl_cL_act 214 5308598 (Nat.le_of_ble_eq_true rfl) (by decide +kernel) z_o182 (by decide +kernel)
theorem dL_act_217 : decode cL_act 217 = .ok (.pop, 1) := z_row zl_cL_act 217 42839 (Nat.le_of_ble_eq_true rfl) (by decide +kernel) z_o87 (by decide +kernel)
theorem dL_act_218 : decode cL_act 218 = .ok (.goto 120, 3) := z_row zl_cL_act 218 7864487 (Nat.le_of_ble_eq_true rfl) (by decide +kernel) z_o167 (by decide +kernel)
theorem dL_act_221 : decode cL_act 221 = .ok (.aload_n 0, 1) := z_row zl_cL_act 221 267562 (Nat.le_of_ble_eq_true rfl) (by decide +kernel) z_o42 (by decide +kernel)
theorem dL_act_222 : decode cL_act 222 = .ok (.iload 4, 2) := z_row zl_cL_act 222 1377301 (Nat.le_of_ble_eq_true rfl) (by decide +kernel) z_o21 (by decide +kernel)
theorem dL_act_224 : decode cL_act 224 = .ok (.iload 6, 2) := z_row zl_cL_act 224 1902101 (Nat.le_of_ble_eq_true rfl) (by decide +kernel) z_o21 (by decide +kernel)
theorem dL_act_226 : decode cL_act 226 = .ok (.iload_n 3, 1) := z_row zl_cL_act 226 46621 (Nat.le_of_ble_eq_true rfl) (by decide +kernel) z_o29 (by decide +kernel)
theorem dL_act_227 : decode cL_act 227 = .ok (.invokevirtual 84, 3) := z_row zl_cL_act 227 5505206 (Nat.le_of_ble_eq_true rfl) (by decide +kernel) z_o182 (by decide +kernel)
theorem dL_act_230 : decode cL_act 230 = .ok (.pop, 1) := z_row zl_cL_act 230 42839 (Nat.le_of_ble_eq_true rfl) (by decide +kernel) z_o87 (by decide +kernel)
theorem dL_act_231 : decode cL_act 231 = .ok (.goto 107, 3) := z_row zl_cL_act 231 7012519 (Nat.le_of_ble_eq_true rfl) (by decide +kernel) z_o167 (by decide +kernel)
theorem dL_act_234 : decode cL_act 234 = .ok (.aload_n 0, 1) := z_row zl_cL_act 234 267562 (Nat.le_of_ble_eq_true rfl) (by decide +kernel) z_o42 (by decide +kernel)
theorem dL_act_235 : decode cL_act 235 = .ok (.iload 4, 2) := z_row zl_cL_act 235 1377301 (Nat.le_of_ble_eq_true rfl) (by decide +kernel) z_o21 (by decide +kernel)
theorem dL_act_237 : decode cL_act 237 = .ok (.iload 5, 2) := z_row zl_cL_act 237 1115413 (Nat.le_of_ble_eq_true rfl) (by decide +kernel) z_o21 (by decide +kernel)
theorem dL_act_239 : decode cL_act 239 = .ok (.sipush 128, 3) := z_row zl_cL_act 239 8388625 (Nat.le_of_ble_eq_true rfl) (by decide +kernel) z_o17 (by decide +kernel)
theorem dL_act_242 : decode cL_act 242 = .ok (.invokestatic 18, 3) := z_row zl_cL_act 242 1179832 (Nat.le_of_ble_eq_true rfl) (by decide +kernel) z_o184 (by decide +kernel)
theorem dL_act_245 : decode cL_act 245 = .ok (.iload_n 3, 1) := z_row zl_cL_act 245 529693 (Nat.le_of_ble_eq_true rfl) (by decide +kernel) z_o29 (by decide +kernel)
theorem dL_act_246 : decode cL_act 246 = .ok (.iload 8, 2) := z_row zl_cL_act 246 526357 (Nat.le_of_ble_eq_true rfl) (by decide +kernel) z_o21 (by decide +kernel)
theorem dL_act_248 : decode cL_act 248 = .ok (.iconst 5, 1) := z_row zl_cL_act 248 47112 (Nat.le_of_ble_eq_true rfl) (by decide +kernel) z_o8 (by decide +kernel)
theorem dL_act_249 : decode cL_act 249 = .ok (.invokestatic 18, 3) := z_row zl_cL_act 249 1179832 (Nat.le_of_ble_eq_true rfl) (by decide +kernel) z_o184 (by decide +kernel)
theorem dL_act_252 : decode cL_act 252 = .ok (.iload 6, 2) := z_row zl_cL_act 252 1377813 (Nat.le_of_ble_eq_true rfl) (by decide +kernel) z_o21 (by decide +kernel)
theorem dL_act_254 : decode cL_act 254 = .ok (.iload 7, 2) := z_row zl_cL_act 254 11929365 (Nat.le_of_ble_eq_true rfl) (by decide +kernel) z_o21 (by decide +kernel)
theorem dL_act_256 : decode cL_act 256 = .ok (.invokevirtual 87, 3) := z_row zl_cL_act 256 5701814 (Nat.le_of_ble_eq_true rfl) (by decide +kernel) z_o182 (by decide +kernel)
theorem dL_act_259 : decode cL_act 259 = .ok (.pop, 1) := z_row zl_cL_act 259 42839 (Nat.le_of_ble_eq_true rfl) (by decide +kernel) z_o87 (by decide +kernel)
theorem dL_act_260 : decode cL_act 260 = .ok (.goto 78, 3) := z_row zl_cL_act 260 5111975 (Nat.le_of_ble_eq_true rfl) (by decide +kernel) z_o167 (by decide +kernel)
theorem dL_act_263 : decode cL_act 263 = .ok (.aload_n 0, 1) := z_row zl_cL_act 263 1383722 (Nat.le_of_ble_eq_true rfl) (by decide +kernel) z_o42 (by decide +kernel)
theorem dL_act_264 : decode cL_act 264 = .ok (.iload_n 3, 1) := z_row zl_cL_act 264 333085 (Nat.le_of_ble_eq_true rfl) (by decide +kernel) z_o29 (by decide +kernel)
theorem dL_act_265 : decode cL_act 265 = .ok (.iload 5, 2) := z_row zl_cL_act 265 1049877 (Nat.le_of_ble_eq_true rfl) (by decide +kernel) z_o21 (by decide +kernel)
theorem dL_act_267 : decode cL_act 267 = .ok (.bipush 9, 2) := z_row zl_cL_act 267 12060944 (Nat.le_of_ble_eq_true rfl) (by decide +kernel) z_o16 (by decide +kernel)
theorem dL_act_269 : decode cL_act 269 = .ok (.invokestatic 18, 3) := z_row zl_cL_act 269 1179832 (Nat.le_of_ble_eq_true rfl) (by decide +kernel) z_o184 (by decide +kernel)
theorem dL_act_272 : decode cL_act 272 = .ok (.invokevirtual 90, 3) := z_row zl_cL_act 272 5898422 (Nat.le_of_ble_eq_true rfl) (by decide +kernel) z_o182 (by decide +kernel)
theorem dL_act_275 : decode cL_act 275 = .ok (.pop, 1) := z_row zl_cL_act 275 42839 (Nat.le_of_ble_eq_true rfl) (by decide +kernel) z_o87 (by decide +kernel)
theorem dL_act_276 : decode cL_act 276 = .ok (.goto 62, 3) := z_row zl_cL_act 276 4063399 (Nat.le_of_ble_eq_true rfl) (by decide +kernel) z_o167 (by decide +kernel)
theorem dL_act_279 : decode cL_act 279 = .ok (.aload_n 0, 1) := z_row zl_cL_act 279 1383722 (Nat.le_of_ble_eq_true rfl) (by decide +kernel) z_o42 (by decide +kernel)
theorem dL_act_280 : decode cL_act 280 = .ok (.iload_n 3, 1) := z_row zl_cL_act 280 333085 (Nat.le_of_ble_eq_true rfl) (by decide +kernel) z_o29 (by decide +kernel)
theorem dL_act_281 : decode cL_act 281 = .ok (.iload 5, 2) := z_row zl_cL_act 281 1049877 (Nat.le_of_ble_eq_true rfl) (by decide +kernel) z_o21 (by decide +kernel)
theorem dL_act_283 : decode cL_act 283 = .ok (.bipush 8, 2) := z_row zl_cL_act 283 12060688 (Nat.le_of_ble_eq_true rfl) (by decide +kernel) z_o16 (by decide +kernel)
theorem dL_act_285 : decode cL_act 285 = .ok (.invokestatic 18, 3) := z_row zl_cL_act 285 1179832 (Nat.le_of_ble_eq_true rfl) (by decide +kernel) z_o184 (by decide +kernel)
theorem dL_act_288 : decode cL_act 288 = .ok (.iload 6, 2) := z_row zl_cL_act 288 11929109 (Nat.le_of_ble_eq_true rfl) (by decide +kernel) z_o21 (by decide +kernel)
theorem dL_act_290 : decode cL_act 290 = .ok (.invokevirtual 93, 3) := z_row zl_cL_act 290 6095030 (Nat.le_of_ble_eq_true rfl) (by decide +kernel) z_o182 (by decide +kernel)
theorem dL_act_293 : decode cL_act 293 = .ok (.pop, 1) := z_row zl_cL_act 293 42839 (Nat.le_of_ble_eq_true rfl) (by decide +kernel) z_o87 (by decide +kernel)
theorem dL_act_294 : decode cL_act 294 = .ok (.goto 44, 3) := z_row zl_cL_act 294 2883751 (Nat.le_of_ble_eq_true rfl) (by decide +kernel) z_o167 (by decide +kernel)
theorem dL_act_297 : decode cL_act 297 = .ok (.aload_n 0, 1) := z_row zl_cL_act 297 1383722 (Nat.le_of_ble_eq_true rfl) (by decide +kernel) z_o42 (by decide +kernel)
theorem dL_act_298 : decode cL_act 298 = .ok (.iload_n 3, 1) := z_row zl_cL_act 298 333085 (Nat.le_of_ble_eq_true rfl) (by decide +kernel) z_o29 (by decide +kernel)
theorem dL_act_299 : decode cL_act 299 = .ok (.iload 5, 2) := z_row zl_cL_act 299 1049877 (Nat.le_of_ble_eq_true rfl) (by decide +kernel) z_o21 (by decide +kernel)
theorem dL_act_301 : decode cL_act 301 = .ok (.bipush 8, 2) := z_row zl_cL_act 301 12060688 (Nat.le_of_ble_eq_true rfl) (by decide +kernel) z_o16 (by decide +kernel)
theorem dL_act_303 : decode cL_act 303 = .ok (.invokestatic 18, 3) := z_row zl_cL_act 303 1179832 (Nat.le_of_ble_eq_true rfl) (by decide +kernel) z_o184 (by decide +kernel)
theorem dL_act_306 : decode cL_act 306 = .ok (.iload 6, 2) := z_row zl_cL_act 306 1115669 (Nat.le_of_ble_eq_true rfl) (by decide +kernel) z_o21 (by decide +kernel)
theorem dL_act_308 : decode cL_act 308 = .ok (.sipush 128, 3) := z_row zl_cL_act 308 8388625 (Nat.le_of_ble_eq_true rfl) (by decide +kernel) z_o17 (by decide +kernel)
theorem dL_act_311 : decode cL_act 311 = .ok (.invokestatic 18, 3) := z_row zl_cL_act 311 1179832 (Nat.le_of_ble_eq_true rfl) (by decide +kernel) z_o184 (by decide +kernel)
theorem dL_act_314 : decode cL_act 314 = .ok (.invokevirtual 96, 3) := z_row zl_cL_act 314 6291638 (Nat.le_of_ble_eq_true rfl) (by decide +kernel) z_o182 (by decide +kernel)
theorem dL_act_317 : decode cL_act 317 = .ok (.pop, 1) := z_row zl_cL_act 317 42839 (Nat.le_of_ble_eq_true rfl) (by decide +kernel) z_o87 (by decide +kernel)
theorem dL_act_318 : decode cL_act 318 = .ok (.goto 20, 3) := z_row zl_cL_act 318 1310887 (Nat.le_of_ble_eq_true rfl) (by decide +kernel) z_o167 (by decide +kernel)
theorem dL_act_321 : decode cL_act 321 = .ok (.aload_n 0, 1) := z_row zl_cL_act 321 11935018 (Nat.le_of_ble_eq_true rfl) (by decide +kernel) z_o42 (by decide +kernel)
theorem dL_act_322 : decode cL_act 322 = .ok (.iload_n 3, 1) := z_row zl_cL_act 322 46621 (Nat.le_of_ble_eq_true rfl) (by decide +kernel) z_o29 (by decide +kernel)
theorem dL_act_323 : decode cL_act 323 = .ok (.invokevirtual 99, 3) := z_row zl_cL_act 323 6488246 (Nat.le_of_ble_eq_true rfl) (by decide +kernel) z_o182 (by decide +kernel)
theorem dL_act_326 : decode cL_act 326 = .ok (.pop, 1) := z_row zl_cL_act 326 42839 (Nat.le_of_ble_eq_true rfl) (by decide +kernel) z_o87 (by decide +kernel)
theorem dL_act_327 : decode cL_act 327 = .ok (.goto 11, 3) := z_row zl_cL_act 327 721063 (Nat.le_of_ble_eq_true rfl) (by decide +kernel) z_o167 (by decide +kernel)
theorem dL_act_330 : decode cL_act 330 = .ok (.aload_n 0, 1) := z_row zl_cL_act 330 267562 (Nat.le_of_ble_eq_true rfl) (by decide +kernel) z_o42 (by decide +kernel)
theorem dL_act_331 : decode cL_act 331 = .ok (.iload 4, 2) := z_row zl_cL_act 331 1901589 (Nat.le_of_ble_eq_true rfl) (by decide +kernel) z_o21 (by decide +kernel)
theorem dL_act_333 : decode cL_act 333 = .ok (.iload_n 3, 1) := z_row zl_cL_act 333 46621 (Nat.le_of_ble_eq_true rfl) (by decide +kernel) z_o29 (by decide +kernel)
theorem dL_act_334 : decode cL_act 334 = .ok (.invokevirtual 102, 3) := z_row zl_cL_act 334 6684854 (Nat.le_of_ble_eq_true rfl) (by decide +kernel) z_o182 (by decide +kernel)
theorem dL_act_337 : decode cL_act 337 = .ok (.pop, 1) := z_row zl_cL_act 337 42839 (Nat.le_of_ble_eq_true rfl) (by decide +kernel) z_o87 (by decide +kernel)
theorem dL_act_338 : decode cL_act 338 = .ok (.goto 9, 3) := z_row zl_cL_act 338 589991 (Nat.le_of_ble_eq_true rfl) (by decide +kernel) z_o167 (by decide +kernel)
theorem dL_act_341 : decode cL_act 341 = .ok (.astore 9, 2) := z_row zl_cL_act 341 11602234 (Nat.le_of_ble_eq_true rfl) (by decide +kernel) z_o58 (by decide +kernel)
theorem dL_act_343 : decode cL_act 343 = .ok (.return_, 1) := z_row zl_cL_act 343 604849 (Nat.le_of_ble_eq_true rfl) (by decide +kernel) z_o177 (by decide +kernel)
theorem dL_act_344 : decode cL_act 344 = .ok (.astore 9, 2) := z_row zl_cL_act 344 11602234 (Nat.le_of_ble_eq_true rfl) (by decide +kernel) z_o58 (by decide +kernel)
set_option maxRecDepth 100000 in
theorem dL_act_346 : decode cL_act 346 = .ok (.return_, 1) := by decide +kernel
set_option maxRecDepth 100000 in
theorem dL_act_347 : decode cL_act 347 = .ok (.return_, 1) := by decide +kernel
set_option maxRecDepth 100000 in
theorem dL_isField_0 : decode cL_isField 0 = .ok (.aload_n 0, 1) := by decide +kernel
set_option maxRecDepth 100000 in
theorem dL_isField_1 : decode cL_isField 1 = .ok (.iconst 1, 1) := by decide +kernel
set_option maxRecDepth 100000 in
theorem dL_isField_2 : decode cL_isField 2 = .ok (.invokevirtual 38, 3) := by decide +kernel
set_option maxRecDepth 100000 in
theorem dL_isField_5 : decode cL_isField 5 = .ok (.istore 4, 2) := by decide +kernel
set_option maxRecDepth 100000 in
theorem dL_isField_7 : decode cL_isField 7 = .ok (.aload_n 0, 1) := by decide +kernel
set_option maxRecDepth 100000 in
theorem dL_isField_8 : decode cL_isField 8 = .ok (.iload_n 1, 1) := by decide +kernel
set_option maxRecDepth 100000 in
theorem dL_isField_9 : decode cL_isField 9 = .ok (.invokevirtual 109, 3) := by decide +kernel
set_option maxRecDepth 100000 in
theorem dL_isField_12 : decode cL_isField 12 = .ok (.istore 5, 2) := by decide +kernel
set_option maxRecDepth 100000 in
theorem dL_isField_14 : decode cL_isField 14 = .ok (.iload 5, 2) := by decide +kernel
set_option maxRecDepth 100000 in
theorem dL_isField_16 : decode cL_isField 16 = .ok (.bipush (-9), 2) := by decide +kernel
set_option maxRecDepth 100000 in
theorem dL_isField_18 : decode cL_isField 18 = .ok (.if_icmp .ne 7, 3) := by decide +kernel
set_option maxRecDepth 100000 in
theorem dL_isField_21 : decode cL_isField 21 = .ok (.iconst 1, 1) := by decide +kernel
set_option maxRecDepth 100000 in
theorem dL_isField_22 : decode cL_isField 22 = .ok (.goto 4, 3) := by decide +kernel
def zN_cL_isField : Nat := 0xac030400a7040700a08871852600b6052a69857c00b61c2a857c00b61b2a7c00b67300b6031c1b2a2a2a00a0047900b61c1d2aac0305009f7000b61b2a7600b604151b2a1200a0047300b60505151b2a0f009ff71005152500a0030400a70407009a7000b61b2a030400a7040700a0f710051505366d00b61b2a04362600b6042a
set_option maxRecDepth 100000 in
theorem zl_cL_isField : cL_isField.data.toList = z_un 129 zN_cL_isField := eq_of_beq (by decide +kernel)
theorem dL_isField_25 : decode cL_isField 25 = .ok (.iconst 0, 1) := z_row zl_cL_isField 25 1780227 (Nat.le_of_ble_eq_true rfl) (by decide +kernel) z_o3 (by decide +kernel)
theorem dL_isField_26 : decode cL_isField 26 = .ok (.aload_n 0, 1) := z_row zl_cL_isField 26 11934506 (Nat.le_of_ble_eq_true rfl) (by decide +kernel) z_o42 (by decide +kernel)
theorem dL_isField_27 : decode cL_isField 27 = .ok (.iload_n 1, 1) := z_row zl_cL_isField 27 46619 (Nat.le_of_ble_eq_true rfl) (by decide +kernel) z_o27 (by decide +kernel)
theorem dL_isField_28 : decode cL_isField 28 = .ok (.invokevirtual 112, 3) := z_row zl_cL_isField 28 7340214 (Nat.le_of_ble_eq_true rfl) (by decide +kernel) z_o182 (by decide +kernel)
theorem dL_isField_31 : decode cL_isField 31 = .ok (.ifCond .ne 7, 3) := z_row zl_cL_isField 31 458906 (Nat.le_of_ble_eq_true rfl) (by decide +kernel) z_o154 (by decide +kernel)
theorem dL_isField_34 : decode cL_isField 34 = .ok (.iconst 1, 1) := z_row zl_cL_isField 34 42756 (Nat.le_of_ble_eq_true rfl) (by decide +kernel) z_o4 (by decide +kernel)
theorem dL_isField_35 : decode cL_isField 35 = .ok (.goto 4, 3) := z_row zl_cL_isField 35 262311 (Nat.le_of_ble_eq_true rfl) (by decide +kernel) z_o167 (by decide +kernel)
theorem dL_isField_38 : decode cL_isField 38 = .ok (.iconst 0, 1) := z_row zl_cL_isField 38 40963 (Nat.le_of_ble_eq_true rfl) (by decide +kernel) z_o3 (by decide +kernel)
theorem dL_isField_39 : decode cL_isField 39 = .ok (.if_icmp .ne 37, 3) := z_row zl_cL_isField 39 2424992 (Nat.le_of_ble_eq_true rfl) (by decide +kernel) z_o160 (by decide +kernel)
theorem dL_isField_42 : decode cL_isField 42 = .ok (.iload 5, 2) := z_row zl_cL_isField 42 1049877 (Nat.le_of_ble_eq_true rfl) (by decide +kernel) z_o21 (by decide +kernel)
theorem dL_isField_44 : decode cL_isField 44 = .ok (.bipush (-9), 2) := z_row zl_cL_isField 44 10483472 (Nat.le_of_ble_eq_true rfl) (by decide +kernel) z_o16 (by decide +kernel)
theorem dL_isField_46 : decode cL_isField 46 = .ok (.if_icmp .eq 15, 3) := z_row zl_cL_isField 46 983199 (Nat.le_of_ble_eq_true rfl) (by decide +kernel) z_o159 (by decide +kernel)
theorem dL_isField_49 : decode cL_isField 49 = .ok (.aload_n 0, 1) := z_row zl_cL_isField 49 1383210 (Nat.le_of_ble_eq_true rfl) (by decide +kernel) z_o42 (by decide +kernel)
theorem dL_isField_50 : decode cL_isField 50 = .ok (.iload_n 1, 1) := z_row zl_cL_isField 50 333083 (Nat.le_of_ble_eq_true rfl) (by decide +kernel) z_o27 (by decide +kernel)
theorem dL_isField_51 : decode cL_isField 51 = .ok (.iload 5, 2) := z_row zl_cL_isField 51 328981 (Nat.le_of_ble_eq_true rfl) (by decide +kernel) z_o21 (by decide +kernel)
theorem dL_isField_53 : decode cL_isField 53 = .ok (.iconst 2, 1) := z_row zl_cL_isField 53 46597 (Nat.le_of_ble_eq_true rfl) (by decide +kernel) z_o5 (by decide +kernel)
theorem dL_isField_54 : decode cL_isField 54 = .ok (.invokevirtual 115, 3) := z_row zl_cL_isField 54 7536822 (Nat.le_of_ble_eq_true rfl) (by decide +kernel) z_o182 (by decide +kernel)
theorem dL_isField_57 : decode cL_isField 57 = .ok (.iconst 1, 1) := z_row zl_cL_isField 57 40964 (Nat.le_of_ble_eq_true rfl) (by decide +kernel) z_o4 (by decide +kernel)
theorem dL_isField_58 : decode cL_isField 58 = .ok (.if_icmp .ne 18, 3) := z_row zl_cL_isField 58 1179808 (Nat.le_of_ble_eq_true rfl) (by decide +kernel) z_o160 (by decide +kernel)
theorem dL_isField_61 : decode cL_isField 61 = .ok (.aload_n 0, 1) := z_row zl_cL_isField 61 1383210 (Nat.le_of_ble_eq_true rfl) (by decide +kernel) z_o42 (by decide +kernel)
theorem dL_isField_62 : decode cL_isField 62 = .ok (.iload_n 1, 1) := z_row zl_cL_isField 62 267547 (Nat.le_of_ble_eq_true rfl) (by decide +kernel) z_o27 (by decide +kernel)
theorem dL_isField_63 : decode cL_isField 63 = .ok (.iload 4, 2) := z_row zl_cL_isField 63 11928597 (Nat.le_of_ble_eq_true rfl) (by decide +kernel) z_o21 (by decide +kernel)
theorem dL_isField_65 : decode cL_isField 65 = .ok (.invokevirtual 118, 3) := z_row zl_cL_isField 65 7733430 (Nat.le_of_ble_eq_true rfl) (by decide +kernel) z_o182 (by decide +kernel)
theorem dL_isField_68 : decode cL_isField 68 = .ok (.aload_n 0, 1) := z_row zl_cL_isField 68 11934506 (Nat.le_of_ble_eq_true rfl) (by decide +kernel) z_o42 (by decide +kernel)
theorem dL_isField_69 : decode cL_isField 69 = .ok (.iload_n 1, 1) := z_row zl_cL_isField 69 46619 (Nat.le_of_ble_eq_true rfl) (by decide +kernel) z_o27 (by decide +kernel)
theorem dL_isField_70 : decode cL_isField 70 = .ok (.invokevirtual 112, 3) := z_row zl_cL_isField 70 7340214 (Nat.le_of_ble_eq_true rfl) (by decide +kernel) z_o182 (by decide +kernel)
theorem dL_isField_73 : decode cL_isField 73 = .ok (.if_icmp .eq 5, 3) := z_row zl_cL_isField 73 327839 (Nat.le_of_ble_eq_true rfl) (by decide +kernel) z_o159 (by decide +kernel)
theorem dL_isField_76 : decode cL_isField 76 = .ok (.iconst 0, 1) := z_row zl_cL_isField 76 2796547 (Nat.le_of_ble_eq_true rfl) (by decide +kernel) z_o3 (by decide +kernel)
theorem dL_isField_77 : decode cL_isField 77 = .ok (.ireturn, 1) := z_row zl_cL_isField 77 1911468 (Nat.le_of_ble_eq_true rfl) (by decide +kernel) z_o172 (by decide +kernel)
theorem dL_isField_78 : decode cL_isField 78 = .ok (.aload_n 0, 1) := z_row zl_cL_isField 78 1842474 (Nat.le_of_ble_eq_true rfl) (by decide +kernel) z_o42 (by decide +kernel)
theorem dL_isField_79 : decode cL_isField 79 = .ok (.iload_n 3, 1) := z_row zl_cL_isField 79 11934749 (Nat.le_of_ble_eq_true rfl) (by decide +kernel) z_o29 (by decide +kernel)
theorem dL_isField_80 : decode cL_isField 80 = .ok (.iload_n 2, 1) := z_row zl_cL_isField 80 46620 (Nat.le_of_ble_eq_true rfl) (by decide +kernel) z_o28 (by decide +kernel)
theorem dL_isField_81 : decode cL_isField 81 = .ok (.invokevirtual 121, 3) := z_row zl_cL_isField 81 7930038 (Nat.le_of_ble_eq_true rfl) (by decide +kernel) z_o182 (by decide +kernel)
theorem dL_isField_84 : decode cL_isField 84 = .ok (.iconst 1, 1) := z_row zl_cL_isField 84 40964 (Nat.le_of_ble_eq_true rfl) (by decide +kernel) z_o4 (by decide +kernel)
theorem dL_isField_85 : decode cL_isField 85 = .ok (.if_icmp .ne 42, 3) := z_row zl_cL_isField 85 2752672 (Nat.le_of_ble_eq_true rfl) (by decide +kernel) z_o160 (by decide +kernel)
theorem dL_isField_88 : decode cL_isField 88 = .ok (.aload_n 0, 1) := z_row zl_cL_isField 88 1780266 (Nat.le_of_ble_eq_true rfl) (by decide +kernel) z_o42 (by decide +kernel)
theorem dL_isField_89 : decode cL_isField 89 = .ok (.aload_n 0, 1) := z_row zl_cL_isField 89 1841962 (Nat.le_of_ble_eq_true rfl) (by decide +kernel) z_o42 (by decide +kernel)
theorem dL_isField_90 : decode cL_isField 90 = .ok (.iload_n 1, 1) := z_row zl_cL_isField 90 203803 (Nat.le_of_ble_eq_true rfl) (by decide +kernel) z_o27 (by decide +kernel)
theorem dL_isField_91 : decode cL_isField 91 = .ok (.iload_n 2, 1) := z_row zl_cL_isField 91 11928348 (Nat.le_of_ble_eq_true rfl) (by decide +kernel) z_o28 (by decide +kernel)
theorem dL_isField_92 : decode cL_isField 92 = .ok (.iconst 0, 1) := z_row zl_cL_isField 92 46595 (Nat.le_of_ble_eq_true rfl) (by decide +kernel) z_o3 (by decide +kernel)
theorem dL_isField_93 : decode cL_isField 93 = .ok (.invokevirtual 115, 3) := z_row zl_cL_isField 93 7536822 (Nat.le_of_ble_eq_true rfl) (by decide +kernel) z_o182 (by decide +kernel)
theorem dL_isField_96 : decode cL_isField 96 = .ok (.invokevirtual 124, 3) := z_row zl_cL_isField 96 8126646 (Nat.le_of_ble_eq_true rfl) (by decide +kernel) z_o182 (by decide +kernel)
theorem dL_isField_99 : decode cL_isField 99 = .ok (.aload_n 0, 1) := z_row zl_cL_isField 99 11934506 (Nat.le_of_ble_eq_true rfl) (by decide +kernel) z_o42 (by decide +kernel)
theorem dL_isField_100 : decode cL_isField 100 = .ok (.iload_n 1, 1) := z_row zl_cL_isField 100 46619 (Nat.le_of_ble_eq_true rfl) (by decide +kernel) z_o27 (by decide +kernel)
theorem dL_isField_101 : decode cL_isField 101 = .ok (.invokevirtual 124, 3) := z_row zl_cL_isField 101 8126646 (Nat.le_of_ble_eq_true rfl) (by decide +kernel) z_o182 (by decide +kernel)
theorem dL_isField_104 : decode cL_isField 104 = .ok (.i2l, 1) := z_row zl_cL_isField 104 1845893 (Nat.le_of_ble_eq_true rfl) (by decide +kernel) z_o133 (by decide +kernel)
theorem dL_isField_105 : decode cL_isField 105 = .ok (.aload_n 0, 1) := z_row zl_cL_isField 105 11934762 (Nat.le_of_ble_eq_true rfl) (by decide +kernel) z_o42 (by decide +kernel)
theorem dL_isField_106 : decode cL_isField 106 = .ok (.iload_n 2, 1) := z_row zl_cL_isField 106 46620 (Nat.le_of_ble_eq_true rfl) (by decide +kernel) z_o28 (by decide +kernel)
theorem dL_isField_107 : decode cL_isField 107 = .ok (.invokevirtual 124, 3) := z_row zl_cL_isField 107 8126646 (Nat.le_of_ble_eq_true rfl) (by decide +kernel) z_o182 (by decide +kernel)
theorem dL_isField_110 : decode cL_isField 110 = .ok (.i2l, 1) := z_row zl_cL_isField 110 2779525 (Nat.le_of_ble_eq_true rfl) (by decide +kernel) z_o133 (by decide +kernel)
theorem dL_isField_111 : decode cL_isField 111 = .ok (.lmul, 1) := z_row zl_cL_isField 111 338537 (Nat.le_of_ble_eq_true rfl) (by decide +kernel) z_o105 (by decide +kernel)
theorem dL_isField_112 : decode cL_isField 112 = .ok (.aload_n 0, 1) := z_row zl_cL_isField 112 11928874 (Nat.le_of_ble_eq_true rfl) (by decide +kernel) z_o42 (by decide +kernel)
theorem dL_isField_113 : decode cL_isField 113 = .ok (.iconst 2, 1) := z_row zl_cL_isField 113 46597 (Nat.le_of_ble_eq_true rfl) (by decide +kernel) z_o5 (by decide +kernel)
theorem dL_isField_114 : decode cL_isField 114 = .ok (.invokevirtual 38, 3) := z_row zl_cL_isField 114 2490550 (Nat.le_of_ble_eq_true rfl) (by decide +kernel) z_o182 (by decide +kernel)
theorem dL_isField_117 : decode cL_isField 117 = .ok (.i2l, 1) := z_row zl_cL_isField 117 8941957 (Nat.le_of_ble_eq_true rfl) (by decide +kernel) z_o133 (by decide +kernel)
theorem dL_isField_118 : decode cL_isField 118 = .ok (.lrem, 1) := z_row zl_cL_isField 118 10520689 (Nat.le_of_ble_eq_true rfl) (by decide +kernel) z_o113 (by decide +kernel)
theorem dL_isField_119 : decode cL_isField 119 = .ok (.l2i, 1) := z_row zl_cL_isField 119 41096 (Nat.le_of_ble_eq_true rfl) (by decide +kernel) z_o136 (by decide +kernel)
theorem dL_isField_120 : decode cL_isField 120 = .ok (.if_icmp .ne 7, 3) := z_row zl_cL_isField 120 458912 (Nat.le_of_ble_eq_true rfl) (by decide +kernel) z_o160 (by decide +kernel)
theorem dL_isField_123 : decode cL_isField 123 = .ok (.iconst 1, 1) := z_row zl_cL_isField 123 42756 (Nat.le_of_ble_eq_true rfl) (by decide +kernel) z_o4 (by decide +kernel)
theorem dL_isField_124 : decode cL_isField 124 = .ok (.goto 4, 3) := z_row zl_cL_isField 124 262311 (Nat.le_of_ble_eq_true rfl) (by decide +kernel) z_o167 (by decide +kernel)
set_option maxRecDepth 100000 in
theorem dL_isField_127 : decode cL_isField 127 = .ok (.iconst 0, 1) := by decide +kernel
set_option maxRecDepth 100000 in
theorem dL_isField_128 : decode cL_isField 128 = .ok (.ireturn, 1) := by decide +kernel
set_option maxRecDepth 100000 in
theorem dL_isTold_0 : decode cL_isTold 0 = .ok (.aload_n 0, 1) := by decide +kernel
set_option maxRecDepth 100000 in
theorem dL_isTold_1 : decode cL_isTold 1 = .ok (.iload_n 1, 1) := by decide +kernel
set_option maxRecDepth 100000 in
theorem dL_isTold_2 : decode cL_isTold 2 = .ok (.iconst 0, 1) := by decide +kernel
set_option maxRecDepth 100000 in
theorem dL_isTold_3 : decode cL_isTold 3 = .ok (.invokevirtual 127, 3) := by decide +kernel
set_option maxRecDepth 100000 in
theorem dL_isTold_6 : decode cL_isTold 6 = .ok (.istore 5, 2) := by decide +kernel
set_option maxRecDepth 100000 in
theorem dL_isTold_8 : decode cL_isTold 8 = .ok (.iload 5, 2) := by decide +kernel
set_option maxRecDepth 100000 in
theorem dL_isTold_10 : decode cL_isTold 10 = .ok (.ifCond .ge 29, 3) := by decide +kernel
set_option maxRecDepth 100000 in
theorem dL_isTold_13 : decode cL_isTold 13 = .ok (.aload_n 0, 1) := by decide +kernel
set_option maxRecDepth 100000 in
theorem dL_isTold_14 : decode cL_isTold 14 = .ok (.iload_n 1, 1) := by decide +kernel
set_option maxRecDepth 100000 in
theorem dL_isTold_15 : decode cL_isTold 15 = .ok (.invokevirtual 130, 3) := by decide +kernel
set_option maxRecDepth 100000 in
theorem dL_isTold_18 : decode cL_isTold 18 = .ok (.invokevirtual 134, 3) := by decide +kernel
set_option maxRecDepth 100000 in
theorem dL_isTold_21 : decode cL_isTold 21 = .ok (.ifCond .eq 16, 3) := by decide +kernel
def zN_cL_isTold : Nat := 0xac030400a7040700a07c00b67f00b6081b2a2aa100b6031b2a16009907151b00990915ac0305009f047f00b6071b2a0f00990915dfffa7010a8409367e030400a7040700999e00b60a151b2a09151d00a32600b6072a0a150a3604093604ac0405009a7f00b6061b2aac0305009f09159800b604151c1b2a1000a009150815ecffa7010a840936682600b6042a09151300a205150a150a369b00b81c0936043900a305159b00b81c42009b081508369800b61d1c1b2aac0305009f7f00b6081b2a8f00b606151b2a1300a305159500b606151b2a2100990715ac0305009f9200b61d06151b2a9200b61d1c1b2a1500a07f00b6081b2a8f00b61c1b2a26009ff7108f00b61c1b2a31009907150736030400a7040700a405157f00b6041b2a1200a0047f00b6071b2a06367f00b6051b2aac030400a7040700998b00b6081b2a1000998600b68200b61b2a1d009c051505367f00b6031b2a
set_option maxRecDepth 100000 in
theorem zl_cL_isTold : cL_isTold.data.toList = z_un 343 zN_cL_isTold := eq_of_beq (by decide +kernel)
theorem dL_isTold_24 : decode cL_isTold 24 = .ok (.aload_n 0, 1) := z_row zl_cL_isTold 24 531242 (Nat.le_of_ble_eq_true rfl) (by decide +kernel) z_o42 (by decide +kernel)
theorem dL_isTold_25 : decode cL_isTold 25 = .ok (.iload_n 1, 1) := z_row zl_cL_isTold 25 11929627 (Nat.le_of_ble_eq_true rfl) (by decide +kernel) z_o27 (by decide +kernel)
theorem dL_isTold_26 : decode cL_isTold 26 = .ok (.iconst 5, 1) := z_row zl_cL_isTold 26 46600 (Nat.le_of_ble_eq_true rfl) (by decide +kernel) z_o8 (by decide +kernel)
theorem dL_isTold_27 : decode cL_isTold 27 = .ok (.invokevirtual 139, 3) := z_row zl_cL_isTold 27 9109686 (Nat.le_of_ble_eq_true rfl) (by decide +kernel) z_o182 (by decide +kernel)
theorem dL_isTold_30 : decode cL_isTold 30 = .ok (.ifCond .eq 7, 3) := z_row zl_cL_isTold 30 458905 (Nat.le_of_ble_eq_true rfl) (by decide +kernel) z_o153 (by decide +kernel)
theorem dL_isTold_33 : decode cL_isTold 33 = .ok (.iconst 1, 1) := z_row zl_cL_isTold 33 42756 (Nat.le_of_ble_eq_true rfl) (by decide +kernel) z_o4 (by decide +kernel)
theorem dL_isTold_34 : decode cL_isTold 34 = .ok (.goto 4, 3) := z_row zl_cL_isTold 34 262311 (Nat.le_of_ble_eq_true rfl) (by decide +kernel) z_o167 (by decide +kernel)
theorem dL_isTold_37 : decode cL_isTold 37 = .ok (.iconst 0, 1) := z_row zl_cL_isTold 37 2796547 (Nat.le_of_ble_eq_true rfl) (by decide +kernel) z_o3 (by decide +kernel)
theorem dL_isTold_38 : decode cL_isTold 38 = .ok (.ireturn, 1) := z_row zl_cL_isTold 38 1780396 (Nat.le_of_ble_eq_true rfl) (by decide +kernel) z_o172 (by decide +kernel)
theorem dL_isTold_39 : decode cL_isTold 39 = .ok (.aload_n 0, 1) := z_row zl_cL_isTold 39 334634 (Nat.le_of_ble_eq_true rfl) (by decide +kernel) z_o42 (by decide +kernel)
theorem dL_isTold_40 : decode cL_isTold 40 = .ok (.iload_n 1, 1) := z_row zl_cL_isTold 40 11928859 (Nat.le_of_ble_eq_true rfl) (by decide +kernel) z_o27 (by decide +kernel)
theorem dL_isTold_41 : decode cL_isTold 41 = .ok (.iconst 2, 1) := z_row zl_cL_isTold 41 46597 (Nat.le_of_ble_eq_true rfl) (by decide +kernel) z_o5 (by decide +kernel)
theorem dL_isTold_42 : decode cL_isTold 42 = .ok (.invokevirtual 127, 3) := z_row zl_cL_isTold 42 8323254 (Nat.le_of_ble_eq_true rfl) (by decide +kernel) z_o182 (by decide +kernel)
theorem dL_isTold_45 : decode cL_isTold 45 = .ok (.istore 6, 2) := z_row zl_cL_isTold 45 2754102 (Nat.le_of_ble_eq_true rfl) (by decide +kernel) z_o54 (by decide +kernel)
theorem dL_isTold_47 : decode cL_isTold 47 = .ok (.aload_n 0, 1) := z_row zl_cL_isTold 47 465706 (Nat.le_of_ble_eq_true rfl) (by decide +kernel) z_o42 (by decide +kernel)
theorem dL_isTold_48 : decode cL_isTold 48 = .ok (.iload_n 1, 1) := z_row zl_cL_isTold 48 11929371 (Nat.le_of_ble_eq_true rfl) (by decide +kernel) z_o27 (by decide +kernel)
theorem dL_isTold_49 : decode cL_isTold 49 = .ok (.iconst 4, 1) := z_row zl_cL_isTold 49 46599 (Nat.le_of_ble_eq_true rfl) (by decide +kernel) z_o7 (by decide +kernel)
theorem dL_isTold_50 : decode cL_isTold 50 = .ok (.invokevirtual 127, 3) := z_row zl_cL_isTold 50 8323254 (Nat.le_of_ble_eq_true rfl) (by decide +kernel) z_o182 (by decide +kernel)
theorem dL_isTold_53 : decode cL_isTold 53 = .ok (.iconst 1, 1) := z_row zl_cL_isTold 53 40964 (Nat.le_of_ble_eq_true rfl) (by decide +kernel) z_o4 (by decide +kernel)
theorem dL_isTold_54 : decode cL_isTold 54 = .ok (.if_icmp .ne 18, 3) := z_row zl_cL_isTold 54 1179808 (Nat.le_of_ble_eq_true rfl) (by decide +kernel) z_o160 (by decide +kernel)
theorem dL_isTold_57 : decode cL_isTold 57 = .ok (.aload_n 0, 1) := z_row zl_cL_isTold 57 269098 (Nat.le_of_ble_eq_true rfl) (by decide +kernel) z_o42 (by decide +kernel)
theorem dL_isTold_58 : decode cL_isTold 58 = .ok (.iload_n 1, 1) := z_row zl_cL_isTold 58 11928603 (Nat.le_of_ble_eq_true rfl) (by decide +kernel) z_o27 (by decide +kernel)
theorem dL_isTold_59 : decode cL_isTold 59 = .ok (.iconst 1, 1) := z_row zl_cL_isTold 59 46596 (Nat.le_of_ble_eq_true rfl) (by decide +kernel) z_o4 (by decide +kernel)
theorem dL_isTold_60 : decode cL_isTold 60 = .ok (.invokevirtual 127, 3) := z_row zl_cL_isTold 60 8323254 (Nat.le_of_ble_eq_true rfl) (by decide +kernel) z_o182 (by decide +kernel)
theorem dL_isTold_63 : decode cL_isTold 63 = .ok (.iload 5, 2) := z_row zl_cL_isTold 63 10749205 (Nat.le_of_ble_eq_true rfl) (by decide +kernel) z_o21 (by decide +kernel)
theorem dL_isTold_65 : decode cL_isTold 65 = .ok (.if_icmp .le 7, 3) := z_row zl_cL_isTold 65 458916 (Nat.le_of_ble_eq_true rfl) (by decide +kernel) z_o164 (by decide +kernel)
theorem dL_isTold_68 : decode cL_isTold 68 = .ok (.iconst 1, 1) := z_row zl_cL_isTold 68 42756 (Nat.le_of_ble_eq_true rfl) (by decide +kernel) z_o4 (by decide +kernel)
theorem dL_isTold_69 : decode cL_isTold 69 = .ok (.goto 4, 3) := z_row zl_cL_isTold 69 262311 (Nat.le_of_ble_eq_true rfl) (by decide +kernel) z_o167 (by decide +kernel)
theorem dL_isTold_72 : decode cL_isTold 72 = .ok (.iconst 0, 1) := z_row zl_cL_isTold 72 472579 (Nat.le_of_ble_eq_true rfl) (by decide +kernel) z_o3 (by decide +kernel)
theorem dL_isTold_73 : decode cL_isTold 73 = .ok (.istore 7, 2) := z_row zl_cL_isTold 73 1378102 (Nat.le_of_ble_eq_true rfl) (by decide +kernel) z_o54 (by decide +kernel)
theorem dL_isTold_75 : decode cL_isTold 75 = .ok (.iload 7, 2) := z_row zl_cL_isTold 75 10028821 (Nat.le_of_ble_eq_true rfl) (by decide +kernel) z_o21 (by decide +kernel)
theorem dL_isTold_77 : decode cL_isTold 77 = .ok (.ifCond .eq 49, 3) := z_row zl_cL_isTold 77 3211417 (Nat.le_of_ble_eq_true rfl) (by decide +kernel) z_o153 (by decide +kernel)
theorem dL_isTold_80 : decode cL_isTold 80 = .ok (.aload_n 0, 1) := z_row zl_cL_isTold 80 1841962 (Nat.le_of_ble_eq_true rfl) (by decide +kernel) z_o42 (by decide +kernel)
theorem dL_isTold_81 : decode cL_isTold 81 = .ok (.iload_n 1, 1) := z_row zl_cL_isTold 81 11934747 (Nat.le_of_ble_eq_true rfl) (by decide +kernel) z_o27 (by decide +kernel)
theorem dL_isTold_82 : decode cL_isTold 82 = .ok (.iload_n 2, 1) := z_row zl_cL_isTold 82 46620 (Nat.le_of_ble_eq_true rfl) (by decide +kernel) z_o28 (by decide +kernel)
theorem dL_isTold_83 : decode cL_isTold 83 = .ok (.invokevirtual 143, 3) := z_row zl_cL_isTold 83 9371830 (Nat.le_of_ble_eq_true rfl) (by decide +kernel) z_o182 (by decide +kernel)
theorem dL_isTold_86 : decode cL_isTold 86 = .ok (.bipush (-9), 2) := z_row zl_cL_isTold 86 10483472 (Nat.le_of_ble_eq_true rfl) (by decide +kernel) z_o16 (by decide +kernel)
theorem dL_isTold_88 : decode cL_isTold 88 = .ok (.if_icmp .eq 38, 3) := z_row zl_cL_isTold 88 2490527 (Nat.le_of_ble_eq_true rfl) (by decide +kernel) z_o159 (by decide +kernel)
theorem dL_isTold_91 : decode cL_isTold 91 = .ok (.aload_n 0, 1) := z_row zl_cL_isTold 91 1841962 (Nat.le_of_ble_eq_true rfl) (by decide +kernel) z_o42 (by decide +kernel)
theorem dL_isTold_92 : decode cL_isTold 92 = .ok (.iload_n 1, 1) := z_row zl_cL_isTold 92 11934747 (Nat.le_of_ble_eq_true rfl) (by decide +kernel) z_o27 (by decide +kernel)
theorem dL_isTold_93 : decode cL_isTold 93 = .ok (.iload_n 2, 1) := z_row zl_cL_isTold 93 46620 (Nat.le_of_ble_eq_true rfl) (by decide +kernel) z_o28 (by decide +kernel)
theorem dL_isTold_94 : decode cL_isTold 94 = .ok (.invokevirtual 143, 3) := z_row zl_cL_isTold 94 9371830 (Nat.le_of_ble_eq_true rfl) (by decide +kernel) z_o182 (by decide +kernel)
theorem dL_isTold_97 : decode cL_isTold 97 = .ok (.aload_n 0, 1) := z_row zl_cL_isTold 97 531242 (Nat.le_of_ble_eq_true rfl) (by decide +kernel) z_o42 (by decide +kernel)
theorem dL_isTold_98 : decode cL_isTold 98 = .ok (.iload_n 1, 1) := z_row zl_cL_isTold 98 11929627 (Nat.le_of_ble_eq_true rfl) (by decide +kernel) z_o27 (by decide +kernel)
theorem dL_isTold_99 : decode cL_isTold 99 = .ok (.iconst 5, 1) := z_row zl_cL_isTold 99 46600 (Nat.le_of_ble_eq_true rfl) (by decide +kernel) z_o8 (by decide +kernel)
theorem dL_isTold_100 : decode cL_isTold 100 = .ok (.invokevirtual 127, 3) := z_row zl_cL_isTold 100 8323254 (Nat.le_of_ble_eq_true rfl) (by decide +kernel) z_o182 (by decide +kernel)
theorem dL_isTold_103 : decode cL_isTold 103 = .ok (.if_icmp .ne 21, 3) := z_row zl_cL_isTold 103 1376416 (Nat.le_of_ble_eq_true rfl) (by decide +kernel) z_o160 (by decide +kernel)
theorem dL_isTold_106 : decode cL_isTold 106 = .ok (.aload_n 0, 1) := z_row zl_cL_isTold 106 1841962 (Nat.le_of_ble_eq_true rfl) (by decide +kernel) z_o42 (by decide +kernel)
theorem dL_isTold_107 : decode cL_isTold 107 = .ok (.iload_n 1, 1) := z_row zl_cL_isTold 107 1907739 (Nat.le_of_ble_eq_true rfl) (by decide +kernel) z_o27 (by decide +kernel)
theorem dL_isTold_108 : decode cL_isTold 108 = .ok (.iload_n 2, 1) := z_row zl_cL_isTold 108 11935004 (Nat.le_of_ble_eq_true rfl) (by decide +kernel) z_o28 (by decide +kernel)
theorem dL_isTold_109 : decode cL_isTold 109 = .ok (.iload_n 3, 1) := z_row zl_cL_isTold 109 46621 (Nat.le_of_ble_eq_true rfl) (by decide +kernel) z_o29 (by decide +kernel)
theorem dL_isTold_110 : decode cL_isTold 110 = .ok (.invokevirtual 146, 3) := z_row zl_cL_isTold 110 9568438 (Nat.le_of_ble_eq_true rfl) (by decide +kernel) z_o182 (by decide +kernel)
theorem dL_isTold_113 : decode cL_isTold 113 = .ok (.aload_n 0, 1) := z_row zl_cL_isTold 113 1383210 (Nat.le_of_ble_eq_true rfl) (by decide +kernel) z_o42 (by decide +kernel)
theorem dL_isTold_114 : decode cL_isTold 114 = .ok (.iload_n 1, 1) := z_row zl_cL_isTold 114 398619 (Nat.le_of_ble_eq_true rfl) (by decide +kernel) z_o27 (by decide +kernel)
theorem dL_isTold_115 : decode cL_isTold 115 = .ok (.iload 6, 2) := z_row zl_cL_isTold 115 1902101 (Nat.le_of_ble_eq_true rfl) (by decide +kernel) z_o21 (by decide +kernel)
theorem dL_isTold_117 : decode cL_isTold 117 = .ok (.iload_n 3, 1) := z_row zl_cL_isTold 117 46621 (Nat.le_of_ble_eq_true rfl) (by decide +kernel) z_o29 (by decide +kernel)
theorem dL_isTold_118 : decode cL_isTold 118 = .ok (.invokevirtual 146, 3) := z_row zl_cL_isTold 118 9568438 (Nat.le_of_ble_eq_true rfl) (by decide +kernel) z_o182 (by decide +kernel)
theorem dL_isTold_121 : decode cL_isTold 121 = .ok (.if_icmp .eq 5, 3) := z_row zl_cL_isTold 121 327839 (Nat.le_of_ble_eq_true rfl) (by decide +kernel) z_o159 (by decide +kernel)
theorem dL_isTold_124 : decode cL_isTold 124 = .ok (.iconst 0, 1) := z_row zl_cL_isTold 124 1420291 (Nat.le_of_ble_eq_true rfl) (by decide +kernel) z_o3 (by decide +kernel)
theorem dL_isTold_125 : decode cL_isTold 125 = .ok (.ireturn, 1) := z_row zl_cL_isTold 125 464300 (Nat.le_of_ble_eq_true rfl) (by decide +kernel) z_o172 (by decide +kernel)
theorem dL_isTold_126 : decode cL_isTold 126 = .ok (.iload 7, 2) := z_row zl_cL_isTold 126 10028821 (Nat.le_of_ble_eq_true rfl) (by decide +kernel) z_o21 (by decide +kernel)
theorem dL_isTold_128 : decode cL_isTold 128 = .ok (.ifCond .eq 33, 3) := z_row zl_cL_isTold 128 2162841 (Nat.le_of_ble_eq_true rfl) (by decide +kernel) z_o153 (by decide +kernel)
theorem dL_isTold_131 : decode cL_isTold 131 = .ok (.aload_n 0, 1) := z_row zl_cL_isTold 131 1383210 (Nat.le_of_ble_eq_true rfl) (by decide +kernel) z_o42 (by decide +kernel)
theorem dL_isTold_132 : decode cL_isTold 132 = .ok (.iload_n 1, 1) := z_row zl_cL_isTold 132 398619 (Nat.le_of_ble_eq_true rfl) (by decide +kernel) z_o27 (by decide +kernel)
theorem dL_isTold_133 : decode cL_isTold 133 = .ok (.iload 6, 2) := z_row zl_cL_isTold 133 11929109 (Nat.le_of_ble_eq_true rfl) (by decide +kernel) z_o21 (by decide +kernel)
theorem dL_isTold_135 : decode cL_isTold 135 = .ok (.invokevirtual 149, 3) := z_row zl_cL_isTold 135 9765046 (Nat.le_of_ble_eq_true rfl) (by decide +kernel) z_o182 (by decide +kernel)
theorem dL_isTold_138 : decode cL_isTold 138 = .ok (.iload 5, 2) := z_row zl_cL_isTold 138 10683669 (Nat.le_of_ble_eq_true rfl) (by decide +kernel) z_o21 (by decide +kernel)
theorem dL_isTold_140 : decode cL_isTold 140 = .ok (.if_icmp .gt 19, 3) := z_row zl_cL_isTold 140 1245347 (Nat.le_of_ble_eq_true rfl) (by decide +kernel) z_o163 (by decide +kernel)
theorem dL_isTold_143 : decode cL_isTold 143 = .ok (.aload_n 0, 1) := z_row zl_cL_isTold 143 1383210 (Nat.le_of_ble_eq_true rfl) (by decide +kernel) z_o42 (by decide +kernel)
theorem dL_isTold_144 : decode cL_isTold 144 = .ok (.iload_n 1, 1) := z_row zl_cL_isTold 144 398619 (Nat.le_of_ble_eq_true rfl) (by decide +kernel) z_o27 (by decide +kernel)
theorem dL_isTold_145 : decode cL_isTold 145 = .ok (.iload 6, 2) := z_row zl_cL_isTold 145 11929109 (Nat.le_of_ble_eq_true rfl) (by decide +kernel) z_o21 (by decide +kernel)
theorem dL_isTold_147 : decode cL_isTold 147 = .ok (.invokevirtual 143, 3) := z_row zl_cL_isTold 147 9371830 (Nat.le_of_ble_eq_true rfl) (by decide +kernel) z_o182 (by decide +kernel)
theorem dL_isTold_150 : decode cL_isTold 150 = .ok (.aload_n 0, 1) := z_row zl_cL_isTold 150 531242 (Nat.le_of_ble_eq_true rfl) (by decide +kernel) z_o42 (by decide +kernel)
theorem dL_isTold_151 : decode cL_isTold 151 = .ok (.iload_n 1, 1) := z_row zl_cL_isTold 151 11929627 (Nat.le_of_ble_eq_true rfl) (by decide +kernel) z_o27 (by decide +kernel)
theorem dL_isTold_152 : decode cL_isTold 152 = .ok (.iconst 5, 1) := z_row zl_cL_isTold 152 46600 (Nat.le_of_ble_eq_true rfl) (by decide +kernel) z_o8 (by decide +kernel)
theorem dL_isTold_153 : decode cL_isTold 153 = .ok (.invokevirtual 127, 3) := z_row zl_cL_isTold 153 8323254 (Nat.le_of_ble_eq_true rfl) (by decide +kernel) z_o182 (by decide +kernel)
theorem dL_isTold_156 : decode cL_isTold 156 = .ok (.if_icmp .eq 5, 3) := z_row zl_cL_isTold 156 327839 (Nat.le_of_ble_eq_true rfl) (by decide +kernel) z_o159 (by decide +kernel)
theorem dL_isTold_159 : decode cL_isTold 159 = .ok (.iconst 0, 1) := z_row zl_cL_isTold 159 2796547 (Nat.le_of_ble_eq_true rfl) (by decide +kernel) z_o3 (by decide +kernel)
theorem dL_isTold_160 : decode cL_isTold 160 = .ok (.ireturn, 1) := z_row zl_cL_isTold 160 1780396 (Nat.le_of_ble_eq_true rfl) (by decide +kernel) z_o172 (by decide +kernel)
theorem dL_isTold_161 : decode cL_isTold 161 = .ok (.aload_n 0, 1) := z_row zl_cL_isTold 161 1841962 (Nat.le_of_ble_eq_true rfl) (by decide +kernel) z_o42 (by decide +kernel)
theorem dL_isTold_162 : decode cL_isTold 162 = .ok (.iload_n 1, 1) := z_row zl_cL_isTold 162 1907739 (Nat.le_of_ble_eq_true rfl) (by decide +kernel) z_o27 (by decide +kernel)
theorem dL_isTold_163 : decode cL_isTold 163 = .ok (.iload_n 2, 1) := z_row zl_cL_isTold 163 11935004 (Nat.le_of_ble_eq_true rfl) (by decide +kernel) z_o28 (by decide +kernel)
theorem dL_isTold_164 : decode cL_isTold 164 = .ok (.iload_n 3, 1) := z_row zl_cL_isTold 164 46621 (Nat.le_of_ble_eq_true rfl) (by decide +kernel) z_o29 (by decide +kernel)
theorem dL_isTold_165 : decode cL_isTold 165 = .ok (.invokevirtual 152, 3) := z_row zl_cL_isTold 165 9961654 (Nat.le_of_ble_eq_true rfl) (by decide +kernel) z_o182 (by decide +kernel)
theorem dL_isTold_168 : decode cL_isTold 168 = .ok (.istore 8, 2) := z_row zl_cL_isTold 168 1378358 (Nat.le_of_ble_eq_true rfl) (by decide +kernel) z_o54 (by decide +kernel)
theorem dL_isTold_170 : decode cL_isTold 170 = .ok (.iload 8, 2) := z_row zl_cL_isTold 170 10160149 (Nat.le_of_ble_eq_true rfl) (by decide +kernel) z_o21 (by decide +kernel)
theorem dL_isTold_172 : decode cL_isTold 172 = .ok (.ifCond .lt 66, 3) := z_row zl_cL_isTold 172 4325531 (Nat.le_of_ble_eq_true rfl) (by decide +kernel) z_o155 (by decide +kernel)
theorem dL_isTold_175 : decode cL_isTold 175 = .ok (.iload_n 2, 1) := z_row zl_cL_isTold 175 47132 (Nat.le_of_ble_eq_true rfl) (by decide +kernel) z_o28 (by decide +kernel)
theorem dL_isTold_176 : decode cL_isTold 176 = .ok (.invokestatic 155, 3) := z_row zl_cL_isTold 176 10158264 (Nat.le_of_ble_eq_true rfl) (by decide +kernel) z_o184 (by decide +kernel)
theorem dL_isTold_179 : decode cL_isTold 179 = .ok (.iload 5, 2) := z_row zl_cL_isTold 179 10683669 (Nat.le_of_ble_eq_true rfl) (by decide +kernel) z_o21 (by decide +kernel)
theorem dL_isTold_181 : decode cL_isTold 181 = .ok (.if_icmp .gt 57, 3) := z_row zl_cL_isTold 181 3735715 (Nat.le_of_ble_eq_true rfl) (by decide +kernel) z_o163 (by decide +kernel)
theorem dL_isTold_184 : decode cL_isTold 184 = .ok (.iconst 1, 1) := z_row zl_cL_isTold 184 603652 (Nat.le_of_ble_eq_true rfl) (by decide +kernel) z_o4 (by decide +kernel)
theorem dL_isTold_185 : decode cL_isTold 185 = .ok (.istore 9, 2) := z_row zl_cL_isTold 185 1837366 (Nat.le_of_ble_eq_true rfl) (by decide +kernel) z_o54 (by decide +kernel)
theorem dL_isTold_187 : decode cL_isTold 187 = .ok (.iload_n 2, 1) := z_row zl_cL_isTold 187 47132 (Nat.le_of_ble_eq_true rfl) (by decide +kernel) z_o28 (by decide +kernel)
theorem dL_isTold_188 : decode cL_isTold 188 = .ok (.invokestatic 155, 3) := z_row zl_cL_isTold 188 10158264 (Nat.le_of_ble_eq_true rfl) (by decide +kernel) z_o184 (by decide +kernel)
theorem dL_isTold_191 : decode cL_isTold 191 = .ok (.istore 10, 2) := z_row zl_cL_isTold 191 1378870 (Nat.le_of_ble_eq_true rfl) (by decide +kernel) z_o54 (by decide +kernel)
theorem dL_isTold_193 : decode cL_isTold 193 = .ok (.iload 10, 2) := z_row zl_cL_isTold 193 1378837 (Nat.le_of_ble_eq_true rfl) (by decide +kernel) z_o21 (by decide +kernel)
theorem dL_isTold_195 : decode cL_isTold 195 = .ok (.iload 5, 2) := z_row zl_cL_isTold 195 10618133 (Nat.le_of_ble_eq_true rfl) (by decide +kernel) z_o21 (by decide +kernel)
theorem dL_isTold_197 : decode cL_isTold 197 = .ok (.if_icmp .ge 19, 3) := z_row zl_cL_isTold 197 1245346 (Nat.le_of_ble_eq_true rfl) (by decide +kernel) z_o162 (by decide +kernel)
theorem dL_isTold_200 : decode cL_isTold 200 = .ok (.iload 9, 2) := z_row zl_cL_isTold 200 2754837 (Nat.le_of_ble_eq_true rfl) (by decide +kernel) z_o21 (by decide +kernel)
theorem dL_isTold_202 : decode cL_isTold 202 = .ok (.aload_n 0, 1) := z_row zl_cL_isTold 202 11928618 (Nat.le_of_ble_eq_true rfl) (by decide +kernel) z_o42 (by decide +kernel)
theorem dL_isTold_203 : decode cL_isTold 203 = .ok (.iconst 1, 1) := z_row zl_cL_isTold 203 46596 (Nat.le_of_ble_eq_true rfl) (by decide +kernel) z_o4 (by decide +kernel)
theorem dL_isTold_204 : decode cL_isTold 204 = .ok (.invokevirtual 38, 3) := z_row zl_cL_isTold 204 2490550 (Nat.le_of_ble_eq_true rfl) (by decide +kernel) z_o182 (by decide +kernel)
theorem dL_isTold_207 : decode cL_isTold 207 = .ok (.imul, 1) := z_row zl_cL_isTold 207 603752 (Nat.le_of_ble_eq_true rfl) (by decide +kernel) z_o104 (by decide +kernel)
theorem dL_isTold_208 : decode cL_isTold 208 = .ok (.istore 9, 2) := z_row zl_cL_isTold 208 8653110 (Nat.le_of_ble_eq_true rfl) (by decide +kernel) z_o54 (by decide +kernel)
theorem dL_isTold_210 : decode cL_isTold 210 = .ok (.iinc 10 1, 3) := z_row zl_cL_isTold 210 68228 (Nat.le_of_ble_eq_true rfl) (by decide +kernel) z_o132 (by decide +kernel)
theorem dL_isTold_213 : decode cL_isTold 213 = .ok (.goto (-20), 3) := z_row zl_cL_isTold 213 15531943 (Nat.le_of_ble_eq_true rfl) (by decide +kernel) z_o167 (by decide +kernel)
theorem dL_isTold_216 : decode cL_isTold 216 = .ok (.iload 8, 2) := z_row zl_cL_isTold 216 1378325 (Nat.le_of_ble_eq_true rfl) (by decide +kernel) z_o21 (by decide +kernel)
theorem dL_isTold_218 : decode cL_isTold 218 = .ok (.iload 9, 2) := z_row zl_cL_isTold 218 10488085 (Nat.le_of_ble_eq_true rfl) (by decide +kernel) z_o21 (by decide +kernel)
theorem dL_isTold_220 : decode cL_isTold 220 = .ok (.if_icmp .ne 16, 3) := z_row zl_cL_isTold 220 1048736 (Nat.le_of_ble_eq_true rfl) (by decide +kernel) z_o160 (by decide +kernel)
theorem dL_isTold_223 : decode cL_isTold 223 = .ok (.aload_n 0, 1) := z_row zl_cL_isTold 223 1841962 (Nat.le_of_ble_eq_true rfl) (by decide +kernel) z_o42 (by decide +kernel)
theorem dL_isTold_224 : decode cL_isTold 224 = .ok (.iload_n 1, 1) := z_row zl_cL_isTold 224 1383451 (Nat.le_of_ble_eq_true rfl) (by decide +kernel) z_o27 (by decide +kernel)
theorem dL_isTold_225 : decode cL_isTold 225 = .ok (.iload_n 2, 1) := z_row zl_cL_isTold 225 267548 (Nat.le_of_ble_eq_true rfl) (by decide +kernel) z_o28 (by decide +kernel)
theorem dL_isTold_226 : decode cL_isTold 226 = .ok (.iload 4, 2) := z_row zl_cL_isTold 226 11928597 (Nat.le_of_ble_eq_true rfl) (by decide +kernel) z_o21 (by decide +kernel)
theorem dL_isTold_228 : decode cL_isTold 228 = .ok (.invokevirtual 152, 3) := z_row zl_cL_isTold 228 9961654 (Nat.le_of_ble_eq_true rfl) (by decide +kernel) z_o182 (by decide +kernel)
theorem dL_isTold_231 : decode cL_isTold 231 = .ok (.iload 9, 2) := z_row zl_cL_isTold 231 10422549 (Nat.le_of_ble_eq_true rfl) (by decide +kernel) z_o21 (by decide +kernel)
theorem dL_isTold_233 : decode cL_isTold 233 = .ok (.if_icmp .eq 5, 3) := z_row zl_cL_isTold 233 327839 (Nat.le_of_ble_eq_true rfl) (by decide +kernel) z_o159 (by decide +kernel)
theorem dL_isTold_236 : decode cL_isTold 236 = .ok (.iconst 0, 1) := z_row zl_cL_isTold 236 2796547 (Nat.le_of_ble_eq_true rfl) (by decide +kernel) z_o3 (by decide +kernel)
theorem dL_isTold_237 : decode cL_isTold 237 = .ok (.ireturn, 1) := z_row zl_cL_isTold 237 1780396 (Nat.le_of_ble_eq_true rfl) (by decide +kernel) z_o172 (by decide +kernel)
theorem dL_isTold_238 : decode cL_isTold 238 = .ok (.aload_n 0, 1) := z_row zl_cL_isTold 238 400170 (Nat.le_of_ble_eq_true rfl) (by decide +kernel) z_o42 (by decide +kernel)
theorem dL_isTold_239 : decode cL_isTold 239 = .ok (.iload_n 1, 1) := z_row zl_cL_isTold 239 11929115 (Nat.le_of_ble_eq_true rfl) (by decide +kernel) z_o27 (by decide +kernel)
theorem dL_isTold_240 : decode cL_isTold 240 = .ok (.iconst 3, 1) := z_row zl_cL_isTold 240 46598 (Nat.le_of_ble_eq_true rfl) (by decide +kernel) z_o6 (by decide +kernel)
theorem dL_isTold_241 : decode cL_isTold 241 = .ok (.invokevirtual 127, 3) := z_row zl_cL_isTold 241 8323254 (Nat.le_of_ble_eq_true rfl) (by decide +kernel) z_o182 (by decide +kernel)
theorem dL_isTold_244 : decode cL_isTold 244 = .ok (.ifCond .ne 5, 3) := z_row zl_cL_isTold 244 327834 (Nat.le_of_ble_eq_true rfl) (by decide +kernel) z_o154 (by decide +kernel)
theorem dL_isTold_247 : decode cL_isTold 247 = .ok (.iconst 1, 1) := z_row zl_cL_isTold 247 306180 (Nat.le_of_ble_eq_true rfl) (by decide +kernel) z_o4 (by decide +kernel)
theorem dL_isTold_248 : decode cL_isTold 248 = .ok (.ireturn, 1) := z_row zl_cL_isTold 248 3540140 (Nat.le_of_ble_eq_true rfl) (by decide +kernel) z_o172 (by decide +kernel)
theorem dL_isTold_249 : decode cL_isTold 249 = .ok (.iconst 1, 1) := z_row zl_cL_isTold 249 603652 (Nat.le_of_ble_eq_true rfl) (by decide +kernel) z_o4 (by decide +kernel)
theorem dL_isTold_250 : decode cL_isTold 250 = .ok (.istore 9, 2) := z_row zl_cL_isTold 250 264502 (Nat.le_of_ble_eq_true rfl) (by decide +kernel) z_o54 (by decide +kernel)
theorem dL_isTold_252 : decode cL_isTold 252 = .ok (.iconst 1, 1) := z_row zl_cL_isTold 252 669188 (Nat.le_of_ble_eq_true rfl) (by decide +kernel) z_o4 (by decide +kernel)
theorem dL_isTold_253 : decode cL_isTold 253 = .ok (.istore 10, 2) := z_row zl_cL_isTold 253 1378870 (Nat.le_of_ble_eq_true rfl) (by decide +kernel) z_o54 (by decide +kernel)
theorem dL_isTold_255 : decode cL_isTold 255 = .ok (.iload 10, 2) := z_row zl_cL_isTold 255 2755093 (Nat.le_of_ble_eq_true rfl) (by decide +kernel) z_o21 (by decide +kernel)
theorem dL_isTold_257 : decode cL_isTold 257 = .ok (.aload_n 0, 1) := z_row zl_cL_isTold 257 11929386 (Nat.le_of_ble_eq_true rfl) (by decide +kernel) z_o42 (by decide +kernel)
theorem dL_isTold_258 : decode cL_isTold 258 = .ok (.iconst 4, 1) := z_row zl_cL_isTold 258 46599 (Nat.le_of_ble_eq_true rfl) (by decide +kernel) z_o7 (by decide +kernel)
theorem dL_isTold_259 : decode cL_isTold 259 = .ok (.invokevirtual 38, 3) := z_row zl_cL_isTold 259 2490550 (Nat.le_of_ble_eq_true rfl) (by decide +kernel) z_o182 (by decide +kernel)
theorem dL_isTold_262 : decode cL_isTold 262 = .ok (.if_icmp .gt 29, 3) := z_row zl_cL_isTold 262 1900707 (Nat.le_of_ble_eq_true rfl) (by decide +kernel) z_o163 (by decide +kernel)
theorem dL_isTold_265 : decode cL_isTold 265 = .ok (.iload 9, 2) := z_row zl_cL_isTold 265 2754837 (Nat.le_of_ble_eq_true rfl) (by decide +kernel) z_o21 (by decide +kernel)
theorem dL_isTold_267 : decode cL_isTold 267 = .ok (.aload_n 0, 1) := z_row zl_cL_isTold 267 1383210 (Nat.le_of_ble_eq_true rfl) (by decide +kernel) z_o42 (by decide +kernel)
theorem dL_isTold_268 : decode cL_isTold 268 = .ok (.iload_n 1, 1) := z_row zl_cL_isTold 268 660763 (Nat.le_of_ble_eq_true rfl) (by decide +kernel) z_o27 (by decide +kernel)
theorem dL_isTold_269 : decode cL_isTold 269 = .ok (.iload 10, 2) := z_row zl_cL_isTold 269 11930133 (Nat.le_of_ble_eq_true rfl) (by decide +kernel) z_o21 (by decide +kernel)
theorem dL_isTold_271 : decode cL_isTold 271 = .ok (.invokevirtual 158, 3) := z_row zl_cL_isTold 271 10354870 (Nat.le_of_ble_eq_true rfl) (by decide +kernel) z_o182 (by decide +kernel)
theorem dL_isTold_274 : decode cL_isTold 274 = .ok (.ifCond .eq 7, 3) := z_row zl_cL_isTold 274 458905 (Nat.le_of_ble_eq_true rfl) (by decide +kernel) z_o153 (by decide +kernel)
theorem dL_isTold_277 : decode cL_isTold 277 = .ok (.iconst 1, 1) := z_row zl_cL_isTold 277 42756 (Nat.le_of_ble_eq_true rfl) (by decide +kernel) z_o4 (by decide +kernel)
theorem dL_isTold_278 : decode cL_isTold 278 = .ok (.goto 4, 3) := z_row zl_cL_isTold 278 262311 (Nat.le_of_ble_eq_true rfl) (by decide +kernel) z_o167 (by decide +kernel)
theorem dL_isTold_281 : decode cL_isTold 281 = .ok (.iconst 0, 1) := z_row zl_cL_isTold 281 3571203 (Nat.le_of_ble_eq_true rfl) (by decide +kernel) z_o3 (by decide +kernel)
theorem dL_isTold_282 : decode cL_isTold 282 = .ok (.iand, 1) := z_row zl_cL_isTold 282 603774 (Nat.le_of_ble_eq_true rfl) (by decide +kernel) z_o126 (by decide +kernel)
theorem dL_isTold_283 : decode cL_isTold 283 = .ok (.istore 9, 2) := z_row zl_cL_isTold 283 8653110 (Nat.le_of_ble_eq_true rfl) (by decide +kernel) z_o54 (by decide +kernel)
theorem dL_isTold_285 : decode cL_isTold 285 = .ok (.iinc 10 1, 3) := z_row zl_cL_isTold 285 68228 (Nat.le_of_ble_eq_true rfl) (by decide +kernel) z_o132 (by decide +kernel)
theorem dL_isTold_288 : decode cL_isTold 288 = .ok (.goto (-33), 3) := z_row zl_cL_isTold 288 14679975 (Nat.le_of_ble_eq_true rfl) (by decide +kernel) z_o167 (by decide +kernel)
theorem dL_isTold_291 : decode cL_isTold 291 = .ok (.iload 9, 2) := z_row zl_cL_isTold 291 10029333 (Nat.le_of_ble_eq_true rfl) (by decide +kernel) z_o21 (by decide +kernel)
theorem dL_isTold_293 : decode cL_isTold 293 = .ok (.ifCond .eq 15, 3) := z_row zl_cL_isTold 293 983193 (Nat.le_of_ble_eq_true rfl) (by decide +kernel) z_o153 (by decide +kernel)
theorem dL_isTold_296 : decode cL_isTold 296 = .ok (.aload_n 0, 1) := z_row zl_cL_isTold 296 465706 (Nat.le_of_ble_eq_true rfl) (by decide +kernel) z_o42 (by decide +kernel)
theorem dL_isTold_297 : decode cL_isTold 297 = .ok (.iload_n 1, 1) := z_row zl_cL_isTold 297 11929371 (Nat.le_of_ble_eq_true rfl) (by decide +kernel) z_o27 (by decide +kernel)
theorem dL_isTold_298 : decode cL_isTold 298 = .ok (.iconst 4, 1) := z_row zl_cL_isTold 298 46599 (Nat.le_of_ble_eq_true rfl) (by decide +kernel) z_o7 (by decide +kernel)
theorem dL_isTold_299 : decode cL_isTold 299 = .ok (.invokevirtual 127, 3) := z_row zl_cL_isTold 299 8323254 (Nat.le_of_ble_eq_true rfl) (by decide +kernel) z_o182 (by decide +kernel)
theorem dL_isTold_302 : decode cL_isTold 302 = .ok (.iconst 1, 1) := z_row zl_cL_isTold 302 40708 (Nat.le_of_ble_eq_true rfl) (by decide +kernel) z_o4 (by decide +kernel)
theorem dL_isTold_303 : decode cL_isTold 303 = .ok (.if_icmp .eq 5, 3) := z_row zl_cL_isTold 303 327839 (Nat.le_of_ble_eq_true rfl) (by decide +kernel) z_o159 (by decide +kernel)
theorem dL_isTold_306 : decode cL_isTold 306 = .ok (.iconst 0, 1) := z_row zl_cL_isTold 306 1420291 (Nat.le_of_ble_eq_true rfl) (by decide +kernel) z_o3 (by decide +kernel)
theorem dL_isTold_307 : decode cL_isTold 307 = .ok (.ireturn, 1) := z_row zl_cL_isTold 307 595372 (Nat.le_of_ble_eq_true rfl) (by decide +kernel) z_o172 (by decide +kernel)
theorem dL_isTold_308 : decode cL_isTold 308 = .ok (.iload 9, 2) := z_row zl_cL_isTold 308 10029333 (Nat.le_of_ble_eq_true rfl) (by decide +kernel) z_o21 (by decide +kernel)
theorem dL_isTold_310 : decode cL_isTold 310 = .ok (.ifCond .eq 27, 3) := z_row zl_cL_isTold 310 1769625 (Nat.le_of_ble_eq_true rfl) (by decide +kernel) z_o153 (by decide +kernel)
theorem dL_isTold_313 : decode cL_isTold 313 = .ok (.iload 7, 2) := z_row zl_cL_isTold 313 10028821 (Nat.le_of_ble_eq_true rfl) (by decide +kernel) z_o21 (by decide +kernel)
theorem dL_isTold_315 : decode cL_isTold 315 = .ok (.ifCond .eq 22, 3) := z_row zl_cL_isTold 315 1441945 (Nat.le_of_ble_eq_true rfl) (by decide +kernel) z_o153 (by decide +kernel)
theorem dL_isTold_318 : decode cL_isTold 318 = .ok (.aload_n 0, 1) := z_row zl_cL_isTold 318 203562 (Nat.le_of_ble_eq_true rfl) (by decide +kernel) z_o42 (by decide +kernel)
theorem dL_isTold_319 : decode cL_isTold 319 = .ok (.iload_n 1, 1) := z_row zl_cL_isTold 319 11928347 (Nat.le_of_ble_eq_true rfl) (by decide +kernel) z_o27 (by decide +kernel)
theorem dL_isTold_320 : decode cL_isTold 320 = .ok (.iconst 0, 1) := z_row zl_cL_isTold 320 46595 (Nat.le_of_ble_eq_true rfl) (by decide +kernel) z_o3 (by decide +kernel)
theorem dL_isTold_321 : decode cL_isTold 321 = .ok (.invokevirtual 161, 3) := z_row zl_cL_isTold 321 10551478 (Nat.le_of_ble_eq_true rfl) (by decide +kernel) z_o182 (by decide +kernel)
theorem dL_isTold_324 : decode cL_isTold 324 = .ok (.aload_n 0, 1) := z_row zl_cL_isTold 324 1780266 (Nat.le_of_ble_eq_true rfl) (by decide +kernel) z_o42 (by decide +kernel)
theorem dL_isTold_325 : decode cL_isTold 325 = .ok (.aload_n 0, 1) := z_row zl_cL_isTold 325 531242 (Nat.le_of_ble_eq_true rfl) (by decide +kernel) z_o42 (by decide +kernel)
theorem dL_isTold_326 : decode cL_isTold 326 = .ok (.iload_n 1, 1) := z_row zl_cL_isTold 326 11929627 (Nat.le_of_ble_eq_true rfl) (by decide +kernel) z_o27 (by decide +kernel)
theorem dL_isTold_327 : decode cL_isTold 327 = .ok (.iconst 5, 1) := z_row zl_cL_isTold 327 46600 (Nat.le_of_ble_eq_true rfl) (by decide +kernel) z_o8 (by decide +kernel)
theorem dL_isTold_328 : decode cL_isTold 328 = .ok (.invokevirtual 127, 3) := z_row zl_cL_isTold 328 8323254 (Nat.le_of_ble_eq_true rfl) (by decide +kernel) z_o182 (by decide +kernel)
theorem dL_isTold_331 : decode cL_isTold 331 = .ok (.invokevirtual 124, 3) := z_row zl_cL_isTold 331 8126646 (Nat.le_of_ble_eq_true rfl) (by decide +kernel) z_o182 (by decide +kernel)
theorem dL_isTold_334 : decode cL_isTold 334 = .ok (.if_icmp .ne 7, 3) := z_row zl_cL_isTold 334 458912 (Nat.le_of_ble_eq_true rfl) (by decide +kernel) z_o160 (by decide +kernel)
theorem dL_isTold_337 : decode cL_isTold 337 = .ok (.iconst 1, 1) := z_row zl_cL_isTold 337 42756 (Nat.le_of_ble_eq_true rfl) (by decide +kernel) z_o4 (by decide +kernel)
theorem dL_isTold_338 : decode cL_isTold 338 = .ok (.goto 4, 3) := z_row zl_cL_isTold 338 262311 (Nat.le_of_ble_eq_true rfl) (by decide +kernel) z_o167 (by decide +kernel)
set_option maxRecDepth 100000 in
theorem dL_isTold_341 : decode cL_isTold 341 = .ok (.iconst 0, 1) := by decide +kernel
set_option maxRecDepth 100000 in
theorem dL_isTold_342 : decode cL_isTold 342 = .ok (.ireturn, 1) := by decide +kernel
set_option maxRecDepth 100000 in
theorem dL_isKept_0 : decode cL_isKept 0 = .ok (.aload_n 0, 1) := by decide +kernel
set_option maxRecDepth 100000 in
theorem dL_isKept_1 : decode cL_isKept 1 = .ok (.iconst 1, 1) := by decide +kernel
set_option maxRecDepth 100000 in
theorem dL_isKept_2 : decode cL_isKept 2 = .ok (.invokevirtual 38, 3) := by decide +kernel
set_option maxRecDepth 100000 in
theorem dL_isKept_5 : decode cL_isKept 5 = .ok (.istore 5, 2) := by decide +kernel
set_option maxRecDepth 100000 in
theorem dL_isKept_7 : decode cL_isKept 7 = .ok (.aload_n 0, 1) := by decide +kernel
set_option maxRecDepth 100000 in
theorem dL_isKept_8 : decode cL_isKept 8 = .ok (.iconst 5, 1) := by decide +kernel
set_option maxRecDepth 100000 in
theorem dL_isKept_9 : decode cL_isKept 9 = .ok (.iload_n 3, 1) := by decide +kernel
set_option maxRecDepth 100000 in
theorem dL_isKept_10 : decode cL_isKept 10 = .ok (.iconst 4, 1) := by decide +kernel
set_option maxRecDepth 100000 in
theorem dL_isKept_11 : decode cL_isKept 11 = .ok (.invokestatic 18, 3) := by decide +kernel
set_option maxRecDepth 100000 in
theorem dL_isKept_14 : decode cL_isKept 14 = .ok (.iload 4, 2) := by decide +kernel
set_option maxRecDepth 100000 in
theorem dL_isKept_16 : decode cL_isKept 16 = .ok (.iload_n 3, 1) := by decide +kernel
set_option maxRecDepth 100000 in
theorem dL_isKept_17 : decode cL_isKept 17 = .ok (.iload 4, 2) := by decide +kernel
set_option maxRecDepth 100000 in
theorem dL_isKept_19 : decode cL_isKept 19 = .ok (.iload_n 3, 1) := by decide +kernel
set_option maxRecDepth 100000 in
theorem dL_isKept_20 : decode cL_isKept 20 = .ok (.invokevirtual 66, 3) := by decide +kernel
set_option maxRecDepth 100000 in
theorem dL_isKept_23 : decode cL_isKept 23 = .ok (.pop, 1) := by decide +kernel
def zN_cL_isKept : Nat := 0xac030400a7040700a0a400b80515698504158507157f00b608082a1c00a0047f00b607082a575400b60804151b2aac0305009fa400b8051561851d8507157f00b608082a1700a0047f00b607082a574600b604151d04151d082a576600b6081b2aac0405009c07150800a0047f00b6071b2a07367f00b6081b2aac0305009f06157f00b608082a0e00a0047f00b607082a1800a02600b6072a5700b604151d1200b8070415081c1b2a32009ff710061506368f00b61c1b2aac0305009f7000b604152a7f00b608082a1200a0047f00b607082a574200b61d04151d04151200b8071d082a05362600b6042a
set_option maxRecDepth 100000 in
theorem zl_cL_isKept : cL_isKept.data.toList = z_un 235 zN_cL_isKept := eq_of_beq (by decide +kernel)
theorem dL_isKept_24 : decode cL_isKept 24 = .ok (.aload_n 0, 1) := z_row zl_cL_isKept 24 460842 (Nat.le_of_ble_eq_true rfl) (by decide +kernel) z_o42 (by decide +kernel)
theorem dL_isKept_25 : decode cL_isKept 25 = .ok (.iconst 5, 1) := z_row zl_cL_isKept 25 11929352 (Nat.le_of_ble_eq_true rfl) (by decide +kernel) z_o8 (by decide +kernel)
theorem dL_isKept_26 : decode cL_isKept 26 = .ok (.iconst 4, 1) := z_row zl_cL_isKept 26 46599 (Nat.le_of_ble_eq_true rfl) (by decide +kernel) z_o7 (by decide +kernel)
theorem dL_isKept_27 : decode cL_isKept 27 = .ok (.invokevirtual 127, 3) := z_row zl_cL_isKept 27 8323254 (Nat.le_of_ble_eq_true rfl) (by decide +kernel) z_o182 (by decide +kernel)
theorem dL_isKept_30 : decode cL_isKept 30 = .ok (.iconst 1, 1) := z_row zl_cL_isKept 30 40964 (Nat.le_of_ble_eq_true rfl) (by decide +kernel) z_o4 (by decide +kernel)
theorem dL_isKept_31 : decode cL_isKept 31 = .ok (.if_icmp .ne 18, 3) := z_row zl_cL_isKept 31 1179808 (Nat.le_of_ble_eq_true rfl) (by decide +kernel) z_o160 (by decide +kernel)
theorem dL_isKept_34 : decode cL_isKept 34 = .ok (.aload_n 0, 1) := z_row zl_cL_isKept 34 526378 (Nat.le_of_ble_eq_true rfl) (by decide +kernel) z_o42 (by decide +kernel)
theorem dL_isKept_35 : decode cL_isKept 35 = .ok (.iconst 5, 1) := z_row zl_cL_isKept 35 11929608 (Nat.le_of_ble_eq_true rfl) (by decide +kernel) z_o8 (by decide +kernel)
theorem dL_isKept_36 : decode cL_isKept 36 = .ok (.iconst 5, 1) := z_row zl_cL_isKept 36 46600 (Nat.le_of_ble_eq_true rfl) (by decide +kernel) z_o8 (by decide +kernel)
theorem dL_isKept_37 : decode cL_isKept 37 = .ok (.invokevirtual 127, 3) := z_row zl_cL_isKept 37 8323254 (Nat.le_of_ble_eq_true rfl) (by decide +kernel) z_o182 (by decide +kernel)
theorem dL_isKept_40 : decode cL_isKept 40 = .ok (.aload_n 0, 1) := z_row zl_cL_isKept 40 267562 (Nat.le_of_ble_eq_true rfl) (by decide +kernel) z_o42 (by decide +kernel)
theorem dL_isKept_41 : decode cL_isKept 41 = .ok (.iload 4, 2) := z_row zl_cL_isKept 41 11928597 (Nat.le_of_ble_eq_true rfl) (by decide +kernel) z_o21 (by decide +kernel)
theorem dL_isKept_43 : decode cL_isKept 43 = .ok (.invokevirtual 112, 3) := z_row zl_cL_isKept 43 7340214 (Nat.le_of_ble_eq_true rfl) (by decide +kernel) z_o182 (by decide +kernel)
theorem dL_isKept_46 : decode cL_isKept 46 = .ok (.if_icmp .eq 5, 3) := z_row zl_cL_isKept 46 327839 (Nat.le_of_ble_eq_true rfl) (by decide +kernel) z_o159 (by decide +kernel)
theorem dL_isKept_49 : decode cL_isKept 49 = .ok (.iconst 0, 1) := z_row zl_cL_isKept 49 2796547 (Nat.le_of_ble_eq_true rfl) (by decide +kernel) z_o3 (by decide +kernel)
theorem dL_isKept_50 : decode cL_isKept 50 = .ok (.ireturn, 1) := z_row zl_cL_isKept 50 1780396 (Nat.le_of_ble_eq_true rfl) (by decide +kernel) z_o172 (by decide +kernel)
theorem dL_isKept_51 : decode cL_isKept 51 = .ok (.aload_n 0, 1) := z_row zl_cL_isKept 51 1841962 (Nat.le_of_ble_eq_true rfl) (by decide +kernel) z_o42 (by decide +kernel)
theorem dL_isKept_52 : decode cL_isKept 52 = .ok (.iload_n 1, 1) := z_row zl_cL_isKept 52 11934747 (Nat.le_of_ble_eq_true rfl) (by decide +kernel) z_o27 (by decide +kernel)
theorem dL_isKept_53 : decode cL_isKept 53 = .ok (.iload_n 2, 1) := z_row zl_cL_isKept 53 46620 (Nat.le_of_ble_eq_true rfl) (by decide +kernel) z_o28 (by decide +kernel)
theorem dL_isKept_54 : decode cL_isKept 54 = .ok (.invokevirtual 143, 3) := z_row zl_cL_isKept 54 9371830 (Nat.le_of_ble_eq_true rfl) (by decide +kernel) z_o182 (by decide +kernel)
theorem dL_isKept_57 : decode cL_isKept 57 = .ok (.istore 6, 2) := z_row zl_cL_isKept 57 1377846 (Nat.le_of_ble_eq_true rfl) (by decide +kernel) z_o54 (by decide +kernel)
theorem dL_isKept_59 : decode cL_isKept 59 = .ok (.iload 6, 2) := z_row zl_cL_isKept 59 1050133 (Nat.le_of_ble_eq_true rfl) (by decide +kernel) z_o21 (by decide +kernel)
theorem dL_isKept_61 : decode cL_isKept 61 = .ok (.bipush (-9), 2) := z_row zl_cL_isKept 61 10483472 (Nat.le_of_ble_eq_true rfl) (by decide +kernel) z_o16 (by decide +kernel)
theorem dL_isKept_63 : decode cL_isKept 63 = .ok (.if_icmp .eq 50, 3) := z_row zl_cL_isKept 63 3276959 (Nat.le_of_ble_eq_true rfl) (by decide +kernel) z_o159 (by decide +kernel)
theorem dL_isKept_66 : decode cL_isKept 66 = .ok (.aload_n 0, 1) := z_row zl_cL_isKept 66 1841962 (Nat.le_of_ble_eq_true rfl) (by decide +kernel) z_o42 (by decide +kernel)
theorem dL_isKept_67 : decode cL_isKept 67 = .ok (.iload_n 1, 1) := z_row zl_cL_isKept 67 531483 (Nat.le_of_ble_eq_true rfl) (by decide +kernel) z_o27 (by decide +kernel)
theorem dL_isKept_68 : decode cL_isKept 68 = .ok (.iload_n 2, 1) := z_row zl_cL_isKept 68 1378332 (Nat.le_of_ble_eq_true rfl) (by decide +kernel) z_o28 (by decide +kernel)
theorem dL_isKept_69 : decode cL_isKept 69 = .ok (.iconst 5, 1) := z_row zl_cL_isKept 69 267528 (Nat.le_of_ble_eq_true rfl) (by decide +kernel) z_o8 (by decide +kernel)
theorem dL_isKept_70 : decode cL_isKept 70 = .ok (.iload 4, 2) := z_row zl_cL_isKept 70 459797 (Nat.le_of_ble_eq_true rfl) (by decide +kernel) z_o21 (by decide +kernel)
theorem dL_isKept_72 : decode cL_isKept 72 = .ok (.iconst 4, 1) := z_row zl_cL_isKept 72 47111 (Nat.le_of_ble_eq_true rfl) (by decide +kernel) z_o7 (by decide +kernel)
theorem dL_isKept_73 : decode cL_isKept 73 = .ok (.invokestatic 18, 3) := z_row zl_cL_isKept 73 1179832 (Nat.le_of_ble_eq_true rfl) (by decide +kernel) z_o184 (by decide +kernel)
theorem dL_isKept_76 : decode cL_isKept 76 = .ok (.iload_n 3, 1) := z_row zl_cL_isKept 76 267549 (Nat.le_of_ble_eq_true rfl) (by decide +kernel) z_o29 (by decide +kernel)
theorem dL_isKept_77 : decode cL_isKept 77 = .ok (.iload 4, 2) := z_row zl_cL_isKept 77 11928597 (Nat.le_of_ble_eq_true rfl) (by decide +kernel) z_o21 (by decide +kernel)
theorem dL_isKept_79 : decode cL_isKept 79 = .ok (.invokevirtual 87, 3) := z_row zl_cL_isKept 79 5701814 (Nat.le_of_ble_eq_true rfl) (by decide +kernel) z_o182 (by decide +kernel)
theorem dL_isKept_82 : decode cL_isKept 82 = .ok (.aload_n 0, 1) := z_row zl_cL_isKept 82 11929386 (Nat.le_of_ble_eq_true rfl) (by decide +kernel) z_o42 (by decide +kernel)
theorem dL_isKept_83 : decode cL_isKept 83 = .ok (.iconst 4, 1) := z_row zl_cL_isKept 83 46599 (Nat.le_of_ble_eq_true rfl) (by decide +kernel) z_o7 (by decide +kernel)
theorem dL_isKept_84 : decode cL_isKept 84 = .ok (.invokevirtual 38, 3) := z_row zl_cL_isKept 84 2490550 (Nat.le_of_ble_eq_true rfl) (by decide +kernel) z_o182 (by decide +kernel)
theorem dL_isKept_87 : decode cL_isKept 87 = .ok (.if_icmp .ne 24, 3) := z_row zl_cL_isKept 87 1573024 (Nat.le_of_ble_eq_true rfl) (by decide +kernel) z_o160 (by decide +kernel)
theorem dL_isKept_90 : decode cL_isKept 90 = .ok (.aload_n 0, 1) := z_row zl_cL_isKept 90 460842 (Nat.le_of_ble_eq_true rfl) (by decide +kernel) z_o42 (by decide +kernel)
theorem dL_isKept_91 : decode cL_isKept 91 = .ok (.iconst 5, 1) := z_row zl_cL_isKept 91 11929352 (Nat.le_of_ble_eq_true rfl) (by decide +kernel) z_o8 (by decide +kernel)
theorem dL_isKept_92 : decode cL_isKept 92 = .ok (.iconst 4, 1) := z_row zl_cL_isKept 92 46599 (Nat.le_of_ble_eq_true rfl) (by decide +kernel) z_o7 (by decide +kernel)
theorem dL_isKept_93 : decode cL_isKept 93 = .ok (.invokevirtual 127, 3) := z_row zl_cL_isKept 93 8323254 (Nat.le_of_ble_eq_true rfl) (by decide +kernel) z_o182 (by decide +kernel)
theorem dL_isKept_96 : decode cL_isKept 96 = .ok (.iconst 1, 1) := z_row zl_cL_isKept 96 40964 (Nat.le_of_ble_eq_true rfl) (by decide +kernel) z_o4 (by decide +kernel)
theorem dL_isKept_97 : decode cL_isKept 97 = .ok (.if_icmp .ne 14, 3) := z_row zl_cL_isKept 97 917664 (Nat.le_of_ble_eq_true rfl) (by decide +kernel) z_o160 (by decide +kernel)
theorem dL_isKept_100 : decode cL_isKept 100 = .ok (.aload_n 0, 1) := z_row zl_cL_isKept 100 526378 (Nat.le_of_ble_eq_true rfl) (by decide +kernel) z_o42 (by decide +kernel)
theorem dL_isKept_101 : decode cL_isKept 101 = .ok (.iconst 5, 1) := z_row zl_cL_isKept 101 11929608 (Nat.le_of_ble_eq_true rfl) (by decide +kernel) z_o8 (by decide +kernel)
theorem dL_isKept_102 : decode cL_isKept 102 = .ok (.iconst 5, 1) := z_row zl_cL_isKept 102 46600 (Nat.le_of_ble_eq_true rfl) (by decide +kernel) z_o8 (by decide +kernel)
theorem dL_isKept_103 : decode cL_isKept 103 = .ok (.invokevirtual 127, 3) := z_row zl_cL_isKept 103 8323254 (Nat.le_of_ble_eq_true rfl) (by decide +kernel) z_o182 (by decide +kernel)
theorem dL_isKept_106 : decode cL_isKept 106 = .ok (.iload 6, 2) := z_row zl_cL_isKept 106 10421781 (Nat.le_of_ble_eq_true rfl) (by decide +kernel) z_o21 (by decide +kernel)
theorem dL_isKept_108 : decode cL_isKept 108 = .ok (.if_icmp .eq 5, 3) := z_row zl_cL_isKept 108 327839 (Nat.le_of_ble_eq_true rfl) (by decide +kernel) z_o159 (by decide +kernel)
theorem dL_isKept_111 : decode cL_isKept 111 = .ok (.iconst 0, 1) := z_row zl_cL_isKept 111 2796547 (Nat.le_of_ble_eq_true rfl) (by decide +kernel) z_o3 (by decide +kernel)
theorem dL_isKept_112 : decode cL_isKept 112 = .ok (.ireturn, 1) := z_row zl_cL_isKept 112 1780396 (Nat.le_of_ble_eq_true rfl) (by decide +kernel) z_o172 (by decide +kernel)
theorem dL_isKept_113 : decode cL_isKept 113 = .ok (.aload_n 0, 1) := z_row zl_cL_isKept 113 531242 (Nat.le_of_ble_eq_true rfl) (by decide +kernel) z_o42 (by decide +kernel)
theorem dL_isKept_114 : decode cL_isKept 114 = .ok (.iload_n 1, 1) := z_row zl_cL_isKept 114 11929627 (Nat.le_of_ble_eq_true rfl) (by decide +kernel) z_o27 (by decide +kernel)
theorem dL_isKept_115 : decode cL_isKept 115 = .ok (.iconst 5, 1) := z_row zl_cL_isKept 115 46600 (Nat.le_of_ble_eq_true rfl) (by decide +kernel) z_o8 (by decide +kernel)
theorem dL_isKept_116 : decode cL_isKept 116 = .ok (.invokevirtual 127, 3) := z_row zl_cL_isKept 116 8323254 (Nat.le_of_ble_eq_true rfl) (by decide +kernel) z_o182 (by decide +kernel)
theorem dL_isKept_119 : decode cL_isKept 119 = .ok (.istore 7, 2) := z_row zl_cL_isKept 119 2754358 (Nat.le_of_ble_eq_true rfl) (by decide +kernel) z_o54 (by decide +kernel)
theorem dL_isKept_121 : decode cL_isKept 121 = .ok (.aload_n 0, 1) := z_row zl_cL_isKept 121 465706 (Nat.le_of_ble_eq_true rfl) (by decide +kernel) z_o42 (by decide +kernel)
theorem dL_isKept_122 : decode cL_isKept 122 = .ok (.iload_n 1, 1) := z_row zl_cL_isKept 122 11929371 (Nat.le_of_ble_eq_true rfl) (by decide +kernel) z_o27 (by decide +kernel)
theorem dL_isKept_123 : decode cL_isKept 123 = .ok (.iconst 4, 1) := z_row zl_cL_isKept 123 46599 (Nat.le_of_ble_eq_true rfl) (by decide +kernel) z_o7 (by decide +kernel)
theorem dL_isKept_124 : decode cL_isKept 124 = .ok (.invokevirtual 127, 3) := z_row zl_cL_isKept 124 8323254 (Nat.le_of_ble_eq_true rfl) (by decide +kernel) z_o182 (by decide +kernel)
theorem dL_isKept_127 : decode cL_isKept 127 = .ok (.iconst 1, 1) := z_row zl_cL_isKept 127 40964 (Nat.le_of_ble_eq_true rfl) (by decide +kernel) z_o4 (by decide +kernel)
theorem dL_isKept_128 : decode cL_isKept 128 = .ok (.if_icmp .ne 8, 3) := z_row zl_cL_isKept 128 524448 (Nat.le_of_ble_eq_true rfl) (by decide +kernel) z_o160 (by decide +kernel)
theorem dL_isKept_131 : decode cL_isKept 131 = .ok (.iload 7, 2) := z_row zl_cL_isKept 131 10225429 (Nat.le_of_ble_eq_true rfl) (by decide +kernel) z_o21 (by decide +kernel)
theorem dL_isKept_133 : decode cL_isKept 133 = .ok (.ifCond .ge 5, 3) := z_row zl_cL_isKept 133 327836 (Nat.le_of_ble_eq_true rfl) (by decide +kernel) z_o156 (by decide +kernel)
theorem dL_isKept_136 : decode cL_isKept 136 = .ok (.iconst 1, 1) := z_row zl_cL_isKept 136 2796548 (Nat.le_of_ble_eq_true rfl) (by decide +kernel) z_o4 (by decide +kernel)
theorem dL_isKept_137 : decode cL_isKept 137 = .ok (.ireturn, 1) := z_row zl_cL_isKept 137 1780396 (Nat.le_of_ble_eq_true rfl) (by decide +kernel) z_o172 (by decide +kernel)
theorem dL_isKept_138 : decode cL_isKept 138 = .ok (.aload_n 0, 1) := z_row zl_cL_isKept 138 531242 (Nat.le_of_ble_eq_true rfl) (by decide +kernel) z_o42 (by decide +kernel)
theorem dL_isKept_139 : decode cL_isKept 139 = .ok (.iload_n 1, 1) := z_row zl_cL_isKept 139 11929627 (Nat.le_of_ble_eq_true rfl) (by decide +kernel) z_o27 (by decide +kernel)
theorem dL_isKept_140 : decode cL_isKept 140 = .ok (.iconst 5, 1) := z_row zl_cL_isKept 140 46600 (Nat.le_of_ble_eq_true rfl) (by decide +kernel) z_o8 (by decide +kernel)
theorem dL_isKept_141 : decode cL_isKept 141 = .ok (.invokevirtual 102, 3) := z_row zl_cL_isKept 141 6684854 (Nat.le_of_ble_eq_true rfl) (by decide +kernel) z_o182 (by decide +kernel)
theorem dL_isKept_144 : decode cL_isKept 144 = .ok (.pop, 1) := z_row zl_cL_isKept 144 535127 (Nat.le_of_ble_eq_true rfl) (by decide +kernel) z_o87 (by decide +kernel)
theorem dL_isKept_145 : decode cL_isKept 145 = .ok (.aload_n 0, 1) := z_row zl_cL_isKept 145 1902634 (Nat.le_of_ble_eq_true rfl) (by decide +kernel) z_o42 (by decide +kernel)
theorem dL_isKept_146 : decode cL_isKept 146 = .ok (.iconst 5, 1) := z_row zl_cL_isKept 146 1383688 (Nat.le_of_ble_eq_true rfl) (by decide +kernel) z_o8 (by decide +kernel)
theorem dL_isKept_147 : decode cL_isKept 147 = .ok (.iload_n 3, 1) := z_row zl_cL_isKept 147 267549 (Nat.le_of_ble_eq_true rfl) (by decide +kernel) z_o29 (by decide +kernel)
theorem dL_isKept_148 : decode cL_isKept 148 = .ok (.iload 4, 2) := z_row zl_cL_isKept 148 1901589 (Nat.le_of_ble_eq_true rfl) (by decide +kernel) z_o21 (by decide +kernel)
theorem dL_isKept_150 : decode cL_isKept 150 = .ok (.iload_n 3, 1) := z_row zl_cL_isKept 150 267549 (Nat.le_of_ble_eq_true rfl) (by decide +kernel) z_o29 (by decide +kernel)
theorem dL_isKept_151 : decode cL_isKept 151 = .ok (.iload 4, 2) := z_row zl_cL_isKept 151 11928597 (Nat.le_of_ble_eq_true rfl) (by decide +kernel) z_o21 (by decide +kernel)
theorem dL_isKept_153 : decode cL_isKept 153 = .ok (.invokevirtual 70, 3) := z_row zl_cL_isKept 153 4587702 (Nat.le_of_ble_eq_true rfl) (by decide +kernel) z_o182 (by decide +kernel)
theorem dL_isKept_156 : decode cL_isKept 156 = .ok (.pop, 1) := z_row zl_cL_isKept 156 535127 (Nat.le_of_ble_eq_true rfl) (by decide +kernel) z_o87 (by decide +kernel)
theorem dL_isKept_157 : decode cL_isKept 157 = .ok (.aload_n 0, 1) := z_row zl_cL_isKept 157 460842 (Nat.le_of_ble_eq_true rfl) (by decide +kernel) z_o42 (by decide +kernel)
theorem dL_isKept_158 : decode cL_isKept 158 = .ok (.iconst 5, 1) := z_row zl_cL_isKept 158 11929352 (Nat.le_of_ble_eq_true rfl) (by decide +kernel) z_o8 (by decide +kernel)
theorem dL_isKept_159 : decode cL_isKept 159 = .ok (.iconst 4, 1) := z_row zl_cL_isKept 159 46599 (Nat.le_of_ble_eq_true rfl) (by decide +kernel) z_o7 (by decide +kernel)
theorem dL_isKept_160 : decode cL_isKept 160 = .ok (.invokevirtual 127, 3) := z_row zl_cL_isKept 160 8323254 (Nat.le_of_ble_eq_true rfl) (by decide +kernel) z_o182 (by decide +kernel)
theorem dL_isKept_163 : decode cL_isKept 163 = .ok (.iconst 1, 1) := z_row zl_cL_isKept 163 40964 (Nat.le_of_ble_eq_true rfl) (by decide +kernel) z_o4 (by decide +kernel)
theorem dL_isKept_164 : decode cL_isKept 164 = .ok (.if_icmp .ne 23, 3) := z_row zl_cL_isKept 164 1507488 (Nat.le_of_ble_eq_true rfl) (by decide +kernel) z_o160 (by decide +kernel)
theorem dL_isKept_167 : decode cL_isKept 167 = .ok (.aload_n 0, 1) := z_row zl_cL_isKept 167 526378 (Nat.le_of_ble_eq_true rfl) (by decide +kernel) z_o42 (by decide +kernel)
theorem dL_isKept_168 : decode cL_isKept 168 = .ok (.iconst 5, 1) := z_row zl_cL_isKept 168 11929608 (Nat.le_of_ble_eq_true rfl) (by decide +kernel) z_o8 (by decide +kernel)
theorem dL_isKept_169 : decode cL_isKept 169 = .ok (.iconst 5, 1) := z_row zl_cL_isKept 169 46600 (Nat.le_of_ble_eq_true rfl) (by decide +kernel) z_o8 (by decide +kernel)
theorem dL_isKept_170 : decode cL_isKept 170 = .ok (.invokevirtual 127, 3) := z_row zl_cL_isKept 170 8323254 (Nat.le_of_ble_eq_true rfl) (by decide +kernel) z_o182 (by decide +kernel)
theorem dL_isKept_173 : decode cL_isKept 173 = .ok (.iload 7, 2) := z_row zl_cL_isKept 173 8718101 (Nat.le_of_ble_eq_true rfl) (by decide +kernel) z_o21 (by decide +kernel)
theorem dL_isKept_175 : decode cL_isKept 175 = .ok (.i2l, 1) := z_row zl_cL_isKept 175 8723845 (Nat.le_of_ble_eq_true rfl) (by decide +kernel) z_o133 (by decide +kernel)
theorem dL_isKept_176 : decode cL_isKept 176 = .ok (.iload_n 3, 1) := z_row zl_cL_isKept 176 6391069 (Nat.le_of_ble_eq_true rfl) (by decide +kernel) z_o29 (by decide +kernel)
theorem dL_isKept_177 : decode cL_isKept 177 = .ok (.i2l, 1) := z_row zl_cL_isKept 177 1401221 (Nat.le_of_ble_eq_true rfl) (by decide +kernel) z_o133 (by decide +kernel)
theorem dL_isKept_178 : decode cL_isKept 178 = .ok (.ladd, 1) := z_row zl_cL_isKept 178 333153 (Nat.le_of_ble_eq_true rfl) (by decide +kernel) z_o97 (by decide +kernel)
theorem dL_isKept_179 : decode cL_isKept 179 = .ok (.iload 5, 2) := z_row zl_cL_isKept 179 12059925 (Nat.le_of_ble_eq_true rfl) (by decide +kernel) z_o21 (by decide +kernel)
theorem dL_isKept_181 : decode cL_isKept 181 = .ok (.invokestatic 164, 3) := z_row zl_cL_isKept 181 10748088 (Nat.le_of_ble_eq_true rfl) (by decide +kernel) z_o184 (by decide +kernel)
theorem dL_isKept_184 : decode cL_isKept 184 = .ok (.if_icmp .eq 5, 3) := z_row zl_cL_isKept 184 327839 (Nat.le_of_ble_eq_true rfl) (by decide +kernel) z_o159 (by decide +kernel)
theorem dL_isKept_187 : decode cL_isKept 187 = .ok (.iconst 0, 1) := z_row zl_cL_isKept 187 2796547 (Nat.le_of_ble_eq_true rfl) (by decide +kernel) z_o3 (by decide +kernel)
theorem dL_isKept_188 : decode cL_isKept 188 = .ok (.ireturn, 1) := z_row zl_cL_isKept 188 1780396 (Nat.le_of_ble_eq_true rfl) (by decide +kernel) z_o172 (by decide +kernel)
theorem dL_isKept_189 : decode cL_isKept 189 = .ok (.aload_n 0, 1) := z_row zl_cL_isKept 189 1383210 (Nat.le_of_ble_eq_true rfl) (by decide +kernel) z_o42 (by decide +kernel)
theorem dL_isKept_190 : decode cL_isKept 190 = .ok (.iload_n 1, 1) := z_row zl_cL_isKept 190 267547 (Nat.le_of_ble_eq_true rfl) (by decide +kernel) z_o27 (by decide +kernel)
theorem dL_isKept_191 : decode cL_isKept 191 = .ok (.iload 4, 2) := z_row zl_cL_isKept 191 525333 (Nat.le_of_ble_eq_true rfl) (by decide +kernel) z_o21 (by decide +kernel)
theorem dL_isKept_193 : decode cL_isKept 193 = .ok (.iconst 5, 1) := z_row zl_cL_isKept 193 46600 (Nat.le_of_ble_eq_true rfl) (by decide +kernel) z_o8 (by decide +kernel)
theorem dL_isKept_194 : decode cL_isKept 194 = .ok (.invokevirtual 84, 3) := z_row zl_cL_isKept 194 5505206 (Nat.le_of_ble_eq_true rfl) (by decide +kernel) z_o182 (by decide +kernel)
theorem dL_isKept_197 : decode cL_isKept 197 = .ok (.pop, 1) := z_row zl_cL_isKept 197 535127 (Nat.le_of_ble_eq_true rfl) (by decide +kernel) z_o87 (by decide +kernel)
theorem dL_isKept_198 : decode cL_isKept 198 = .ok (.aload_n 0, 1) := z_row zl_cL_isKept 198 460842 (Nat.le_of_ble_eq_true rfl) (by decide +kernel) z_o42 (by decide +kernel)
theorem dL_isKept_199 : decode cL_isKept 199 = .ok (.iconst 5, 1) := z_row zl_cL_isKept 199 11929352 (Nat.le_of_ble_eq_true rfl) (by decide +kernel) z_o8 (by decide +kernel)
theorem dL_isKept_200 : decode cL_isKept 200 = .ok (.iconst 4, 1) := z_row zl_cL_isKept 200 46599 (Nat.le_of_ble_eq_true rfl) (by decide +kernel) z_o7 (by decide +kernel)
theorem dL_isKept_201 : decode cL_isKept 201 = .ok (.invokevirtual 127, 3) := z_row zl_cL_isKept 201 8323254 (Nat.le_of_ble_eq_true rfl) (by decide +kernel) z_o182 (by decide +kernel)
theorem dL_isKept_204 : decode cL_isKept 204 = .ok (.iconst 1, 1) := z_row zl_cL_isKept 204 40964 (Nat.le_of_ble_eq_true rfl) (by decide +kernel) z_o4 (by decide +kernel)
theorem dL_isKept_205 : decode cL_isKept 205 = .ok (.if_icmp .ne 28, 3) := z_row zl_cL_isKept 205 1835168 (Nat.le_of_ble_eq_true rfl) (by decide +kernel) z_o160 (by decide +kernel)
theorem dL_isKept_208 : decode cL_isKept 208 = .ok (.aload_n 0, 1) := z_row zl_cL_isKept 208 526378 (Nat.le_of_ble_eq_true rfl) (by decide +kernel) z_o42 (by decide +kernel)
theorem dL_isKept_209 : decode cL_isKept 209 = .ok (.iconst 5, 1) := z_row zl_cL_isKept 209 11929608 (Nat.le_of_ble_eq_true rfl) (by decide +kernel) z_o8 (by decide +kernel)
theorem dL_isKept_210 : decode cL_isKept 210 = .ok (.iconst 5, 1) := z_row zl_cL_isKept 210 46600 (Nat.le_of_ble_eq_true rfl) (by decide +kernel) z_o8 (by decide +kernel)
theorem dL_isKept_211 : decode cL_isKept 211 = .ok (.invokevirtual 127, 3) := z_row zl_cL_isKept 211 8323254 (Nat.le_of_ble_eq_true rfl) (by decide +kernel) z_o182 (by decide +kernel)
theorem dL_isKept_214 : decode cL_isKept 214 = .ok (.iload 7, 2) := z_row zl_cL_isKept 214 8718101 (Nat.le_of_ble_eq_true rfl) (by decide +kernel) z_o21 (by decide +kernel)
theorem dL_isKept_216 : decode cL_isKept 216 = .ok (.i2l, 1) := z_row zl_cL_isKept 216 267653 (Nat.le_of_ble_eq_true rfl) (by decide +kernel) z_o133 (by decide +kernel)
theorem dL_isKept_217 : decode cL_isKept 217 = .ok (.iload 4, 2) := z_row zl_cL_isKept 217 8717333 (Nat.le_of_ble_eq_true rfl) (by decide +kernel) z_o21 (by decide +kernel)
theorem dL_isKept_219 : decode cL_isKept 219 = .ok (.i2l, 1) := z_row zl_cL_isKept 219 1403269 (Nat.le_of_ble_eq_true rfl) (by decide +kernel) z_o133 (by decide +kernel)
theorem dL_isKept_220 : decode cL_isKept 220 = .ok (.lmul, 1) := z_row zl_cL_isKept 220 333161 (Nat.le_of_ble_eq_true rfl) (by decide +kernel) z_o105 (by decide +kernel)
theorem dL_isKept_221 : decode cL_isKept 221 = .ok (.iload 5, 2) := z_row zl_cL_isKept 221 12059925 (Nat.le_of_ble_eq_true rfl) (by decide +kernel) z_o21 (by decide +kernel)
theorem dL_isKept_223 : decode cL_isKept 223 = .ok (.invokestatic 164, 3) := z_row zl_cL_isKept 223 10748088 (Nat.le_of_ble_eq_true rfl) (by decide +kernel) z_o184 (by decide +kernel)
theorem dL_isKept_226 : decode cL_isKept 226 = .ok (.if_icmp .ne 7, 3) := z_row zl_cL_isKept 226 458912 (Nat.le_of_ble_eq_true rfl) (by decide +kernel) z_o160 (by decide +kernel)
theorem dL_isKept_229 : decode cL_isKept 229 = .ok (.iconst 1, 1) := z_row zl_cL_isKept 229 42756 (Nat.le_of_ble_eq_true rfl) (by decide +kernel) z_o4 (by decide +kernel)
theorem dL_isKept_230 : decode cL_isKept 230 = .ok (.goto 4, 3) := z_row zl_cL_isKept 230 262311 (Nat.le_of_ble_eq_true rfl) (by decide +kernel) z_o167 (by decide +kernel)
set_option maxRecDepth 100000 in
theorem dL_isKept_233 : decode cL_isKept 233 = .ok (.iconst 0, 1) := by decide +kernel
set_option maxRecDepth 100000 in
theorem dL_isKept_234 : decode cL_isKept 234 = .ok (.ireturn, 1) := by decide +kernel
set_option maxRecDepth 100000 in
theorem dL_isFound_0 : decode cL_isFound 0 = .ok (.aload_n 0, 1) := by decide +kernel
set_option maxRecDepth 100000 in
theorem dL_isFound_1 : decode cL_isFound 1 = .ok (.iload_n 1, 1) := by decide +kernel
set_option maxRecDepth 100000 in
theorem dL_isFound_2 : decode cL_isFound 2 = .ok (.iload_n 2, 1) := by decide +kernel
set_option maxRecDepth 100000 in
theorem dL_isFound_3 : decode cL_isFound 3 = .ok (.invokevirtual 168, 3) := by decide +kernel
set_option maxRecDepth 100000 in
theorem dL_isFound_6 : decode cL_isFound 6 = .ok (.istore 4, 2) := by decide +kernel
set_option maxRecDepth 100000 in
theorem dL_isFound_8 : decode cL_isFound 8 = .ok (.iload 4, 2) := by decide +kernel
set_option maxRecDepth 100000 in
theorem dL_isFound_10 : decode cL_isFound 10 = .ok (.ifCond .lt 13, 3) := by decide +kernel
set_option maxRecDepth 100000 in
theorem dL_isFound_13 : decode cL_isFound 13 = .ok (.aload_n 0, 1) := by decide +kernel
set_option maxRecDepth 100000 in
theorem dL_isFound_14 : decode cL_isFound 14 = .ok (.iload_n 1, 1) := by decide +kernel
set_option maxRecDepth 100000 in
theorem dL_isFound_15 : decode cL_isFound 15 = .ok (.iconst 4, 1) := by decide +kernel
set_option maxRecDepth 100000 in
theorem dL_isFound_16 : decode cL_isFound 16 = .ok (.invokevirtual 127, 3) := by decide +kernel
set_option maxRecDepth 100000 in
theorem dL_isFound_19 : decode cL_isFound 19 = .ok (.iconst 1, 1) := by decide +kernel
set_option maxRecDepth 100000 in
theorem dL_isFound_20 : decode cL_isFound 20 = .ok (.if_icmp .eq 5, 3) := by decide +kernel
set_option maxRecDepth 100000 in
theorem dL_isFound_23 : decode cL_isFound 23 = .ok (.iconst 1, 1) := by decide +kernel
def zN_cL_isFound : Nat := 0xac030400a7040700998b00b6081b2a1000a01c6300b6082a1900a01cae00b6082a2200a07864041c04ab00b6082a2b00a1060515ac0305009f040400a7030700a40405157f00b607082a575d00b6601200b864042600b6042a1d600404151c082a576600b6081b2a0536647f00b6031b2a7f00b6041b2aac0405009f047f00b6071b2a0d009b04150436a800b61c1b2a
set_option maxRecDepth 100000 in
theorem zl_cL_isFound : cL_isFound.data.toList = z_un 144 zN_cL_isFound := eq_of_beq (by decide +kernel)
theorem dL_isFound_24 : decode cL_isFound 24 = .ok (.ireturn, 1) := z_row zl_cL_isFound 24 1780396 (Nat.le_of_ble_eq_true rfl) (by decide +kernel) z_o172 (by decide +kernel)
theorem dL_isFound_25 : decode cL_isFound 25 = .ok (.aload_n 0, 1) := z_row zl_cL_isFound 25 269098 (Nat.le_of_ble_eq_true rfl) (by decide +kernel) z_o42 (by decide +kernel)
theorem dL_isFound_26 : decode cL_isFound 26 = .ok (.iload_n 1, 1) := z_row zl_cL_isFound 26 11928603 (Nat.le_of_ble_eq_true rfl) (by decide +kernel) z_o27 (by decide +kernel)
theorem dL_isFound_27 : decode cL_isFound 27 = .ok (.iconst 1, 1) := z_row zl_cL_isFound 27 46596 (Nat.le_of_ble_eq_true rfl) (by decide +kernel) z_o4 (by decide +kernel)
theorem dL_isFound_28 : decode cL_isFound 28 = .ok (.invokevirtual 127, 3) := z_row zl_cL_isFound 28 8323254 (Nat.le_of_ble_eq_true rfl) (by decide +kernel) z_o182 (by decide +kernel)
theorem dL_isFound_31 : decode cL_isFound 31 = .ok (.aload_n 0, 1) := z_row zl_cL_isFound 31 203562 (Nat.le_of_ble_eq_true rfl) (by decide +kernel) z_o42 (by decide +kernel)
theorem dL_isFound_32 : decode cL_isFound 32 = .ok (.iload_n 1, 1) := z_row zl_cL_isFound 32 11928347 (Nat.le_of_ble_eq_true rfl) (by decide +kernel) z_o27 (by decide +kernel)
theorem dL_isFound_33 : decode cL_isFound 33 = .ok (.iconst 0, 1) := z_row zl_cL_isFound 33 46595 (Nat.le_of_ble_eq_true rfl) (by decide +kernel) z_o3 (by decide +kernel)
theorem dL_isFound_34 : decode cL_isFound 34 = .ok (.invokevirtual 127, 3) := z_row zl_cL_isFound 34 8323254 (Nat.le_of_ble_eq_true rfl) (by decide +kernel) z_o182 (by decide +kernel)
theorem dL_isFound_37 : decode cL_isFound 37 = .ok (.isub, 1) := z_row zl_cL_isFound 37 341604 (Nat.le_of_ble_eq_true rfl) (by decide +kernel) z_o100 (by decide +kernel)
theorem dL_isFound_38 : decode cL_isFound 38 = .ok (.istore 5, 2) := z_row zl_cL_isFound 38 2753846 (Nat.le_of_ble_eq_true rfl) (by decide +kernel) z_o54 (by decide +kernel)
theorem dL_isFound_40 : decode cL_isFound 40 = .ok (.aload_n 0, 1) := z_row zl_cL_isFound 40 531242 (Nat.le_of_ble_eq_true rfl) (by decide +kernel) z_o42 (by decide +kernel)
theorem dL_isFound_41 : decode cL_isFound 41 = .ok (.iload_n 1, 1) := z_row zl_cL_isFound 41 11929627 (Nat.le_of_ble_eq_true rfl) (by decide +kernel) z_o27 (by decide +kernel)
theorem dL_isFound_42 : decode cL_isFound 42 = .ok (.iconst 5, 1) := z_row zl_cL_isFound 42 46600 (Nat.le_of_ble_eq_true rfl) (by decide +kernel) z_o8 (by decide +kernel)
theorem dL_isFound_43 : decode cL_isFound 43 = .ok (.invokevirtual 102, 3) := z_row zl_cL_isFound 43 6684854 (Nat.le_of_ble_eq_true rfl) (by decide +kernel) z_o182 (by decide +kernel)
theorem dL_isFound_46 : decode cL_isFound 46 = .ok (.pop, 1) := z_row zl_cL_isFound 46 535127 (Nat.le_of_ble_eq_true rfl) (by decide +kernel) z_o87 (by decide +kernel)
theorem dL_isFound_47 : decode cL_isFound 47 = .ok (.aload_n 0, 1) := z_row zl_cL_isFound 47 1837098 (Nat.le_of_ble_eq_true rfl) (by decide +kernel) z_o42 (by decide +kernel)
theorem dL_isFound_48 : decode cL_isFound 48 = .ok (.iconst 5, 1) := z_row zl_cL_isFound 48 1383432 (Nat.le_of_ble_eq_true rfl) (by decide +kernel) z_o8 (by decide +kernel)
theorem dL_isFound_49 : decode cL_isFound 49 = .ok (.iload_n 2, 1) := z_row zl_cL_isFound 49 267548 (Nat.le_of_ble_eq_true rfl) (by decide +kernel) z_o28 (by decide +kernel)
theorem dL_isFound_50 : decode cL_isFound 50 = .ok (.iload 4, 2) := z_row zl_cL_isFound 50 263189 (Nat.le_of_ble_eq_true rfl) (by decide +kernel) z_o21 (by decide +kernel)
theorem dL_isFound_52 : decode cL_isFound 52 = .ok (.iconst 1, 1) := z_row zl_cL_isFound 52 1925124 (Nat.le_of_ble_eq_true rfl) (by decide +kernel) z_o4 (by decide +kernel)
theorem dL_isFound_53 : decode cL_isFound 53 = .ok (.iadd, 1) := z_row zl_cL_isFound 53 2760032 (Nat.le_of_ble_eq_true rfl) (by decide +kernel) z_o96 (by decide +kernel)
theorem dL_isFound_54 : decode cL_isFound 54 = .ok (.iload_n 3, 1) := z_row zl_cL_isFound 54 272925 (Nat.le_of_ble_eq_true rfl) (by decide +kernel) z_o29 (by decide +kernel)
theorem dL_isFound_55 : decode cL_isFound 55 = .ok (.aload_n 0, 1) := z_row zl_cL_isFound 55 11928618 (Nat.le_of_ble_eq_true rfl) (by decide +kernel) z_o42 (by decide +kernel)
theorem dL_isFound_56 : decode cL_isFound 56 = .ok (.iconst 1, 1) := z_row zl_cL_isFound 56 46596 (Nat.le_of_ble_eq_true rfl) (by decide +kernel) z_o4 (by decide +kernel)
theorem dL_isFound_57 : decode cL_isFound 57 = .ok (.invokevirtual 38, 3) := z_row zl_cL_isFound 57 2490550 (Nat.le_of_ble_eq_true rfl) (by decide +kernel) z_o182 (by decide +kernel)
theorem dL_isFound_60 : decode cL_isFound 60 = .ok (.iconst 1, 1) := z_row zl_cL_isFound 60 12084228 (Nat.le_of_ble_eq_true rfl) (by decide +kernel) z_o4 (by decide +kernel)
theorem dL_isFound_61 : decode cL_isFound 61 = .ok (.isub, 1) := z_row zl_cL_isFound 61 47204 (Nat.le_of_ble_eq_true rfl) (by decide +kernel) z_o100 (by decide +kernel)
theorem dL_isFound_62 : decode cL_isFound 62 = .ok (.invokestatic 18, 3) := z_row zl_cL_isFound 62 1179832 (Nat.le_of_ble_eq_true rfl) (by decide +kernel) z_o184 (by decide +kernel)
theorem dL_isFound_65 : decode cL_isFound 65 = .ok (.iadd, 1) := z_row zl_cL_isFound 65 46688 (Nat.le_of_ble_eq_true rfl) (by decide +kernel) z_o96 (by decide +kernel)
theorem dL_isFound_66 : decode cL_isFound 66 = .ok (.invokevirtual 93, 3) := z_row zl_cL_isFound 66 6095030 (Nat.le_of_ble_eq_true rfl) (by decide +kernel) z_o182 (by decide +kernel)
theorem dL_isFound_69 : decode cL_isFound 69 = .ok (.pop, 1) := z_row zl_cL_isFound 69 535127 (Nat.le_of_ble_eq_true rfl) (by decide +kernel) z_o87 (by decide +kernel)
theorem dL_isFound_70 : decode cL_isFound 70 = .ok (.aload_n 0, 1) := z_row zl_cL_isFound 70 460842 (Nat.le_of_ble_eq_true rfl) (by decide +kernel) z_o42 (by decide +kernel)
theorem dL_isFound_71 : decode cL_isFound 71 = .ok (.iconst 5, 1) := z_row zl_cL_isFound 71 11929352 (Nat.le_of_ble_eq_true rfl) (by decide +kernel) z_o8 (by decide +kernel)
theorem dL_isFound_72 : decode cL_isFound 72 = .ok (.iconst 4, 1) := z_row zl_cL_isFound 72 46599 (Nat.le_of_ble_eq_true rfl) (by decide +kernel) z_o7 (by decide +kernel)
theorem dL_isFound_73 : decode cL_isFound 73 = .ok (.invokevirtual 127, 3) := z_row zl_cL_isFound 73 8323254 (Nat.le_of_ble_eq_true rfl) (by decide +kernel) z_o182 (by decide +kernel)
theorem dL_isFound_76 : decode cL_isFound 76 = .ok (.iload 5, 2) := z_row zl_cL_isFound 76 263445 (Nat.le_of_ble_eq_true rfl) (by decide +kernel) z_o21 (by decide +kernel)
theorem dL_isFound_78 : decode cL_isFound 78 = .ok (.iconst 1, 1) := z_row zl_cL_isFound 78 41988 (Nat.le_of_ble_eq_true rfl) (by decide +kernel) z_o4 (by decide +kernel)
theorem dL_isFound_79 : decode cL_isFound 79 = .ok (.if_icmp .le 7, 3) := z_row zl_cL_isFound 79 458916 (Nat.le_of_ble_eq_true rfl) (by decide +kernel) z_o164 (by decide +kernel)
theorem dL_isFound_82 : decode cL_isFound 82 = .ok (.iconst 0, 1) := z_row zl_cL_isFound 82 42755 (Nat.le_of_ble_eq_true rfl) (by decide +kernel) z_o3 (by decide +kernel)
theorem dL_isFound_83 : decode cL_isFound 83 = .ok (.goto 4, 3) := z_row zl_cL_isFound 83 262311 (Nat.le_of_ble_eq_true rfl) (by decide +kernel) z_o167 (by decide +kernel)
theorem dL_isFound_86 : decode cL_isFound 86 = .ok (.iconst 1, 1) := z_row zl_cL_isFound 86 40708 (Nat.le_of_ble_eq_true rfl) (by decide +kernel) z_o4 (by decide +kernel)
theorem dL_isFound_87 : decode cL_isFound 87 = .ok (.if_icmp .eq 5, 3) := z_row zl_cL_isFound 87 327839 (Nat.le_of_ble_eq_true rfl) (by decide +kernel) z_o159 (by decide +kernel)
theorem dL_isFound_90 : decode cL_isFound 90 = .ok (.iconst 0, 1) := z_row zl_cL_isFound 90 1420291 (Nat.le_of_ble_eq_true rfl) (by decide +kernel) z_o3 (by decide +kernel)
theorem dL_isFound_91 : decode cL_isFound 91 = .ok (.ireturn, 1) := z_row zl_cL_isFound 91 333228 (Nat.le_of_ble_eq_true rfl) (by decide +kernel) z_o172 (by decide +kernel)
theorem dL_isFound_92 : decode cL_isFound 92 = .ok (.iload 5, 2) := z_row zl_cL_isFound 92 394517 (Nat.le_of_ble_eq_true rfl) (by decide +kernel) z_o21 (by decide +kernel)
theorem dL_isFound_94 : decode cL_isFound 94 = .ok (.iconst 3, 1) := z_row zl_cL_isFound 94 41222 (Nat.le_of_ble_eq_true rfl) (by decide +kernel) z_o6 (by decide +kernel)
theorem dL_isFound_95 : decode cL_isFound 95 = .ok (.if_icmp .lt 43, 3) := z_row zl_cL_isFound 95 2818209 (Nat.le_of_ble_eq_true rfl) (by decide +kernel) z_o161 (by decide +kernel)
theorem dL_isFound_98 : decode cL_isFound 98 = .ok (.aload_n 0, 1) := z_row zl_cL_isFound 98 11929642 (Nat.le_of_ble_eq_true rfl) (by decide +kernel) z_o42 (by decide +kernel)
theorem dL_isFound_99 : decode cL_isFound 99 = .ok (.iconst 5, 1) := z_row zl_cL_isFound 99 46600 (Nat.le_of_ble_eq_true rfl) (by decide +kernel) z_o8 (by decide +kernel)
theorem dL_isFound_100 : decode cL_isFound 100 = .ok (.invokevirtual 171, 3) := z_row zl_cL_isFound 100 11206838 (Nat.le_of_ble_eq_true rfl) (by decide +kernel) z_o182 (by decide +kernel)
theorem dL_isFound_103 : decode cL_isFound 103 = .ok (.iconst 1, 1) := z_row zl_cL_isFound 103 269316 (Nat.le_of_ble_eq_true rfl) (by decide +kernel) z_o4 (by decide +kernel)
theorem dL_isFound_104 : decode cL_isFound 104 = .ok (.iload_n 2, 1) := z_row zl_cL_isFound 104 6554652 (Nat.le_of_ble_eq_true rfl) (by decide +kernel) z_o28 (by decide +kernel)
theorem dL_isFound_105 : decode cL_isFound 105 = .ok (.iconst 1, 1) := z_row zl_cL_isFound 105 7889924 (Nat.le_of_ble_eq_true rfl) (by decide +kernel) z_o4 (by decide +kernel)
theorem dL_isFound_106 : decode cL_isFound 106 = .ok (.isub, 1) := z_row zl_cL_isFound 106 10516580 (Nat.le_of_ble_eq_true rfl) (by decide +kernel) z_o100 (by decide +kernel)
theorem dL_isFound_107 : decode cL_isFound 107 = .ok (.ishl, 1) := z_row zl_cL_isFound 107 41080 (Nat.le_of_ble_eq_true rfl) (by decide +kernel) z_o120 (by decide +kernel)
theorem dL_isFound_108 : decode cL_isFound 108 = .ok (.if_icmp .ne 34, 3) := z_row zl_cL_isFound 108 2228384 (Nat.le_of_ble_eq_true rfl) (by decide +kernel) z_o160 (by decide +kernel)
theorem dL_isFound_111 : decode cL_isFound 111 = .ok (.aload_n 0, 1) := z_row zl_cL_isFound 111 11929642 (Nat.le_of_ble_eq_true rfl) (by decide +kernel) z_o42 (by decide +kernel)
theorem dL_isFound_112 : decode cL_isFound 112 = .ok (.iconst 5, 1) := z_row zl_cL_isFound 112 46600 (Nat.le_of_ble_eq_true rfl) (by decide +kernel) z_o8 (by decide +kernel)
theorem dL_isFound_113 : decode cL_isFound 113 = .ok (.invokevirtual 174, 3) := z_row zl_cL_isFound 113 11403446 (Nat.le_of_ble_eq_true rfl) (by decide +kernel) z_o182 (by decide +kernel)
theorem dL_isFound_116 : decode cL_isFound 116 = .ok (.iload_n 2, 1) := z_row zl_cL_isFound 116 40988 (Nat.le_of_ble_eq_true rfl) (by decide +kernel) z_o28 (by decide +kernel)
theorem dL_isFound_117 : decode cL_isFound 117 = .ok (.if_icmp .ne 25, 3) := z_row zl_cL_isFound 117 1638560 (Nat.le_of_ble_eq_true rfl) (by decide +kernel) z_o160 (by decide +kernel)
theorem dL_isFound_120 : decode cL_isFound 120 = .ok (.aload_n 0, 1) := z_row zl_cL_isFound 120 11929642 (Nat.le_of_ble_eq_true rfl) (by decide +kernel) z_o42 (by decide +kernel)
theorem dL_isFound_121 : decode cL_isFound 121 = .ok (.iconst 5, 1) := z_row zl_cL_isFound 121 46600 (Nat.le_of_ble_eq_true rfl) (by decide +kernel) z_o8 (by decide +kernel)
theorem dL_isFound_122 : decode cL_isFound 122 = .ok (.invokevirtual 99, 3) := z_row zl_cL_isFound 122 6488246 (Nat.le_of_ble_eq_true rfl) (by decide +kernel) z_o182 (by decide +kernel)
theorem dL_isFound_125 : decode cL_isFound 125 = .ok (.iload_n 2, 1) := z_row zl_cL_isFound 125 40988 (Nat.le_of_ble_eq_true rfl) (by decide +kernel) z_o28 (by decide +kernel)
theorem dL_isFound_126 : decode cL_isFound 126 = .ok (.if_icmp .ne 16, 3) := z_row zl_cL_isFound 126 1048736 (Nat.le_of_ble_eq_true rfl) (by decide +kernel) z_o160 (by decide +kernel)
theorem dL_isFound_129 : decode cL_isFound 129 = .ok (.aload_n 0, 1) := z_row zl_cL_isFound 129 531242 (Nat.le_of_ble_eq_true rfl) (by decide +kernel) z_o42 (by decide +kernel)
theorem dL_isFound_130 : decode cL_isFound 130 = .ok (.iload_n 1, 1) := z_row zl_cL_isFound 130 11929627 (Nat.le_of_ble_eq_true rfl) (by decide +kernel) z_o27 (by decide +kernel)
theorem dL_isFound_131 : decode cL_isFound 131 = .ok (.iconst 5, 1) := z_row zl_cL_isFound 131 46600 (Nat.le_of_ble_eq_true rfl) (by decide +kernel) z_o8 (by decide +kernel)
theorem dL_isFound_132 : decode cL_isFound 132 = .ok (.invokevirtual 139, 3) := z_row zl_cL_isFound 132 9109686 (Nat.le_of_ble_eq_true rfl) (by decide +kernel) z_o182 (by decide +kernel)
theorem dL_isFound_135 : decode cL_isFound 135 = .ok (.ifCond .eq 7, 3) := z_row zl_cL_isFound 135 458905 (Nat.le_of_ble_eq_true rfl) (by decide +kernel) z_o153 (by decide +kernel)
theorem dL_isFound_138 : decode cL_isFound 138 = .ok (.iconst 1, 1) := z_row zl_cL_isFound 138 42756 (Nat.le_of_ble_eq_true rfl) (by decide +kernel) z_o4 (by decide +kernel)
theorem dL_isFound_139 : decode cL_isFound 139 = .ok (.goto 4, 3) := z_row zl_cL_isFound 139 262311 (Nat.le_of_ble_eq_true rfl) (by decide +kernel) z_o167 (by decide +kernel)
set_option maxRecDepth 100000 in
theorem dL_isFound_142 : decode cL_isFound 142 = .ok (.iconst 0, 1) := by decide +kernel
set_option maxRecDepth 100000 in
theorem dL_isFound_143 : decode cL_isFound 143 = .ok (.ireturn, 1) := by decide +kernel
set_option maxRecDepth 100000 in
theorem dL_areJoined_0 : decode cL_areJoined 0 = .ok (.aload_n 0, 1) := by decide +kernel
set_option maxRecDepth 100000 in
theorem dL_areJoined_1 : decode cL_areJoined 1 = .ok (.iload_n 1, 1) := by decide +kernel
set_option maxRecDepth 100000 in
theorem dL_areJoined_2 : decode cL_areJoined 2 = .ok (.iconst 4, 1) := by decide +kernel
set_option maxRecDepth 100000 in
theorem dL_areJoined_3 : decode cL_areJoined 3 = .ok (.invokevirtual 127, 3) := by decide +kernel
set_option maxRecDepth 100000 in
theorem dL_areJoined_6 : decode cL_areJoined 6 = .ok (.iconst 1, 1) := by decide +kernel
set_option maxRecDepth 100000 in
theorem dL_areJoined_7 : decode cL_areJoined 7 = .ok (.if_icmp .ne 13, 3) := by decide +kernel
set_option maxRecDepth 100000 in
theorem dL_areJoined_10 : decode cL_areJoined 10 = .ok (.aload_n 0, 1) := by decide +kernel
set_option maxRecDepth 100000 in
theorem dL_areJoined_11 : decode cL_areJoined 11 = .ok (.iload_n 2, 1) := by decide +kernel
set_option maxRecDepth 100000 in
theorem dL_areJoined_12 : decode cL_areJoined 12 = .ok (.iconst 4, 1) := by decide +kernel
set_option maxRecDepth 100000 in
theorem dL_areJoined_13 : decode cL_areJoined 13 = .ok (.invokevirtual 127, 3) := by decide +kernel
set_option maxRecDepth 100000 in
theorem dL_areJoined_16 : decode cL_areJoined 16 = .ok (.iconst 1, 1) := by decide +kernel
set_option maxRecDepth 100000 in
theorem dL_areJoined_17 : decode cL_areJoined 17 = .ok (.if_icmp .eq 5, 3) := by decide +kernel
set_option maxRecDepth 100000 in
theorem dL_areJoined_20 : decode cL_areJoined 20 = .ok (.iconst 1, 1) := by decide +kernel
set_option maxRecDepth 100000 in
theorem dL_areJoined_21 : decode cL_areJoined 21 = .ok (.ireturn, 1) := by decide +kernel
set_option maxRecDepth 100000 in
theorem dL_areJoined_22 : decode cL_areJoined 22 = .ok (.aload_n 0, 1) := by decide +kernel
set_option maxRecDepth 100000 in
theorem dL_areJoined_23 : decode cL_areJoined 23 = .ok (.iconst 1, 1) := by decide +kernel
def zN_cL_areJoined : Nat := 0xac030400a7040700a0a400b81d69091607167f00b608082a1900a0047f00b607082a1f00a460061505150415ac0305009f04155100b6081c1b2aac030400a7040700a0f7105100b6081c1b2a1500a406106006150515ac0305009fa400b81d65091607167f00b608082a1500a0047f00b607082a1f00a004154e00b6081c1b2a92ffa7010b84ac0305009f8871852600b6052a690e160c161000a7020700a406150b150e00a405150b15a100b60b15082a0e3785a100b60b151c2a0b00a70a07009ca100b60b151c2a0c3785a100b60b151b2a0b00a70a07009ca100b60b151b2a6400a0047f00b606082a6e00a2070b150b3603ac0305009fa400b81d61091607167f00b608082a1500a0047f00b607082a1f00a004154a00b6081c1b2a0937857f00b6081c2a0737857f00b6081b2aac040500a3061504150a00a40515041506367f00b6031c2a05367f00b6031b2a04369b00b87e7f00b6051c2a7f00b6051b2a3e2600b6042aac0405009f047f00b6071c2a0d00a0047f00b6071b2a
set_option maxRecDepth 100000 in
theorem zl_cL_areJoined : cL_areJoined.data.toList = z_un 382 zN_cL_areJoined := eq_of_beq (by decide +kernel)
theorem dL_areJoined_24 : decode cL_areJoined 24 = .ok (.invokevirtual 38, 3) := z_row zl_cL_areJoined 24 2490550 (Nat.le_of_ble_eq_true rfl) (by decide +kernel) z_o182 (by decide +kernel)
theorem dL_areJoined_27 : decode cL_areJoined 27 = .ok (.istore_n 3, 1) := z_row zl_cL_areJoined 27 1780286 (Nat.le_of_ble_eq_true rfl) (by decide +kernel) z_o62 (by decide +kernel)
theorem dL_areJoined_28 : decode cL_areJoined 28 = .ok (.aload_n 0, 1) := z_row zl_cL_areJoined 28 334634 (Nat.le_of_ble_eq_true rfl) (by decide +kernel) z_o42 (by decide +kernel)
theorem dL_areJoined_29 : decode cL_areJoined 29 = .ok (.iload_n 1, 1) := z_row zl_cL_areJoined 29 11928859 (Nat.le_of_ble_eq_true rfl) (by decide +kernel) z_o27 (by decide +kernel)
theorem dL_areJoined_30 : decode cL_areJoined 30 = .ok (.iconst 2, 1) := z_row zl_cL_areJoined 30 46597 (Nat.le_of_ble_eq_true rfl) (by decide +kernel) z_o5 (by decide +kernel)
theorem dL_areJoined_31 : decode cL_areJoined 31 = .ok (.invokevirtual 127, 3) := z_row zl_cL_areJoined 31 8323254 (Nat.le_of_ble_eq_true rfl) (by decide +kernel) z_o182 (by decide +kernel)
theorem dL_areJoined_34 : decode cL_areJoined 34 = .ok (.aload_n 0, 1) := z_row zl_cL_areJoined 34 334890 (Nat.le_of_ble_eq_true rfl) (by decide +kernel) z_o42 (by decide +kernel)
theorem dL_areJoined_35 : decode cL_areJoined 35 = .ok (.iload_n 2, 1) := z_row zl_cL_areJoined 35 11928860 (Nat.le_of_ble_eq_true rfl) (by decide +kernel) z_o28 (by decide +kernel)
theorem dL_areJoined_36 : decode cL_areJoined 36 = .ok (.iconst 2, 1) := z_row zl_cL_areJoined 36 46597 (Nat.le_of_ble_eq_true rfl) (by decide +kernel) z_o5 (by decide +kernel)
theorem dL_areJoined_37 : decode cL_areJoined 37 = .ok (.invokevirtual 127, 3) := z_row zl_cL_areJoined 37 8323254 (Nat.le_of_ble_eq_true rfl) (by decide +kernel) z_o182 (by decide +kernel)
theorem dL_areJoined_40 : decode cL_areJoined 40 = .ok (.iand, 1) := z_row zl_cL_areJoined 40 47230 (Nat.le_of_ble_eq_true rfl) (by decide +kernel) z_o126 (by decide +kernel)
theorem dL_areJoined_41 : decode cL_areJoined 41 = .ok (.invokestatic 155, 3) := z_row zl_cL_areJoined 41 10158264 (Nat.le_of_ble_eq_true rfl) (by decide +kernel) z_o184 (by decide +kernel)
theorem dL_areJoined_44 : decode cL_areJoined 44 = .ok (.istore 4, 2) := z_row zl_cL_areJoined 44 2753590 (Nat.le_of_ble_eq_true rfl) (by decide +kernel) z_o54 (by decide +kernel)
theorem dL_areJoined_46 : decode cL_areJoined 46 = .ok (.aload_n 0, 1) := z_row zl_cL_areJoined 46 203562 (Nat.le_of_ble_eq_true rfl) (by decide +kernel) z_o42 (by decide +kernel)
theorem dL_areJoined_47 : decode cL_areJoined 47 = .ok (.iload_n 1, 1) := z_row zl_cL_areJoined 47 11928347 (Nat.le_of_ble_eq_true rfl) (by decide +kernel) z_o27 (by decide +kernel)
theorem dL_areJoined_48 : decode cL_areJoined 48 = .ok (.iconst 0, 1) := z_row zl_cL_areJoined 48 46595 (Nat.le_of_ble_eq_true rfl) (by decide +kernel) z_o3 (by decide +kernel)
theorem dL_areJoined_49 : decode cL_areJoined 49 = .ok (.invokevirtual 127, 3) := z_row zl_cL_areJoined 49 8323254 (Nat.le_of_ble_eq_true rfl) (by decide +kernel) z_o182 (by decide +kernel)
theorem dL_areJoined_52 : decode cL_areJoined 52 = .ok (.istore 5, 2) := z_row zl_cL_areJoined 52 2753846 (Nat.le_of_ble_eq_true rfl) (by decide +kernel) z_o54 (by decide +kernel)
theorem dL_areJoined_54 : decode cL_areJoined 54 = .ok (.aload_n 0, 1) := z_row zl_cL_areJoined 54 203818 (Nat.le_of_ble_eq_true rfl) (by decide +kernel) z_o42 (by decide +kernel)
theorem dL_areJoined_55 : decode cL_areJoined 55 = .ok (.iload_n 2, 1) := z_row zl_cL_areJoined 55 11928348 (Nat.le_of_ble_eq_true rfl) (by decide +kernel) z_o28 (by decide +kernel)
theorem dL_areJoined_56 : decode cL_areJoined 56 = .ok (.iconst 0, 1) := z_row zl_cL_areJoined 56 46595 (Nat.le_of_ble_eq_true rfl) (by decide +kernel) z_o3 (by decide +kernel)
theorem dL_areJoined_57 : decode cL_areJoined 57 = .ok (.invokevirtual 127, 3) := z_row zl_cL_areJoined 57 8323254 (Nat.le_of_ble_eq_true rfl) (by decide +kernel) z_o182 (by decide +kernel)
theorem dL_areJoined_60 : decode cL_areJoined 60 = .ok (.istore 6, 2) := z_row zl_cL_areJoined 60 1377846 (Nat.le_of_ble_eq_true rfl) (by decide +kernel) z_o54 (by decide +kernel)
theorem dL_areJoined_62 : decode cL_areJoined 62 = .ok (.iload 4, 2) := z_row zl_cL_areJoined 62 1377301 (Nat.le_of_ble_eq_true rfl) (by decide +kernel) z_o21 (by decide +kernel)
theorem dL_areJoined_64 : decode cL_areJoined 64 = .ok (.iload 5, 2) := z_row zl_cL_areJoined 64 10749205 (Nat.le_of_ble_eq_true rfl) (by decide +kernel) z_o21 (by decide +kernel)
theorem dL_areJoined_66 : decode cL_areJoined 66 = .ok (.if_icmp .le 10, 3) := z_row zl_cL_areJoined 66 655524 (Nat.le_of_ble_eq_true rfl) (by decide +kernel) z_o164 (by decide +kernel)
theorem dL_areJoined_69 : decode cL_areJoined 69 = .ok (.iload 4, 2) := z_row zl_cL_areJoined 69 1377301 (Nat.le_of_ble_eq_true rfl) (by decide +kernel) z_o21 (by decide +kernel)
theorem dL_areJoined_71 : decode cL_areJoined 71 = .ok (.iload 6, 2) := z_row zl_cL_areJoined 71 10683925 (Nat.le_of_ble_eq_true rfl) (by decide +kernel) z_o21 (by decide +kernel)
theorem dL_areJoined_73 : decode cL_areJoined 73 = .ok (.if_icmp .gt 5, 3) := z_row zl_cL_areJoined 73 327843 (Nat.le_of_ble_eq_true rfl) (by decide +kernel) z_o163 (by decide +kernel)
theorem dL_areJoined_76 : decode cL_areJoined 76 = .ok (.iconst 1, 1) := z_row zl_cL_areJoined 76 2796548 (Nat.le_of_ble_eq_true rfl) (by decide +kernel) z_o4 (by decide +kernel)
theorem dL_areJoined_77 : decode cL_areJoined 77 = .ok (.ireturn, 1) := z_row zl_cL_areJoined 77 1780396 (Nat.le_of_ble_eq_true rfl) (by decide +kernel) z_o172 (by decide +kernel)
theorem dL_areJoined_78 : decode cL_areJoined 78 = .ok (.aload_n 0, 1) := z_row zl_cL_areJoined 78 531242 (Nat.le_of_ble_eq_true rfl) (by decide +kernel) z_o42 (by decide +kernel)
theorem dL_areJoined_79 : decode cL_areJoined 79 = .ok (.iload_n 1, 1) := z_row zl_cL_areJoined 79 11929627 (Nat.le_of_ble_eq_true rfl) (by decide +kernel) z_o27 (by decide +kernel)
theorem dL_areJoined_80 : decode cL_areJoined 80 = .ok (.iconst 5, 1) := z_row zl_cL_areJoined 80 46600 (Nat.le_of_ble_eq_true rfl) (by decide +kernel) z_o8 (by decide +kernel)
theorem dL_areJoined_81 : decode cL_areJoined 81 = .ok (.invokevirtual 127, 3) := z_row zl_cL_areJoined 81 8323254 (Nat.le_of_ble_eq_true rfl) (by decide +kernel) z_o182 (by decide +kernel)
theorem dL_areJoined_84 : decode cL_areJoined 84 = .ok (.i2l, 1) := z_row zl_cL_areJoined 84 472965 (Nat.le_of_ble_eq_true rfl) (by decide +kernel) z_o133 (by decide +kernel)
theorem dL_areJoined_85 : decode cL_areJoined 85 = .ok (.lstore 7, 2) := z_row zl_cL_areJoined 85 2754359 (Nat.le_of_ble_eq_true rfl) (by decide +kernel) z_o55 (by decide +kernel)
theorem dL_areJoined_87 : decode cL_areJoined 87 = .ok (.aload_n 0, 1) := z_row zl_cL_areJoined 87 531498 (Nat.le_of_ble_eq_true rfl) (by decide +kernel) z_o42 (by decide +kernel)
theorem dL_areJoined_88 : decode cL_areJoined 88 = .ok (.iload_n 2, 1) := z_row zl_cL_areJoined 88 11929628 (Nat.le_of_ble_eq_true rfl) (by decide +kernel) z_o28 (by decide +kernel)
theorem dL_areJoined_89 : decode cL_areJoined 89 = .ok (.iconst 5, 1) := z_row zl_cL_areJoined 89 46600 (Nat.le_of_ble_eq_true rfl) (by decide +kernel) z_o8 (by decide +kernel)
theorem dL_areJoined_90 : decode cL_areJoined 90 = .ok (.invokevirtual 127, 3) := z_row zl_cL_areJoined 90 8323254 (Nat.le_of_ble_eq_true rfl) (by decide +kernel) z_o182 (by decide +kernel)
theorem dL_areJoined_93 : decode cL_areJoined 93 = .ok (.i2l, 1) := z_row zl_cL_areJoined 93 604037 (Nat.le_of_ble_eq_true rfl) (by decide +kernel) z_o133 (by decide +kernel)
theorem dL_areJoined_94 : decode cL_areJoined 94 = .ok (.lstore 9, 2) := z_row zl_cL_areJoined 94 2754871 (Nat.le_of_ble_eq_true rfl) (by decide +kernel) z_o55 (by decide +kernel)
theorem dL_areJoined_96 : decode cL_areJoined 96 = .ok (.aload_n 0, 1) := z_row zl_cL_areJoined 96 1841962 (Nat.le_of_ble_eq_true rfl) (by decide +kernel) z_o42 (by decide +kernel)
theorem dL_areJoined_97 : decode cL_areJoined 97 = .ok (.iload_n 1, 1) := z_row zl_cL_areJoined 97 531483 (Nat.le_of_ble_eq_true rfl) (by decide +kernel) z_o27 (by decide +kernel)
theorem dL_areJoined_98 : decode cL_areJoined 98 = .ok (.iload_n 2, 1) := z_row zl_cL_areJoined 98 11929628 (Nat.le_of_ble_eq_true rfl) (by decide +kernel) z_o28 (by decide +kernel)
theorem dL_areJoined_99 : decode cL_areJoined 99 = .ok (.iconst 5, 1) := z_row zl_cL_areJoined 99 46600 (Nat.le_of_ble_eq_true rfl) (by decide +kernel) z_o8 (by decide +kernel)
theorem dL_areJoined_100 : decode cL_areJoined 100 = .ok (.invokevirtual 74, 3) := z_row zl_cL_areJoined 100 4849846 (Nat.le_of_ble_eq_true rfl) (by decide +kernel) z_o182 (by decide +kernel)
theorem dL_areJoined_103 : decode cL_areJoined 103 = .ok (.iload 4, 2) := z_row zl_cL_areJoined 103 10486805 (Nat.le_of_ble_eq_true rfl) (by decide +kernel) z_o21 (by decide +kernel)
theorem dL_areJoined_105 : decode cL_areJoined 105 = .ok (.if_icmp .ne 31, 3) := z_row zl_cL_areJoined 105 2031776 (Nat.le_of_ble_eq_true rfl) (by decide +kernel) z_o160 (by decide +kernel)
theorem dL_areJoined_108 : decode cL_areJoined 108 = .ok (.aload_n 0, 1) := z_row zl_cL_areJoined 108 460842 (Nat.le_of_ble_eq_true rfl) (by decide +kernel) z_o42 (by decide +kernel)
theorem dL_areJoined_109 : decode cL_areJoined 109 = .ok (.iconst 5, 1) := z_row zl_cL_areJoined 109 11929352 (Nat.le_of_ble_eq_true rfl) (by decide +kernel) z_o8 (by decide +kernel)
theorem dL_areJoined_110 : decode cL_areJoined 110 = .ok (.iconst 4, 1) := z_row zl_cL_areJoined 110 46599 (Nat.le_of_ble_eq_true rfl) (by decide +kernel) z_o7 (by decide +kernel)
theorem dL_areJoined_111 : decode cL_areJoined 111 = .ok (.invokevirtual 127, 3) := z_row zl_cL_areJoined 111 8323254 (Nat.le_of_ble_eq_true rfl) (by decide +kernel) z_o182 (by decide +kernel)
theorem dL_areJoined_114 : decode cL_areJoined 114 = .ok (.iconst 1, 1) := z_row zl_cL_areJoined 114 40964 (Nat.le_of_ble_eq_true rfl) (by decide +kernel) z_o4 (by decide +kernel)
theorem dL_areJoined_115 : decode cL_areJoined 115 = .ok (.if_icmp .ne 21, 3) := z_row zl_cL_areJoined 115 1376416 (Nat.le_of_ble_eq_true rfl) (by decide +kernel) z_o160 (by decide +kernel)
theorem dL_areJoined_118 : decode cL_areJoined 118 = .ok (.aload_n 0, 1) := z_row zl_cL_areJoined 118 526378 (Nat.le_of_ble_eq_true rfl) (by decide +kernel) z_o42 (by decide +kernel)
theorem dL_areJoined_119 : decode cL_areJoined 119 = .ok (.iconst 5, 1) := z_row zl_cL_areJoined 119 11929608 (Nat.le_of_ble_eq_true rfl) (by decide +kernel) z_o8 (by decide +kernel)
theorem dL_areJoined_120 : decode cL_areJoined 120 = .ok (.iconst 5, 1) := z_row zl_cL_areJoined 120 46600 (Nat.le_of_ble_eq_true rfl) (by decide +kernel) z_o8 (by decide +kernel)
theorem dL_areJoined_121 : decode cL_areJoined 121 = .ok (.invokevirtual 127, 3) := z_row zl_cL_areJoined 121 8323254 (Nat.le_of_ble_eq_true rfl) (by decide +kernel) z_o182 (by decide +kernel)
theorem dL_areJoined_124 : decode cL_areJoined 124 = .ok (.lload 7, 2) := z_row zl_cL_areJoined 124 1443606 (Nat.le_of_ble_eq_true rfl) (by decide +kernel) z_o22 (by decide +kernel)
theorem dL_areJoined_126 : decode cL_areJoined 126 = .ok (.lload 9, 2) := z_row zl_cL_areJoined 126 6359318 (Nat.le_of_ble_eq_true rfl) (by decide +kernel) z_o22 (by decide +kernel)
theorem dL_areJoined_128 : decode cL_areJoined 128 = .ok (.ladd, 1) := z_row zl_cL_areJoined 128 12066145 (Nat.le_of_ble_eq_true rfl) (by decide +kernel) z_o97 (by decide +kernel)
theorem dL_areJoined_129 : decode cL_areJoined 129 = .ok (.iload_n 3, 1) := z_row zl_cL_areJoined 129 47133 (Nat.le_of_ble_eq_true rfl) (by decide +kernel) z_o29 (by decide +kernel)
theorem dL_areJoined_130 : decode cL_areJoined 130 = .ok (.invokestatic 164, 3) := z_row zl_cL_areJoined 130 10748088 (Nat.le_of_ble_eq_true rfl) (by decide +kernel) z_o184 (by decide +kernel)
theorem dL_areJoined_133 : decode cL_areJoined 133 = .ok (.if_icmp .eq 5, 3) := z_row zl_cL_areJoined 133 327839 (Nat.le_of_ble_eq_true rfl) (by decide +kernel) z_o159 (by decide +kernel)
theorem dL_areJoined_136 : decode cL_areJoined 136 = .ok (.iconst 0, 1) := z_row zl_cL_areJoined 136 240643 (Nat.le_of_ble_eq_true rfl) (by decide +kernel) z_o3 (by decide +kernel)
theorem dL_areJoined_137 : decode cL_areJoined 137 = .ok (.ireturn, 1) := z_row zl_cL_areJoined 137 3539884 (Nat.le_of_ble_eq_true rfl) (by decide +kernel) z_o172 (by decide +kernel)
theorem dL_areJoined_138 : decode cL_areJoined 138 = .ok (.iconst 0, 1) := z_row zl_cL_areJoined 138 734723 (Nat.le_of_ble_eq_true rfl) (by decide +kernel) z_o3 (by decide +kernel)
theorem dL_areJoined_139 : decode cL_areJoined 139 = .ok (.istore 11, 2) := z_row zl_cL_areJoined 139 1379126 (Nat.le_of_ble_eq_true rfl) (by decide +kernel) z_o54 (by decide +kernel)
theorem dL_areJoined_141 : decode cL_areJoined 141 = .ok (.iload 11, 2) := z_row zl_cL_areJoined 141 461589 (Nat.le_of_ble_eq_true rfl) (by decide +kernel) z_o21 (by decide +kernel)
theorem dL_areJoined_143 : decode cL_areJoined 143 = .ok (.iconst 4, 1) := z_row zl_cL_areJoined 143 41479 (Nat.le_of_ble_eq_true rfl) (by decide +kernel) z_o7 (by decide +kernel)
theorem dL_areJoined_144 : decode cL_areJoined 144 = .ok (.if_icmp .ge 110, 3) := z_row zl_cL_areJoined 144 7209122 (Nat.le_of_ble_eq_true rfl) (by decide +kernel) z_o162 (by decide +kernel)
theorem dL_areJoined_147 : decode cL_areJoined 147 = .ok (.aload_n 0, 1) := z_row zl_cL_areJoined 147 395306 (Nat.le_of_ble_eq_true rfl) (by decide +kernel) z_o42 (by decide +kernel)
theorem dL_areJoined_148 : decode cL_areJoined 148 = .ok (.iconst 5, 1) := z_row zl_cL_areJoined 148 11929096 (Nat.le_of_ble_eq_true rfl) (by decide +kernel) z_o8 (by decide +kernel)
theorem dL_areJoined_149 : decode cL_areJoined 149 = .ok (.iconst 3, 1) := z_row zl_cL_areJoined 149 46598 (Nat.le_of_ble_eq_true rfl) (by decide +kernel) z_o6 (by decide +kernel)
theorem dL_areJoined_150 : decode cL_areJoined 150 = .ok (.invokevirtual 127, 3) := z_row zl_cL_areJoined 150 8323254 (Nat.le_of_ble_eq_true rfl) (by decide +kernel) z_o182 (by decide +kernel)
theorem dL_areJoined_153 : decode cL_areJoined 153 = .ok (.iconst 1, 1) := z_row zl_cL_areJoined 153 40964 (Nat.le_of_ble_eq_true rfl) (by decide +kernel) z_o4 (by decide +kernel)
theorem dL_areJoined_154 : decode cL_areJoined 154 = .ok (.if_icmp .ne 100, 3) := z_row zl_cL_areJoined 154 6553760 (Nat.le_of_ble_eq_true rfl) (by decide +kernel) z_o160 (by decide +kernel)
theorem dL_areJoined_157 : decode cL_areJoined 157 = .ok (.aload_n 0, 1) := z_row zl_cL_areJoined 157 1383210 (Nat.le_of_ble_eq_true rfl) (by decide +kernel) z_o42 (by decide +kernel)
theorem dL_areJoined_158 : decode cL_areJoined 158 = .ok (.iload_n 1, 1) := z_row zl_cL_areJoined 158 726299 (Nat.le_of_ble_eq_true rfl) (by decide +kernel) z_o27 (by decide +kernel)
theorem dL_areJoined_159 : decode cL_areJoined 159 = .ok (.iload 11, 2) := z_row zl_cL_areJoined 159 11930389 (Nat.le_of_ble_eq_true rfl) (by decide +kernel) z_o21 (by decide +kernel)
theorem dL_areJoined_161 : decode cL_areJoined 161 = .ok (.invokevirtual 161, 3) := z_row zl_cL_areJoined 161 10551478 (Nat.le_of_ble_eq_true rfl) (by decide +kernel) z_o182 (by decide +kernel)
theorem dL_areJoined_164 : decode cL_areJoined 164 = .ok (.ifCond .ge 7, 3) := z_row zl_cL_areJoined 164 458908 (Nat.le_of_ble_eq_true rfl) (by decide +kernel) z_o156 (by decide +kernel)
theorem dL_areJoined_167 : decode cL_areJoined 167 = .ok (.lconst 1, 1) := z_row zl_cL_areJoined 167 42762 (Nat.le_of_ble_eq_true rfl) (by decide +kernel) z_o10 (by decide +kernel)
theorem dL_areJoined_168 : decode cL_areJoined 168 = .ok (.goto 11, 3) := z_row zl_cL_areJoined 168 721063 (Nat.le_of_ble_eq_true rfl) (by decide +kernel) z_o167 (by decide +kernel)
theorem dL_areJoined_171 : decode cL_areJoined 171 = .ok (.aload_n 0, 1) := z_row zl_cL_areJoined 171 1383210 (Nat.le_of_ble_eq_true rfl) (by decide +kernel) z_o42 (by decide +kernel)
theorem dL_areJoined_172 : decode cL_areJoined 172 = .ok (.iload_n 1, 1) := z_row zl_cL_areJoined 172 726299 (Nat.le_of_ble_eq_true rfl) (by decide +kernel) z_o27 (by decide +kernel)
theorem dL_areJoined_173 : decode cL_areJoined 173 = .ok (.iload 11, 2) := z_row zl_cL_areJoined 173 11930389 (Nat.le_of_ble_eq_true rfl) (by decide +kernel) z_o21 (by decide +kernel)
theorem dL_areJoined_175 : decode cL_areJoined 175 = .ok (.invokevirtual 161, 3) := z_row zl_cL_areJoined 175 10551478 (Nat.le_of_ble_eq_true rfl) (by decide +kernel) z_o182 (by decide +kernel)
theorem dL_areJoined_178 : decode cL_areJoined 178 = .ok (.i2l, 1) := z_row zl_cL_areJoined 178 800645 (Nat.le_of_ble_eq_true rfl) (by decide +kernel) z_o133 (by decide +kernel)
theorem dL_areJoined_179 : decode cL_areJoined 179 = .ok (.lstore 12, 2) := z_row zl_cL_areJoined 179 2755639 (Nat.le_of_ble_eq_true rfl) (by decide +kernel) z_o55 (by decide +kernel)
theorem dL_areJoined_181 : decode cL_areJoined 181 = .ok (.aload_n 0, 1) := z_row zl_cL_areJoined 181 1383466 (Nat.le_of_ble_eq_true rfl) (by decide +kernel) z_o42 (by decide +kernel)
theorem dL_areJoined_182 : decode cL_areJoined 182 = .ok (.iload_n 2, 1) := z_row zl_cL_areJoined 182 726300 (Nat.le_of_ble_eq_true rfl) (by decide +kernel) z_o28 (by decide +kernel)
theorem dL_areJoined_183 : decode cL_areJoined 183 = .ok (.iload 11, 2) := z_row zl_cL_areJoined 183 11930389 (Nat.le_of_ble_eq_true rfl) (by decide +kernel) z_o21 (by decide +kernel)
theorem dL_areJoined_185 : decode cL_areJoined 185 = .ok (.invokevirtual 161, 3) := z_row zl_cL_areJoined 185 10551478 (Nat.le_of_ble_eq_true rfl) (by decide +kernel) z_o182 (by decide +kernel)
theorem dL_areJoined_188 : decode cL_areJoined 188 = .ok (.ifCond .ge 7, 3) := z_row zl_cL_areJoined 188 458908 (Nat.le_of_ble_eq_true rfl) (by decide +kernel) z_o156 (by decide +kernel)
theorem dL_areJoined_191 : decode cL_areJoined 191 = .ok (.lconst 1, 1) := z_row zl_cL_areJoined 191 42762 (Nat.le_of_ble_eq_true rfl) (by decide +kernel) z_o10 (by decide +kernel)
theorem dL_areJoined_192 : decode cL_areJoined 192 = .ok (.goto 11, 3) := z_row zl_cL_areJoined 192 721063 (Nat.le_of_ble_eq_true rfl) (by decide +kernel) z_o167 (by decide +kernel)
theorem dL_areJoined_195 : decode cL_areJoined 195 = .ok (.aload_n 0, 1) := z_row zl_cL_areJoined 195 1383466 (Nat.le_of_ble_eq_true rfl) (by decide +kernel) z_o42 (by decide +kernel)
theorem dL_areJoined_196 : decode cL_areJoined 196 = .ok (.iload_n 2, 1) := z_row zl_cL_areJoined 196 726300 (Nat.le_of_ble_eq_true rfl) (by decide +kernel) z_o28 (by decide +kernel)
theorem dL_areJoined_197 : decode cL_areJoined 197 = .ok (.iload 11, 2) := z_row zl_cL_areJoined 197 11930389 (Nat.le_of_ble_eq_true rfl) (by decide +kernel) z_o21 (by decide +kernel)
theorem dL_areJoined_199 : decode cL_areJoined 199 = .ok (.invokevirtual 161, 3) := z_row zl_cL_areJoined 199 10551478 (Nat.le_of_ble_eq_true rfl) (by decide +kernel) z_o182 (by decide +kernel)
theorem dL_areJoined_202 : decode cL_areJoined 202 = .ok (.i2l, 1) := z_row zl_cL_areJoined 202 931717 (Nat.le_of_ble_eq_true rfl) (by decide +kernel) z_o133 (by decide +kernel)
theorem dL_areJoined_203 : decode cL_areJoined 203 = .ok (.lstore 14, 2) := z_row zl_cL_areJoined 203 2756151 (Nat.le_of_ble_eq_true rfl) (by decide +kernel) z_o55 (by decide +kernel)
theorem dL_areJoined_205 : decode cL_areJoined 205 = .ok (.aload_n 0, 1) := z_row zl_cL_areJoined 205 1378346 (Nat.le_of_ble_eq_true rfl) (by decide +kernel) z_o42 (by decide +kernel)
theorem dL_areJoined_206 : decode cL_areJoined 206 = .ok (.iconst 5, 1) := z_row zl_cL_areJoined 206 726280 (Nat.le_of_ble_eq_true rfl) (by decide +kernel) z_o8 (by decide +kernel)
theorem dL_areJoined_207 : decode cL_areJoined 207 = .ok (.iload 11, 2) := z_row zl_cL_areJoined 207 11930389 (Nat.le_of_ble_eq_true rfl) (by decide +kernel) z_o21 (by decide +kernel)
theorem dL_areJoined_209 : decode cL_areJoined 209 = .ok (.invokevirtual 161, 3) := z_row zl_cL_areJoined 209 10551478 (Nat.le_of_ble_eq_true rfl) (by decide +kernel) z_o182 (by decide +kernel)
theorem dL_areJoined_212 : decode cL_areJoined 212 = .ok (.iload 11, 2) := z_row zl_cL_areJoined 212 1379093 (Nat.le_of_ble_eq_true rfl) (by decide +kernel) z_o21 (by decide +kernel)
theorem dL_areJoined_214 : decode cL_areJoined 214 = .ok (.iload 5, 2) := z_row zl_cL_areJoined 214 10749205 (Nat.le_of_ble_eq_true rfl) (by decide +kernel) z_o21 (by decide +kernel)
theorem dL_areJoined_216 : decode cL_areJoined 216 = .ok (.if_icmp .le 14, 3) := z_row zl_cL_areJoined 216 917668 (Nat.le_of_ble_eq_true rfl) (by decide +kernel) z_o164 (by decide +kernel)
theorem dL_areJoined_219 : decode cL_areJoined 219 = .ok (.iload 11, 2) := z_row zl_cL_areJoined 219 1379093 (Nat.le_of_ble_eq_true rfl) (by decide +kernel) z_o21 (by decide +kernel)
theorem dL_areJoined_221 : decode cL_areJoined 221 = .ok (.iload 6, 2) := z_row zl_cL_areJoined 221 10749461 (Nat.le_of_ble_eq_true rfl) (by decide +kernel) z_o21 (by decide +kernel)
theorem dL_areJoined_223 : decode cL_areJoined 223 = .ok (.if_icmp .le 7, 3) := z_row zl_cL_areJoined 223 458916 (Nat.le_of_ble_eq_true rfl) (by decide +kernel) z_o164 (by decide +kernel)
theorem dL_areJoined_226 : decode cL_areJoined 226 = .ok (.iconst (-1), 1) := z_row zl_cL_areJoined 226 42754 (Nat.le_of_ble_eq_true rfl) (by decide +kernel) z_o2 (by decide +kernel)
theorem dL_areJoined_227 : decode cL_areJoined 227 = .ok (.goto 16, 3) := z_row zl_cL_areJoined 227 1048743 (Nat.le_of_ble_eq_true rfl) (by decide +kernel) z_o167 (by decide +kernel)
theorem dL_areJoined_230 : decode cL_areJoined 230 = .ok (.lload 12, 2) := z_row zl_cL_areJoined 230 1444886 (Nat.le_of_ble_eq_true rfl) (by decide +kernel) z_o22 (by decide +kernel)
theorem dL_areJoined_232 : decode cL_areJoined 232 = .ok (.lload 14, 2) := z_row zl_cL_areJoined 232 6884886 (Nat.le_of_ble_eq_true rfl) (by decide +kernel) z_o22 (by decide +kernel)
theorem dL_areJoined_234 : decode cL_areJoined 234 = .ok (.lmul, 1) := z_row zl_cL_areJoined 234 338537 (Nat.le_of_ble_eq_true rfl) (by decide +kernel) z_o105 (by decide +kernel)
theorem dL_areJoined_235 : decode cL_areJoined 235 = .ok (.aload_n 0, 1) := z_row zl_cL_areJoined 235 11928874 (Nat.le_of_ble_eq_true rfl) (by decide +kernel) z_o42 (by decide +kernel)
theorem dL_areJoined_236 : decode cL_areJoined 236 = .ok (.iconst 2, 1) := z_row zl_cL_areJoined 236 46597 (Nat.le_of_ble_eq_true rfl) (by decide +kernel) z_o5 (by decide +kernel)
theorem dL_areJoined_237 : decode cL_areJoined 237 = .ok (.invokevirtual 38, 3) := z_row zl_cL_areJoined 237 2490550 (Nat.le_of_ble_eq_true rfl) (by decide +kernel) z_o182 (by decide +kernel)
theorem dL_areJoined_240 : decode cL_areJoined 240 = .ok (.i2l, 1) := z_row zl_cL_areJoined 240 8941957 (Nat.le_of_ble_eq_true rfl) (by decide +kernel) z_o133 (by decide +kernel)
theorem dL_areJoined_241 : decode cL_areJoined 241 = .ok (.lrem, 1) := z_row zl_cL_areJoined 241 10455153 (Nat.le_of_ble_eq_true rfl) (by decide +kernel) z_o113 (by decide +kernel)
theorem dL_areJoined_242 : decode cL_areJoined 242 = .ok (.l2i, 1) := z_row zl_cL_areJoined 242 40840 (Nat.le_of_ble_eq_true rfl) (by decide +kernel) z_o136 (by decide +kernel)
theorem dL_areJoined_243 : decode cL_areJoined 243 = .ok (.if_icmp .eq 5, 3) := z_row zl_cL_areJoined 243 327839 (Nat.le_of_ble_eq_true rfl) (by decide +kernel) z_o159 (by decide +kernel)
theorem dL_areJoined_246 : decode cL_areJoined 246 = .ok (.iconst 0, 1) := z_row zl_cL_areJoined 246 8694787 (Nat.le_of_ble_eq_true rfl) (by decide +kernel) z_o3 (by decide +kernel)
theorem dL_areJoined_247 : decode cL_areJoined 247 = .ok (.ireturn, 1) := z_row zl_cL_areJoined 247 754860 (Nat.le_of_ble_eq_true rfl) (by decide +kernel) z_o172 (by decide +kernel)
theorem dL_areJoined_248 : decode cL_areJoined 248 = .ok (.iinc 11 1, 3) := z_row zl_cL_areJoined 248 68484 (Nat.le_of_ble_eq_true rfl) (by decide +kernel) z_o132 (by decide +kernel)
theorem dL_areJoined_251 : decode cL_areJoined 251 = .ok (.goto (-110), 3) := z_row zl_cL_areJoined 251 9633703 (Nat.le_of_ble_eq_true rfl) (by decide +kernel) z_o167 (by decide +kernel)
theorem dL_areJoined_254 : decode cL_areJoined 254 = .ok (.aload_n 0, 1) := z_row zl_cL_areJoined 254 1841962 (Nat.le_of_ble_eq_true rfl) (by decide +kernel) z_o42 (by decide +kernel)
theorem dL_areJoined_255 : decode cL_areJoined 255 = .ok (.iload_n 1, 1) := z_row zl_cL_areJoined 255 531483 (Nat.le_of_ble_eq_true rfl) (by decide +kernel) z_o27 (by decide +kernel)
theorem dL_areJoined_256 : decode cL_areJoined 256 = .ok (.iload_n 2, 1) := z_row zl_cL_areJoined 256 11929628 (Nat.le_of_ble_eq_true rfl) (by decide +kernel) z_o28 (by decide +kernel)
theorem dL_areJoined_257 : decode cL_areJoined 257 = .ok (.iconst 5, 1) := z_row zl_cL_areJoined 257 46600 (Nat.le_of_ble_eq_true rfl) (by decide +kernel) z_o8 (by decide +kernel)
theorem dL_areJoined_258 : decode cL_areJoined 258 = .ok (.invokevirtual 78, 3) := z_row zl_cL_areJoined 258 5111990 (Nat.le_of_ble_eq_true rfl) (by decide +kernel) z_o182 (by decide +kernel)
theorem dL_areJoined_261 : decode cL_areJoined 261 = .ok (.iload 4, 2) := z_row zl_cL_areJoined 261 10486805 (Nat.le_of_ble_eq_true rfl) (by decide +kernel) z_o21 (by decide +kernel)
theorem dL_areJoined_263 : decode cL_areJoined 263 = .ok (.if_icmp .ne 31, 3) := z_row zl_cL_areJoined 263 2031776 (Nat.le_of_ble_eq_true rfl) (by decide +kernel) z_o160 (by decide +kernel)
theorem dL_areJoined_266 : decode cL_areJoined 266 = .ok (.aload_n 0, 1) := z_row zl_cL_areJoined 266 460842 (Nat.le_of_ble_eq_true rfl) (by decide +kernel) z_o42 (by decide +kernel)
theorem dL_areJoined_267 : decode cL_areJoined 267 = .ok (.iconst 5, 1) := z_row zl_cL_areJoined 267 11929352 (Nat.le_of_ble_eq_true rfl) (by decide +kernel) z_o8 (by decide +kernel)
theorem dL_areJoined_268 : decode cL_areJoined 268 = .ok (.iconst 4, 1) := z_row zl_cL_areJoined 268 46599 (Nat.le_of_ble_eq_true rfl) (by decide +kernel) z_o7 (by decide +kernel)
theorem dL_areJoined_269 : decode cL_areJoined 269 = .ok (.invokevirtual 127, 3) := z_row zl_cL_areJoined 269 8323254 (Nat.le_of_ble_eq_true rfl) (by decide +kernel) z_o182 (by decide +kernel)
theorem dL_areJoined_272 : decode cL_areJoined 272 = .ok (.iconst 1, 1) := z_row zl_cL_areJoined 272 40964 (Nat.le_of_ble_eq_true rfl) (by decide +kernel) z_o4 (by decide +kernel)
theorem dL_areJoined_273 : decode cL_areJoined 273 = .ok (.if_icmp .ne 21, 3) := z_row zl_cL_areJoined 273 1376416 (Nat.le_of_ble_eq_true rfl) (by decide +kernel) z_o160 (by decide +kernel)
theorem dL_areJoined_276 : decode cL_areJoined 276 = .ok (.aload_n 0, 1) := z_row zl_cL_areJoined 276 526378 (Nat.le_of_ble_eq_true rfl) (by decide +kernel) z_o42 (by decide +kernel)
theorem dL_areJoined_277 : decode cL_areJoined 277 = .ok (.iconst 5, 1) := z_row zl_cL_areJoined 277 11929608 (Nat.le_of_ble_eq_true rfl) (by decide +kernel) z_o8 (by decide +kernel)
theorem dL_areJoined_278 : decode cL_areJoined 278 = .ok (.iconst 5, 1) := z_row zl_cL_areJoined 278 46600 (Nat.le_of_ble_eq_true rfl) (by decide +kernel) z_o8 (by decide +kernel)
theorem dL_areJoined_279 : decode cL_areJoined 279 = .ok (.invokevirtual 127, 3) := z_row zl_cL_areJoined 279 8323254 (Nat.le_of_ble_eq_true rfl) (by decide +kernel) z_o182 (by decide +kernel)
theorem dL_areJoined_282 : decode cL_areJoined 282 = .ok (.lload 7, 2) := z_row zl_cL_areJoined 282 1443606 (Nat.le_of_ble_eq_true rfl) (by decide +kernel) z_o22 (by decide +kernel)
theorem dL_areJoined_284 : decode cL_areJoined 284 = .ok (.lload 9, 2) := z_row zl_cL_areJoined 284 6621462 (Nat.le_of_ble_eq_true rfl) (by decide +kernel) z_o22 (by decide +kernel)
theorem dL_areJoined_286 : decode cL_areJoined 286 = .ok (.lsub, 1) := z_row zl_cL_areJoined 286 12066149 (Nat.le_of_ble_eq_true rfl) (by decide +kernel) z_o101 (by decide +kernel)
theorem dL_areJoined_287 : decode cL_areJoined 287 = .ok (.iload_n 3, 1) := z_row zl_cL_areJoined 287 47133 (Nat.le_of_ble_eq_true rfl) (by decide +kernel) z_o29 (by decide +kernel)
theorem dL_areJoined_288 : decode cL_areJoined 288 = .ok (.invokestatic 164, 3) := z_row zl_cL_areJoined 288 10748088 (Nat.le_of_ble_eq_true rfl) (by decide +kernel) z_o184 (by decide +kernel)
theorem dL_areJoined_291 : decode cL_areJoined 291 = .ok (.if_icmp .eq 5, 3) := z_row zl_cL_areJoined 291 327839 (Nat.le_of_ble_eq_true rfl) (by decide +kernel) z_o159 (by decide +kernel)
theorem dL_areJoined_294 : decode cL_areJoined 294 = .ok (.iconst 0, 1) := z_row zl_cL_areJoined 294 1420291 (Nat.le_of_ble_eq_true rfl) (by decide +kernel) z_o3 (by decide +kernel)
theorem dL_areJoined_295 : decode cL_areJoined 295 = .ok (.ireturn, 1) := z_row zl_cL_areJoined 295 333228 (Nat.le_of_ble_eq_true rfl) (by decide +kernel) z_o172 (by decide +kernel)
theorem dL_areJoined_296 : decode cL_areJoined 296 = .ok (.iload 5, 2) := z_row zl_cL_areJoined 296 1377557 (Nat.le_of_ble_eq_true rfl) (by decide +kernel) z_o21 (by decide +kernel)
theorem dL_areJoined_298 : decode cL_areJoined 298 = .ok (.iload 6, 2) := z_row zl_cL_areJoined 298 6293013 (Nat.le_of_ble_eq_true rfl) (by decide +kernel) z_o21 (by decide +kernel)
theorem dL_areJoined_300 : decode cL_areJoined 300 = .ok (.iadd, 1) := z_row zl_cL_areJoined 300 397408 (Nat.le_of_ble_eq_true rfl) (by decide +kernel) z_o96 (by decide +kernel)
theorem dL_areJoined_301 : decode cL_areJoined 301 = .ok (.bipush 6, 2) := z_row zl_cL_areJoined 301 10749456 (Nat.le_of_ble_eq_true rfl) (by decide +kernel) z_o16 (by decide +kernel)
theorem dL_areJoined_303 : decode cL_areJoined 303 = .ok (.if_icmp .le 21, 3) := z_row zl_cL_areJoined 303 1376420 (Nat.le_of_ble_eq_true rfl) (by decide +kernel) z_o164 (by decide +kernel)
theorem dL_areJoined_306 : decode cL_areJoined 306 = .ok (.aload_n 0, 1) := z_row zl_cL_areJoined 306 1841962 (Nat.le_of_ble_eq_true rfl) (by decide +kernel) z_o42 (by decide +kernel)
theorem dL_areJoined_307 : decode cL_areJoined 307 = .ok (.iload_n 1, 1) := z_row zl_cL_areJoined 307 531483 (Nat.le_of_ble_eq_true rfl) (by decide +kernel) z_o27 (by decide +kernel)
theorem dL_areJoined_308 : decode cL_areJoined 308 = .ok (.iload_n 2, 1) := z_row zl_cL_areJoined 308 11929628 (Nat.le_of_ble_eq_true rfl) (by decide +kernel) z_o28 (by decide +kernel)
theorem dL_areJoined_309 : decode cL_areJoined 309 = .ok (.iconst 5, 1) := z_row zl_cL_areJoined 309 46600 (Nat.le_of_ble_eq_true rfl) (by decide +kernel) z_o8 (by decide +kernel)
theorem dL_areJoined_310 : decode cL_areJoined 310 = .ok (.invokevirtual 81, 3) := z_row zl_cL_areJoined 310 5308598 (Nat.le_of_ble_eq_true rfl) (by decide +kernel) z_o182 (by decide +kernel)
theorem dL_areJoined_313 : decode cL_areJoined 313 = .ok (.bipush (-9), 2) := z_row zl_cL_areJoined 313 10549008 (Nat.le_of_ble_eq_true rfl) (by decide +kernel) z_o16 (by decide +kernel)
theorem dL_areJoined_315 : decode cL_areJoined 315 = .ok (.if_icmp .ne 7, 3) := z_row zl_cL_areJoined 315 458912 (Nat.le_of_ble_eq_true rfl) (by decide +kernel) z_o160 (by decide +kernel)
theorem dL_areJoined_318 : decode cL_areJoined 318 = .ok (.iconst 1, 1) := z_row zl_cL_areJoined 318 42756 (Nat.le_of_ble_eq_true rfl) (by decide +kernel) z_o4 (by decide +kernel)
theorem dL_areJoined_319 : decode cL_areJoined 319 = .ok (.goto 4, 3) := z_row zl_cL_areJoined 319 262311 (Nat.le_of_ble_eq_true rfl) (by decide +kernel) z_o167 (by decide +kernel)
theorem dL_areJoined_322 : decode cL_areJoined 322 = .ok (.iconst 0, 1) := z_row zl_cL_areJoined 322 2796547 (Nat.le_of_ble_eq_true rfl) (by decide +kernel) z_o3 (by decide +kernel)
theorem dL_areJoined_323 : decode cL_areJoined 323 = .ok (.ireturn, 1) := z_row zl_cL_areJoined 323 1780396 (Nat.le_of_ble_eq_true rfl) (by decide +kernel) z_o172 (by decide +kernel)
theorem dL_areJoined_324 : decode cL_areJoined 324 = .ok (.aload_n 0, 1) := z_row zl_cL_areJoined 324 1841962 (Nat.le_of_ble_eq_true rfl) (by decide +kernel) z_o42 (by decide +kernel)
theorem dL_areJoined_325 : decode cL_areJoined 325 = .ok (.iload_n 1, 1) := z_row zl_cL_areJoined 325 531483 (Nat.le_of_ble_eq_true rfl) (by decide +kernel) z_o27 (by decide +kernel)
theorem dL_areJoined_326 : decode cL_areJoined 326 = .ok (.iload_n 2, 1) := z_row zl_cL_areJoined 326 11929628 (Nat.le_of_ble_eq_true rfl) (by decide +kernel) z_o28 (by decide +kernel)
theorem dL_areJoined_327 : decode cL_areJoined 327 = .ok (.iconst 5, 1) := z_row zl_cL_areJoined 327 46600 (Nat.le_of_ble_eq_true rfl) (by decide +kernel) z_o8 (by decide +kernel)
theorem dL_areJoined_328 : decode cL_areJoined 328 = .ok (.invokevirtual 81, 3) := z_row zl_cL_areJoined 328 5308598 (Nat.le_of_ble_eq_true rfl) (by decide +kernel) z_o182 (by decide +kernel)
theorem dL_areJoined_331 : decode cL_areJoined 331 = .ok (.iload 4, 2) := z_row zl_cL_areJoined 331 10421269 (Nat.le_of_ble_eq_true rfl) (by decide +kernel) z_o21 (by decide +kernel)
theorem dL_areJoined_333 : decode cL_areJoined 333 = .ok (.if_icmp .eq 5, 3) := z_row zl_cL_areJoined 333 327839 (Nat.le_of_ble_eq_true rfl) (by decide +kernel) z_o159 (by decide +kernel)
theorem dL_areJoined_336 : decode cL_areJoined 336 = .ok (.iconst 0, 1) := z_row zl_cL_areJoined 336 1420291 (Nat.le_of_ble_eq_true rfl) (by decide +kernel) z_o3 (by decide +kernel)
theorem dL_areJoined_337 : decode cL_areJoined 337 = .ok (.ireturn, 1) := z_row zl_cL_areJoined 337 267692 (Nat.le_of_ble_eq_true rfl) (by decide +kernel) z_o172 (by decide +kernel)
theorem dL_areJoined_338 : decode cL_areJoined 338 = .ok (.iload 4, 2) := z_row zl_cL_areJoined 338 1377301 (Nat.le_of_ble_eq_true rfl) (by decide +kernel) z_o21 (by decide +kernel)
theorem dL_areJoined_340 : decode cL_areJoined 340 = .ok (.iload 5, 2) := z_row zl_cL_areJoined 340 1377557 (Nat.le_of_ble_eq_true rfl) (by decide +kernel) z_o21 (by decide +kernel)
theorem dL_areJoined_342 : decode cL_areJoined 342 = .ok (.iload 6, 2) := z_row zl_cL_areJoined 342 6293013 (Nat.le_of_ble_eq_true rfl) (by decide +kernel) z_o21 (by decide +kernel)
theorem dL_areJoined_344 : decode cL_areJoined 344 = .ok (.iadd, 1) := z_row zl_cL_areJoined 344 42080 (Nat.le_of_ble_eq_true rfl) (by decide +kernel) z_o96 (by decide +kernel)
theorem dL_areJoined_345 : decode cL_areJoined 345 = .ok (.if_icmp .le 31, 3) := z_row zl_cL_areJoined 345 2031780 (Nat.le_of_ble_eq_true rfl) (by decide +kernel) z_o164 (by decide +kernel)
theorem dL_areJoined_348 : decode cL_areJoined 348 = .ok (.aload_n 0, 1) := z_row zl_cL_areJoined 348 460842 (Nat.le_of_ble_eq_true rfl) (by decide +kernel) z_o42 (by decide +kernel)
theorem dL_areJoined_349 : decode cL_areJoined 349 = .ok (.iconst 5, 1) := z_row zl_cL_areJoined 349 11929352 (Nat.le_of_ble_eq_true rfl) (by decide +kernel) z_o8 (by decide +kernel)
theorem dL_areJoined_350 : decode cL_areJoined 350 = .ok (.iconst 4, 1) := z_row zl_cL_areJoined 350 46599 (Nat.le_of_ble_eq_true rfl) (by decide +kernel) z_o7 (by decide +kernel)
theorem dL_areJoined_351 : decode cL_areJoined 351 = .ok (.invokevirtual 127, 3) := z_row zl_cL_areJoined 351 8323254 (Nat.le_of_ble_eq_true rfl) (by decide +kernel) z_o182 (by decide +kernel)
theorem dL_areJoined_354 : decode cL_areJoined 354 = .ok (.iconst 1, 1) := z_row zl_cL_areJoined 354 40964 (Nat.le_of_ble_eq_true rfl) (by decide +kernel) z_o4 (by decide +kernel)
theorem dL_areJoined_355 : decode cL_areJoined 355 = .ok (.if_icmp .ne 25, 3) := z_row zl_cL_areJoined 355 1638560 (Nat.le_of_ble_eq_true rfl) (by decide +kernel) z_o160 (by decide +kernel)
theorem dL_areJoined_358 : decode cL_areJoined 358 = .ok (.aload_n 0, 1) := z_row zl_cL_areJoined 358 526378 (Nat.le_of_ble_eq_true rfl) (by decide +kernel) z_o42 (by decide +kernel)
theorem dL_areJoined_359 : decode cL_areJoined 359 = .ok (.iconst 5, 1) := z_row zl_cL_areJoined 359 11929608 (Nat.le_of_ble_eq_true rfl) (by decide +kernel) z_o8 (by decide +kernel)
theorem dL_areJoined_360 : decode cL_areJoined 360 = .ok (.iconst 5, 1) := z_row zl_cL_areJoined 360 46600 (Nat.le_of_ble_eq_true rfl) (by decide +kernel) z_o8 (by decide +kernel)
theorem dL_areJoined_361 : decode cL_areJoined 361 = .ok (.invokevirtual 127, 3) := z_row zl_cL_areJoined 361 8323254 (Nat.le_of_ble_eq_true rfl) (by decide +kernel) z_o182 (by decide +kernel)
theorem dL_areJoined_364 : decode cL_areJoined 364 = .ok (.lload 7, 2) := z_row zl_cL_areJoined 364 1443606 (Nat.le_of_ble_eq_true rfl) (by decide +kernel) z_o22 (by decide +kernel)
theorem dL_areJoined_366 : decode cL_areJoined 366 = .ok (.lload 9, 2) := z_row zl_cL_areJoined 366 6883606 (Nat.le_of_ble_eq_true rfl) (by decide +kernel) z_o22 (by decide +kernel)
theorem dL_areJoined_368 : decode cL_areJoined 368 = .ok (.lmul, 1) := z_row zl_cL_areJoined 368 12066153 (Nat.le_of_ble_eq_true rfl) (by decide +kernel) z_o105 (by decide +kernel)
theorem dL_areJoined_369 : decode cL_areJoined 369 = .ok (.iload_n 3, 1) := z_row zl_cL_areJoined 369 47133 (Nat.le_of_ble_eq_true rfl) (by decide +kernel) z_o29 (by decide +kernel)
theorem dL_areJoined_370 : decode cL_areJoined 370 = .ok (.invokestatic 164, 3) := z_row zl_cL_areJoined 370 10748088 (Nat.le_of_ble_eq_true rfl) (by decide +kernel) z_o184 (by decide +kernel)
theorem dL_areJoined_373 : decode cL_areJoined 373 = .ok (.if_icmp .ne 7, 3) := z_row zl_cL_areJoined 373 458912 (Nat.le_of_ble_eq_true rfl) (by decide +kernel) z_o160 (by decide +kernel)
theorem dL_areJoined_376 : decode cL_areJoined 376 = .ok (.iconst 1, 1) := z_row zl_cL_areJoined 376 42756 (Nat.le_of_ble_eq_true rfl) (by decide +kernel) z_o4 (by decide +kernel)
theorem dL_areJoined_377 : decode cL_areJoined 377 = .ok (.goto 4, 3) := z_row zl_cL_areJoined 377 262311 (Nat.le_of_ble_eq_true rfl) (by decide +kernel) z_o167 (by decide +kernel)
set_option maxRecDepth 100000 in
theorem dL_areJoined_380 : decode cL_areJoined 380 = .ok (.iconst 0, 1) := by decide +kernel
set_option maxRecDepth 100000 in
theorem dL_areJoined_381 : decode cL_areJoined 381 = .ok (.ireturn, 1) := by decide +kernel
