theorem dL_cell_0 : decode cL_cell 0 = .ok (.iload_n 1, 1) := by decide +kernel
theorem dL_cell_1 : decode cL_cell 1 = .ok (.aload_n 0, 1) := by decide +kernel
theorem dL_cell_2 : decode cL_cell 2 = .ok (.arraylength, 1) := by decide +kernel
theorem dL_cell_3 : decode cL_cell 3 = .ok (.if_icmp .ge 9, 3) := by decide +kernel
theorem dL_cell_6 : decode cL_cell 6 = .ok (.aload_n 0, 1) := by decide +kernel
theorem dL_cell_7 : decode cL_cell 7 = .ok (.iload_n 1, 1) := by decide +kernel
theorem dL_cell_8 : decode cL_cell 8 = .ok (.iaload, 1) := by decide +kernel
theorem dL_cell_9 : decode cL_cell 9 = .ok (.goto 13, 3) := by decide +kernel
theorem dL_cell_12 : decode cL_cell 12 = .ok (.ldc 7, 2) := by decide +kernel
theorem dL_cell_14 : decode cL_cell 14 = .ok (.iload_n 1, 1) := by decide +kernel
theorem dL_cell_15 : decode cL_cell 15 = .ok (.bipush 27, 2) := by decide +kernel
theorem dL_cell_17 : decode cL_cell 17 = .ok (.iadd, 1) := by decide +kernel
theorem dL_cell_18 : decode cL_cell 18 = .ok (.imul, 1) := by decide +kernel
theorem dL_cell_19 : decode cL_cell 19 = .ok (.ldc 8, 2) := by decide +kernel
theorem dL_cell_21 : decode cL_cell 21 = .ok (.iadd, 1) := by decide +kernel
theorem dL_cell_22 : decode cL_cell 22 = .ok (.ireturn, 1) := by decide +kernel
theorem dL_low_0 : decode cL_low 0 = .ok (.iload_n 0, 1) := by decide +kernel
theorem dL_low_1 : decode cL_low 1 = .ok (.ldc 9, 2) := by decide +kernel
theorem dL_low_3 : decode cL_low 3 = .ok (.iand, 1) := by decide +kernel
theorem dL_low_4 : decode cL_low 4 = .ok (.iload_n 1, 1) := by decide +kernel
theorem dL_low_5 : decode cL_low 5 = .ok (.irem, 1) := by decide +kernel
theorem dL_low_6 : decode cL_low 6 = .ok (.ireturn, 1) := by decide +kernel
theorem dL_calls_0 : decode cL_calls 0 = .ok (.iload_n 1, 1) := by decide +kernel
theorem dL_calls_1 : decode cL_calls 1 = .ok (.ifCond .ne 16, 3) := by decide +kernel
theorem dL_calls_4 : decode cL_calls 4 = .ok (.aload_n 0, 1) := by decide +kernel
theorem dL_calls_5 : decode cL_calls 5 = .ok (.iload_n 2, 1) := by decide +kernel
theorem dL_calls_6 : decode cL_calls 6 = .ok (.iload_n 3, 1) := by decide +kernel
theorem dL_calls_7 : decode cL_calls 7 = .ok (.iload 4, 2) := by decide +kernel
theorem dL_calls_9 : decode cL_calls 9 = .ok (.iload 5, 2) := by decide +kernel
theorem dL_calls_11 : decode cL_calls 11 = .ok (.invokevirtual 10, 3) := by decide +kernel
theorem dL_calls_14 : decode cL_calls 14 = .ok (.goto 60, 3) := by decide +kernel
theorem dL_calls_17 : decode cL_calls 17 = .ok (.iload_n 1, 1) := by decide +kernel
theorem dL_calls_18 : decode cL_calls 18 = .ok (.iconst 1, 1) := by decide +kernel
theorem dL_calls_19 : decode cL_calls 19 = .ok (.if_icmp .ne 12, 3) := by decide +kernel
theorem dL_calls_22 : decode cL_calls 22 = .ok (.aload_n 0, 1) := by decide +kernel
theorem dL_calls_23 : decode cL_calls 23 = .ok (.iload_n 2, 1) := by decide +kernel
theorem dL_calls_24 : decode cL_calls 24 = .ok (.iload_n 3, 1) := by decide +kernel
theorem dL_calls_25 : decode cL_calls 25 = .ok (.invokevirtual 16, 3) := by decide +kernel
theorem dL_calls_28 : decode cL_calls 28 = .ok (.goto 46, 3) := by decide +kernel
theorem dL_calls_31 : decode cL_calls 31 = .ok (.iload_n 1, 1) := by decide +kernel
theorem dL_calls_32 : decode cL_calls 32 = .ok (.iconst 2, 1) := by decide +kernel
theorem dL_calls_33 : decode cL_calls 33 = .ok (.if_icmp .ne 21, 3) := by decide +kernel
theorem dL_calls_36 : decode cL_calls 36 = .ok (.aload_n 0, 1) := by decide +kernel
theorem dL_calls_37 : decode cL_calls 37 = .ok (.iload_n 2, 1) := by decide +kernel
theorem dL_calls_38 : decode cL_calls 38 = .ok (.iload_n 3, 1) := by decide +kernel
theorem dL_calls_39 : decode cL_calls 39 = .ok (.iconst 1, 1) := by decide +kernel
theorem dL_calls_40 : decode cL_calls 40 = .ok (.if_icmp .ne 7, 3) := by decide +kernel
theorem dL_calls_43 : decode cL_calls 43 = .ok (.iconst 1, 1) := by decide +kernel
theorem dL_calls_44 : decode cL_calls 44 = .ok (.goto 4, 3) := by decide +kernel
theorem dL_calls_47 : decode cL_calls 47 = .ok (.iconst 0, 1) := by decide +kernel
theorem dL_calls_48 : decode cL_calls 48 = .ok (.invokevirtual 20, 3) := by decide +kernel
theorem dL_calls_51 : decode cL_calls 51 = .ok (.goto 23, 3) := by decide +kernel
theorem dL_calls_54 : decode cL_calls 54 = .ok (.iload_n 1, 1) := by decide +kernel
theorem dL_calls_55 : decode cL_calls 55 = .ok (.iconst 3, 1) := by decide +kernel
theorem dL_calls_56 : decode cL_calls 56 = .ok (.if_icmp .ne 12, 3) := by decide +kernel
theorem dL_calls_59 : decode cL_calls 59 = .ok (.aload_n 0, 1) := by decide +kernel
theorem dL_calls_60 : decode cL_calls 60 = .ok (.iload_n 2, 1) := by decide +kernel
theorem dL_calls_61 : decode cL_calls 61 = .ok (.iload_n 3, 1) := by decide +kernel
theorem dL_calls_62 : decode cL_calls 62 = .ok (.invokevirtual 24, 3) := by decide +kernel
theorem dL_calls_65 : decode cL_calls 65 = .ok (.goto 9, 3) := by decide +kernel
theorem dL_calls_68 : decode cL_calls 68 = .ok (.aload_n 0, 1) := by decide +kernel
theorem dL_calls_69 : decode cL_calls 69 = .ok (.iload_n 2, 1) := by decide +kernel
theorem dL_calls_70 : decode cL_calls 70 = .ok (.iload_n 3, 1) := by decide +kernel
theorem dL_calls_71 : decode cL_calls 71 = .ok (.invokevirtual 27, 3) := by decide +kernel
theorem dL_calls_74 : decode cL_calls 74 = .ok (.ireturn, 1) := by decide +kernel
theorem dL_calls_75 : decode cL_calls 75 = .ok (.astore 6, 2) := by decide +kernel
theorem dL_calls_77 : decode cL_calls 77 = .ok (.bipush (-3), 2) := by decide +kernel
theorem dL_calls_79 : decode cL_calls 79 = .ok (.ireturn, 1) := by decide +kernel
theorem dL_comes_0 : decode cL_comes 0 = .ok (.aload_n 0, 1) := by decide +kernel
theorem dL_comes_1 : decode cL_comes 1 = .ok (.iload_n 1, 1) := by decide +kernel
theorem dL_comes_2 : decode cL_comes 2 = .ok (.invokevirtual 32, 3) := by decide +kernel
theorem dL_comes_5 : decode cL_comes 5 = .ok (.iconst 0, 1) := by decide +kernel
theorem dL_comes_6 : decode cL_comes 6 = .ok (.ireturn, 1) := by decide +kernel
theorem dL_comes_7 : decode cL_comes 7 = .ok (.astore_n 2, 1) := by decide +kernel
theorem dL_comes_8 : decode cL_comes 8 = .ok (.bipush (-3), 2) := by decide +kernel
theorem dL_comes_10 : decode cL_comes 10 = .ok (.ireturn, 1) := by decide +kernel
theorem dL_withdraws_0 : decode cL_withdraws 0 = .ok (.aload_n 0, 1) := by decide +kernel
theorem dL_withdraws_1 : decode cL_withdraws 1 = .ok (.iload_n 1, 1) := by decide +kernel
theorem dL_withdraws_2 : decode cL_withdraws 2 = .ok (.invokevirtual 36, 3) := by decide +kernel
theorem dL_withdraws_5 : decode cL_withdraws 5 = .ok (.iconst 0, 1) := by decide +kernel
theorem dL_withdraws_6 : decode cL_withdraws 6 = .ok (.ireturn, 1) := by decide +kernel
theorem dL_withdraws_7 : decode cL_withdraws 7 = .ok (.astore_n 2, 1) := by decide +kernel
theorem dL_withdraws_8 : decode cL_withdraws 8 = .ok (.bipush (-3), 2) := by decide +kernel
theorem dL_withdraws_10 : decode cL_withdraws 10 = .ok (.ireturn, 1) := by decide +kernel
theorem dL_slot_0 : decode cL_slot 0 = .ok (.iload_n 1, 1) := by decide +kernel
theorem dL_slot_1 : decode cL_slot 1 = .ok (.ifCond .ne 7, 3) := by decide +kernel
theorem dL_slot_4 : decode cL_slot 4 = .ok (.iconst 4, 1) := by decide +kernel
theorem dL_slot_5 : decode cL_slot 5 = .ok (.goto 8, 3) := by decide +kernel
theorem dL_slot_8 : decode cL_slot 8 = .ok (.aload_n 2, 1) := by decide +kernel
theorem dL_slot_9 : decode cL_slot 9 = .ok (.iconst 4, 1) := by decide +kernel
theorem dL_slot_10 : decode cL_slot 10 = .ok (.iload_n 0, 1) := by decide +kernel
theorem dL_slot_11 : decode cL_slot 11 = .ok (.iadd, 1) := by decide +kernel
theorem dL_slot_12 : decode cL_slot 12 = .ok (.iaload, 1) := by decide +kernel
theorem dL_slot_13 : decode cL_slot 13 = .ok (.istore_n 3, 1) := by decide +kernel
theorem dL_slot_14 : decode cL_slot 14 = .ok (.iconst 1, 1) := by decide +kernel
theorem dL_slot_15 : decode cL_slot 15 = .ok (.istore 4, 2) := by decide +kernel
theorem dL_slot_17 : decode cL_slot 17 = .ok (.iload 4, 2) := by decide +kernel
theorem dL_slot_19 : decode cL_slot 19 = .ok (.iload_n 1, 1) := by decide +kernel
theorem dL_slot_20 : decode cL_slot 20 = .ok (.if_icmp .ge 17, 3) := by decide +kernel
theorem dL_slot_23 : decode cL_slot 23 = .ok (.iload_n 3, 1) := by decide +kernel
theorem dL_slot_24 : decode cL_slot 24 = .ok (.ifCond .lt 13, 3) := by decide +kernel
theorem dL_slot_27 : decode cL_slot 27 = .ok (.aload_n 2, 1) := by decide +kernel
theorem dL_slot_28 : decode cL_slot 28 = .ok (.iload_n 3, 1) := by decide +kernel
theorem dL_slot_29 : decode cL_slot 29 = .ok (.iaload, 1) := by decide +kernel
theorem dL_slot_30 : decode cL_slot 30 = .ok (.istore_n 3, 1) := by decide +kernel
theorem dL_slot_31 : decode cL_slot 31 = .ok (.iinc 4 1, 3) := by decide +kernel
theorem dL_slot_34 : decode cL_slot 34 = .ok (.goto (-17), 3) := by decide +kernel
theorem dL_slot_37 : decode cL_slot 37 = .ok (.iload_n 3, 1) := by decide +kernel
theorem dL_slot_38 : decode cL_slot 38 = .ok (.ireturn, 1) := by decide +kernel
theorem dL_layers_0 : decode cL_layers 0 = .ok (.iconst 1, 1) := by decide +kernel
theorem dL_layers_1 : decode cL_layers 1 = .ok (.istore_n 2, 1) := by decide +kernel
theorem dL_layers_2 : decode cL_layers 2 = .ok (.iload_n 0, 1) := by decide +kernel
theorem dL_layers_3 : decode cL_layers 3 = .ok (.iload_n 2, 1) := by decide +kernel
theorem dL_layers_4 : decode cL_layers 4 = .ok (.aload_n 1, 1) := by decide +kernel
theorem dL_layers_5 : decode cL_layers 5 = .ok (.invokestatic 39, 3) := by decide +kernel
theorem dL_layers_8 : decode cL_layers 8 = .ok (.ifCond .lt 9, 3) := by decide +kernel
theorem dL_layers_11 : decode cL_layers 11 = .ok (.iinc 2 1, 3) := by decide +kernel
theorem dL_layers_14 : decode cL_layers 14 = .ok (.goto (-12), 3) := by decide +kernel
theorem dL_layers_17 : decode cL_layers 17 = .ok (.iload_n 2, 1) := by decide +kernel
theorem dL_layers_18 : decode cL_layers 18 = .ok (.ireturn, 1) := by decide +kernel
theorem dL_top_0 : decode cL_top 0 = .ok (.aload_n 2, 1) := by decide +kernel
theorem dL_top_1 : decode cL_top 1 = .ok (.iconst 5, 1) := by decide +kernel
theorem dL_top_2 : decode cL_top 2 = .ok (.iaload, 1) := by decide +kernel
theorem dL_top_3 : decode cL_top 3 = .ok (.istore 4, 2) := by decide +kernel
theorem dL_top_5 : decode cL_top 5 = .ok (.iload 4, 2) := by decide +kernel
theorem dL_top_7 : decode cL_top 7 = .ok (.ifCond .le 78, 3) := by decide +kernel
theorem dL_top_10 : decode cL_top 10 = .ok (.iconst 0, 1) := by decide +kernel
theorem dL_top_11 : decode cL_top 11 = .ok (.istore 5, 2) := by decide +kernel
theorem dL_top_13 : decode cL_top 13 = .ok (.iload 5, 2) := by decide +kernel
theorem dL_top_15 : decode cL_top 15 = .ok (.aload_n 2, 1) := by decide +kernel
theorem dL_top_16 : decode cL_top 16 = .ok (.iconst 4, 1) := by decide +kernel
theorem dL_top_17 : decode cL_top 17 = .ok (.iaload, 1) := by decide +kernel
theorem dL_top_18 : decode cL_top 18 = .ok (.if_icmp .ge 61, 3) := by decide +kernel
theorem dL_top_21 : decode cL_top 21 = .ok (.aload_n 3, 1) := by decide +kernel
theorem dL_top_22 : decode cL_top 22 = .ok (.iconst 5, 1) := by decide +kernel
theorem dL_top_23 : decode cL_top 23 = .ok (.iload 5, 2) := by decide +kernel
theorem dL_top_25 : decode cL_top 25 = .ok (.imul, 1) := by decide +kernel
theorem dL_top_26 : decode cL_top 26 = .ok (.iconst 4, 1) := by decide +kernel
theorem dL_top_27 : decode cL_top 27 = .ok (.iadd, 1) := by decide +kernel
theorem dL_top_28 : decode cL_top 28 = .ok (.iaload, 1) := by decide +kernel
theorem dL_top_29 : decode cL_top 29 = .ok (.iload 4, 2) := by decide +kernel
theorem dL_top_31 : decode cL_top 31 = .ok (.if_icmp .ne 42, 3) := by decide +kernel
theorem dL_top_34 : decode cL_top 34 = .ok (.aload_n 3, 1) := by decide +kernel
theorem dL_top_35 : decode cL_top 35 = .ok (.iconst 5, 1) := by decide +kernel
theorem dL_top_36 : decode cL_top 36 = .ok (.iload 5, 2) := by decide +kernel
theorem dL_top_38 : decode cL_top 38 = .ok (.imul, 1) := by decide +kernel
theorem dL_top_39 : decode cL_top 39 = .ok (.iconst 3, 1) := by decide +kernel
theorem dL_top_40 : decode cL_top 40 = .ok (.iadd, 1) := by decide +kernel
theorem dL_top_41 : decode cL_top 41 = .ok (.iaload, 1) := by decide +kernel
theorem dL_top_42 : decode cL_top 42 = .ok (.iconst 1, 1) := by decide +kernel
theorem dL_top_43 : decode cL_top 43 = .ok (.if_icmp .ne 30, 3) := by decide +kernel
theorem dL_top_46 : decode cL_top 46 = .ok (.aload_n 3, 1) := by decide +kernel
theorem dL_top_47 : decode cL_top 47 = .ok (.iconst 5, 1) := by decide +kernel
theorem dL_top_48 : decode cL_top 48 = .ok (.iload 5, 2) := by decide +kernel
theorem dL_top_50 : decode cL_top 50 = .ok (.imul, 1) := by decide +kernel
theorem dL_top_51 : decode cL_top 51 = .ok (.iaload, 1) := by decide +kernel
theorem dL_top_52 : decode cL_top 52 = .ok (.iload_n 0, 1) := by decide +kernel
theorem dL_top_53 : decode cL_top 53 = .ok (.if_icmp .ne 20, 3) := by decide +kernel
theorem dL_top_56 : decode cL_top 56 = .ok (.aload_n 3, 1) := by decide +kernel
theorem dL_top_57 : decode cL_top 57 = .ok (.iconst 5, 1) := by decide +kernel
theorem dL_top_58 : decode cL_top 58 = .ok (.iload 5, 2) := by decide +kernel
theorem dL_top_60 : decode cL_top 60 = .ok (.imul, 1) := by decide +kernel
theorem dL_top_61 : decode cL_top 61 = .ok (.iconst 1, 1) := by decide +kernel
theorem dL_top_62 : decode cL_top 62 = .ok (.iadd, 1) := by decide +kernel
theorem dL_top_63 : decode cL_top 63 = .ok (.iaload, 1) := by decide +kernel
theorem dL_top_64 : decode cL_top 64 = .ok (.iload_n 1, 1) := by decide +kernel
theorem dL_top_65 : decode cL_top 65 = .ok (.if_icmp .ne 8, 3) := by decide +kernel
theorem dL_top_68 : decode cL_top 68 = .ok (.iload 5, 2) := by decide +kernel
theorem dL_top_70 : decode cL_top 70 = .ok (.iconst 1, 1) := by decide +kernel
theorem dL_top_71 : decode cL_top 71 = .ok (.iadd, 1) := by decide +kernel
theorem dL_top_72 : decode cL_top 72 = .ok (.ireturn, 1) := by decide +kernel
theorem dL_top_73 : decode cL_top 73 = .ok (.iinc 5 1, 3) := by decide +kernel
theorem dL_top_76 : decode cL_top 76 = .ok (.goto (-63), 3) := by decide +kernel
theorem dL_top_79 : decode cL_top 79 = .ok (.iinc 4 (-1), 3) := by decide +kernel
theorem dL_top_82 : decode cL_top 82 = .ok (.goto (-77), 3) := by decide +kernel
theorem dL_top_85 : decode cL_top 85 = .ok (.iconst 0, 1) := by decide +kernel
theorem dL_top_86 : decode cL_top 86 = .ok (.ireturn, 1) := by decide +kernel
theorem dL_counts_0 : decode cL_counts 0 = .ok (.iload_n 1, 1) := by decide +kernel
theorem dL_counts_1 : decode cL_counts 1 = .ok (.iconst 4, 1) := by decide +kernel
theorem dL_counts_2 : decode cL_counts 2 = .ok (.if_icmp .ne 9, 3) := by decide +kernel
theorem dL_counts_5 : decode cL_counts 5 = .ok (.iconst 4, 1) := by decide +kernel
theorem dL_counts_6 : decode cL_counts 6 = .ok (.iload_n 0, 1) := by decide +kernel
theorem dL_counts_7 : decode cL_counts 7 = .ok (.iadd, 1) := by decide +kernel
theorem dL_counts_8 : decode cL_counts 8 = .ok (.goto 4, 3) := by decide +kernel
theorem dL_counts_11 : decode cL_counts 11 = .ok (.iload_n 1, 1) := by decide +kernel
theorem dL_counts_12 : decode cL_counts 12 = .ok (.iload_n 2, 1) := by decide +kernel
theorem dL_counts_13 : decode cL_counts 13 = .ok (.aload_n 3, 1) := by decide +kernel
theorem dL_counts_14 : decode cL_counts 14 = .ok (.aload 4, 2) := by decide +kernel
theorem dL_counts_16 : decode cL_counts 16 = .ok (.invokestatic 45, 3) := by decide +kernel
theorem dL_counts_19 : decode cL_counts 19 = .ok (.ireturn, 1) := by decide +kernel
theorem dL_decides_0 : decode cL_decides 0 = .ok (.iconst (-1), 1) := by decide +kernel
theorem dL_decides_1 : decode cL_decides 1 = .ok (.istore 7, 2) := by decide +kernel
theorem dL_decides_3 : decode cL_decides 3 = .ok (.iload_n 0, 1) := by decide +kernel
theorem dL_decides_4 : decode cL_decides 4 = .ok (.aload 4, 2) := by decide +kernel
theorem dL_decides_6 : decode cL_decides 6 = .ok (.invokestatic 49, 3) := by decide +kernel
theorem dL_decides_9 : decode cL_decides 9 = .ok (.iconst 1, 1) := by decide +kernel
theorem dL_decides_10 : decode cL_decides 10 = .ok (.isub, 1) := by decide +kernel
theorem dL_decides_11 : decode cL_decides 11 = .ok (.istore 8, 2) := by decide +kernel
theorem dL_decides_13 : decode cL_decides 13 = .ok (.iload 8, 2) := by decide +kernel
theorem dL_decides_15 : decode cL_decides 15 = .ok (.ifCond .lt 108, 3) := by decide +kernel
theorem dL_decides_18 : decode cL_decides 18 = .ok (.iload_n 0, 1) := by decide +kernel
theorem dL_decides_19 : decode cL_decides 19 = .ok (.iload 8, 2) := by decide +kernel
theorem dL_decides_21 : decode cL_decides 21 = .ok (.aload 4, 2) := by decide +kernel
theorem dL_decides_23 : decode cL_decides 23 = .ok (.invokestatic 39, 3) := by decide +kernel
theorem dL_decides_26 : decode cL_decides 26 = .ok (.istore 9, 2) := by decide +kernel
theorem dL_decides_28 : decode cL_decides 28 = .ok (.iload_n 2, 1) := by decide +kernel
theorem dL_decides_29 : decode cL_decides 29 = .ok (.ifCond .eq 20, 3) := by decide +kernel
theorem dL_decides_32 : decode cL_decides 32 = .ok (.aload 5, 2) := by decide +kernel
theorem dL_decides_34 : decode cL_decides 34 = .ok (.bipush 20, 2) := by decide +kernel
theorem dL_decides_36 : decode cL_decides 36 = .ok (.iload_n 0, 1) := by decide +kernel
theorem dL_decides_37 : decode cL_decides 37 = .ok (.imul, 1) := by decide +kernel
theorem dL_decides_38 : decode cL_decides 38 = .ok (.iconst 4, 1) := by decide +kernel
theorem dL_decides_39 : decode cL_decides 39 = .ok (.iload 9, 2) := by decide +kernel
theorem dL_decides_41 : decode cL_decides 41 = .ok (.imul, 1) := by decide +kernel
theorem dL_decides_42 : decode cL_decides 42 = .ok (.iadd, 1) := by decide +kernel
theorem dL_decides_43 : decode cL_decides 43 = .ok (.iload_n 1, 1) := by decide +kernel
theorem dL_decides_44 : decode cL_decides 44 = .ok (.iadd, 1) := by decide +kernel
theorem dL_decides_45 : decode cL_decides 45 = .ok (.iaload, 1) := by decide +kernel
theorem dL_decides_46 : decode cL_decides 46 = .ok (.goto 13, 3) := by decide +kernel
theorem dL_decides_49 : decode cL_decides 49 = .ok (.iload_n 0, 1) := by decide +kernel
theorem dL_decides_50 : decode cL_decides 50 = .ok (.iload 9, 2) := by decide +kernel
theorem dL_decides_52 : decode cL_decides 52 = .ok (.iload_n 1, 1) := by decide +kernel
theorem dL_decides_53 : decode cL_decides 53 = .ok (.aload_n 3, 1) := by decide +kernel
theorem dL_decides_54 : decode cL_decides 54 = .ok (.aload 6, 2) := by decide +kernel
theorem dL_decides_56 : decode cL_decides 56 = .ok (.invokestatic 53, 3) := by decide +kernel
theorem dL_decides_59 : decode cL_decides 59 = .ok (.istore 10, 2) := by decide +kernel
theorem dL_decides_61 : decode cL_decides 61 = .ok (.iload 10, 2) := by decide +kernel
theorem dL_decides_63 : decode cL_decides 63 = .ok (.ifCond .ne 8, 3) := by decide +kernel
theorem dL_decides_66 : decode cL_decides 66 = .ok (.bipush 101, 2) := by decide +kernel
theorem dL_decides_68 : decode cL_decides 68 = .ok (.goto 12, 3) := by decide +kernel
theorem dL_decides_71 : decode cL_decides 71 = .ok (.aload 6, 2) := by decide +kernel
theorem dL_decides_73 : decode cL_decides 73 = .ok (.iconst 5, 1) := by decide +kernel
theorem dL_decides_74 : decode cL_decides 74 = .ok (.iload 10, 2) := by decide +kernel
theorem dL_decides_76 : decode cL_decides 76 = .ok (.imul, 1) := by decide +kernel
theorem dL_decides_77 : decode cL_decides 77 = .ok (.iconst 3, 1) := by decide +kernel
theorem dL_decides_78 : decode cL_decides 78 = .ok (.isub, 1) := by decide +kernel
theorem dL_decides_79 : decode cL_decides 79 = .ok (.iaload, 1) := by decide +kernel
theorem dL_decides_80 : decode cL_decides 80 = .ok (.istore 11, 2) := by decide +kernel
theorem dL_decides_82 : decode cL_decides 82 = .ok (.iload 11, 2) := by decide +kernel
theorem dL_decides_84 : decode cL_decides 84 = .ok (.bipush 101, 2) := by decide +kernel
theorem dL_decides_86 : decode cL_decides 86 = .ok (.if_icmp .ne 8, 3) := by decide +kernel
theorem dL_decides_89 : decode cL_decides 89 = .ok (.iload 7, 2) := by decide +kernel
theorem dL_decides_91 : decode cL_decides 91 = .ok (.goto 24, 3) := by decide +kernel
theorem dL_decides_94 : decode cL_decides 94 = .ok (.iload 11, 2) := by decide +kernel
theorem dL_decides_96 : decode cL_decides 96 = .ok (.bipush 100, 2) := by decide +kernel
theorem dL_decides_98 : decode cL_decides 98 = .ok (.if_icmp .ne 7, 3) := by decide +kernel
theorem dL_decides_101 : decode cL_decides 101 = .ok (.iconst (-1), 1) := by decide +kernel
theorem dL_decides_102 : decode cL_decides 102 = .ok (.goto 13, 3) := by decide +kernel
theorem dL_decides_105 : decode cL_decides 105 = .ok (.bipush 100, 2) := by decide +kernel
theorem dL_decides_107 : decode cL_decides 107 = .ok (.iload 8, 2) := by decide +kernel
theorem dL_decides_109 : decode cL_decides 109 = .ok (.imul, 1) := by decide +kernel
theorem dL_decides_110 : decode cL_decides 110 = .ok (.iload 10, 2) := by decide +kernel
theorem dL_decides_112 : decode cL_decides 112 = .ok (.iadd, 1) := by decide +kernel
theorem dL_decides_113 : decode cL_decides 113 = .ok (.iconst 1, 1) := by decide +kernel
theorem dL_decides_114 : decode cL_decides 114 = .ok (.isub, 1) := by decide +kernel
theorem dL_decides_115 : decode cL_decides 115 = .ok (.istore 7, 2) := by decide +kernel
theorem dL_decides_117 : decode cL_decides 117 = .ok (.iinc 8 (-1), 3) := by decide +kernel
theorem dL_decides_120 : decode cL_decides 120 = .ok (.goto (-107), 3) := by decide +kernel
theorem dL_decides_123 : decode cL_decides 123 = .ok (.iload 7, 2) := by decide +kernel
theorem dL_decides_125 : decode cL_decides 125 = .ok (.ireturn, 1) := by decide +kernel
theorem dL_hides_0 : decode cL_hides 0 = .ok (.iload_n 0, 1) := by decide +kernel
theorem dL_hides_1 : decode cL_hides 1 = .ok (.iload_n 1, 1) := by decide +kernel
theorem dL_hides_2 : decode cL_hides 2 = .ok (.iload_n 2, 1) := by decide +kernel
theorem dL_hides_3 : decode cL_hides 3 = .ok (.aload_n 3, 1) := by decide +kernel
theorem dL_hides_4 : decode cL_hides 4 = .ok (.aload 4, 2) := by decide +kernel
theorem dL_hides_6 : decode cL_hides 6 = .ok (.aload 5, 2) := by decide +kernel
theorem dL_hides_8 : decode cL_hides 8 = .ok (.aload 6, 2) := by decide +kernel
theorem dL_hides_10 : decode cL_hides 10 = .ok (.invokestatic 57, 3) := by decide +kernel
theorem dL_hides_13 : decode cL_hides 13 = .ok (.istore 8, 2) := by decide +kernel
theorem dL_hides_15 : decode cL_hides 15 = .ok (.iconst 0, 1) := by decide +kernel
theorem dL_hides_16 : decode cL_hides 16 = .ok (.istore 9, 2) := by decide +kernel
theorem dL_hides_18 : decode cL_hides 18 = .ok (.iconst 0, 1) := by decide +kernel
theorem dL_hides_19 : decode cL_hides 19 = .ok (.istore 10, 2) := by decide +kernel
theorem dL_hides_21 : decode cL_hides 21 = .ok (.iload 10, 2) := by decide +kernel
theorem dL_hides_23 : decode cL_hides 23 = .ok (.iconst 4, 1) := by decide +kernel
theorem dL_hides_24 : decode cL_hides 24 = .ok (.if_icmp .ge 134, 3) := by decide +kernel
theorem dL_hides_27 : decode cL_hides 27 = .ok (.iload 8, 2) := by decide +kernel
theorem dL_hides_29 : decode cL_hides 29 = .ok (.ifCond .lt 129, 3) := by decide +kernel
theorem dL_hides_32 : decode cL_hides 32 = .ok (.aload 7, 2) := by decide +kernel
theorem dL_hides_34 : decode cL_hides 34 = .ok (.iload_n 1, 1) := by decide +kernel
theorem dL_hides_35 : decode cL_hides 35 = .ok (.iaload, 1) := by decide +kernel
theorem dL_hides_36 : decode cL_hides 36 = .ok (.iload 10, 2) := by decide +kernel
theorem dL_hides_38 : decode cL_hides 38 = .ok (.ishr, 1) := by decide +kernel
theorem dL_hides_39 : decode cL_hides 39 = .ok (.iconst 1, 1) := by decide +kernel
theorem dL_hides_40 : decode cL_hides 40 = .ok (.iand, 1) := by decide +kernel
theorem dL_hides_41 : decode cL_hides 41 = .ok (.iconst 1, 1) := by decide +kernel
theorem dL_hides_42 : decode cL_hides 42 = .ok (.if_icmp .ne 20, 3) := by decide +kernel
theorem dL_hides_45 : decode cL_hides 45 = .ok (.iload_n 0, 1) := by decide +kernel
theorem dL_hides_46 : decode cL_hides 46 = .ok (.iload 10, 2) := by decide +kernel
theorem dL_hides_48 : decode cL_hides 48 = .ok (.iload_n 2, 1) := by decide +kernel
theorem dL_hides_49 : decode cL_hides 49 = .ok (.aload_n 3, 1) := by decide +kernel
theorem dL_hides_50 : decode cL_hides 50 = .ok (.aload 4, 2) := by decide +kernel
theorem dL_hides_52 : decode cL_hides 52 = .ok (.aload 5, 2) := by decide +kernel
theorem dL_hides_54 : decode cL_hides 54 = .ok (.aload 6, 2) := by decide +kernel
theorem dL_hides_56 : decode cL_hides 56 = .ok (.invokestatic 57, 3) := by decide +kernel
theorem dL_hides_59 : decode cL_hides 59 = .ok (.goto 4, 3) := by decide +kernel
theorem dL_hides_62 : decode cL_hides 62 = .ok (.iconst (-1), 1) := by decide +kernel
theorem dL_hides_63 : decode cL_hides 63 = .ok (.istore 11, 2) := by decide +kernel
theorem dL_hides_65 : decode cL_hides 65 = .ok (.iload 11, 2) := by decide +kernel
theorem dL_hides_67 : decode cL_hides 67 = .ok (.ifCond .lt 20, 3) := by decide +kernel
theorem dL_hides_70 : decode cL_hides 70 = .ok (.iload 11, 2) := by decide +kernel
theorem dL_hides_72 : decode cL_hides 72 = .ok (.bipush 100, 2) := by decide +kernel
theorem dL_hides_74 : decode cL_hides 74 = .ok (.idiv, 1) := by decide +kernel
theorem dL_hides_75 : decode cL_hides 75 = .ok (.iload 8, 2) := by decide +kernel
theorem dL_hides_77 : decode cL_hides 77 = .ok (.bipush 100, 2) := by decide +kernel
theorem dL_hides_79 : decode cL_hides 79 = .ok (.idiv, 1) := by decide +kernel
theorem dL_hides_80 : decode cL_hides 80 = .ok (.if_icmp .ne 7, 3) := by decide +kernel
theorem dL_hides_83 : decode cL_hides 83 = .ok (.iconst 1, 1) := by decide +kernel
theorem dL_hides_84 : decode cL_hides 84 = .ok (.goto 4, 3) := by decide +kernel
theorem dL_hides_87 : decode cL_hides 87 = .ok (.iconst 0, 1) := by decide +kernel
theorem dL_hides_88 : decode cL_hides 88 = .ok (.istore 12, 2) := by decide +kernel
theorem dL_hides_90 : decode cL_hides 90 = .ok (.iload 9, 2) := by decide +kernel
theorem dL_hides_92 : decode cL_hides 92 = .ok (.ifCond .ne 53, 3) := by decide +kernel
theorem dL_hides_95 : decode cL_hides 95 = .ok (.iload 11, 2) := by decide +kernel
theorem dL_hides_97 : decode cL_hides 97 = .ok (.ifCond .lt 16, 3) := by decide +kernel
theorem dL_hides_100 : decode cL_hides 100 = .ok (.iload 11, 2) := by decide +kernel
theorem dL_hides_102 : decode cL_hides 102 = .ok (.bipush 100, 2) := by decide +kernel
theorem dL_hides_104 : decode cL_hides 104 = .ok (.idiv, 1) := by decide +kernel
theorem dL_hides_105 : decode cL_hides 105 = .ok (.iload 8, 2) := by decide +kernel
theorem dL_hides_107 : decode cL_hides 107 = .ok (.bipush 100, 2) := by decide +kernel
theorem dL_hides_109 : decode cL_hides 109 = .ok (.idiv, 1) := by decide +kernel
theorem dL_hides_110 : decode cL_hides 110 = .ok (.if_icmp .lt 35, 3) := by decide +kernel
theorem dL_hides_113 : decode cL_hides 113 = .ok (.iload 12, 2) := by decide +kernel
theorem dL_hides_115 : decode cL_hides 115 = .ok (.ifCond .eq 34, 3) := by decide +kernel
theorem dL_hides_118 : decode cL_hides 118 = .ok (.aload 6, 2) := by decide +kernel
theorem dL_hides_120 : decode cL_hides 120 = .ok (.iconst 5, 1) := by decide +kernel
theorem dL_hides_121 : decode cL_hides 121 = .ok (.iload 11, 2) := by decide +kernel
theorem dL_hides_123 : decode cL_hides 123 = .ok (.bipush 100, 2) := by decide +kernel
theorem dL_hides_125 : decode cL_hides 125 = .ok (.irem, 1) := by decide +kernel
theorem dL_hides_126 : decode cL_hides 126 = .ok (.imul, 1) := by decide +kernel
theorem dL_hides_127 : decode cL_hides 127 = .ok (.iconst 4, 1) := by decide +kernel
theorem dL_hides_128 : decode cL_hides 128 = .ok (.iadd, 1) := by decide +kernel
theorem dL_hides_129 : decode cL_hides 129 = .ok (.iaload, 1) := by decide +kernel
theorem dL_hides_130 : decode cL_hides 130 = .ok (.aload 6, 2) := by decide +kernel
theorem dL_hides_132 : decode cL_hides 132 = .ok (.iconst 5, 1) := by decide +kernel
theorem dL_hides_133 : decode cL_hides 133 = .ok (.iload 8, 2) := by decide +kernel
theorem dL_hides_135 : decode cL_hides 135 = .ok (.bipush 100, 2) := by decide +kernel
theorem dL_hides_137 : decode cL_hides 137 = .ok (.irem, 1) := by decide +kernel
theorem dL_hides_138 : decode cL_hides 138 = .ok (.imul, 1) := by decide +kernel
theorem dL_hides_139 : decode cL_hides 139 = .ok (.iconst 4, 1) := by decide +kernel
theorem dL_hides_140 : decode cL_hides 140 = .ok (.iadd, 1) := by decide +kernel
theorem dL_hides_141 : decode cL_hides 141 = .ok (.iaload, 1) := by decide +kernel
theorem dL_hides_142 : decode cL_hides 142 = .ok (.if_icmp .le 7, 3) := by decide +kernel
theorem dL_hides_145 : decode cL_hides 145 = .ok (.iconst 1, 1) := by decide +kernel
theorem dL_hides_146 : decode cL_hides 146 = .ok (.goto 4, 3) := by decide +kernel
theorem dL_hides_149 : decode cL_hides 149 = .ok (.iconst 0, 1) := by decide +kernel
theorem dL_hides_150 : decode cL_hides 150 = .ok (.istore 9, 2) := by decide +kernel
theorem dL_hides_152 : decode cL_hides 152 = .ok (.iinc 10 1, 3) := by decide +kernel
theorem dL_hides_155 : decode cL_hides 155 = .ok (.goto (-134), 3) := by decide +kernel
theorem dL_hides_158 : decode cL_hides 158 = .ok (.iload 9, 2) := by decide +kernel
theorem dL_hides_160 : decode cL_hides 160 = .ok (.ireturn, 1) := by decide +kernel
theorem dL_stopped_0 : decode cL_stopped 0 = .ok (.iconst 0, 1) := by decide +kernel
theorem dL_stopped_1 : decode cL_stopped 1 = .ok (.istore_n 3, 1) := by decide +kernel
theorem dL_stopped_2 : decode cL_stopped 2 = .ok (.bipush 20, 2) := by decide +kernel
theorem dL_stopped_4 : decode cL_stopped 4 = .ok (.iload_n 0, 1) := by decide +kernel
theorem dL_stopped_5 : decode cL_stopped 5 = .ok (.imul, 1) := by decide +kernel
theorem dL_stopped_6 : decode cL_stopped 6 = .ok (.istore 4, 2) := by decide +kernel
theorem dL_stopped_8 : decode cL_stopped 8 = .ok (.iload 4, 2) := by decide +kernel
theorem dL_stopped_10 : decode cL_stopped 10 = .ok (.bipush 20, 2) := by decide +kernel
theorem dL_stopped_12 : decode cL_stopped 12 = .ok (.iload_n 0, 1) := by decide +kernel
theorem dL_stopped_13 : decode cL_stopped 13 = .ok (.imul, 1) := by decide +kernel
theorem dL_stopped_14 : decode cL_stopped 14 = .ok (.bipush 20, 2) := by decide +kernel
theorem dL_stopped_16 : decode cL_stopped 16 = .ok (.iadd, 1) := by decide +kernel
theorem dL_stopped_17 : decode cL_stopped 17 = .ok (.if_icmp .ge 40, 3) := by decide +kernel
theorem dL_stopped_20 : decode cL_stopped 20 = .ok (.iload_n 3, 1) := by decide +kernel
theorem dL_stopped_21 : decode cL_stopped 21 = .ok (.ifCond .ne 24, 3) := by decide +kernel
theorem dL_stopped_24 : decode cL_stopped 24 = .ok (.aload_n 1, 1) := by decide +kernel
theorem dL_stopped_25 : decode cL_stopped 25 = .ok (.iload 4, 2) := by decide +kernel
theorem dL_stopped_27 : decode cL_stopped 27 = .ok (.iaload, 1) := by decide +kernel
theorem dL_stopped_28 : decode cL_stopped 28 = .ok (.ifCond .le 21, 3) := by decide +kernel
theorem dL_stopped_31 : decode cL_stopped 31 = .ok (.aload_n 2, 1) := by decide +kernel
theorem dL_stopped_32 : decode cL_stopped 32 = .ok (.iconst 5, 1) := by decide +kernel
theorem dL_stopped_33 : decode cL_stopped 33 = .ok (.aload_n 1, 1) := by decide +kernel
theorem dL_stopped_34 : decode cL_stopped 34 = .ok (.iload 4, 2) := by decide +kernel
theorem dL_stopped_36 : decode cL_stopped 36 = .ok (.iaload, 1) := by decide +kernel
theorem dL_stopped_37 : decode cL_stopped 37 = .ok (.imul, 1) := by decide +kernel
theorem dL_stopped_38 : decode cL_stopped 38 = .ok (.iconst 2, 1) := by decide +kernel
theorem dL_stopped_39 : decode cL_stopped 39 = .ok (.isub, 1) := by decide +kernel
theorem dL_stopped_40 : decode cL_stopped 40 = .ok (.iaload, 1) := by decide +kernel
theorem dL_stopped_41 : decode cL_stopped 41 = .ok (.iconst 1, 1) := by decide +kernel
theorem dL_stopped_42 : decode cL_stopped 42 = .ok (.if_icmp .eq 7, 3) := by decide +kernel
theorem dL_stopped_45 : decode cL_stopped 45 = .ok (.iconst 1, 1) := by decide +kernel
theorem dL_stopped_46 : decode cL_stopped 46 = .ok (.goto 4, 3) := by decide +kernel
theorem dL_stopped_49 : decode cL_stopped 49 = .ok (.iconst 0, 1) := by decide +kernel
theorem dL_stopped_50 : decode cL_stopped 50 = .ok (.istore_n 3, 1) := by decide +kernel
theorem dL_stopped_51 : decode cL_stopped 51 = .ok (.iinc 4 1, 3) := by decide +kernel
theorem dL_stopped_54 : decode cL_stopped 54 = .ok (.goto (-46), 3) := by decide +kernel
theorem dL_stopped_57 : decode cL_stopped 57 = .ok (.iload_n 3, 1) := by decide +kernel
theorem dL_stopped_58 : decode cL_stopped 58 = .ok (.ireturn, 1) := by decide +kernel
theorem dL_lags_0 : decode cL_lags 0 = .ok (.iload_n 0, 1) := by decide +kernel
theorem dL_lags_1 : decode cL_lags 1 = .ok (.iload_n 1, 1) := by decide +kernel
theorem dL_lags_2 : decode cL_lags 2 = .ok (.aload_n 3, 1) := by decide +kernel
theorem dL_lags_3 : decode cL_lags 3 = .ok (.invokestatic 39, 3) := by decide +kernel
theorem dL_lags_6 : decode cL_lags 6 = .ok (.istore 6, 2) := by decide +kernel
theorem dL_lags_8 : decode cL_lags 8 = .ok (.iconst 0, 1) := by decide +kernel
theorem dL_lags_9 : decode cL_lags 9 = .ok (.istore 7, 2) := by decide +kernel
theorem dL_lags_11 : decode cL_lags 11 = .ok (.iconst 0, 1) := by decide +kernel
theorem dL_lags_12 : decode cL_lags 12 = .ok (.istore 8, 2) := by decide +kernel
theorem dL_lags_14 : decode cL_lags 14 = .ok (.iload 8, 2) := by decide +kernel
theorem dL_lags_16 : decode cL_lags 16 = .ok (.iconst 4, 1) := by decide +kernel
theorem dL_lags_17 : decode cL_lags 17 = .ok (.if_icmp .ge 50, 3) := by decide +kernel
theorem dL_lags_20 : decode cL_lags 20 = .ok (.iload 7, 2) := by decide +kernel
theorem dL_lags_22 : decode cL_lags 22 = .ok (.ifCond .ne 32, 3) := by decide +kernel
theorem dL_lags_25 : decode cL_lags 25 = .ok (.aload 4, 2) := by decide +kernel
theorem dL_lags_27 : decode cL_lags 27 = .ok (.bipush 20, 2) := by decide +kernel
theorem dL_lags_29 : decode cL_lags 29 = .ok (.iload_n 0, 1) := by decide +kernel
theorem dL_lags_30 : decode cL_lags 30 = .ok (.imul, 1) := by decide +kernel
theorem dL_lags_31 : decode cL_lags 31 = .ok (.iconst 4, 1) := by decide +kernel
theorem dL_lags_32 : decode cL_lags 32 = .ok (.iload 6, 2) := by decide +kernel
theorem dL_lags_34 : decode cL_lags 34 = .ok (.imul, 1) := by decide +kernel
theorem dL_lags_35 : decode cL_lags 35 = .ok (.iadd, 1) := by decide +kernel
theorem dL_lags_36 : decode cL_lags 36 = .ok (.iload 8, 2) := by decide +kernel
theorem dL_lags_38 : decode cL_lags 38 = .ok (.iadd, 1) := by decide +kernel
theorem dL_lags_39 : decode cL_lags 39 = .ok (.iaload, 1) := by decide +kernel
theorem dL_lags_40 : decode cL_lags 40 = .ok (.iload_n 0, 1) := by decide +kernel
theorem dL_lags_41 : decode cL_lags 41 = .ok (.iload 6, 2) := by decide +kernel
theorem dL_lags_43 : decode cL_lags 43 = .ok (.iload 8, 2) := by decide +kernel
theorem dL_lags_45 : decode cL_lags 45 = .ok (.aload_n 2, 1) := by decide +kernel
theorem dL_lags_46 : decode cL_lags 46 = .ok (.aload 5, 2) := by decide +kernel
theorem dL_lags_48 : decode cL_lags 48 = .ok (.invokestatic 53, 3) := by decide +kernel
theorem dL_lags_51 : decode cL_lags 51 = .ok (.if_icmp .eq 7, 3) := by decide +kernel
theorem dL_lags_54 : decode cL_lags 54 = .ok (.iconst 1, 1) := by decide +kernel
theorem dL_lags_55 : decode cL_lags 55 = .ok (.goto 4, 3) := by decide +kernel
theorem dL_lags_58 : decode cL_lags 58 = .ok (.iconst 0, 1) := by decide +kernel
theorem dL_lags_59 : decode cL_lags 59 = .ok (.istore 7, 2) := by decide +kernel
theorem dL_lags_61 : decode cL_lags 61 = .ok (.iinc 8 1, 3) := by decide +kernel
theorem dL_lags_64 : decode cL_lags 64 = .ok (.goto (-50), 3) := by decide +kernel
theorem dL_lags_67 : decode cL_lags 67 = .ok (.iload 7, 2) := by decide +kernel
theorem dL_lags_69 : decode cL_lags 69 = .ok (.ireturn, 1) := by decide +kernel
theorem dL_isMachine_0 : decode cL_isMachine 0 = .ok (.iconst 0, 1) := by decide +kernel
theorem dL_isMachine_1 : decode cL_isMachine 1 = .ok (.istore 7, 2) := by decide +kernel
theorem dL_isMachine_3 : decode cL_isMachine 3 = .ok (.iconst 0, 1) := by decide +kernel
theorem dL_isMachine_4 : decode cL_isMachine 4 = .ok (.istore 8, 2) := by decide +kernel
theorem dL_isMachine_6 : decode cL_isMachine 6 = .ok (.iload_n 1, 1) := by decide +kernel
theorem dL_isMachine_7 : decode cL_isMachine 7 = .ok (.aload 4, 2) := by decide +kernel
theorem dL_isMachine_9 : decode cL_isMachine 9 = .ok (.aload 5, 2) := by decide +kernel
theorem dL_isMachine_11 : decode cL_isMachine 11 = .ok (.invokestatic 61, 3) := by decide +kernel
theorem dL_isMachine_14 : decode cL_isMachine 14 = .ok (.istore 9, 2) := by decide +kernel
theorem dL_isMachine_16 : decode cL_isMachine 16 = .ok (.aload_n 0, 1) := by decide +kernel
theorem dL_isMachine_17 : decode cL_isMachine 17 = .ok (.iload_n 1, 1) := by decide +kernel
theorem dL_isMachine_18 : decode cL_isMachine 18 = .ok (.invokevirtual 65, 3) := by decide +kernel
theorem dL_isMachine_21 : decode cL_isMachine 21 = .ok (.iload 9, 2) := by decide +kernel
theorem dL_isMachine_23 : decode cL_isMachine 23 = .ok (.if_icmp .ne 32, 3) := by decide +kernel
theorem dL_isMachine_26 : decode cL_isMachine 26 = .ok (.aload_n 0, 1) := by decide +kernel
theorem dL_isMachine_27 : decode cL_isMachine 27 = .ok (.iload_n 1, 1) := by decide +kernel
theorem dL_isMachine_28 : decode cL_isMachine 28 = .ok (.invokevirtual 69, 3) := by decide +kernel
theorem dL_isMachine_31 : decode cL_isMachine 31 = .ok (.aload_n 2, 1) := by decide +kernel
theorem dL_isMachine_32 : decode cL_isMachine 32 = .ok (.iconst 0, 1) := by decide +kernel
theorem dL_isMachine_33 : decode cL_isMachine 33 = .ok (.iaload, 1) := by decide +kernel
theorem dL_isMachine_34 : decode cL_isMachine 34 = .ok (.aload_n 3, 1) := by decide +kernel
theorem dL_isMachine_35 : decode cL_isMachine 35 = .ok (.bipush 7, 2) := by decide +kernel
theorem dL_isMachine_37 : decode cL_isMachine 37 = .ok (.iload_n 1, 1) := by decide +kernel
theorem dL_isMachine_38 : decode cL_isMachine 38 = .ok (.iadd, 1) := by decide +kernel
theorem dL_isMachine_39 : decode cL_isMachine 39 = .ok (.iaload, 1) := by decide +kernel
theorem dL_isMachine_40 : decode cL_isMachine 40 = .ok (.if_icmp .ge 7, 3) := by decide +kernel
theorem dL_isMachine_43 : decode cL_isMachine 43 = .ok (.iconst 1, 1) := by decide +kernel
theorem dL_isMachine_44 : decode cL_isMachine 44 = .ok (.goto 4, 3) := by decide +kernel
theorem dL_isMachine_47 : decode cL_isMachine 47 = .ok (.iconst 0, 1) := by decide +kernel
theorem dL_isMachine_48 : decode cL_isMachine 48 = .ok (.if_icmp .ne 7, 3) := by decide +kernel
theorem dL_isMachine_51 : decode cL_isMachine 51 = .ok (.iconst 1, 1) := by decide +kernel
theorem dL_isMachine_52 : decode cL_isMachine 52 = .ok (.goto 4, 3) := by decide +kernel
theorem dL_isMachine_55 : decode cL_isMachine 55 = .ok (.iconst 0, 1) := by decide +kernel
theorem dL_isMachine_56 : decode cL_isMachine 56 = .ok (.istore 10, 2) := by decide +kernel
theorem dL_isMachine_58 : decode cL_isMachine 58 = .ok (.iconst 0, 1) := by decide +kernel
theorem dL_isMachine_59 : decode cL_isMachine 59 = .ok (.istore 11, 2) := by decide +kernel
theorem dL_isMachine_61 : decode cL_isMachine 61 = .ok (.iload 11, 2) := by decide +kernel
theorem dL_isMachine_63 : decode cL_isMachine 63 = .ok (.iload_n 1, 1) := by decide +kernel
theorem dL_isMachine_64 : decode cL_isMachine 64 = .ok (.aload_n 3, 1) := by decide +kernel
theorem dL_isMachine_65 : decode cL_isMachine 65 = .ok (.invokestatic 49, 3) := by decide +kernel
theorem dL_isMachine_68 : decode cL_isMachine 68 = .ok (.if_icmp .ge 100, 3) := by decide +kernel
theorem dL_isMachine_71 : decode cL_isMachine 71 = .ok (.iload 10, 2) := by decide +kernel
theorem dL_isMachine_73 : decode cL_isMachine 73 = .ok (.ifCond .eq 95, 3) := by decide +kernel
theorem dL_isMachine_76 : decode cL_isMachine 76 = .ok (.iconst 0, 1) := by decide +kernel
theorem dL_isMachine_77 : decode cL_isMachine 77 = .ok (.istore 12, 2) := by decide +kernel
theorem dL_isMachine_79 : decode cL_isMachine 79 = .ok (.iload 12, 2) := by decide +kernel
theorem dL_isMachine_81 : decode cL_isMachine 81 = .ok (.iconst 4, 1) := by decide +kernel
theorem dL_isMachine_82 : decode cL_isMachine 82 = .ok (.if_icmp .ge 55, 3) := by decide +kernel
theorem dL_isMachine_85 : decode cL_isMachine 85 = .ok (.iload 10, 2) := by decide +kernel
theorem dL_isMachine_87 : decode cL_isMachine 87 = .ok (.ifCond .eq 41, 3) := by decide +kernel
theorem dL_isMachine_90 : decode cL_isMachine 90 = .ok (.aload_n 0, 1) := by decide +kernel
theorem dL_isMachine_91 : decode cL_isMachine 91 = .ok (.iload_n 1, 1) := by decide +kernel
theorem dL_isMachine_92 : decode cL_isMachine 92 = .ok (.iload 11, 2) := by decide +kernel
theorem dL_isMachine_94 : decode cL_isMachine 94 = .ok (.iload 12, 2) := by decide +kernel
theorem dL_isMachine_96 : decode cL_isMachine 96 = .ok (.invokevirtual 72, 3) := by decide +kernel
theorem dL_isMachine_99 : decode cL_isMachine 99 = .ok (.aload 4, 2) := by decide +kernel
theorem dL_isMachine_101 : decode cL_isMachine 101 = .ok (.bipush 20, 2) := by decide +kernel
theorem dL_isMachine_103 : decode cL_isMachine 103 = .ok (.iload_n 1, 1) := by decide +kernel
theorem dL_isMachine_104 : decode cL_isMachine 104 = .ok (.imul, 1) := by decide +kernel
theorem dL_isMachine_105 : decode cL_isMachine 105 = .ok (.iconst 4, 1) := by decide +kernel
theorem dL_isMachine_106 : decode cL_isMachine 106 = .ok (.iload_n 1, 1) := by decide +kernel
theorem dL_isMachine_107 : decode cL_isMachine 107 = .ok (.iload 11, 2) := by decide +kernel
theorem dL_isMachine_109 : decode cL_isMachine 109 = .ok (.aload_n 3, 1) := by decide +kernel
theorem dL_isMachine_110 : decode cL_isMachine 110 = .ok (.invokestatic 39, 3) := by decide +kernel
theorem dL_isMachine_113 : decode cL_isMachine 113 = .ok (.imul, 1) := by decide +kernel
theorem dL_isMachine_114 : decode cL_isMachine 114 = .ok (.iadd, 1) := by decide +kernel
theorem dL_isMachine_115 : decode cL_isMachine 115 = .ok (.iload 12, 2) := by decide +kernel
theorem dL_isMachine_117 : decode cL_isMachine 117 = .ok (.iadd, 1) := by decide +kernel
theorem dL_isMachine_118 : decode cL_isMachine 118 = .ok (.iaload, 1) := by decide +kernel
theorem dL_isMachine_119 : decode cL_isMachine 119 = .ok (.iconst 1, 1) := by decide +kernel
theorem dL_isMachine_120 : decode cL_isMachine 120 = .ok (.isub, 1) := by decide +kernel
theorem dL_isMachine_121 : decode cL_isMachine 121 = .ok (.if_icmp .ne 7, 3) := by decide +kernel
theorem dL_isMachine_124 : decode cL_isMachine 124 = .ok (.iconst 1, 1) := by decide +kernel
theorem dL_isMachine_125 : decode cL_isMachine 125 = .ok (.goto 4, 3) := by decide +kernel
theorem dL_isMachine_128 : decode cL_isMachine 128 = .ok (.iconst 0, 1) := by decide +kernel
theorem dL_isMachine_129 : decode cL_isMachine 129 = .ok (.istore 10, 2) := by decide +kernel
theorem dL_isMachine_131 : decode cL_isMachine 131 = .ok (.iinc 12 1, 3) := by decide +kernel
theorem dL_isMachine_134 : decode cL_isMachine 134 = .ok (.goto (-55), 3) := by decide +kernel
theorem dL_isMachine_137 : decode cL_isMachine 137 = .ok (.iload 7, 2) := by decide +kernel
theorem dL_isMachine_139 : decode cL_isMachine 139 = .ok (.iload_n 1, 1) := by decide +kernel
theorem dL_isMachine_140 : decode cL_isMachine 140 = .ok (.iload 11, 2) := by decide +kernel
theorem dL_isMachine_142 : decode cL_isMachine 142 = .ok (.aload_n 2, 1) := by decide +kernel
theorem dL_isMachine_143 : decode cL_isMachine 143 = .ok (.aload_n 3, 1) := by decide +kernel
theorem dL_isMachine_144 : decode cL_isMachine 144 = .ok (.aload 4, 2) := by decide +kernel
theorem dL_isMachine_146 : decode cL_isMachine 146 = .ok (.aload 5, 2) := by decide +kernel
theorem dL_isMachine_148 : decode cL_isMachine 148 = .ok (.invokestatic 76, 3) := by decide +kernel
theorem dL_isMachine_151 : decode cL_isMachine 151 = .ok (.ifCond .eq 7, 3) := by decide +kernel
theorem dL_isMachine_154 : decode cL_isMachine 154 = .ok (.iconst 1, 1) := by decide +kernel
theorem dL_isMachine_155 : decode cL_isMachine 155 = .ok (.goto 4, 3) := by decide +kernel
theorem dL_isMachine_158 : decode cL_isMachine 158 = .ok (.iconst 0, 1) := by decide +kernel
theorem dL_isMachine_159 : decode cL_isMachine 159 = .ok (.iadd, 1) := by decide +kernel
theorem dL_isMachine_160 : decode cL_isMachine 160 = .ok (.istore 7, 2) := by decide +kernel
theorem dL_isMachine_162 : decode cL_isMachine 162 = .ok (.iinc 11 1, 3) := by decide +kernel
theorem dL_isMachine_165 : decode cL_isMachine 165 = .ok (.goto (-104), 3) := by decide +kernel
theorem dL_isMachine_168 : decode cL_isMachine 168 = .ok (.iconst 0, 1) := by decide +kernel
theorem dL_isMachine_169 : decode cL_isMachine 169 = .ok (.istore 11, 2) := by decide +kernel
theorem dL_isMachine_171 : decode cL_isMachine 171 = .ok (.iload 11, 2) := by decide +kernel
theorem dL_isMachine_173 : decode cL_isMachine 173 = .ok (.iconst 4, 1) := by decide +kernel
theorem dL_isMachine_174 : decode cL_isMachine 174 = .ok (.if_icmp .ge 228, 3) := by decide +kernel
theorem dL_isMachine_177 : decode cL_isMachine 177 = .ok (.iload 10, 2) := by decide +kernel
theorem dL_isMachine_179 : decode cL_isMachine 179 = .ok (.ifCond .eq 223, 3) := by decide +kernel
theorem dL_isMachine_182 : decode cL_isMachine 182 = .ok (.iload_n 1, 1) := by decide +kernel
theorem dL_isMachine_183 : decode cL_isMachine 183 = .ok (.iload 11, 2) := by decide +kernel
theorem dL_isMachine_185 : decode cL_isMachine 185 = .ok (.iconst 0, 1) := by decide +kernel
theorem dL_isMachine_186 : decode cL_isMachine 186 = .ok (.aload_n 2, 1) := by decide +kernel
theorem dL_isMachine_187 : decode cL_isMachine 187 = .ok (.aload_n 3, 1) := by decide +kernel
theorem dL_isMachine_188 : decode cL_isMachine 188 = .ok (.aload 4, 2) := by decide +kernel
theorem dL_isMachine_190 : decode cL_isMachine 190 = .ok (.aload 5, 2) := by decide +kernel
theorem dL_isMachine_192 : decode cL_isMachine 192 = .ok (.invokestatic 57, 3) := by decide +kernel
theorem dL_isMachine_195 : decode cL_isMachine 195 = .ok (.istore 12, 2) := by decide +kernel
theorem dL_isMachine_197 : decode cL_isMachine 197 = .ok (.iload_n 1, 1) := by decide +kernel
theorem dL_isMachine_198 : decode cL_isMachine 198 = .ok (.iload 11, 2) := by decide +kernel
theorem dL_isMachine_200 : decode cL_isMachine 200 = .ok (.iconst 1, 1) := by decide +kernel
theorem dL_isMachine_201 : decode cL_isMachine 201 = .ok (.aload_n 2, 1) := by decide +kernel
theorem dL_isMachine_202 : decode cL_isMachine 202 = .ok (.aload_n 3, 1) := by decide +kernel
theorem dL_isMachine_203 : decode cL_isMachine 203 = .ok (.aload 4, 2) := by decide +kernel
theorem dL_isMachine_205 : decode cL_isMachine 205 = .ok (.aload 5, 2) := by decide +kernel
theorem dL_isMachine_207 : decode cL_isMachine 207 = .ok (.invokestatic 57, 3) := by decide +kernel
theorem dL_isMachine_210 : decode cL_isMachine 210 = .ok (.istore 13, 2) := by decide +kernel
theorem dL_isMachine_212 : decode cL_isMachine 212 = .ok (.iload_n 1, 1) := by decide +kernel
theorem dL_isMachine_213 : decode cL_isMachine 213 = .ok (.iload 11, 2) := by decide +kernel
theorem dL_isMachine_215 : decode cL_isMachine 215 = .ok (.iconst 0, 1) := by decide +kernel
theorem dL_isMachine_216 : decode cL_isMachine 216 = .ok (.aload_n 2, 1) := by decide +kernel
theorem dL_isMachine_217 : decode cL_isMachine 217 = .ok (.aload_n 3, 1) := by decide +kernel
theorem dL_isMachine_218 : decode cL_isMachine 218 = .ok (.aload 4, 2) := by decide +kernel
theorem dL_isMachine_220 : decode cL_isMachine 220 = .ok (.aload 5, 2) := by decide +kernel
theorem dL_isMachine_222 : decode cL_isMachine 222 = .ok (.aload 6, 2) := by decide +kernel
theorem dL_isMachine_224 : decode cL_isMachine 224 = .ok (.invokestatic 80, 3) := by decide +kernel
theorem dL_isMachine_227 : decode cL_isMachine 227 = .ok (.istore 14, 2) := by decide +kernel
theorem dL_isMachine_229 : decode cL_isMachine 229 = .ok (.iload 9, 2) := by decide +kernel
theorem dL_isMachine_231 : decode cL_isMachine 231 = .ok (.ifCond .ne 26, 3) := by decide +kernel
theorem dL_isMachine_234 : decode cL_isMachine 234 = .ok (.iload 13, 2) := by decide +kernel
theorem dL_isMachine_236 : decode cL_isMachine 236 = .ok (.ifCond .lt 21, 3) := by decide +kernel
theorem dL_isMachine_239 : decode cL_isMachine 239 = .ok (.iload_n 1, 1) := by decide +kernel
theorem dL_isMachine_240 : decode cL_isMachine 240 = .ok (.iload 11, 2) := by decide +kernel
theorem dL_isMachine_242 : decode cL_isMachine 242 = .ok (.iconst 1, 1) := by decide +kernel
theorem dL_isMachine_243 : decode cL_isMachine 243 = .ok (.aload_n 2, 1) := by decide +kernel
theorem dL_isMachine_244 : decode cL_isMachine 244 = .ok (.aload_n 3, 1) := by decide +kernel
theorem dL_isMachine_245 : decode cL_isMachine 245 = .ok (.aload 4, 2) := by decide +kernel
theorem dL_isMachine_247 : decode cL_isMachine 247 = .ok (.aload 5, 2) := by decide +kernel
theorem dL_isMachine_249 : decode cL_isMachine 249 = .ok (.aload 6, 2) := by decide +kernel
theorem dL_isMachine_251 : decode cL_isMachine 251 = .ok (.invokestatic 80, 3) := by decide +kernel
theorem dL_isMachine_254 : decode cL_isMachine 254 = .ok (.ifCond .eq 7, 3) := by decide +kernel
theorem dL_isMachine_257 : decode cL_isMachine 257 = .ok (.iconst 1, 1) := by decide +kernel
theorem dL_isMachine_258 : decode cL_isMachine 258 = .ok (.goto 4, 3) := by decide +kernel
theorem dL_isMachine_261 : decode cL_isMachine 261 = .ok (.iconst 0, 1) := by decide +kernel
theorem dL_isMachine_262 : decode cL_isMachine 262 = .ok (.istore 15, 2) := by decide +kernel
theorem dL_isMachine_264 : decode cL_isMachine 264 = .ok (.iload 12, 2) := by decide +kernel
theorem dL_isMachine_266 : decode cL_isMachine 266 = .ok (.ifCond .lt 8, 3) := by decide +kernel
theorem dL_isMachine_269 : decode cL_isMachine 269 = .ok (.iload 14, 2) := by decide +kernel
theorem dL_isMachine_271 : decode cL_isMachine 271 = .ok (.ifCond .eq 7, 3) := by decide +kernel
theorem dL_isMachine_274 : decode cL_isMachine 274 = .ok (.iconst (-1), 1) := by decide +kernel
theorem dL_isMachine_275 : decode cL_isMachine 275 = .ok (.goto 15, 3) := by decide +kernel
theorem dL_isMachine_278 : decode cL_isMachine 278 = .ok (.aload 5, 2) := by decide +kernel
theorem dL_isMachine_280 : decode cL_isMachine 280 = .ok (.iconst 5, 1) := by decide +kernel
theorem dL_isMachine_281 : decode cL_isMachine 281 = .ok (.iload 12, 2) := by decide +kernel
theorem dL_isMachine_283 : decode cL_isMachine 283 = .ok (.bipush 100, 2) := by decide +kernel
theorem dL_isMachine_285 : decode cL_isMachine 285 = .ok (.irem, 1) := by decide +kernel
theorem dL_isMachine_286 : decode cL_isMachine 286 = .ok (.imul, 1) := by decide +kernel
theorem dL_isMachine_287 : decode cL_isMachine 287 = .ok (.iconst 2, 1) := by decide +kernel
theorem dL_isMachine_288 : decode cL_isMachine 288 = .ok (.iadd, 1) := by decide +kernel
theorem dL_isMachine_289 : decode cL_isMachine 289 = .ok (.iaload, 1) := by decide +kernel
theorem dL_isMachine_290 : decode cL_isMachine 290 = .ok (.istore 16, 2) := by decide +kernel
theorem dL_isMachine_292 : decode cL_isMachine 292 = .ok (.iload 8, 2) := by decide +kernel
theorem dL_isMachine_294 : decode cL_isMachine 294 = .ok (.iload 14, 2) := by decide +kernel
theorem dL_isMachine_296 : decode cL_isMachine 296 = .ok (.ifCond .eq 10, 3) := by decide +kernel
theorem dL_isMachine_299 : decode cL_isMachine 299 = .ok (.iconst 1, 1) := by decide +kernel
theorem dL_isMachine_300 : decode cL_isMachine 300 = .ok (.iload 11, 2) := by decide +kernel
theorem dL_isMachine_302 : decode cL_isMachine 302 = .ok (.ishl, 1) := by decide +kernel
theorem dL_isMachine_303 : decode cL_isMachine 303 = .ok (.goto 4, 3) := by decide +kernel
theorem dL_isMachine_306 : decode cL_isMachine 306 = .ok (.iconst 0, 1) := by decide +kernel
theorem dL_isMachine_307 : decode cL_isMachine 307 = .ok (.ior, 1) := by decide +kernel
theorem dL_isMachine_308 : decode cL_isMachine 308 = .ok (.istore 8, 2) := by decide +kernel
theorem dL_isMachine_310 : decode cL_isMachine 310 = .ok (.aload_n 0, 1) := by decide +kernel
theorem dL_isMachine_311 : decode cL_isMachine 311 = .ok (.iload_n 1, 1) := by decide +kernel
theorem dL_isMachine_312 : decode cL_isMachine 312 = .ok (.iload 11, 2) := by decide +kernel
theorem dL_isMachine_314 : decode cL_isMachine 314 = .ok (.invokevirtual 84, 3) := by decide +kernel
theorem dL_isMachine_317 : decode cL_isMachine 317 = .ok (.iload 16, 2) := by decide +kernel
theorem dL_isMachine_319 : decode cL_isMachine 319 = .ok (.if_icmp .ne 74, 3) := by decide +kernel
theorem dL_isMachine_322 : decode cL_isMachine 322 = .ok (.aload_n 0, 1) := by decide +kernel
theorem dL_isMachine_323 : decode cL_isMachine 323 = .ok (.iload_n 1, 1) := by decide +kernel
theorem dL_isMachine_324 : decode cL_isMachine 324 = .ok (.iload 11, 2) := by decide +kernel
theorem dL_isMachine_326 : decode cL_isMachine 326 = .ok (.invokevirtual 87, 3) := by decide +kernel
theorem dL_isMachine_329 : decode cL_isMachine 329 = .ok (.iload 16, 2) := by decide +kernel
theorem dL_isMachine_331 : decode cL_isMachine 331 = .ok (.if_icmp .ne 62, 3) := by decide +kernel
theorem dL_isMachine_334 : decode cL_isMachine 334 = .ok (.aload_n 0, 1) := by decide +kernel
theorem dL_isMachine_335 : decode cL_isMachine 335 = .ok (.iload_n 1, 1) := by decide +kernel
theorem dL_isMachine_336 : decode cL_isMachine 336 = .ok (.iload 11, 2) := by decide +kernel
theorem dL_isMachine_338 : decode cL_isMachine 338 = .ok (.invokevirtual 90, 3) := by decide +kernel
theorem dL_isMachine_341 : decode cL_isMachine 341 = .ok (.iload 15, 2) := by decide +kernel
theorem dL_isMachine_343 : decode cL_isMachine 343 = .ok (.ifCond .eq 7, 3) := by decide +kernel
theorem dL_isMachine_346 : decode cL_isMachine 346 = .ok (.iconst (-1), 1) := by decide +kernel
theorem dL_isMachine_347 : decode cL_isMachine 347 = .ok (.goto 15, 3) := by decide +kernel
theorem dL_isMachine_350 : decode cL_isMachine 350 = .ok (.aload 5, 2) := by decide +kernel
theorem dL_isMachine_352 : decode cL_isMachine 352 = .ok (.iconst 5, 1) := by decide +kernel
theorem dL_isMachine_353 : decode cL_isMachine 353 = .ok (.iload 13, 2) := by decide +kernel
theorem dL_isMachine_355 : decode cL_isMachine 355 = .ok (.bipush 100, 2) := by decide +kernel
theorem dL_isMachine_357 : decode cL_isMachine 357 = .ok (.irem, 1) := by decide +kernel
theorem dL_isMachine_358 : decode cL_isMachine 358 = .ok (.imul, 1) := by decide +kernel
theorem dL_isMachine_359 : decode cL_isMachine 359 = .ok (.iconst 2, 1) := by decide +kernel
theorem dL_isMachine_360 : decode cL_isMachine 360 = .ok (.iadd, 1) := by decide +kernel
theorem dL_isMachine_361 : decode cL_isMachine 361 = .ok (.iaload, 1) := by decide +kernel
theorem dL_isMachine_362 : decode cL_isMachine 362 = .ok (.if_icmp .ne 31, 3) := by decide +kernel
theorem dL_isMachine_365 : decode cL_isMachine 365 = .ok (.aload_n 0, 1) := by decide +kernel
theorem dL_isMachine_366 : decode cL_isMachine 366 = .ok (.iload_n 1, 1) := by decide +kernel
theorem dL_isMachine_367 : decode cL_isMachine 367 = .ok (.iload 11, 2) := by decide +kernel
theorem dL_isMachine_369 : decode cL_isMachine 369 = .ok (.invokevirtual 93, 3) := by decide +kernel
theorem dL_isMachine_372 : decode cL_isMachine 372 = .ok (.iload 15, 2) := by decide +kernel
theorem dL_isMachine_374 : decode cL_isMachine 374 = .ok (.ifCond .eq 7, 3) := by decide +kernel
theorem dL_isMachine_377 : decode cL_isMachine 377 = .ok (.iconst (-1), 1) := by decide +kernel
theorem dL_isMachine_378 : decode cL_isMachine 378 = .ok (.goto 8, 3) := by decide +kernel
theorem dL_isMachine_381 : decode cL_isMachine 381 = .ok (.iload 13, 2) := by decide +kernel
theorem dL_isMachine_383 : decode cL_isMachine 383 = .ok (.bipush 100, 2) := by decide +kernel
theorem dL_isMachine_385 : decode cL_isMachine 385 = .ok (.idiv, 1) := by decide +kernel
theorem dL_isMachine_386 : decode cL_isMachine 386 = .ok (.if_icmp .ne 7, 3) := by decide +kernel
theorem dL_isMachine_389 : decode cL_isMachine 389 = .ok (.iconst 1, 1) := by decide +kernel
theorem dL_isMachine_390 : decode cL_isMachine 390 = .ok (.goto 4, 3) := by decide +kernel
theorem dL_isMachine_393 : decode cL_isMachine 393 = .ok (.iconst 0, 1) := by decide +kernel
theorem dL_isMachine_394 : decode cL_isMachine 394 = .ok (.istore 10, 2) := by decide +kernel
theorem dL_isMachine_396 : decode cL_isMachine 396 = .ok (.iinc 11 1, 3) := by decide +kernel
theorem dL_isMachine_399 : decode cL_isMachine 399 = .ok (.goto (-228), 3) := by decide +kernel
theorem dL_isMachine_402 : decode cL_isMachine 402 = .ok (.iload 10, 2) := by decide +kernel
theorem dL_isMachine_404 : decode cL_isMachine 404 = .ok (.ifCond .eq 37, 3) := by decide +kernel
theorem dL_isMachine_407 : decode cL_isMachine 407 = .ok (.aload_n 0, 1) := by decide +kernel
theorem dL_isMachine_408 : decode cL_isMachine 408 = .ok (.iload_n 1, 1) := by decide +kernel
theorem dL_isMachine_409 : decode cL_isMachine 409 = .ok (.invokevirtual 96, 3) := by decide +kernel
theorem dL_isMachine_412 : decode cL_isMachine 412 = .ok (.iload 7, 2) := by decide +kernel
theorem dL_isMachine_414 : decode cL_isMachine 414 = .ok (.if_icmp .ne 27, 3) := by decide +kernel
theorem dL_isMachine_417 : decode cL_isMachine 417 = .ok (.aload_n 0, 1) := by decide +kernel
theorem dL_isMachine_418 : decode cL_isMachine 418 = .ok (.iload_n 1, 1) := by decide +kernel
theorem dL_isMachine_419 : decode cL_isMachine 419 = .ok (.invokevirtual 100, 3) := by decide +kernel
theorem dL_isMachine_422 : decode cL_isMachine 422 = .ok (.iload 8, 2) := by decide +kernel
theorem dL_isMachine_424 : decode cL_isMachine 424 = .ok (.if_icmp .ne 17, 3) := by decide +kernel
theorem dL_isMachine_427 : decode cL_isMachine 427 = .ok (.aload_n 0, 1) := by decide +kernel
theorem dL_isMachine_428 : decode cL_isMachine 428 = .ok (.iload_n 1, 1) := by decide +kernel
theorem dL_isMachine_429 : decode cL_isMachine 429 = .ok (.iconst 5, 1) := by decide +kernel
theorem dL_isMachine_430 : decode cL_isMachine 430 = .ok (.invokevirtual 90, 3) := by decide +kernel
theorem dL_isMachine_433 : decode cL_isMachine 433 = .ok (.iconst (-1), 1) := by decide +kernel
theorem dL_isMachine_434 : decode cL_isMachine 434 = .ok (.if_icmp .ne 7, 3) := by decide +kernel
theorem dL_isMachine_437 : decode cL_isMachine 437 = .ok (.iconst 1, 1) := by decide +kernel
theorem dL_isMachine_438 : decode cL_isMachine 438 = .ok (.goto 4, 3) := by decide +kernel
theorem dL_isMachine_441 : decode cL_isMachine 441 = .ok (.iconst 0, 1) := by decide +kernel
theorem dL_isMachine_442 : decode cL_isMachine 442 = .ok (.ireturn, 1) := by decide +kernel
theorem dL_good_0 : decode cL_good 0 = .ok (.iconst 0, 1) := by decide +kernel
theorem dL_good_1 : decode cL_good 1 = .ok (.istore_n 2, 1) := by decide +kernel
theorem dL_good_2 : decode cL_good 2 = .ok (.iconst 0, 1) := by decide +kernel
theorem dL_good_3 : decode cL_good 3 = .ok (.istore_n 3, 1) := by decide +kernel
theorem dL_good_4 : decode cL_good 4 = .ok (.iload_n 3, 1) := by decide +kernel
theorem dL_good_5 : decode cL_good 5 = .ok (.iconst 5, 1) := by decide +kernel
theorem dL_good_6 : decode cL_good 6 = .ok (.if_icmp .ge 27, 3) := by decide +kernel
theorem dL_good_9 : decode cL_good 9 = .ok (.iload_n 2, 1) := by decide +kernel
theorem dL_good_10 : decode cL_good 10 = .ok (.aload_n 1, 1) := by decide +kernel
theorem dL_good_11 : decode cL_good 11 = .ok (.iconst 5, 1) := by decide +kernel
theorem dL_good_12 : decode cL_good 12 = .ok (.iload_n 0, 1) := by decide +kernel
theorem dL_good_13 : decode cL_good 13 = .ok (.imul, 1) := by decide +kernel
theorem dL_good_14 : decode cL_good 14 = .ok (.iload_n 3, 1) := by decide +kernel
theorem dL_good_15 : decode cL_good 15 = .ok (.iadd, 1) := by decide +kernel
theorem dL_good_16 : decode cL_good 16 = .ok (.iaload, 1) := by decide +kernel
theorem dL_good_17 : decode cL_good 17 = .ok (.ifCond .le 7, 3) := by decide +kernel
theorem dL_good_20 : decode cL_good 20 = .ok (.iconst 1, 1) := by decide +kernel
theorem dL_good_21 : decode cL_good 21 = .ok (.goto 4, 3) := by decide +kernel
theorem dL_good_24 : decode cL_good 24 = .ok (.iconst 0, 1) := by decide +kernel
theorem dL_good_25 : decode cL_good 25 = .ok (.iadd, 1) := by decide +kernel
theorem dL_good_26 : decode cL_good 26 = .ok (.istore_n 2, 1) := by decide +kernel
theorem dL_good_27 : decode cL_good 27 = .ok (.iinc 3 1, 3) := by decide +kernel
theorem dL_good_30 : decode cL_good 30 = .ok (.goto (-26), 3) := by decide +kernel
theorem dL_good_33 : decode cL_good 33 = .ok (.iload_n 2, 1) := by decide +kernel
theorem dL_good_34 : decode cL_good 34 = .ok (.ireturn, 1) := by decide +kernel
theorem dL_isSo_0 : decode cL_isSo 0 = .ok (.aload_n 0, 1) := by decide +kernel
theorem dL_isSo_1 : decode cL_isSo 1 = .ok (.invokevirtual 103, 3) := by decide +kernel
theorem dL_isSo_4 : decode cL_isSo 4 = .ok (.aload_n 2, 1) := by decide +kernel
theorem dL_isSo_5 : decode cL_isSo 5 = .ok (.iconst 0, 1) := by decide +kernel
theorem dL_isSo_6 : decode cL_isSo 6 = .ok (.iaload, 1) := by decide +kernel
theorem dL_isSo_7 : decode cL_isSo 7 = .ok (.if_icmp .ne 17, 3) := by decide +kernel
theorem dL_isSo_10 : decode cL_isSo 10 = .ok (.aload_n 0, 1) := by decide +kernel
theorem dL_isSo_11 : decode cL_isSo 11 = .ok (.invokevirtual 107, 3) := by decide +kernel
theorem dL_isSo_14 : decode cL_isSo 14 = .ok (.aload_n 2, 1) := by decide +kernel
theorem dL_isSo_15 : decode cL_isSo 15 = .ok (.iconst 4, 1) := by decide +kernel
theorem dL_isSo_16 : decode cL_isSo 16 = .ok (.iaload, 1) := by decide +kernel
theorem dL_isSo_17 : decode cL_isSo 17 = .ok (.if_icmp .ne 7, 3) := by decide +kernel
theorem dL_isSo_20 : decode cL_isSo 20 = .ok (.iconst 1, 1) := by decide +kernel
theorem dL_isSo_21 : decode cL_isSo 21 = .ok (.goto 4, 3) := by decide +kernel
theorem dL_isSo_24 : decode cL_isSo 24 = .ok (.iconst 0, 1) := by decide +kernel
theorem dL_isSo_25 : decode cL_isSo 25 = .ok (.istore 8, 2) := by decide +kernel
theorem dL_isSo_27 : decode cL_isSo 27 = .ok (.iconst 0, 1) := by decide +kernel
theorem dL_isSo_28 : decode cL_isSo 28 = .ok (.istore 9, 2) := by decide +kernel
theorem dL_isSo_30 : decode cL_isSo 30 = .ok (.iload 9, 2) := by decide +kernel
theorem dL_isSo_32 : decode cL_isSo 32 = .ok (.aload_n 2, 1) := by decide +kernel
theorem dL_isSo_33 : decode cL_isSo 33 = .ok (.iconst 4, 1) := by decide +kernel
theorem dL_isSo_34 : decode cL_isSo 34 = .ok (.iaload, 1) := by decide +kernel
theorem dL_isSo_35 : decode cL_isSo 35 = .ok (.if_icmp .ge 162, 3) := by decide +kernel
theorem dL_isSo_38 : decode cL_isSo 38 = .ok (.iload 8, 2) := by decide +kernel
theorem dL_isSo_40 : decode cL_isSo 40 = .ok (.ifCond .eq 157, 3) := by decide +kernel
theorem dL_isSo_43 : decode cL_isSo 43 = .ok (.iconst 0, 1) := by decide +kernel
theorem dL_isSo_44 : decode cL_isSo 44 = .ok (.istore 10, 2) := by decide +kernel
theorem dL_isSo_46 : decode cL_isSo 46 = .ok (.iconst 0, 1) := by decide +kernel
theorem dL_isSo_47 : decode cL_isSo 47 = .ok (.istore 11, 2) := by decide +kernel
theorem dL_isSo_49 : decode cL_isSo 49 = .ok (.iload 11, 2) := by decide +kernel
theorem dL_isSo_51 : decode cL_isSo 51 = .ok (.aload_n 2, 1) := by decide +kernel
theorem dL_isSo_52 : decode cL_isSo 52 = .ok (.iconst 3, 1) := by decide +kernel
theorem dL_isSo_53 : decode cL_isSo 53 = .ok (.iaload, 1) := by decide +kernel
theorem dL_isSo_54 : decode cL_isSo 54 = .ok (.if_icmp .ge 65, 3) := by decide +kernel
theorem dL_isSo_57 : decode cL_isSo 57 = .ok (.iconst 0, 1) := by decide +kernel
theorem dL_isSo_58 : decode cL_isSo 58 = .ok (.istore 12, 2) := by decide +kernel
theorem dL_isSo_60 : decode cL_isSo 60 = .ok (.bipush 20, 2) := by decide +kernel
theorem dL_isSo_62 : decode cL_isSo 62 = .ok (.iload 11, 2) := by decide +kernel
theorem dL_isSo_64 : decode cL_isSo 64 = .ok (.imul, 1) := by decide +kernel
theorem dL_isSo_65 : decode cL_isSo 65 = .ok (.istore 13, 2) := by decide +kernel
theorem dL_isSo_67 : decode cL_isSo 67 = .ok (.iload 13, 2) := by decide +kernel
theorem dL_isSo_69 : decode cL_isSo 69 = .ok (.bipush 20, 2) := by decide +kernel
theorem dL_isSo_71 : decode cL_isSo 71 = .ok (.iload 11, 2) := by decide +kernel
theorem dL_isSo_73 : decode cL_isSo 73 = .ok (.imul, 1) := by decide +kernel
theorem dL_isSo_74 : decode cL_isSo 74 = .ok (.bipush 20, 2) := by decide +kernel
theorem dL_isSo_76 : decode cL_isSo 76 = .ok (.iadd, 1) := by decide +kernel
theorem dL_isSo_77 : decode cL_isSo 77 = .ok (.if_icmp .ge 29, 3) := by decide +kernel
theorem dL_isSo_80 : decode cL_isSo 80 = .ok (.aload 4, 2) := by decide +kernel
theorem dL_isSo_82 : decode cL_isSo 82 = .ok (.iload 13, 2) := by decide +kernel
theorem dL_isSo_84 : decode cL_isSo 84 = .ok (.iaload, 1) := by decide +kernel
theorem dL_isSo_85 : decode cL_isSo 85 = .ok (.iload 9, 2) := by decide +kernel
theorem dL_isSo_87 : decode cL_isSo 87 = .ok (.iconst 1, 1) := by decide +kernel
theorem dL_isSo_88 : decode cL_isSo 88 = .ok (.iadd, 1) := by decide +kernel
theorem dL_isSo_89 : decode cL_isSo 89 = .ok (.if_icmp .ne 7, 3) := by decide +kernel
theorem dL_isSo_92 : decode cL_isSo 92 = .ok (.iconst 1, 1) := by decide +kernel
theorem dL_isSo_93 : decode cL_isSo 93 = .ok (.goto 5, 3) := by decide +kernel
theorem dL_isSo_96 : decode cL_isSo 96 = .ok (.iload 12, 2) := by decide +kernel
theorem dL_isSo_98 : decode cL_isSo 98 = .ok (.istore 12, 2) := by decide +kernel
theorem dL_isSo_100 : decode cL_isSo 100 = .ok (.iinc 13 1, 3) := by decide +kernel
theorem dL_isSo_103 : decode cL_isSo 103 = .ok (.goto (-36), 3) := by decide +kernel
theorem dL_isSo_106 : decode cL_isSo 106 = .ok (.iload 10, 2) := by decide +kernel
theorem dL_isSo_108 : decode cL_isSo 108 = .ok (.iload 12, 2) := by decide +kernel
theorem dL_isSo_110 : decode cL_isSo 110 = .ok (.iadd, 1) := by decide +kernel
theorem dL_isSo_111 : decode cL_isSo 111 = .ok (.istore 10, 2) := by decide +kernel
theorem dL_isSo_113 : decode cL_isSo 113 = .ok (.iinc 11 1, 3) := by decide +kernel
theorem dL_isSo_116 : decode cL_isSo 116 = .ok (.goto (-67), 3) := by decide +kernel
theorem dL_isSo_119 : decode cL_isSo 119 = .ok (.aload_n 0, 1) := by decide +kernel
theorem dL_isSo_120 : decode cL_isSo 120 = .ok (.iload 9, 2) := by decide +kernel
theorem dL_isSo_122 : decode cL_isSo 122 = .ok (.invokevirtual 110, 3) := by decide +kernel
theorem dL_isSo_125 : decode cL_isSo 125 = .ok (.aload 5, 2) := by decide +kernel
theorem dL_isSo_127 : decode cL_isSo 127 = .ok (.iconst 5, 1) := by decide +kernel
theorem dL_isSo_128 : decode cL_isSo 128 = .ok (.iload 9, 2) := by decide +kernel
theorem dL_isSo_130 : decode cL_isSo 130 = .ok (.imul, 1) := by decide +kernel
theorem dL_isSo_131 : decode cL_isSo 131 = .ok (.iconst 3, 1) := by decide +kernel
theorem dL_isSo_132 : decode cL_isSo 132 = .ok (.iadd, 1) := by decide +kernel
theorem dL_isSo_133 : decode cL_isSo 133 = .ok (.iaload, 1) := by decide +kernel
theorem dL_isSo_134 : decode cL_isSo 134 = .ok (.if_icmp .ne 54, 3) := by decide +kernel
theorem dL_isSo_137 : decode cL_isSo 137 = .ok (.aload_n 0, 1) := by decide +kernel
theorem dL_isSo_138 : decode cL_isSo 138 = .ok (.iload 9, 2) := by decide +kernel
theorem dL_isSo_140 : decode cL_isSo 140 = .ok (.invokevirtual 113, 3) := by decide +kernel
theorem dL_isSo_143 : decode cL_isSo 143 = .ok (.aload 5, 2) := by decide +kernel
theorem dL_isSo_145 : decode cL_isSo 145 = .ok (.iconst 5, 1) := by decide +kernel
theorem dL_isSo_146 : decode cL_isSo 146 = .ok (.iload 9, 2) := by decide +kernel
theorem dL_isSo_148 : decode cL_isSo 148 = .ok (.imul, 1) := by decide +kernel
theorem dL_isSo_149 : decode cL_isSo 149 = .ok (.iconst 4, 1) := by decide +kernel
theorem dL_isSo_150 : decode cL_isSo 150 = .ok (.iadd, 1) := by decide +kernel
theorem dL_isSo_151 : decode cL_isSo 151 = .ok (.iaload, 1) := by decide +kernel
theorem dL_isSo_152 : decode cL_isSo 152 = .ok (.iconst 1, 1) := by decide +kernel
theorem dL_isSo_153 : decode cL_isSo 153 = .ok (.isub, 1) := by decide +kernel
theorem dL_isSo_154 : decode cL_isSo 154 = .ok (.if_icmp .ne 34, 3) := by decide +kernel
theorem dL_isSo_157 : decode cL_isSo 157 = .ok (.aload_n 0, 1) := by decide +kernel
theorem dL_isSo_158 : decode cL_isSo 158 = .ok (.iload 9, 2) := by decide +kernel
theorem dL_isSo_160 : decode cL_isSo 160 = .ok (.invokevirtual 116, 3) := by decide +kernel
theorem dL_isSo_163 : decode cL_isSo 163 = .ok (.iload 9, 2) := by decide +kernel
theorem dL_isSo_165 : decode cL_isSo 165 = .ok (.aload 6, 2) := by decide +kernel
theorem dL_isSo_167 : decode cL_isSo 167 = .ok (.invokestatic 119, 3) := by decide +kernel
theorem dL_isSo_170 : decode cL_isSo 170 = .ok (.if_icmp .ne 18, 3) := by decide +kernel
theorem dL_isSo_173 : decode cL_isSo 173 = .ok (.aload_n 0, 1) := by decide +kernel
theorem dL_isSo_174 : decode cL_isSo 174 = .ok (.iload 9, 2) := by decide +kernel
theorem dL_isSo_176 : decode cL_isSo 176 = .ok (.invokevirtual 122, 3) := by decide +kernel
theorem dL_isSo_179 : decode cL_isSo 179 = .ok (.iload 10, 2) := by decide +kernel
theorem dL_isSo_181 : decode cL_isSo 181 = .ok (.if_icmp .ne 7, 3) := by decide +kernel
theorem dL_isSo_184 : decode cL_isSo 184 = .ok (.iconst 1, 1) := by decide +kernel
theorem dL_isSo_185 : decode cL_isSo 185 = .ok (.goto 4, 3) := by decide +kernel
theorem dL_isSo_188 : decode cL_isSo 188 = .ok (.iconst 0, 1) := by decide +kernel
theorem dL_isSo_189 : decode cL_isSo 189 = .ok (.istore 8, 2) := by decide +kernel
theorem dL_isSo_191 : decode cL_isSo 191 = .ok (.iinc 9 1, 3) := by decide +kernel
theorem dL_isSo_194 : decode cL_isSo 194 = .ok (.goto (-164), 3) := by decide +kernel
theorem dL_isSo_197 : decode cL_isSo 197 = .ok (.iload_n 1, 1) := by decide +kernel
theorem dL_isSo_198 : decode cL_isSo 198 = .ok (.aload_n 2, 1) := by decide +kernel
theorem dL_isSo_199 : decode cL_isSo 199 = .ok (.iconst 2, 1) := by decide +kernel
theorem dL_isSo_200 : decode cL_isSo 200 = .ok (.iaload, 1) := by decide +kernel
theorem dL_isSo_201 : decode cL_isSo 201 = .ok (.aload_n 2, 1) := by decide +kernel
theorem dL_isSo_202 : decode cL_isSo 202 = .ok (.iconst 3, 1) := by decide +kernel
theorem dL_isSo_203 : decode cL_isSo 203 = .ok (.iaload, 1) := by decide +kernel
theorem dL_isSo_204 : decode cL_isSo 204 = .ok (.iadd, 1) := by decide +kernel
theorem dL_isSo_205 : decode cL_isSo 205 = .ok (.invokestatic 125, 3) := by decide +kernel
theorem dL_isSo_208 : decode cL_isSo 208 = .ok (.istore 9, 2) := by decide +kernel
theorem dL_isSo_210 : decode cL_isSo 210 = .ok (.iload_n 1, 1) := by decide +kernel
theorem dL_isSo_211 : decode cL_isSo 211 = .ok (.iconst 3, 1) := by decide +kernel
theorem dL_isSo_212 : decode cL_isSo 212 = .ok (.ishr, 1) := by decide +kernel
theorem dL_isSo_213 : decode cL_isSo 213 = .ok (.iconst 4, 1) := by decide +kernel
theorem dL_isSo_214 : decode cL_isSo 214 = .ok (.invokestatic 125, 3) := by decide +kernel
theorem dL_isSo_217 : decode cL_isSo 217 = .ok (.istore 10, 2) := by decide +kernel
theorem dL_isSo_219 : decode cL_isSo 219 = .ok (.iload 9, 2) := by decide +kernel
theorem dL_isSo_221 : decode cL_isSo 221 = .ok (.aload_n 2, 1) := by decide +kernel
theorem dL_isSo_222 : decode cL_isSo 222 = .ok (.iconst 2, 1) := by decide +kernel
theorem dL_isSo_223 : decode cL_isSo 223 = .ok (.iaload, 1) := by decide +kernel
theorem dL_isSo_224 : decode cL_isSo 224 = .ok (.if_icmp .ge 8, 3) := by decide +kernel
theorem dL_isSo_227 : decode cL_isSo 227 = .ok (.iload 9, 2) := by decide +kernel
theorem dL_isSo_229 : decode cL_isSo 229 = .ok (.goto 11, 3) := by decide +kernel
theorem dL_isSo_232 : decode cL_isSo 232 = .ok (.iconst 4, 1) := by decide +kernel
theorem dL_isSo_233 : decode cL_isSo 233 = .ok (.iload 9, 2) := by decide +kernel
theorem dL_isSo_235 : decode cL_isSo 235 = .ok (.iadd, 1) := by decide +kernel
theorem dL_isSo_236 : decode cL_isSo 236 = .ok (.aload_n 2, 1) := by decide +kernel
theorem dL_isSo_237 : decode cL_isSo 237 = .ok (.iconst 2, 1) := by decide +kernel
theorem dL_isSo_238 : decode cL_isSo 238 = .ok (.iaload, 1) := by decide +kernel
theorem dL_isSo_239 : decode cL_isSo 239 = .ok (.isub, 1) := by decide +kernel
theorem dL_isSo_240 : decode cL_isSo 240 = .ok (.iload 10, 2) := by decide +kernel
theorem dL_isSo_242 : decode cL_isSo 242 = .ok (.aload_n 2, 1) := by decide +kernel
theorem dL_isSo_243 : decode cL_isSo 243 = .ok (.aload 5, 2) := by decide +kernel
theorem dL_isSo_245 : decode cL_isSo 245 = .ok (.invokestatic 45, 3) := by decide +kernel
theorem dL_isSo_248 : decode cL_isSo 248 = .ok (.istore 11, 2) := by decide +kernel
theorem dL_isSo_250 : decode cL_isSo 250 = .ok (.iload 11, 2) := by decide +kernel
theorem dL_isSo_252 : decode cL_isSo 252 = .ok (.ifCond .eq 17, 3) := by decide +kernel
theorem dL_isSo_255 : decode cL_isSo 255 = .ok (.aload 5, 2) := by decide +kernel
theorem dL_isSo_257 : decode cL_isSo 257 = .ok (.iconst 5, 1) := by decide +kernel
theorem dL_isSo_258 : decode cL_isSo 258 = .ok (.iload 11, 2) := by decide +kernel
theorem dL_isSo_260 : decode cL_isSo 260 = .ok (.imul, 1) := by decide +kernel
theorem dL_isSo_261 : decode cL_isSo 261 = .ok (.iconst 3, 1) := by decide +kernel
theorem dL_isSo_262 : decode cL_isSo 262 = .ok (.isub, 1) := by decide +kernel
theorem dL_isSo_263 : decode cL_isSo 263 = .ok (.iaload, 1) := by decide +kernel
theorem dL_isSo_264 : decode cL_isSo 264 = .ok (.bipush 101, 2) := by decide +kernel
theorem dL_isSo_266 : decode cL_isSo 266 = .ok (.if_icmp .ne 7, 3) := by decide +kernel
theorem dL_isSo_269 : decode cL_isSo 269 = .ok (.iconst (-1), 1) := by decide +kernel
theorem dL_isSo_270 : decode cL_isSo 270 = .ok (.goto 12, 3) := by decide +kernel
theorem dL_isSo_273 : decode cL_isSo 273 = .ok (.aload 5, 2) := by decide +kernel
theorem dL_isSo_275 : decode cL_isSo 275 = .ok (.iconst 5, 1) := by decide +kernel
theorem dL_isSo_276 : decode cL_isSo 276 = .ok (.iload 11, 2) := by decide +kernel
theorem dL_isSo_278 : decode cL_isSo 278 = .ok (.imul, 1) := by decide +kernel
theorem dL_isSo_279 : decode cL_isSo 279 = .ok (.iconst 3, 1) := by decide +kernel
theorem dL_isSo_280 : decode cL_isSo 280 = .ok (.isub, 1) := by decide +kernel
theorem dL_isSo_281 : decode cL_isSo 281 = .ok (.iaload, 1) := by decide +kernel
theorem dL_isSo_282 : decode cL_isSo 282 = .ok (.istore 12, 2) := by decide +kernel
theorem dL_isSo_284 : decode cL_isSo 284 = .ok (.iload 8, 2) := by decide +kernel
theorem dL_isSo_286 : decode cL_isSo 286 = .ok (.ifCond .eq 70, 3) := by decide +kernel
theorem dL_isSo_289 : decode cL_isSo 289 = .ok (.aload_n 0, 1) := by decide +kernel
theorem dL_isSo_290 : decode cL_isSo 290 = .ok (.iload 9, 2) := by decide +kernel
theorem dL_isSo_292 : decode cL_isSo 292 = .ok (.aload_n 2, 1) := by decide +kernel
theorem dL_isSo_293 : decode cL_isSo 293 = .ok (.iconst 2, 1) := by decide +kernel
theorem dL_isSo_294 : decode cL_isSo 294 = .ok (.iaload, 1) := by decide +kernel
theorem dL_isSo_295 : decode cL_isSo 295 = .ok (.if_icmp .ge 8, 3) := by decide +kernel
theorem dL_isSo_298 : decode cL_isSo 298 = .ok (.iload 9, 2) := by decide +kernel
theorem dL_isSo_300 : decode cL_isSo 300 = .ok (.goto 12, 3) := by decide +kernel
theorem dL_isSo_303 : decode cL_isSo 303 = .ok (.bipush 100, 2) := by decide +kernel
theorem dL_isSo_305 : decode cL_isSo 305 = .ok (.iload 9, 2) := by decide +kernel
theorem dL_isSo_307 : decode cL_isSo 307 = .ok (.iadd, 1) := by decide +kernel
theorem dL_isSo_308 : decode cL_isSo 308 = .ok (.aload_n 2, 1) := by decide +kernel
theorem dL_isSo_309 : decode cL_isSo 309 = .ok (.iconst 2, 1) := by decide +kernel
theorem dL_isSo_310 : decode cL_isSo 310 = .ok (.iaload, 1) := by decide +kernel
theorem dL_isSo_311 : decode cL_isSo 311 = .ok (.isub, 1) := by decide +kernel
theorem dL_isSo_312 : decode cL_isSo 312 = .ok (.iload 10, 2) := by decide +kernel
theorem dL_isSo_314 : decode cL_isSo 314 = .ok (.invokevirtual 128, 3) := by decide +kernel
theorem dL_isSo_317 : decode cL_isSo 317 = .ok (.iload 12, 2) := by decide +kernel
theorem dL_isSo_319 : decode cL_isSo 319 = .ok (.if_icmp .ne 37, 3) := by decide +kernel
theorem dL_isSo_322 : decode cL_isSo 322 = .ok (.aload_n 2, 1) := by decide +kernel
theorem dL_isSo_323 : decode cL_isSo 323 = .ok (.iconst 3, 1) := by decide +kernel
theorem dL_isSo_324 : decode cL_isSo 324 = .ok (.iaload, 1) := by decide +kernel
theorem dL_isSo_325 : decode cL_isSo 325 = .ok (.ifCond .eq 27, 3) := by decide +kernel
theorem dL_isSo_328 : decode cL_isSo 328 = .ok (.aload_n 0, 1) := by decide +kernel
theorem dL_isSo_329 : decode cL_isSo 329 = .ok (.iload_n 1, 1) := by decide +kernel
theorem dL_isSo_330 : decode cL_isSo 330 = .ok (.iconst 5, 1) := by decide +kernel
theorem dL_isSo_331 : decode cL_isSo 331 = .ok (.ishr, 1) := by decide +kernel
theorem dL_isSo_332 : decode cL_isSo 332 = .ok (.aload_n 2, 1) := by decide +kernel
theorem dL_isSo_333 : decode cL_isSo 333 = .ok (.iconst 3, 1) := by decide +kernel
theorem dL_isSo_334 : decode cL_isSo 334 = .ok (.iaload, 1) := by decide +kernel
theorem dL_isSo_335 : decode cL_isSo 335 = .ok (.invokestatic 125, 3) := by decide +kernel
theorem dL_isSo_338 : decode cL_isSo 338 = .ok (.aload_n 2, 1) := by decide +kernel
theorem dL_isSo_339 : decode cL_isSo 339 = .ok (.aload_n 3, 1) := by decide +kernel
theorem dL_isSo_340 : decode cL_isSo 340 = .ok (.aload 4, 2) := by decide +kernel
theorem dL_isSo_342 : decode cL_isSo 342 = .ok (.aload 5, 2) := by decide +kernel
theorem dL_isSo_344 : decode cL_isSo 344 = .ok (.aload 7, 2) := by decide +kernel
theorem dL_isSo_346 : decode cL_isSo 346 = .ok (.invokestatic 131, 3) := by decide +kernel
theorem dL_isSo_349 : decode cL_isSo 349 = .ok (.ifCond .eq 7, 3) := by decide +kernel
theorem dL_isSo_352 : decode cL_isSo 352 = .ok (.iconst 1, 1) := by decide +kernel
theorem dL_isSo_353 : decode cL_isSo 353 = .ok (.goto 4, 3) := by decide +kernel
theorem dL_isSo_356 : decode cL_isSo 356 = .ok (.iconst 0, 1) := by decide +kernel
theorem dL_isSo_357 : decode cL_isSo 357 = .ok (.ireturn, 1) := by decide +kernel
theorem dL_approves_0 : decode cL_approves 0 = .ok (.aload_n 2, 1) := by decide +kernel
theorem dL_approves_1 : decode cL_approves 1 = .ok (.bipush 10, 2) := by decide +kernel
theorem dL_approves_3 : decode cL_approves 3 = .ok (.iaload, 1) := by decide +kernel
theorem dL_approves_4 : decode cL_approves 4 = .ok (.iload_n 0, 1) := by decide +kernel
theorem dL_approves_5 : decode cL_approves 5 = .ok (.ishr, 1) := by decide +kernel
theorem dL_approves_6 : decode cL_approves 6 = .ok (.iconst 1, 1) := by decide +kernel
theorem dL_approves_7 : decode cL_approves 7 = .ok (.iand, 1) := by decide +kernel
theorem dL_approves_8 : decode cL_approves 8 = .ok (.ifCond .ne 28, 3) := by decide +kernel
theorem dL_approves_11 : decode cL_approves 11 = .ok (.aload_n 2, 1) := by decide +kernel
theorem dL_approves_12 : decode cL_approves 12 = .ok (.bipush 6, 2) := by decide +kernel
theorem dL_approves_14 : decode cL_approves 14 = .ok (.aload_n 2, 1) := by decide +kernel
theorem dL_approves_15 : decode cL_approves 15 = .ok (.iconst 0, 1) := by decide +kernel
theorem dL_approves_16 : decode cL_approves 16 = .ok (.iaload, 1) := by decide +kernel
theorem dL_approves_17 : decode cL_approves 17 = .ok (.bipush 7, 2) := by decide +kernel
theorem dL_approves_19 : decode cL_approves 19 = .ok (.idiv, 1) := by decide +kernel
theorem dL_approves_20 : decode cL_approves 20 = .ok (.iconst 4, 1) := by decide +kernel
theorem dL_approves_21 : decode cL_approves 21 = .ok (.irem, 1) := by decide +kernel
theorem dL_approves_22 : decode cL_approves 22 = .ok (.iadd, 1) := by decide +kernel
theorem dL_approves_23 : decode cL_approves 23 = .ok (.iaload, 1) := by decide +kernel
theorem dL_approves_24 : decode cL_approves 24 = .ok (.iload_n 0, 1) := by decide +kernel
theorem dL_approves_25 : decode cL_approves 25 = .ok (.ishr, 1) := by decide +kernel
theorem dL_approves_26 : decode cL_approves 26 = .ok (.iconst 1, 1) := by decide +kernel
theorem dL_approves_27 : decode cL_approves 27 = .ok (.iand, 1) := by decide +kernel
theorem dL_approves_28 : decode cL_approves 28 = .ok (.iconst 1, 1) := by decide +kernel
theorem dL_approves_29 : decode cL_approves 29 = .ok (.if_icmp .ne 7, 3) := by decide +kernel
theorem dL_approves_32 : decode cL_approves 32 = .ok (.iconst 1, 1) := by decide +kernel
theorem dL_approves_33 : decode cL_approves 33 = .ok (.goto 4, 3) := by decide +kernel
theorem dL_approves_36 : decode cL_approves 36 = .ok (.iconst 0, 1) := by decide +kernel
theorem dL_approves_37 : decode cL_approves 37 = .ok (.istore 6, 2) := by decide +kernel
theorem dL_approves_39 : decode cL_approves 39 = .ok (.iload 6, 2) := by decide +kernel
theorem dL_approves_41 : decode cL_approves 41 = .ok (.ifCond .eq 35, 3) := by decide +kernel
theorem dL_approves_44 : decode cL_approves 44 = .ok (.aload 5, 2) := by decide +kernel
theorem dL_approves_46 : decode cL_approves 46 = .ok (.iconst 2, 1) := by decide +kernel
theorem dL_approves_47 : decode cL_approves 47 = .ok (.iload_n 1, 1) := by decide +kernel
theorem dL_approves_48 : decode cL_approves 48 = .ok (.imul, 1) := by decide +kernel
theorem dL_approves_49 : decode cL_approves 49 = .ok (.iaload, 1) := by decide +kernel
theorem dL_approves_50 : decode cL_approves 50 = .ok (.iload_n 0, 1) := by decide +kernel
theorem dL_approves_51 : decode cL_approves 51 = .ok (.if_icmp .eq 25, 3) := by decide +kernel
theorem dL_approves_54 : decode cL_approves 54 = .ok (.aload 4, 2) := by decide +kernel
theorem dL_approves_56 : decode cL_approves 56 = .ok (.iconst 5, 1) := by decide +kernel
theorem dL_approves_57 : decode cL_approves 57 = .ok (.iload_n 1, 1) := by decide +kernel
theorem dL_approves_58 : decode cL_approves 58 = .ok (.imul, 1) := by decide +kernel
theorem dL_approves_59 : decode cL_approves 59 = .ok (.iload_n 0, 1) := by decide +kernel
theorem dL_approves_60 : decode cL_approves 60 = .ok (.iadd, 1) := by decide +kernel
theorem dL_approves_61 : decode cL_approves 61 = .ok (.iaload, 1) := by decide +kernel
theorem dL_approves_62 : decode cL_approves 62 = .ok (.ifCond .gt 14, 3) := by decide +kernel
theorem dL_approves_65 : decode cL_approves 65 = .ok (.aload_n 3, 1) := by decide +kernel
theorem dL_approves_66 : decode cL_approves 66 = .ok (.iconst 5, 1) := by decide +kernel
theorem dL_approves_67 : decode cL_approves 67 = .ok (.iload_n 1, 1) := by decide +kernel
theorem dL_approves_68 : decode cL_approves 68 = .ok (.imul, 1) := by decide +kernel
theorem dL_approves_69 : decode cL_approves 69 = .ok (.iconst 3, 1) := by decide +kernel
theorem dL_approves_70 : decode cL_approves 70 = .ok (.iadd, 1) := by decide +kernel
theorem dL_approves_71 : decode cL_approves 71 = .ok (.iaload, 1) := by decide +kernel
theorem dL_approves_72 : decode cL_approves 72 = .ok (.iconst 3, 1) := by decide +kernel
theorem dL_approves_73 : decode cL_approves 73 = .ok (.if_icmp .ne 6, 3) := by decide +kernel
theorem dL_approves_76 : decode cL_approves 76 = .ok (.bipush (-3), 2) := by decide +kernel
theorem dL_approves_78 : decode cL_approves 78 = .ok (.ireturn, 1) := by decide +kernel
theorem dL_approves_79 : decode cL_approves 79 = .ok (.aload 4, 2) := by decide +kernel
theorem dL_approves_81 : decode cL_approves 81 = .ok (.iconst 5, 1) := by decide +kernel
theorem dL_approves_82 : decode cL_approves 82 = .ok (.iload_n 1, 1) := by decide +kernel
theorem dL_approves_83 : decode cL_approves 83 = .ok (.imul, 1) := by decide +kernel
theorem dL_approves_84 : decode cL_approves 84 = .ok (.iload_n 0, 1) := by decide +kernel
theorem dL_approves_85 : decode cL_approves 85 = .ok (.iadd, 1) := by decide +kernel
theorem dL_approves_86 : decode cL_approves 86 = .ok (.aload_n 2, 1) := by decide +kernel
theorem dL_approves_87 : decode cL_approves 87 = .ok (.iconst 0, 1) := by decide +kernel
theorem dL_approves_88 : decode cL_approves 88 = .ok (.iaload, 1) := by decide +kernel
theorem dL_approves_89 : decode cL_approves 89 = .ok (.iconst 1, 1) := by decide +kernel
theorem dL_approves_90 : decode cL_approves 90 = .ok (.iadd, 1) := by decide +kernel
theorem dL_approves_91 : decode cL_approves 91 = .ok (.iastore, 1) := by decide +kernel
theorem dL_approves_92 : decode cL_approves 92 = .ok (.aload_n 3, 1) := by decide +kernel
theorem dL_approves_93 : decode cL_approves 93 = .ok (.iconst 5, 1) := by decide +kernel
theorem dL_approves_94 : decode cL_approves 94 = .ok (.iload_n 1, 1) := by decide +kernel
theorem dL_approves_95 : decode cL_approves 95 = .ok (.imul, 1) := by decide +kernel
theorem dL_approves_96 : decode cL_approves 96 = .ok (.iconst 3, 1) := by decide +kernel
theorem dL_approves_97 : decode cL_approves 97 = .ok (.iadd, 1) := by decide +kernel
theorem dL_approves_98 : decode cL_approves 98 = .ok (.iaload, 1) := by decide +kernel
theorem dL_approves_99 : decode cL_approves 99 = .ok (.iconst 1, 1) := by decide +kernel
theorem dL_approves_100 : decode cL_approves 100 = .ok (.if_icmp .eq 72, 3) := by decide +kernel
theorem dL_approves_103 : decode cL_approves 103 = .ok (.iload_n 1, 1) := by decide +kernel
theorem dL_approves_104 : decode cL_approves 104 = .ok (.aload 4, 2) := by decide +kernel
theorem dL_approves_106 : decode cL_approves 106 = .ok (.invokestatic 119, 3) := by decide +kernel
theorem dL_approves_109 : decode cL_approves 109 = .ok (.iconst 2, 1) := by decide +kernel
theorem dL_approves_110 : decode cL_approves 110 = .ok (.if_icmp .ne 62, 3) := by decide +kernel
theorem dL_approves_113 : decode cL_approves 113 = .ok (.aload_n 3, 1) := by decide +kernel
theorem dL_approves_114 : decode cL_approves 114 = .ok (.iconst 5, 1) := by decide +kernel
theorem dL_approves_115 : decode cL_approves 115 = .ok (.iload_n 1, 1) := by decide +kernel
theorem dL_approves_116 : decode cL_approves 116 = .ok (.imul, 1) := by decide +kernel
theorem dL_approves_117 : decode cL_approves 117 = .ok (.iconst 3, 1) := by decide +kernel
theorem dL_approves_118 : decode cL_approves 118 = .ok (.iadd, 1) := by decide +kernel
theorem dL_approves_119 : decode cL_approves 119 = .ok (.iconst 1, 1) := by decide +kernel
theorem dL_approves_120 : decode cL_approves 120 = .ok (.iastore, 1) := by decide +kernel
theorem dL_approves_121 : decode cL_approves 121 = .ok (.aload_n 2, 1) := by decide +kernel
theorem dL_approves_122 : decode cL_approves 122 = .ok (.iconst 5, 1) := by decide +kernel
theorem dL_approves_123 : decode cL_approves 123 = .ok (.dup2, 1) := by decide +kernel
theorem dL_approves_124 : decode cL_approves 124 = .ok (.iaload, 1) := by decide +kernel
theorem dL_approves_125 : decode cL_approves 125 = .ok (.aload_n 3, 1) := by decide +kernel
theorem dL_approves_126 : decode cL_approves 126 = .ok (.iconst 5, 1) := by decide +kernel
theorem dL_approves_127 : decode cL_approves 127 = .ok (.iload_n 1, 1) := by decide +kernel
theorem dL_approves_128 : decode cL_approves 128 = .ok (.imul, 1) := by decide +kernel
theorem dL_approves_129 : decode cL_approves 129 = .ok (.iconst 4, 1) := by decide +kernel
theorem dL_approves_130 : decode cL_approves 130 = .ok (.iadd, 1) := by decide +kernel
theorem dL_approves_131 : decode cL_approves 131 = .ok (.iaload, 1) := by decide +kernel
theorem dL_approves_132 : decode cL_approves 132 = .ok (.ifCond .ne 7, 3) := by decide +kernel
theorem dL_approves_135 : decode cL_approves 135 = .ok (.iconst 1, 1) := by decide +kernel
theorem dL_approves_136 : decode cL_approves 136 = .ok (.goto 4, 3) := by decide +kernel
theorem dL_approves_139 : decode cL_approves 139 = .ok (.iconst 0, 1) := by decide +kernel
theorem dL_approves_140 : decode cL_approves 140 = .ok (.iadd, 1) := by decide +kernel
theorem dL_approves_141 : decode cL_approves 141 = .ok (.iastore, 1) := by decide +kernel
theorem dL_approves_142 : decode cL_approves 142 = .ok (.aload_n 3, 1) := by decide +kernel
theorem dL_approves_143 : decode cL_approves 143 = .ok (.iconst 5, 1) := by decide +kernel
theorem dL_approves_144 : decode cL_approves 144 = .ok (.iload_n 1, 1) := by decide +kernel
theorem dL_approves_145 : decode cL_approves 145 = .ok (.imul, 1) := by decide +kernel
theorem dL_approves_146 : decode cL_approves 146 = .ok (.iconst 4, 1) := by decide +kernel
theorem dL_approves_147 : decode cL_approves 147 = .ok (.iadd, 1) := by decide +kernel
theorem dL_approves_148 : decode cL_approves 148 = .ok (.aload_n 3, 1) := by decide +kernel
theorem dL_approves_149 : decode cL_approves 149 = .ok (.iconst 5, 1) := by decide +kernel
theorem dL_approves_150 : decode cL_approves 150 = .ok (.iload_n 1, 1) := by decide +kernel
theorem dL_approves_151 : decode cL_approves 151 = .ok (.imul, 1) := by decide +kernel
theorem dL_approves_152 : decode cL_approves 152 = .ok (.iconst 4, 1) := by decide +kernel
theorem dL_approves_153 : decode cL_approves 153 = .ok (.iadd, 1) := by decide +kernel
theorem dL_approves_154 : decode cL_approves 154 = .ok (.iaload, 1) := by decide +kernel
theorem dL_approves_155 : decode cL_approves 155 = .ok (.ifCond .ne 9, 3) := by decide +kernel
theorem dL_approves_158 : decode cL_approves 158 = .ok (.aload_n 2, 1) := by decide +kernel
theorem dL_approves_159 : decode cL_approves 159 = .ok (.iconst 5, 1) := by decide +kernel
theorem dL_approves_160 : decode cL_approves 160 = .ok (.iaload, 1) := by decide +kernel
theorem dL_approves_161 : decode cL_approves 161 = .ok (.goto 10, 3) := by decide +kernel
theorem dL_approves_164 : decode cL_approves 164 = .ok (.aload_n 3, 1) := by decide +kernel
theorem dL_approves_165 : decode cL_approves 165 = .ok (.iconst 5, 1) := by decide +kernel
theorem dL_approves_166 : decode cL_approves 166 = .ok (.iload_n 1, 1) := by decide +kernel
theorem dL_approves_167 : decode cL_approves 167 = .ok (.imul, 1) := by decide +kernel
theorem dL_approves_168 : decode cL_approves 168 = .ok (.iconst 4, 1) := by decide +kernel
theorem dL_approves_169 : decode cL_approves 169 = .ok (.iadd, 1) := by decide +kernel
theorem dL_approves_170 : decode cL_approves 170 = .ok (.iaload, 1) := by decide +kernel
theorem dL_approves_171 : decode cL_approves 171 = .ok (.iastore, 1) := by decide +kernel
theorem dL_approves_172 : decode cL_approves 172 = .ok (.aload_n 3, 1) := by decide +kernel
theorem dL_approves_173 : decode cL_approves 173 = .ok (.iconst 5, 1) := by decide +kernel
theorem dL_approves_174 : decode cL_approves 174 = .ok (.iload_n 1, 1) := by decide +kernel
theorem dL_approves_175 : decode cL_approves 175 = .ok (.imul, 1) := by decide +kernel
theorem dL_approves_176 : decode cL_approves 176 = .ok (.iconst 3, 1) := by decide +kernel
theorem dL_approves_177 : decode cL_approves 177 = .ok (.iadd, 1) := by decide +kernel
theorem dL_approves_178 : decode cL_approves 178 = .ok (.iaload, 1) := by decide +kernel
theorem dL_approves_179 : decode cL_approves 179 = .ok (.ireturn, 1) := by decide +kernel
theorem dL_leaves_0 : decode cL_leaves 0 = .ok (.aload_n 2, 1) := by decide +kernel
theorem dL_leaves_1 : decode cL_leaves 1 = .ok (.bipush 10, 2) := by decide +kernel
theorem dL_leaves_3 : decode cL_leaves 3 = .ok (.iaload, 1) := by decide +kernel
theorem dL_leaves_4 : decode cL_leaves 4 = .ok (.iload_n 0, 1) := by decide +kernel
theorem dL_leaves_5 : decode cL_leaves 5 = .ok (.ishr, 1) := by decide +kernel
theorem dL_leaves_6 : decode cL_leaves 6 = .ok (.iconst 1, 1) := by decide +kernel
theorem dL_leaves_7 : decode cL_leaves 7 = .ok (.iand, 1) := by decide +kernel
theorem dL_leaves_8 : decode cL_leaves 8 = .ok (.iconst 1, 1) := by decide +kernel
theorem dL_leaves_9 : decode cL_leaves 9 = .ok (.if_icmp .ne 6, 3) := by decide +kernel
theorem dL_leaves_12 : decode cL_leaves 12 = .ok (.bipush (-3), 2) := by decide +kernel
theorem dL_leaves_14 : decode cL_leaves 14 = .ok (.ireturn, 1) := by decide +kernel
theorem dL_leaves_15 : decode cL_leaves 15 = .ok (.aload_n 2, 1) := by decide +kernel
theorem dL_leaves_16 : decode cL_leaves 16 = .ok (.bipush 10, 2) := by decide +kernel
theorem dL_leaves_18 : decode cL_leaves 18 = .ok (.dup2, 1) := by decide +kernel
theorem dL_leaves_19 : decode cL_leaves 19 = .ok (.iaload, 1) := by decide +kernel
theorem dL_leaves_20 : decode cL_leaves 20 = .ok (.iconst 1, 1) := by decide +kernel
theorem dL_leaves_21 : decode cL_leaves 21 = .ok (.iload_n 0, 1) := by decide +kernel
theorem dL_leaves_22 : decode cL_leaves 22 = .ok (.ishl, 1) := by decide +kernel
theorem dL_leaves_23 : decode cL_leaves 23 = .ok (.ior, 1) := by decide +kernel
theorem dL_leaves_24 : decode cL_leaves 24 = .ok (.iastore, 1) := by decide +kernel
theorem dL_leaves_25 : decode cL_leaves 25 = .ok (.aload_n 2, 1) := by decide +kernel
theorem dL_leaves_26 : decode cL_leaves 26 = .ok (.bipush 11, 2) := by decide +kernel
theorem dL_leaves_28 : decode cL_leaves 28 = .ok (.dup2, 1) := by decide +kernel
theorem dL_leaves_29 : decode cL_leaves 29 = .ok (.iaload, 1) := by decide +kernel
theorem dL_leaves_30 : decode cL_leaves 30 = .ok (.iload_n 1, 1) := by decide +kernel
theorem dL_leaves_31 : decode cL_leaves 31 = .ok (.ifCond .eq 9, 3) := by decide +kernel
theorem dL_leaves_34 : decode cL_leaves 34 = .ok (.iconst 1, 1) := by decide +kernel
theorem dL_leaves_35 : decode cL_leaves 35 = .ok (.iload_n 0, 1) := by decide +kernel
theorem dL_leaves_36 : decode cL_leaves 36 = .ok (.ishl, 1) := by decide +kernel
theorem dL_leaves_37 : decode cL_leaves 37 = .ok (.goto 4, 3) := by decide +kernel
theorem dL_leaves_40 : decode cL_leaves 40 = .ok (.iconst 0, 1) := by decide +kernel
theorem dL_leaves_41 : decode cL_leaves 41 = .ok (.ior, 1) := by decide +kernel
theorem dL_leaves_42 : decode cL_leaves 42 = .ok (.iastore, 1) := by decide +kernel
theorem dL_leaves_43 : decode cL_leaves 43 = .ok (.iconst 0, 1) := by decide +kernel
theorem dL_leaves_44 : decode cL_leaves 44 = .ok (.istore 8, 2) := by decide +kernel
theorem dL_leaves_46 : decode cL_leaves 46 = .ok (.iconst 0, 1) := by decide +kernel
theorem dL_leaves_47 : decode cL_leaves 47 = .ok (.istore 9, 2) := by decide +kernel
theorem dL_leaves_49 : decode cL_leaves 49 = .ok (.iload 9, 2) := by decide +kernel
theorem dL_leaves_51 : decode cL_leaves 51 = .ok (.aload_n 2, 1) := by decide +kernel
theorem dL_leaves_52 : decode cL_leaves 52 = .ok (.iconst 4, 1) := by decide +kernel
theorem dL_leaves_53 : decode cL_leaves 53 = .ok (.iaload, 1) := by decide +kernel
theorem dL_leaves_54 : decode cL_leaves 54 = .ok (.if_icmp .ge 164, 3) := by decide +kernel
theorem dL_leaves_57 : decode cL_leaves 57 = .ok (.iload_n 1, 1) := by decide +kernel
theorem dL_leaves_58 : decode cL_leaves 58 = .ok (.ifCond .eq 160, 3) := by decide +kernel
theorem dL_leaves_61 : decode cL_leaves 61 = .ok (.aload 5, 2) := by decide +kernel
theorem dL_leaves_63 : decode cL_leaves 63 = .ok (.iconst 5, 1) := by decide +kernel
theorem dL_leaves_64 : decode cL_leaves 64 = .ok (.iload 9, 2) := by decide +kernel
theorem dL_leaves_66 : decode cL_leaves 66 = .ok (.imul, 1) := by decide +kernel
theorem dL_leaves_67 : decode cL_leaves 67 = .ok (.iconst 3, 1) := by decide +kernel
theorem dL_leaves_68 : decode cL_leaves 68 = .ok (.iadd, 1) := by decide +kernel
theorem dL_leaves_69 : decode cL_leaves 69 = .ok (.iaload, 1) := by decide +kernel
theorem dL_leaves_70 : decode cL_leaves 70 = .ok (.istore 10, 2) := by decide +kernel
theorem dL_leaves_72 : decode cL_leaves 72 = .ok (.aload 6, 2) := by decide +kernel
theorem dL_leaves_74 : decode cL_leaves 74 = .ok (.iconst 5, 1) := by decide +kernel
theorem dL_leaves_75 : decode cL_leaves 75 = .ok (.iload 9, 2) := by decide +kernel
theorem dL_leaves_77 : decode cL_leaves 77 = .ok (.imul, 1) := by decide +kernel
theorem dL_leaves_78 : decode cL_leaves 78 = .ok (.iload_n 0, 1) := by decide +kernel
theorem dL_leaves_79 : decode cL_leaves 79 = .ok (.iadd, 1) := by decide +kernel
theorem dL_leaves_80 : decode cL_leaves 80 = .ok (.iaload, 1) := by decide +kernel
theorem dL_leaves_81 : decode cL_leaves 81 = .ok (.istore 11, 2) := by decide +kernel
theorem dL_leaves_83 : decode cL_leaves 83 = .ok (.aload 6, 2) := by decide +kernel
theorem dL_leaves_85 : decode cL_leaves 85 = .ok (.iconst 5, 1) := by decide +kernel
theorem dL_leaves_86 : decode cL_leaves 86 = .ok (.iload 9, 2) := by decide +kernel
theorem dL_leaves_88 : decode cL_leaves 88 = .ok (.imul, 1) := by decide +kernel
theorem dL_leaves_89 : decode cL_leaves 89 = .ok (.iload_n 0, 1) := by decide +kernel
theorem dL_leaves_90 : decode cL_leaves 90 = .ok (.iadd, 1) := by decide +kernel
theorem dL_leaves_91 : decode cL_leaves 91 = .ok (.iload 11, 2) := by decide +kernel
theorem dL_leaves_93 : decode cL_leaves 93 = .ok (.ifCond .le 22, 3) := by decide +kernel
theorem dL_leaves_96 : decode cL_leaves 96 = .ok (.aload_n 2, 1) := by decide +kernel
theorem dL_leaves_97 : decode cL_leaves 97 = .ok (.iconst 0, 1) := by decide +kernel
theorem dL_leaves_98 : decode cL_leaves 98 = .ok (.iaload, 1) := by decide +kernel
theorem dL_leaves_99 : decode cL_leaves 99 = .ok (.iconst 1, 1) := by decide +kernel
theorem dL_leaves_100 : decode cL_leaves 100 = .ok (.iadd, 1) := by decide +kernel
theorem dL_leaves_101 : decode cL_leaves 101 = .ok (.iload 11, 2) := by decide +kernel
theorem dL_leaves_103 : decode cL_leaves 103 = .ok (.isub, 1) := by decide +kernel
theorem dL_leaves_104 : decode cL_leaves 104 = .ok (.bipush 29, 2) := by decide +kernel
theorem dL_leaves_106 : decode cL_leaves 106 = .ok (.if_icmp .gt 9, 3) := by decide +kernel
theorem dL_leaves_109 : decode cL_leaves 109 = .ok (.iload 11, 2) := by decide +kernel
theorem dL_leaves_111 : decode cL_leaves 111 = .ok (.ineg, 1) := by decide +kernel
theorem dL_leaves_112 : decode cL_leaves 112 = .ok (.goto 5, 3) := by decide +kernel
theorem dL_leaves_115 : decode cL_leaves 115 = .ok (.iload 11, 2) := by decide +kernel
theorem dL_leaves_117 : decode cL_leaves 117 = .ok (.iastore, 1) := by decide +kernel
theorem dL_leaves_118 : decode cL_leaves 118 = .ok (.aload 5, 2) := by decide +kernel
theorem dL_leaves_120 : decode cL_leaves 120 = .ok (.iconst 5, 1) := by decide +kernel
theorem dL_leaves_121 : decode cL_leaves 121 = .ok (.iload 9, 2) := by decide +kernel
theorem dL_leaves_123 : decode cL_leaves 123 = .ok (.imul, 1) := by decide +kernel
theorem dL_leaves_124 : decode cL_leaves 124 = .ok (.iconst 3, 1) := by decide +kernel
theorem dL_leaves_125 : decode cL_leaves 125 = .ok (.iadd, 1) := by decide +kernel
theorem dL_leaves_126 : decode cL_leaves 126 = .ok (.aload 7, 2) := by decide +kernel
theorem dL_leaves_128 : decode cL_leaves 128 = .ok (.iconst 2, 1) := by decide +kernel
theorem dL_leaves_129 : decode cL_leaves 129 = .ok (.iload 9, 2) := by decide +kernel
theorem dL_leaves_131 : decode cL_leaves 131 = .ok (.imul, 1) := by decide +kernel
theorem dL_leaves_132 : decode cL_leaves 132 = .ok (.iaload, 1) := by decide +kernel
theorem dL_leaves_133 : decode cL_leaves 133 = .ok (.iload_n 0, 1) := by decide +kernel
theorem dL_leaves_134 : decode cL_leaves 134 = .ok (.if_icmp .ne 25, 3) := by decide +kernel
theorem dL_leaves_137 : decode cL_leaves 137 = .ok (.aload_n 2, 1) := by decide +kernel
theorem dL_leaves_138 : decode cL_leaves 138 = .ok (.iconst 0, 1) := by decide +kernel
theorem dL_leaves_139 : decode cL_leaves 139 = .ok (.iaload, 1) := by decide +kernel
theorem dL_leaves_140 : decode cL_leaves 140 = .ok (.aload 7, 2) := by decide +kernel
theorem dL_leaves_142 : decode cL_leaves 142 = .ok (.iconst 2, 1) := by decide +kernel
theorem dL_leaves_143 : decode cL_leaves 143 = .ok (.iload 9, 2) := by decide +kernel
theorem dL_leaves_145 : decode cL_leaves 145 = .ok (.imul, 1) := by decide +kernel
theorem dL_leaves_146 : decode cL_leaves 146 = .ok (.iconst 1, 1) := by decide +kernel
theorem dL_leaves_147 : decode cL_leaves 147 = .ok (.iadd, 1) := by decide +kernel
theorem dL_leaves_148 : decode cL_leaves 148 = .ok (.iaload, 1) := by decide +kernel
theorem dL_leaves_149 : decode cL_leaves 149 = .ok (.isub, 1) := by decide +kernel
theorem dL_leaves_150 : decode cL_leaves 150 = .ok (.bipush 29, 2) := by decide +kernel
theorem dL_leaves_152 : decode cL_leaves 152 = .ok (.if_icmp .gt 7, 3) := by decide +kernel
theorem dL_leaves_155 : decode cL_leaves 155 = .ok (.iconst 3, 1) := by decide +kernel
theorem dL_leaves_156 : decode cL_leaves 156 = .ok (.goto 26, 3) := by decide +kernel
theorem dL_leaves_159 : decode cL_leaves 159 = .ok (.iload 10, 2) := by decide +kernel
theorem dL_leaves_161 : decode cL_leaves 161 = .ok (.iconst 1, 1) := by decide +kernel
theorem dL_leaves_162 : decode cL_leaves 162 = .ok (.if_icmp .ne 18, 3) := by decide +kernel
theorem dL_leaves_165 : decode cL_leaves 165 = .ok (.iload 9, 2) := by decide +kernel
theorem dL_leaves_167 : decode cL_leaves 167 = .ok (.aload 6, 2) := by decide +kernel
theorem dL_leaves_169 : decode cL_leaves 169 = .ok (.invokestatic 119, 3) := by decide +kernel
theorem dL_leaves_172 : decode cL_leaves 172 = .ok (.iconst 2, 1) := by decide +kernel
theorem dL_leaves_173 : decode cL_leaves 173 = .ok (.if_icmp .ge 7, 3) := by decide +kernel
theorem dL_leaves_176 : decode cL_leaves 176 = .ok (.iconst 2, 1) := by decide +kernel
theorem dL_leaves_177 : decode cL_leaves 177 = .ok (.goto 5, 3) := by decide +kernel
theorem dL_leaves_180 : decode cL_leaves 180 = .ok (.iload 10, 2) := by decide +kernel
theorem dL_leaves_182 : decode cL_leaves 182 = .ok (.iastore, 1) := by decide +kernel
theorem dL_leaves_183 : decode cL_leaves 183 = .ok (.iload 8, 2) := by decide +kernel
theorem dL_leaves_185 : decode cL_leaves 185 = .ok (.iload 10, 2) := by decide +kernel
theorem dL_leaves_187 : decode cL_leaves 187 = .ok (.iconst 1, 1) := by decide +kernel
theorem dL_leaves_188 : decode cL_leaves 188 = .ok (.if_icmp .ne 20, 3) := by decide +kernel
theorem dL_leaves_191 : decode cL_leaves 191 = .ok (.aload 5, 2) := by decide +kernel
theorem dL_leaves_193 : decode cL_leaves 193 = .ok (.iconst 5, 1) := by decide +kernel
theorem dL_leaves_194 : decode cL_leaves 194 = .ok (.iload 9, 2) := by decide +kernel
theorem dL_leaves_196 : decode cL_leaves 196 = .ok (.imul, 1) := by decide +kernel
theorem dL_leaves_197 : decode cL_leaves 197 = .ok (.iconst 3, 1) := by decide +kernel
theorem dL_leaves_198 : decode cL_leaves 198 = .ok (.iadd, 1) := by decide +kernel
theorem dL_leaves_199 : decode cL_leaves 199 = .ok (.iaload, 1) := by decide +kernel
theorem dL_leaves_200 : decode cL_leaves 200 = .ok (.iconst 1, 1) := by decide +kernel
theorem dL_leaves_201 : decode cL_leaves 201 = .ok (.if_icmp .le 7, 3) := by decide +kernel
theorem dL_leaves_204 : decode cL_leaves 204 = .ok (.iconst 1, 1) := by decide +kernel
theorem dL_leaves_205 : decode cL_leaves 205 = .ok (.goto 4, 3) := by decide +kernel
theorem dL_leaves_208 : decode cL_leaves 208 = .ok (.iconst 0, 1) := by decide +kernel
theorem dL_leaves_209 : decode cL_leaves 209 = .ok (.iadd, 1) := by decide +kernel
theorem dL_leaves_210 : decode cL_leaves 210 = .ok (.istore 8, 2) := by decide +kernel
theorem dL_leaves_212 : decode cL_leaves 212 = .ok (.iinc 9 1, 3) := by decide +kernel
theorem dL_leaves_215 : decode cL_leaves 215 = .ok (.goto (-166), 3) := by decide +kernel
theorem dL_leaves_218 : decode cL_leaves 218 = .ok (.iconst 0, 1) := by decide +kernel
theorem dL_leaves_219 : decode cL_leaves 219 = .ok (.istore 9, 2) := by decide +kernel
theorem dL_leaves_221 : decode cL_leaves 221 = .ok (.iload 9, 2) := by decide +kernel
theorem dL_leaves_223 : decode cL_leaves 223 = .ok (.aload_n 2, 1) := by decide +kernel
theorem dL_leaves_224 : decode cL_leaves 224 = .ok (.iconst 3, 1) := by decide +kernel
theorem dL_leaves_225 : decode cL_leaves 225 = .ok (.iaload, 1) := by decide +kernel
theorem dL_leaves_226 : decode cL_leaves 226 = .ok (.if_icmp .ge 39, 3) := by decide +kernel
theorem dL_leaves_229 : decode cL_leaves 229 = .ok (.aload_n 3, 1) := by decide +kernel
theorem dL_leaves_230 : decode cL_leaves 230 = .ok (.bipush 7, 2) := by decide +kernel
theorem dL_leaves_232 : decode cL_leaves 232 = .ok (.iload 9, 2) := by decide +kernel
theorem dL_leaves_234 : decode cL_leaves 234 = .ok (.iadd, 1) := by decide +kernel
theorem dL_leaves_235 : decode cL_leaves 235 = .ok (.iload 9, 2) := by decide +kernel
theorem dL_leaves_237 : decode cL_leaves 237 = .ok (.aload 4, 2) := by decide +kernel
theorem dL_leaves_239 : decode cL_leaves 239 = .ok (.aload 5, 2) := by decide +kernel
theorem dL_leaves_241 : decode cL_leaves 241 = .ok (.invokestatic 61, 3) := by decide +kernel
theorem dL_leaves_244 : decode cL_leaves 244 = .ok (.ifCond .eq 7, 3) := by decide +kernel
theorem dL_leaves_247 : decode cL_leaves 247 = .ok (.iconst 0, 1) := by decide +kernel
theorem dL_leaves_248 : decode cL_leaves 248 = .ok (.goto 10, 3) := by decide +kernel
theorem dL_leaves_251 : decode cL_leaves 251 = .ok (.aload_n 3, 1) := by decide +kernel
theorem dL_leaves_252 : decode cL_leaves 252 = .ok (.bipush 7, 2) := by decide +kernel
theorem dL_leaves_254 : decode cL_leaves 254 = .ok (.iload 9, 2) := by decide +kernel
theorem dL_leaves_256 : decode cL_leaves 256 = .ok (.iadd, 1) := by decide +kernel
theorem dL_leaves_257 : decode cL_leaves 257 = .ok (.iaload, 1) := by decide +kernel
theorem dL_leaves_258 : decode cL_leaves 258 = .ok (.iastore, 1) := by decide +kernel
theorem dL_leaves_259 : decode cL_leaves 259 = .ok (.iinc 9 1, 3) := by decide +kernel
theorem dL_leaves_262 : decode cL_leaves 262 = .ok (.goto (-41), 3) := by decide +kernel
theorem dL_leaves_265 : decode cL_leaves 265 = .ok (.iload 8, 2) := by decide +kernel
theorem dL_leaves_267 : decode cL_leaves 267 = .ok (.ireturn, 1) := by decide +kernel
theorem dL_steps_0 : decode cL_steps 0 = .ok (.iload_n 0, 1) := by decide +kernel
theorem dL_steps_1 : decode cL_steps 1 = .ok (.aload_n 3, 1) := by decide +kernel
theorem dL_steps_2 : decode cL_steps 2 = .ok (.invokestatic 49, 3) := by decide +kernel
theorem dL_steps_5 : decode cL_steps 5 = .ok (.istore 6, 2) := by decide +kernel
theorem dL_steps_7 : decode cL_steps 7 = .ok (.iload_n 0, 1) := by decide +kernel
theorem dL_steps_8 : decode cL_steps 8 = .ok (.aload 4, 2) := by decide +kernel
theorem dL_steps_10 : decode cL_steps 10 = .ok (.aload 5, 2) := by decide +kernel
theorem dL_steps_12 : decode cL_steps 12 = .ok (.invokestatic 61, 3) := by decide +kernel
theorem dL_steps_15 : decode cL_steps 15 = .ok (.ifCond .eq 111, 3) := by decide +kernel
theorem dL_steps_18 : decode cL_steps 18 = .ok (.iconst 0, 1) := by decide +kernel
theorem dL_steps_19 : decode cL_steps 19 = .ok (.istore 7, 2) := by decide +kernel
theorem dL_steps_21 : decode cL_steps 21 = .ok (.iload 7, 2) := by decide +kernel
theorem dL_steps_23 : decode cL_steps 23 = .ok (.iload 6, 2) := by decide +kernel
theorem dL_steps_25 : decode cL_steps 25 = .ok (.if_icmp .ge 101, 3) := by decide +kernel
theorem dL_steps_28 : decode cL_steps 28 = .ok (.iload_n 0, 1) := by decide +kernel
theorem dL_steps_29 : decode cL_steps 29 = .ok (.iload 7, 2) := by decide +kernel
theorem dL_steps_31 : decode cL_steps 31 = .ok (.aload_n 3, 1) := by decide +kernel
theorem dL_steps_32 : decode cL_steps 32 = .ok (.invokestatic 39, 3) := by decide +kernel
theorem dL_steps_35 : decode cL_steps 35 = .ok (.istore 8, 2) := by decide +kernel
theorem dL_steps_37 : decode cL_steps 37 = .ok (.iconst 0, 1) := by decide +kernel
theorem dL_steps_38 : decode cL_steps 38 = .ok (.istore 9, 2) := by decide +kernel
theorem dL_steps_40 : decode cL_steps 40 = .ok (.iconst 0, 1) := by decide +kernel
theorem dL_steps_41 : decode cL_steps 41 = .ok (.istore 10, 2) := by decide +kernel
theorem dL_steps_43 : decode cL_steps 43 = .ok (.iload 10, 2) := by decide +kernel
theorem dL_steps_45 : decode cL_steps 45 = .ok (.iconst 4, 1) := by decide +kernel
theorem dL_steps_46 : decode cL_steps 46 = .ok (.if_icmp .ge 66, 3) := by decide +kernel
theorem dL_steps_49 : decode cL_steps 49 = .ok (.bipush 20, 2) := by decide +kernel
theorem dL_steps_51 : decode cL_steps 51 = .ok (.iload_n 0, 1) := by decide +kernel
theorem dL_steps_52 : decode cL_steps 52 = .ok (.imul, 1) := by decide +kernel
theorem dL_steps_53 : decode cL_steps 53 = .ok (.iconst 4, 1) := by decide +kernel
theorem dL_steps_54 : decode cL_steps 54 = .ok (.iload 8, 2) := by decide +kernel
theorem dL_steps_56 : decode cL_steps 56 = .ok (.imul, 1) := by decide +kernel
theorem dL_steps_57 : decode cL_steps 57 = .ok (.iadd, 1) := by decide +kernel
theorem dL_steps_58 : decode cL_steps 58 = .ok (.iload 10, 2) := by decide +kernel
theorem dL_steps_60 : decode cL_steps 60 = .ok (.iadd, 1) := by decide +kernel
theorem dL_steps_61 : decode cL_steps 61 = .ok (.istore 11, 2) := by decide +kernel
theorem dL_steps_63 : decode cL_steps 63 = .ok (.aload 4, 2) := by decide +kernel
theorem dL_steps_65 : decode cL_steps 65 = .ok (.iload 11, 2) := by decide +kernel
theorem dL_steps_67 : decode cL_steps 67 = .ok (.iaload, 1) := by decide +kernel
theorem dL_steps_68 : decode cL_steps 68 = .ok (.ifCond .le 38, 3) := by decide +kernel
theorem dL_steps_71 : decode cL_steps 71 = .ok (.aload 5, 2) := by decide +kernel
theorem dL_steps_73 : decode cL_steps 73 = .ok (.iconst 5, 1) := by decide +kernel
theorem dL_steps_74 : decode cL_steps 74 = .ok (.aload 4, 2) := by decide +kernel
theorem dL_steps_76 : decode cL_steps 76 = .ok (.iload 11, 2) := by decide +kernel
theorem dL_steps_78 : decode cL_steps 78 = .ok (.iaload, 1) := by decide +kernel
theorem dL_steps_79 : decode cL_steps 79 = .ok (.imul, 1) := by decide +kernel
theorem dL_steps_80 : decode cL_steps 80 = .ok (.iconst 2, 1) := by decide +kernel
theorem dL_steps_81 : decode cL_steps 81 = .ok (.isub, 1) := by decide +kernel
theorem dL_steps_82 : decode cL_steps 82 = .ok (.iaload, 1) := by decide +kernel
theorem dL_steps_83 : decode cL_steps 83 = .ok (.iconst 1, 1) := by decide +kernel
theorem dL_steps_84 : decode cL_steps 84 = .ok (.if_icmp .eq 22, 3) := by decide +kernel
theorem dL_steps_87 : decode cL_steps 87 = .ok (.aload 4, 2) := by decide +kernel
theorem dL_steps_89 : decode cL_steps 89 = .ok (.iload 11, 2) := by decide +kernel
theorem dL_steps_91 : decode cL_steps 91 = .ok (.iload_n 0, 1) := by decide +kernel
theorem dL_steps_92 : decode cL_steps 92 = .ok (.iload 8, 2) := by decide +kernel
theorem dL_steps_94 : decode cL_steps 94 = .ok (.iload 10, 2) := by decide +kernel
theorem dL_steps_96 : decode cL_steps 96 = .ok (.aload_n 2, 1) := by decide +kernel
theorem dL_steps_97 : decode cL_steps 97 = .ok (.aload 5, 2) := by decide +kernel
theorem dL_steps_99 : decode cL_steps 99 = .ok (.invokestatic 53, 3) := by decide +kernel
theorem dL_steps_102 : decode cL_steps 102 = .ok (.iastore, 1) := by decide +kernel
theorem dL_steps_103 : decode cL_steps 103 = .ok (.iconst 1, 1) := by decide +kernel
theorem dL_steps_104 : decode cL_steps 104 = .ok (.istore 9, 2) := by decide +kernel
theorem dL_steps_106 : decode cL_steps 106 = .ok (.iinc 10 1, 3) := by decide +kernel
theorem dL_steps_109 : decode cL_steps 109 = .ok (.goto (-66), 3) := by decide +kernel
theorem dL_steps_112 : decode cL_steps 112 = .ok (.iload 9, 2) := by decide +kernel
theorem dL_steps_114 : decode cL_steps 114 = .ok (.iconst 1, 1) := by decide +kernel
theorem dL_steps_115 : decode cL_steps 115 = .ok (.if_icmp .ne 5, 3) := by decide +kernel
theorem dL_steps_118 : decode cL_steps 118 = .ok (.iconst 1, 1) := by decide +kernel
theorem dL_steps_119 : decode cL_steps 119 = .ok (.ireturn, 1) := by decide +kernel
theorem dL_steps_120 : decode cL_steps 120 = .ok (.iinc 7 1, 3) := by decide +kernel
theorem dL_steps_123 : decode cL_steps 123 = .ok (.goto (-102), 3) := by decide +kernel
theorem dL_steps_126 : decode cL_steps 126 = .ok (.iload 6, 2) := by decide +kernel
theorem dL_steps_128 : decode cL_steps 128 = .ok (.iconst 1, 1) := by decide +kernel
theorem dL_steps_129 : decode cL_steps 129 = .ok (.isub, 1) := by decide +kernel
theorem dL_steps_130 : decode cL_steps 130 = .ok (.istore 7, 2) := by decide +kernel
theorem dL_steps_132 : decode cL_steps 132 = .ok (.iload 7, 2) := by decide +kernel
theorem dL_steps_134 : decode cL_steps 134 = .ok (.ifCond .lt 92, 3) := by decide +kernel
theorem dL_steps_137 : decode cL_steps 137 = .ok (.iload_n 1, 1) := by decide +kernel
theorem dL_steps_138 : decode cL_steps 138 = .ok (.ifCond .le 88, 3) := by decide +kernel
theorem dL_steps_141 : decode cL_steps 141 = .ok (.aload_n 2, 1) := by decide +kernel
theorem dL_steps_142 : decode cL_steps 142 = .ok (.iconst 0, 1) := by decide +kernel
theorem dL_steps_143 : decode cL_steps 143 = .ok (.iaload, 1) := by decide +kernel
theorem dL_steps_144 : decode cL_steps 144 = .ok (.aload_n 3, 1) := by decide +kernel
theorem dL_steps_145 : decode cL_steps 145 = .ok (.bipush 7, 2) := by decide +kernel
theorem dL_steps_147 : decode cL_steps 147 = .ok (.iload_n 0, 1) := by decide +kernel
theorem dL_steps_148 : decode cL_steps 148 = .ok (.iadd, 1) := by decide +kernel
theorem dL_steps_149 : decode cL_steps 149 = .ok (.iaload, 1) := by decide +kernel
theorem dL_steps_150 : decode cL_steps 150 = .ok (.if_icmp .lt 76, 3) := by decide +kernel
theorem dL_steps_153 : decode cL_steps 153 = .ok (.iload_n 0, 1) := by decide +kernel
theorem dL_steps_154 : decode cL_steps 154 = .ok (.iload 7, 2) := by decide +kernel
theorem dL_steps_156 : decode cL_steps 156 = .ok (.aload_n 2, 1) := by decide +kernel
theorem dL_steps_157 : decode cL_steps 157 = .ok (.aload_n 3, 1) := by decide +kernel
theorem dL_steps_158 : decode cL_steps 158 = .ok (.aload 4, 2) := by decide +kernel
theorem dL_steps_160 : decode cL_steps 160 = .ok (.aload 5, 2) := by decide +kernel
theorem dL_steps_162 : decode cL_steps 162 = .ok (.invokestatic 76, 3) := by decide +kernel
theorem dL_steps_165 : decode cL_steps 165 = .ok (.ifCond .eq 55, 3) := by decide +kernel
theorem dL_steps_168 : decode cL_steps 168 = .ok (.iload_n 0, 1) := by decide +kernel
theorem dL_steps_169 : decode cL_steps 169 = .ok (.iload 7, 2) := by decide +kernel
theorem dL_steps_171 : decode cL_steps 171 = .ok (.aload_n 3, 1) := by decide +kernel
theorem dL_steps_172 : decode cL_steps 172 = .ok (.invokestatic 39, 3) := by decide +kernel
theorem dL_steps_175 : decode cL_steps 175 = .ok (.istore 8, 2) := by decide +kernel
theorem dL_steps_177 : decode cL_steps 177 = .ok (.iconst 0, 1) := by decide +kernel
theorem dL_steps_178 : decode cL_steps 178 = .ok (.istore 9, 2) := by decide +kernel
theorem dL_steps_180 : decode cL_steps 180 = .ok (.iload 9, 2) := by decide +kernel
theorem dL_steps_182 : decode cL_steps 182 = .ok (.iconst 4, 1) := by decide +kernel
theorem dL_steps_183 : decode cL_steps 183 = .ok (.if_icmp .ge 35, 3) := by decide +kernel
theorem dL_steps_186 : decode cL_steps 186 = .ok (.aload 4, 2) := by decide +kernel
theorem dL_steps_188 : decode cL_steps 188 = .ok (.bipush 20, 2) := by decide +kernel
theorem dL_steps_190 : decode cL_steps 190 = .ok (.iload_n 0, 1) := by decide +kernel
theorem dL_steps_191 : decode cL_steps 191 = .ok (.imul, 1) := by decide +kernel
theorem dL_steps_192 : decode cL_steps 192 = .ok (.iconst 4, 1) := by decide +kernel
theorem dL_steps_193 : decode cL_steps 193 = .ok (.iload 8, 2) := by decide +kernel
theorem dL_steps_195 : decode cL_steps 195 = .ok (.imul, 1) := by decide +kernel
theorem dL_steps_196 : decode cL_steps 196 = .ok (.iadd, 1) := by decide +kernel
theorem dL_steps_197 : decode cL_steps 197 = .ok (.iload 9, 2) := by decide +kernel
theorem dL_steps_199 : decode cL_steps 199 = .ok (.iadd, 1) := by decide +kernel
theorem dL_steps_200 : decode cL_steps 200 = .ok (.iload_n 0, 1) := by decide +kernel
theorem dL_steps_201 : decode cL_steps 201 = .ok (.iload 8, 2) := by decide +kernel
theorem dL_steps_203 : decode cL_steps 203 = .ok (.iload 9, 2) := by decide +kernel
theorem dL_steps_205 : decode cL_steps 205 = .ok (.aload_n 2, 1) := by decide +kernel
theorem dL_steps_206 : decode cL_steps 206 = .ok (.aload 5, 2) := by decide +kernel
theorem dL_steps_208 : decode cL_steps 208 = .ok (.invokestatic 53, 3) := by decide +kernel
theorem dL_steps_211 : decode cL_steps 211 = .ok (.iastore, 1) := by decide +kernel
theorem dL_steps_212 : decode cL_steps 212 = .ok (.iinc 9 1, 3) := by decide +kernel
theorem dL_steps_215 : decode cL_steps 215 = .ok (.goto (-35), 3) := by decide +kernel
theorem dL_steps_218 : decode cL_steps 218 = .ok (.iconst 2, 1) := by decide +kernel
theorem dL_steps_219 : decode cL_steps 219 = .ok (.ireturn, 1) := by decide +kernel
theorem dL_steps_220 : decode cL_steps 220 = .ok (.iinc 7 (-1), 3) := by decide +kernel
theorem dL_steps_223 : decode cL_steps 223 = .ok (.goto (-91), 3) := by decide +kernel
theorem dL_steps_226 : decode cL_steps 226 = .ok (.iconst 0, 1) := by decide +kernel
theorem dL_steps_227 : decode cL_steps 227 = .ok (.ireturn, 1) := by decide +kernel
theorem dL_pass_0 : decode cL_pass 0 = .ok (.iconst 0, 1) := by decide +kernel
theorem dL_pass_1 : decode cL_pass 1 = .ok (.istore 5, 2) := by decide +kernel
theorem dL_pass_3 : decode cL_pass 3 = .ok (.iconst 0, 1) := by decide +kernel
theorem dL_pass_4 : decode cL_pass 4 = .ok (.istore 6, 2) := by decide +kernel
theorem dL_pass_6 : decode cL_pass 6 = .ok (.iload 6, 2) := by decide +kernel
theorem dL_pass_8 : decode cL_pass 8 = .ok (.iload_n 0, 1) := by decide +kernel
theorem dL_pass_9 : decode cL_pass 9 = .ok (.if_icmp .ge 83, 3) := by decide +kernel
theorem dL_pass_12 : decode cL_pass 12 = .ok (.aload_n 1, 1) := by decide +kernel
theorem dL_pass_13 : decode cL_pass 13 = .ok (.iconst 1, 1) := by decide +kernel
theorem dL_pass_14 : decode cL_pass 14 = .ok (.iaload, 1) := by decide +kernel
theorem dL_pass_15 : decode cL_pass 15 = .ok (.istore 7, 2) := by decide +kernel
theorem dL_pass_17 : decode cL_pass 17 = .ok (.aload_n 1, 1) := by decide +kernel
theorem dL_pass_18 : decode cL_pass 18 = .ok (.iconst 0, 1) := by decide +kernel
theorem dL_pass_19 : decode cL_pass 19 = .ok (.dup2, 1) := by decide +kernel
theorem dL_pass_20 : decode cL_pass 20 = .ok (.iaload, 1) := by decide +kernel
theorem dL_pass_21 : decode cL_pass 21 = .ok (.iconst 1, 1) := by decide +kernel
theorem dL_pass_22 : decode cL_pass 22 = .ok (.iadd, 1) := by decide +kernel
theorem dL_pass_23 : decode cL_pass 23 = .ok (.iastore, 1) := by decide +kernel
theorem dL_pass_24 : decode cL_pass 24 = .ok (.iconst 0, 1) := by decide +kernel
theorem dL_pass_25 : decode cL_pass 25 = .ok (.istore 8, 2) := by decide +kernel
theorem dL_pass_27 : decode cL_pass 27 = .ok (.iload 8, 2) := by decide +kernel
theorem dL_pass_29 : decode cL_pass 29 = .ok (.aload_n 1, 1) := by decide +kernel
theorem dL_pass_30 : decode cL_pass 30 = .ok (.iconst 3, 1) := by decide +kernel
theorem dL_pass_31 : decode cL_pass 31 = .ok (.iaload, 1) := by decide +kernel
theorem dL_pass_32 : decode cL_pass 32 = .ok (.if_icmp .ge 54, 3) := by decide +kernel
theorem dL_pass_35 : decode cL_pass 35 = .ok (.iload 8, 2) := by decide +kernel
theorem dL_pass_37 : decode cL_pass 37 = .ok (.iload 7, 2) := by decide +kernel
theorem dL_pass_39 : decode cL_pass 39 = .ok (.aload_n 1, 1) := by decide +kernel
theorem dL_pass_40 : decode cL_pass 40 = .ok (.aload_n 2, 1) := by decide +kernel
theorem dL_pass_41 : decode cL_pass 41 = .ok (.aload_n 3, 1) := by decide +kernel
theorem dL_pass_42 : decode cL_pass 42 = .ok (.aload 4, 2) := by decide +kernel
theorem dL_pass_44 : decode cL_pass 44 = .ok (.invokestatic 135, 3) := by decide +kernel
theorem dL_pass_47 : decode cL_pass 47 = .ok (.istore 9, 2) := by decide +kernel
theorem dL_pass_49 : decode cL_pass 49 = .ok (.iload 7, 2) := by decide +kernel
theorem dL_pass_51 : decode cL_pass 51 = .ok (.iload 9, 2) := by decide +kernel
theorem dL_pass_53 : decode cL_pass 53 = .ok (.iconst 2, 1) := by decide +kernel
theorem dL_pass_54 : decode cL_pass 54 = .ok (.if_icmp .ne 7, 3) := by decide +kernel
theorem dL_pass_57 : decode cL_pass 57 = .ok (.iconst 1, 1) := by decide +kernel
theorem dL_pass_58 : decode cL_pass 58 = .ok (.goto 4, 3) := by decide +kernel
theorem dL_pass_61 : decode cL_pass 61 = .ok (.iconst 0, 1) := by decide +kernel
theorem dL_pass_62 : decode cL_pass 62 = .ok (.isub, 1) := by decide +kernel
theorem dL_pass_63 : decode cL_pass 63 = .ok (.istore 7, 2) := by decide +kernel
theorem dL_pass_65 : decode cL_pass 65 = .ok (.iload 5, 2) := by decide +kernel
theorem dL_pass_67 : decode cL_pass 67 = .ok (.iload 9, 2) := by decide +kernel
theorem dL_pass_69 : decode cL_pass 69 = .ok (.ifCond .le 7, 3) := by decide +kernel
theorem dL_pass_72 : decode cL_pass 72 = .ok (.iconst 1, 1) := by decide +kernel
theorem dL_pass_73 : decode cL_pass 73 = .ok (.goto 4, 3) := by decide +kernel
theorem dL_pass_76 : decode cL_pass 76 = .ok (.iconst 0, 1) := by decide +kernel
theorem dL_pass_77 : decode cL_pass 77 = .ok (.iadd, 1) := by decide +kernel
theorem dL_pass_78 : decode cL_pass 78 = .ok (.istore 5, 2) := by decide +kernel
theorem dL_pass_80 : decode cL_pass 80 = .ok (.iinc 8 1, 3) := by decide +kernel
theorem dL_pass_83 : decode cL_pass 83 = .ok (.goto (-56), 3) := by decide +kernel
theorem dL_pass_86 : decode cL_pass 86 = .ok (.iinc 6 1, 3) := by decide +kernel
theorem dL_pass_89 : decode cL_pass 89 = .ok (.goto (-83), 3) := by decide +kernel
theorem dL_pass_92 : decode cL_pass 92 = .ok (.iload 5, 2) := by decide +kernel
theorem dL_pass_94 : decode cL_pass 94 = .ok (.ireturn, 1) := by decide +kernel
theorem dL_moves_0 : decode cL_moves 0 = .ok (.aload_n 2, 1) := by decide +kernel
theorem dL_moves_1 : decode cL_moves 1 = .ok (.iconst 0, 1) := by decide +kernel
theorem dL_moves_2 : decode cL_moves 2 = .ok (.iaload, 1) := by decide +kernel
theorem dL_moves_3 : decode cL_moves 3 = .ok (.aload_n 3, 1) := by decide +kernel
theorem dL_moves_4 : decode cL_moves 4 = .ok (.bipush 7, 2) := by decide +kernel
theorem dL_moves_6 : decode cL_moves 6 = .ok (.iload_n 0, 1) := by decide +kernel
theorem dL_moves_7 : decode cL_moves 7 = .ok (.iadd, 1) := by decide +kernel
theorem dL_moves_8 : decode cL_moves 8 = .ok (.iaload, 1) := by decide +kernel
theorem dL_moves_9 : decode cL_moves 9 = .ok (.if_icmp .ge 6, 3) := by decide +kernel
theorem dL_moves_12 : decode cL_moves 12 = .ok (.bipush (-3), 2) := by decide +kernel
theorem dL_moves_14 : decode cL_moves 14 = .ok (.ireturn, 1) := by decide +kernel
theorem dL_moves_15 : decode cL_moves 15 = .ok (.aload_n 3, 1) := by decide +kernel
theorem dL_moves_16 : decode cL_moves 16 = .ok (.iconst 4, 1) := by decide +kernel
theorem dL_moves_17 : decode cL_moves 17 = .ok (.iload_n 0, 1) := by decide +kernel
theorem dL_moves_18 : decode cL_moves 18 = .ok (.iadd, 1) := by decide +kernel
theorem dL_moves_19 : decode cL_moves 19 = .ok (.iaload, 1) := by decide +kernel
theorem dL_moves_20 : decode cL_moves 20 = .ok (.istore 5, 2) := by decide +kernel
theorem dL_moves_22 : decode cL_moves 22 = .ok (.iconst 0, 1) := by decide +kernel
theorem dL_moves_23 : decode cL_moves 23 = .ok (.istore 6, 2) := by decide +kernel
theorem dL_moves_25 : decode cL_moves 25 = .ok (.iload_n 1, 1) := by decide +kernel
theorem dL_moves_26 : decode cL_moves 26 = .ok (.istore 7, 2) := by decide +kernel
theorem dL_moves_28 : decode cL_moves 28 = .ok (.iload 7, 2) := by decide +kernel
theorem dL_moves_30 : decode cL_moves 30 = .ok (.ifCond .lt 21, 3) := by decide +kernel
theorem dL_moves_33 : decode cL_moves 33 = .ok (.iload 6, 2) := by decide +kernel
theorem dL_moves_35 : decode cL_moves 35 = .ok (.iconst 1, 1) := by decide +kernel
theorem dL_moves_36 : decode cL_moves 36 = .ok (.iload 7, 2) := by decide +kernel
theorem dL_moves_38 : decode cL_moves 38 = .ok (.ishl, 1) := by decide +kernel
theorem dL_moves_39 : decode cL_moves 39 = .ok (.ior, 1) := by decide +kernel
theorem dL_moves_40 : decode cL_moves 40 = .ok (.istore 6, 2) := by decide +kernel
theorem dL_moves_42 : decode cL_moves 42 = .ok (.aload_n 3, 1) := by decide +kernel
theorem dL_moves_43 : decode cL_moves 43 = .ok (.iload 7, 2) := by decide +kernel
theorem dL_moves_45 : decode cL_moves 45 = .ok (.iaload, 1) := by decide +kernel
theorem dL_moves_46 : decode cL_moves 46 = .ok (.istore 7, 2) := by decide +kernel
theorem dL_moves_48 : decode cL_moves 48 = .ok (.goto (-20), 3) := by decide +kernel
theorem dL_moves_51 : decode cL_moves 51 = .ok (.aload_n 3, 1) := by decide +kernel
theorem dL_moves_52 : decode cL_moves 52 = .ok (.iconst 4, 1) := by decide +kernel
theorem dL_moves_53 : decode cL_moves 53 = .ok (.iload_n 0, 1) := by decide +kernel
theorem dL_moves_54 : decode cL_moves 54 = .ok (.iadd, 1) := by decide +kernel
theorem dL_moves_55 : decode cL_moves 55 = .ok (.iload_n 1, 1) := by decide +kernel
theorem dL_moves_56 : decode cL_moves 56 = .ok (.iastore, 1) := by decide +kernel
theorem dL_moves_57 : decode cL_moves 57 = .ok (.iconst 0, 1) := by decide +kernel
theorem dL_moves_58 : decode cL_moves 58 = .ok (.istore 7, 2) := by decide +kernel
theorem dL_moves_60 : decode cL_moves 60 = .ok (.iload 7, 2) := by decide +kernel
theorem dL_moves_62 : decode cL_moves 62 = .ok (.bipush 16, 2) := by decide +kernel
theorem dL_moves_64 : decode cL_moves 64 = .ok (.if_icmp .ge 46, 3) := by decide +kernel
theorem dL_moves_67 : decode cL_moves 67 = .ok (.aload 4, 2) := by decide +kernel
theorem dL_moves_69 : decode cL_moves 69 = .ok (.bipush 20, 2) := by decide +kernel
theorem dL_moves_71 : decode cL_moves 71 = .ok (.iload_n 0, 1) := by decide +kernel
theorem dL_moves_72 : decode cL_moves 72 = .ok (.imul, 1) := by decide +kernel
theorem dL_moves_73 : decode cL_moves 73 = .ok (.iload 7, 2) := by decide +kernel
theorem dL_moves_75 : decode cL_moves 75 = .ok (.iadd, 1) := by decide +kernel
theorem dL_moves_76 : decode cL_moves 76 = .ok (.iload 6, 2) := by decide +kernel
theorem dL_moves_78 : decode cL_moves 78 = .ok (.iload 7, 2) := by decide +kernel
theorem dL_moves_80 : decode cL_moves 80 = .ok (.iconst 4, 1) := by decide +kernel
theorem dL_moves_81 : decode cL_moves 81 = .ok (.idiv, 1) := by decide +kernel
theorem dL_moves_82 : decode cL_moves 82 = .ok (.ishr, 1) := by decide +kernel
theorem dL_moves_83 : decode cL_moves 83 = .ok (.iconst 1, 1) := by decide +kernel
theorem dL_moves_84 : decode cL_moves 84 = .ok (.iand, 1) := by decide +kernel
theorem dL_moves_85 : decode cL_moves 85 = .ok (.iconst 1, 1) := by decide +kernel
theorem dL_moves_86 : decode cL_moves 86 = .ok (.if_icmp .ne 16, 3) := by decide +kernel
theorem dL_moves_89 : decode cL_moves 89 = .ok (.aload 4, 2) := by decide +kernel
theorem dL_moves_91 : decode cL_moves 91 = .ok (.bipush 20, 2) := by decide +kernel
theorem dL_moves_93 : decode cL_moves 93 = .ok (.iload_n 0, 1) := by decide +kernel
theorem dL_moves_94 : decode cL_moves 94 = .ok (.imul, 1) := by decide +kernel
theorem dL_moves_95 : decode cL_moves 95 = .ok (.iload 7, 2) := by decide +kernel
theorem dL_moves_97 : decode cL_moves 97 = .ok (.iadd, 1) := by decide +kernel
theorem dL_moves_98 : decode cL_moves 98 = .ok (.iaload, 1) := by decide +kernel
theorem dL_moves_99 : decode cL_moves 99 = .ok (.goto 4, 3) := by decide +kernel
theorem dL_moves_102 : decode cL_moves 102 = .ok (.iconst 0, 1) := by decide +kernel
theorem dL_moves_103 : decode cL_moves 103 = .ok (.iastore, 1) := by decide +kernel
theorem dL_moves_104 : decode cL_moves 104 = .ok (.iinc 7 1, 3) := by decide +kernel
theorem dL_moves_107 : decode cL_moves 107 = .ok (.goto (-47), 3) := by decide +kernel
theorem dL_moves_110 : decode cL_moves 110 = .ok (.iload 5, 2) := by decide +kernel
theorem dL_moves_112 : decode cL_moves 112 = .ok (.ireturn, 1) := by decide +kernel
theorem dL_proposes_0 : decode cL_proposes 0 = .ok (.iload_n 1, 1) := by decide +kernel
theorem dL_proposes_1 : decode cL_proposes 1 = .ok (.iconst 5, 1) := by decide +kernel
theorem dL_proposes_2 : decode cL_proposes 2 = .ok (.invokestatic 125, 3) := by decide +kernel
theorem dL_proposes_5 : decode cL_proposes 5 = .ok (.istore 5, 2) := by decide +kernel
theorem dL_proposes_7 : decode cL_proposes 7 = .ok (.iload_n 1, 1) := by decide +kernel
theorem dL_proposes_8 : decode cL_proposes 8 = .ok (.iconst 3, 1) := by decide +kernel
theorem dL_proposes_9 : decode cL_proposes 9 = .ok (.ishr, 1) := by decide +kernel
theorem dL_proposes_10 : decode cL_proposes 10 = .ok (.aload_n 2, 1) := by decide +kernel
theorem dL_proposes_11 : decode cL_proposes 11 = .ok (.iconst 2, 1) := by decide +kernel
theorem dL_proposes_12 : decode cL_proposes 12 = .ok (.iaload, 1) := by decide +kernel
theorem dL_proposes_13 : decode cL_proposes 13 = .ok (.aload_n 2, 1) := by decide +kernel
theorem dL_proposes_14 : decode cL_proposes 14 = .ok (.iconst 3, 1) := by decide +kernel
theorem dL_proposes_15 : decode cL_proposes 15 = .ok (.iaload, 1) := by decide +kernel
theorem dL_proposes_16 : decode cL_proposes 16 = .ok (.iadd, 1) := by decide +kernel
theorem dL_proposes_17 : decode cL_proposes 17 = .ok (.invokestatic 125, 3) := by decide +kernel
theorem dL_proposes_20 : decode cL_proposes 20 = .ok (.istore 6, 2) := by decide +kernel
theorem dL_proposes_22 : decode cL_proposes 22 = .ok (.iload_n 1, 1) := by decide +kernel
theorem dL_proposes_23 : decode cL_proposes 23 = .ok (.bipush 6, 2) := by decide +kernel
theorem dL_proposes_25 : decode cL_proposes 25 = .ok (.ishr, 1) := by decide +kernel
theorem dL_proposes_26 : decode cL_proposes 26 = .ok (.iload_n 1, 1) := by decide +kernel
theorem dL_proposes_27 : decode cL_proposes 27 = .ok (.bipush 12, 2) := by decide +kernel
theorem dL_proposes_29 : decode cL_proposes 29 = .ok (.ishr, 1) := by decide +kernel
theorem dL_proposes_30 : decode cL_proposes 30 = .ok (.iconst 2, 1) := by decide +kernel
theorem dL_proposes_31 : decode cL_proposes 31 = .ok (.invokestatic 125, 3) := by decide +kernel
theorem dL_proposes_34 : decode cL_proposes 34 = .ok (.ifCond .ne 7, 3) := by decide +kernel
theorem dL_proposes_37 : decode cL_proposes 37 = .ok (.iconst 4, 1) := by decide +kernel
theorem dL_proposes_38 : decode cL_proposes 38 = .ok (.goto 4, 3) := by decide +kernel
theorem dL_proposes_41 : decode cL_proposes 41 = .ok (.iconst 2, 1) := by decide +kernel
theorem dL_proposes_42 : decode cL_proposes 42 = .ok (.invokestatic 125, 3) := by decide +kernel
theorem dL_proposes_45 : decode cL_proposes 45 = .ok (.istore 7, 2) := by decide +kernel
theorem dL_proposes_47 : decode cL_proposes 47 = .ok (.iload_n 1, 1) := by decide +kernel
theorem dL_proposes_48 : decode cL_proposes 48 = .ok (.bipush 8, 2) := by decide +kernel
theorem dL_proposes_50 : decode cL_proposes 50 = .ok (.ishr, 1) := by decide +kernel
theorem dL_proposes_51 : decode cL_proposes 51 = .ok (.iconst 5, 1) := by decide +kernel
theorem dL_proposes_52 : decode cL_proposes 52 = .ok (.invokestatic 125, 3) := by decide +kernel
theorem dL_proposes_55 : decode cL_proposes 55 = .ok (.ifCond .ne 17, 3) := by decide +kernel
theorem dL_proposes_58 : decode cL_proposes 58 = .ok (.bipush 100, 2) := by decide +kernel
theorem dL_proposes_60 : decode cL_proposes 60 = .ok (.iload_n 1, 1) := by decide +kernel
theorem dL_proposes_61 : decode cL_proposes 61 = .ok (.bipush 9, 2) := by decide +kernel
theorem dL_proposes_63 : decode cL_proposes 63 = .ok (.ishr, 1) := by decide +kernel
theorem dL_proposes_64 : decode cL_proposes 64 = .ok (.iconst 2, 1) := by decide +kernel
theorem dL_proposes_65 : decode cL_proposes 65 = .ok (.invokestatic 125, 3) := by decide +kernel
theorem dL_proposes_68 : decode cL_proposes 68 = .ok (.iadd, 1) := by decide +kernel
theorem dL_proposes_69 : decode cL_proposes 69 = .ok (.goto 12, 3) := by decide +kernel
theorem dL_proposes_72 : decode cL_proposes 72 = .ok (.iload_n 1, 1) := by decide +kernel
theorem dL_proposes_73 : decode cL_proposes 73 = .ok (.bipush 7, 2) := by decide +kernel
theorem dL_proposes_75 : decode cL_proposes 75 = .ok (.ishr, 1) := by decide +kernel
theorem dL_proposes_76 : decode cL_proposes 76 = .ok (.bipush 100, 2) := by decide +kernel
theorem dL_proposes_78 : decode cL_proposes 78 = .ok (.invokestatic 125, 3) := by decide +kernel
theorem dL_proposes_81 : decode cL_proposes 81 = .ok (.istore 8, 2) := by decide +kernel
theorem dL_proposes_83 : decode cL_proposes 83 = .ok (.aload_n 2, 1) := by decide +kernel
theorem dL_proposes_84 : decode cL_proposes 84 = .ok (.bipush 10, 2) := by decide +kernel
theorem dL_proposes_86 : decode cL_proposes 86 = .ok (.iaload, 1) := by decide +kernel
theorem dL_proposes_87 : decode cL_proposes 87 = .ok (.iload 5, 2) := by decide +kernel
theorem dL_proposes_89 : decode cL_proposes 89 = .ok (.ishr, 1) := by decide +kernel
theorem dL_proposes_90 : decode cL_proposes 90 = .ok (.iconst 1, 1) := by decide +kernel
theorem dL_proposes_91 : decode cL_proposes 91 = .ok (.iand, 1) := by decide +kernel
theorem dL_proposes_92 : decode cL_proposes 92 = .ok (.ifCond .ne 7, 3) := by decide +kernel
theorem dL_proposes_95 : decode cL_proposes 95 = .ok (.iconst 1, 1) := by decide +kernel
theorem dL_proposes_96 : decode cL_proposes 96 = .ok (.goto 4, 3) := by decide +kernel
theorem dL_proposes_99 : decode cL_proposes 99 = .ok (.iconst 0, 1) := by decide +kernel
theorem dL_proposes_100 : decode cL_proposes 100 = .ok (.istore 9, 2) := by decide +kernel
theorem dL_proposes_102 : decode cL_proposes 102 = .ok (.iload 9, 2) := by decide +kernel
theorem dL_proposes_104 : decode cL_proposes 104 = .ok (.ifCond .eq 9, 3) := by decide +kernel
theorem dL_proposes_107 : decode cL_proposes 107 = .ok (.aload_n 2, 1) := by decide +kernel
theorem dL_proposes_108 : decode cL_proposes 108 = .ok (.iconst 4, 1) := by decide +kernel
theorem dL_proposes_109 : decode cL_proposes 109 = .ok (.iaload, 1) := by decide +kernel
theorem dL_proposes_110 : decode cL_proposes 110 = .ok (.goto 5, 3) := by decide +kernel
theorem dL_proposes_113 : decode cL_proposes 113 = .ok (.bipush (-3), 2) := by decide +kernel
theorem dL_proposes_115 : decode cL_proposes 115 = .ok (.istore 10, 2) := by decide +kernel
theorem dL_proposes_117 : decode cL_proposes 117 = .ok (.iload 9, 2) := by decide +kernel
theorem dL_proposes_119 : decode cL_proposes 119 = .ok (.ifCond .eq 81, 3) := by decide +kernel
theorem dL_proposes_122 : decode cL_proposes 122 = .ok (.iconst 5, 1) := by decide +kernel
theorem dL_proposes_123 : decode cL_proposes 123 = .ok (.aload_n 2, 1) := by decide +kernel
theorem dL_proposes_124 : decode cL_proposes 124 = .ok (.iconst 4, 1) := by decide +kernel
theorem dL_proposes_125 : decode cL_proposes 125 = .ok (.iaload, 1) := by decide +kernel
theorem dL_proposes_126 : decode cL_proposes 126 = .ok (.imul, 1) := by decide +kernel
theorem dL_proposes_127 : decode cL_proposes 127 = .ok (.istore 11, 2) := by decide +kernel
theorem dL_proposes_129 : decode cL_proposes 129 = .ok (.aload_n 3, 1) := by decide +kernel
theorem dL_proposes_130 : decode cL_proposes 130 = .ok (.iload 11, 2) := by decide +kernel
theorem dL_proposes_132 : decode cL_proposes 132 = .ok (.iload 6, 2) := by decide +kernel
theorem dL_proposes_134 : decode cL_proposes 134 = .ok (.aload_n 2, 1) := by decide +kernel
theorem dL_proposes_135 : decode cL_proposes 135 = .ok (.iconst 2, 1) := by decide +kernel
theorem dL_proposes_136 : decode cL_proposes 136 = .ok (.iaload, 1) := by decide +kernel
theorem dL_proposes_137 : decode cL_proposes 137 = .ok (.if_icmp .ge 8, 3) := by decide +kernel
theorem dL_proposes_140 : decode cL_proposes 140 = .ok (.iload 6, 2) := by decide +kernel
theorem dL_proposes_142 : decode cL_proposes 142 = .ok (.goto 11, 3) := by decide +kernel
theorem dL_proposes_145 : decode cL_proposes 145 = .ok (.iconst 4, 1) := by decide +kernel
theorem dL_proposes_146 : decode cL_proposes 146 = .ok (.iload 6, 2) := by decide +kernel
theorem dL_proposes_148 : decode cL_proposes 148 = .ok (.iadd, 1) := by decide +kernel
theorem dL_proposes_149 : decode cL_proposes 149 = .ok (.aload_n 2, 1) := by decide +kernel
theorem dL_proposes_150 : decode cL_proposes 150 = .ok (.iconst 2, 1) := by decide +kernel
theorem dL_proposes_151 : decode cL_proposes 151 = .ok (.iaload, 1) := by decide +kernel
theorem dL_proposes_152 : decode cL_proposes 152 = .ok (.isub, 1) := by decide +kernel
theorem dL_proposes_153 : decode cL_proposes 153 = .ok (.iastore, 1) := by decide +kernel
theorem dL_proposes_154 : decode cL_proposes 154 = .ok (.aload_n 3, 1) := by decide +kernel
theorem dL_proposes_155 : decode cL_proposes 155 = .ok (.iload 11, 2) := by decide +kernel
theorem dL_proposes_157 : decode cL_proposes 157 = .ok (.iconst 1, 1) := by decide +kernel
theorem dL_proposes_158 : decode cL_proposes 158 = .ok (.iadd, 1) := by decide +kernel
theorem dL_proposes_159 : decode cL_proposes 159 = .ok (.iload 7, 2) := by decide +kernel
theorem dL_proposes_161 : decode cL_proposes 161 = .ok (.iastore, 1) := by decide +kernel
theorem dL_proposes_162 : decode cL_proposes 162 = .ok (.aload_n 3, 1) := by decide +kernel
theorem dL_proposes_163 : decode cL_proposes 163 = .ok (.iload 11, 2) := by decide +kernel
theorem dL_proposes_165 : decode cL_proposes 165 = .ok (.iconst 2, 1) := by decide +kernel
theorem dL_proposes_166 : decode cL_proposes 166 = .ok (.iadd, 1) := by decide +kernel
theorem dL_proposes_167 : decode cL_proposes 167 = .ok (.iload 8, 2) := by decide +kernel
theorem dL_proposes_169 : decode cL_proposes 169 = .ok (.iastore, 1) := by decide +kernel
theorem dL_proposes_170 : decode cL_proposes 170 = .ok (.aload 4, 2) := by decide +kernel
theorem dL_proposes_172 : decode cL_proposes 172 = .ok (.iconst 2, 1) := by decide +kernel
theorem dL_proposes_173 : decode cL_proposes 173 = .ok (.aload_n 2, 1) := by decide +kernel
theorem dL_proposes_174 : decode cL_proposes 174 = .ok (.iconst 4, 1) := by decide +kernel
theorem dL_proposes_175 : decode cL_proposes 175 = .ok (.iaload, 1) := by decide +kernel
theorem dL_proposes_176 : decode cL_proposes 176 = .ok (.imul, 1) := by decide +kernel
theorem dL_proposes_177 : decode cL_proposes 177 = .ok (.iload 5, 2) := by decide +kernel
theorem dL_proposes_179 : decode cL_proposes 179 = .ok (.iastore, 1) := by decide +kernel
theorem dL_proposes_180 : decode cL_proposes 180 = .ok (.aload 4, 2) := by decide +kernel
theorem dL_proposes_182 : decode cL_proposes 182 = .ok (.iconst 2, 1) := by decide +kernel
theorem dL_proposes_183 : decode cL_proposes 183 = .ok (.aload_n 2, 1) := by decide +kernel
theorem dL_proposes_184 : decode cL_proposes 184 = .ok (.iconst 4, 1) := by decide +kernel
theorem dL_proposes_185 : decode cL_proposes 185 = .ok (.iaload, 1) := by decide +kernel
theorem dL_proposes_186 : decode cL_proposes 186 = .ok (.imul, 1) := by decide +kernel
theorem dL_proposes_187 : decode cL_proposes 187 = .ok (.iconst 1, 1) := by decide +kernel
theorem dL_proposes_188 : decode cL_proposes 188 = .ok (.iadd, 1) := by decide +kernel
theorem dL_proposes_189 : decode cL_proposes 189 = .ok (.aload_n 2, 1) := by decide +kernel
theorem dL_proposes_190 : decode cL_proposes 190 = .ok (.iconst 0, 1) := by decide +kernel
theorem dL_proposes_191 : decode cL_proposes 191 = .ok (.iaload, 1) := by decide +kernel
theorem dL_proposes_192 : decode cL_proposes 192 = .ok (.iastore, 1) := by decide +kernel
theorem dL_proposes_193 : decode cL_proposes 193 = .ok (.aload_n 2, 1) := by decide +kernel
theorem dL_proposes_194 : decode cL_proposes 194 = .ok (.iconst 4, 1) := by decide +kernel
theorem dL_proposes_195 : decode cL_proposes 195 = .ok (.dup2, 1) := by decide +kernel
theorem dL_proposes_196 : decode cL_proposes 196 = .ok (.iaload, 1) := by decide +kernel
theorem dL_proposes_197 : decode cL_proposes 197 = .ok (.iconst 1, 1) := by decide +kernel
theorem dL_proposes_198 : decode cL_proposes 198 = .ok (.iadd, 1) := by decide +kernel
theorem dL_proposes_199 : decode cL_proposes 199 = .ok (.iastore, 1) := by decide +kernel
theorem dL_proposes_200 : decode cL_proposes 200 = .ok (.aload_n 0, 1) := by decide +kernel
theorem dL_proposes_201 : decode cL_proposes 201 = .ok (.iconst 0, 1) := by decide +kernel
theorem dL_proposes_202 : decode cL_proposes 202 = .ok (.iload 5, 2) := by decide +kernel
theorem dL_proposes_204 : decode cL_proposes 204 = .ok (.iload 6, 2) := by decide +kernel
theorem dL_proposes_206 : decode cL_proposes 206 = .ok (.aload_n 2, 1) := by decide +kernel
theorem dL_proposes_207 : decode cL_proposes 207 = .ok (.iconst 2, 1) := by decide +kernel
theorem dL_proposes_208 : decode cL_proposes 208 = .ok (.iaload, 1) := by decide +kernel
theorem dL_proposes_209 : decode cL_proposes 209 = .ok (.if_icmp .ge 8, 3) := by decide +kernel
theorem dL_proposes_212 : decode cL_proposes 212 = .ok (.iload 6, 2) := by decide +kernel
theorem dL_proposes_214 : decode cL_proposes 214 = .ok (.goto 12, 3) := by decide +kernel
theorem dL_proposes_217 : decode cL_proposes 217 = .ok (.bipush 100, 2) := by decide +kernel
theorem dL_proposes_219 : decode cL_proposes 219 = .ok (.iload 6, 2) := by decide +kernel
theorem dL_proposes_221 : decode cL_proposes 221 = .ok (.iadd, 1) := by decide +kernel
theorem dL_proposes_222 : decode cL_proposes 222 = .ok (.aload_n 2, 1) := by decide +kernel
theorem dL_proposes_223 : decode cL_proposes 223 = .ok (.iconst 2, 1) := by decide +kernel
theorem dL_proposes_224 : decode cL_proposes 224 = .ok (.iaload, 1) := by decide +kernel
theorem dL_proposes_225 : decode cL_proposes 225 = .ok (.isub, 1) := by decide +kernel
theorem dL_proposes_226 : decode cL_proposes 226 = .ok (.iload 7, 2) := by decide +kernel
theorem dL_proposes_228 : decode cL_proposes 228 = .ok (.iload 8, 2) := by decide +kernel
theorem dL_proposes_230 : decode cL_proposes 230 = .ok (.invokestatic 139, 3) := by decide +kernel
theorem dL_proposes_233 : decode cL_proposes 233 = .ok (.iload 10, 2) := by decide +kernel
theorem dL_proposes_235 : decode cL_proposes 235 = .ok (.if_icmp .ne 7, 3) := by decide +kernel
theorem dL_proposes_238 : decode cL_proposes 238 = .ok (.iconst 1, 1) := by decide +kernel
theorem dL_proposes_239 : decode cL_proposes 239 = .ok (.goto 4, 3) := by decide +kernel
theorem dL_proposes_242 : decode cL_proposes 242 = .ok (.iconst 0, 1) := by decide +kernel
theorem dL_proposes_243 : decode cL_proposes 243 = .ok (.ireturn, 1) := by decide +kernel
theorem dL_sets_0 : decode cL_sets 0 = .ok (.iload_n 1, 1) := by decide +kernel
theorem dL_sets_1 : decode cL_sets 1 = .ok (.iconst 4, 1) := by decide +kernel
theorem dL_sets_2 : decode cL_sets 2 = .ok (.invokestatic 125, 3) := by decide +kernel
theorem dL_sets_5 : decode cL_sets 5 = .ok (.istore 4, 2) := by decide +kernel
theorem dL_sets_7 : decode cL_sets 7 = .ok (.iload 4, 2) := by decide +kernel
theorem dL_sets_9 : decode cL_sets 9 = .ok (.iconst 2, 1) := by decide +kernel
theorem dL_sets_10 : decode cL_sets 10 = .ok (.if_icmp .ge 131, 3) := by decide +kernel
theorem dL_sets_13 : decode cL_sets 13 = .ok (.iload_n 1, 1) := by decide +kernel
theorem dL_sets_14 : decode cL_sets 14 = .ok (.iconst 2, 1) := by decide +kernel
theorem dL_sets_15 : decode cL_sets 15 = .ok (.ishr, 1) := by decide +kernel
theorem dL_sets_16 : decode cL_sets 16 = .ok (.iconst 4, 1) := by decide +kernel
theorem dL_sets_17 : decode cL_sets 17 = .ok (.invokestatic 125, 3) := by decide +kernel
theorem dL_sets_20 : decode cL_sets 20 = .ok (.istore 5, 2) := by decide +kernel
theorem dL_sets_22 : decode cL_sets 22 = .ok (.iload 5, 2) := by decide +kernel
theorem dL_sets_24 : decode cL_sets 24 = .ok (.iconst 1, 1) := by decide +kernel
theorem dL_sets_25 : decode cL_sets 25 = .ok (.iadd, 1) := by decide +kernel
theorem dL_sets_26 : decode cL_sets 26 = .ok (.iload_n 1, 1) := by decide +kernel
theorem dL_sets_27 : decode cL_sets 27 = .ok (.iconst 4, 1) := by decide +kernel
theorem dL_sets_28 : decode cL_sets 28 = .ok (.ishr, 1) := by decide +kernel
theorem dL_sets_29 : decode cL_sets 29 = .ok (.iconst 3, 1) := by decide +kernel
theorem dL_sets_30 : decode cL_sets 30 = .ok (.invokestatic 125, 3) := by decide +kernel
theorem dL_sets_33 : decode cL_sets 33 = .ok (.iadd, 1) := by decide +kernel
theorem dL_sets_34 : decode cL_sets 34 = .ok (.iconst 4, 1) := by decide +kernel
theorem dL_sets_35 : decode cL_sets 35 = .ok (.irem, 1) := by decide +kernel
theorem dL_sets_36 : decode cL_sets 36 = .ok (.istore 6, 2) := by decide +kernel
theorem dL_sets_38 : decode cL_sets 38 = .ok (.aload_n 3, 1) := by decide +kernel
theorem dL_sets_39 : decode cL_sets 39 = .ok (.iload 5, 2) := by decide +kernel
theorem dL_sets_41 : decode cL_sets 41 = .ok (.iaload, 1) := by decide +kernel
theorem dL_sets_42 : decode cL_sets 42 = .ok (.iload 6, 2) := by decide +kernel
theorem dL_sets_44 : decode cL_sets 44 = .ok (.ishr, 1) := by decide +kernel
theorem dL_sets_45 : decode cL_sets 45 = .ok (.iconst 1, 1) := by decide +kernel
theorem dL_sets_46 : decode cL_sets 46 = .ok (.iand, 1) := by decide +kernel
theorem dL_sets_47 : decode cL_sets 47 = .ok (.iconst 1, 1) := by decide +kernel
theorem dL_sets_48 : decode cL_sets 48 = .ok (.if_icmp .ne 7, 3) := by decide +kernel
theorem dL_sets_51 : decode cL_sets 51 = .ok (.iconst 1, 1) := by decide +kernel
theorem dL_sets_52 : decode cL_sets 52 = .ok (.goto 4, 3) := by decide +kernel
theorem dL_sets_55 : decode cL_sets 55 = .ok (.iconst 0, 1) := by decide +kernel
theorem dL_sets_56 : decode cL_sets 56 = .ok (.istore 7, 2) := by decide +kernel
theorem dL_sets_58 : decode cL_sets 58 = .ok (.iload_n 1, 1) := by decide +kernel
theorem dL_sets_59 : decode cL_sets 59 = .ok (.bipush 6, 2) := by decide +kernel
theorem dL_sets_61 : decode cL_sets 61 = .ok (.ishr, 1) := by decide +kernel
theorem dL_sets_62 : decode cL_sets 62 = .ok (.iconst 3, 1) := by decide +kernel
theorem dL_sets_63 : decode cL_sets 63 = .ok (.invokestatic 125, 3) := by decide +kernel
theorem dL_sets_66 : decode cL_sets 66 = .ok (.ifCond .le 7, 3) := by decide +kernel
theorem dL_sets_69 : decode cL_sets 69 = .ok (.iconst 1, 1) := by decide +kernel
theorem dL_sets_70 : decode cL_sets 70 = .ok (.goto 4, 3) := by decide +kernel
theorem dL_sets_73 : decode cL_sets 73 = .ok (.iconst 0, 1) := by decide +kernel
theorem dL_sets_74 : decode cL_sets 74 = .ok (.istore 8, 2) := by decide +kernel
theorem dL_sets_76 : decode cL_sets 76 = .ok (.aload_n 3, 1) := by decide +kernel
theorem dL_sets_77 : decode cL_sets 77 = .ok (.iload 5, 2) := by decide +kernel
theorem dL_sets_79 : decode cL_sets 79 = .ok (.dup2, 1) := by decide +kernel
theorem dL_sets_80 : decode cL_sets 80 = .ok (.iaload, 1) := by decide +kernel
theorem dL_sets_81 : decode cL_sets 81 = .ok (.iload 7, 2) := by decide +kernel
theorem dL_sets_83 : decode cL_sets 83 = .ok (.iload 8, 2) := by decide +kernel
theorem dL_sets_85 : decode cL_sets 85 = .ok (.if_icmp .eq 10, 3) := by decide +kernel
theorem dL_sets_88 : decode cL_sets 88 = .ok (.iconst 1, 1) := by decide +kernel
theorem dL_sets_89 : decode cL_sets 89 = .ok (.iload 6, 2) := by decide +kernel
theorem dL_sets_91 : decode cL_sets 91 = .ok (.ishl, 1) := by decide +kernel
theorem dL_sets_92 : decode cL_sets 92 = .ok (.goto 4, 3) := by decide +kernel
theorem dL_sets_95 : decode cL_sets 95 = .ok (.iconst 0, 1) := by decide +kernel
theorem dL_sets_96 : decode cL_sets 96 = .ok (.ixor, 1) := by decide +kernel
theorem dL_sets_97 : decode cL_sets 97 = .ok (.iastore, 1) := by decide +kernel
theorem dL_sets_98 : decode cL_sets 98 = .ok (.aload_n 3, 1) := by decide +kernel
theorem dL_sets_99 : decode cL_sets 99 = .ok (.iload 6, 2) := by decide +kernel
theorem dL_sets_101 : decode cL_sets 101 = .ok (.dup2, 1) := by decide +kernel
theorem dL_sets_102 : decode cL_sets 102 = .ok (.iaload, 1) := by decide +kernel
theorem dL_sets_103 : decode cL_sets 103 = .ok (.iload 7, 2) := by decide +kernel
theorem dL_sets_105 : decode cL_sets 105 = .ok (.iload 8, 2) := by decide +kernel
theorem dL_sets_107 : decode cL_sets 107 = .ok (.if_icmp .eq 10, 3) := by decide +kernel
theorem dL_sets_110 : decode cL_sets 110 = .ok (.iconst 1, 1) := by decide +kernel
theorem dL_sets_111 : decode cL_sets 111 = .ok (.iload 5, 2) := by decide +kernel
theorem dL_sets_113 : decode cL_sets 113 = .ok (.ishl, 1) := by decide +kernel
theorem dL_sets_114 : decode cL_sets 114 = .ok (.goto 4, 3) := by decide +kernel
theorem dL_sets_117 : decode cL_sets 117 = .ok (.iconst 0, 1) := by decide +kernel
theorem dL_sets_118 : decode cL_sets 118 = .ok (.ixor, 1) := by decide +kernel
theorem dL_sets_119 : decode cL_sets 119 = .ok (.iastore, 1) := by decide +kernel
theorem dL_sets_120 : decode cL_sets 120 = .ok (.aload_n 0, 1) := by decide +kernel
theorem dL_sets_121 : decode cL_sets 121 = .ok (.iload 5, 2) := by decide +kernel
theorem dL_sets_123 : decode cL_sets 123 = .ok (.iload 6, 2) := by decide +kernel
theorem dL_sets_125 : decode cL_sets 125 = .ok (.iload 8, 2) := by decide +kernel
theorem dL_sets_127 : decode cL_sets 127 = .ok (.invokevirtual 143, 3) := by decide +kernel
theorem dL_sets_130 : decode cL_sets 130 = .ok (.iload 7, 2) := by decide +kernel
theorem dL_sets_132 : decode cL_sets 132 = .ok (.if_icmp .ne 7, 3) := by decide +kernel
theorem dL_sets_135 : decode cL_sets 135 = .ok (.iconst 1, 1) := by decide +kernel
theorem dL_sets_136 : decode cL_sets 136 = .ok (.goto 4, 3) := by decide +kernel
theorem dL_sets_139 : decode cL_sets 139 = .ok (.iconst 0, 1) := by decide +kernel
theorem dL_sets_140 : decode cL_sets 140 = .ok (.ireturn, 1) := by decide +kernel
theorem dL_sets_141 : decode cL_sets 141 = .ok (.iload 4, 2) := by decide +kernel
theorem dL_sets_143 : decode cL_sets 143 = .ok (.iconst 2, 1) := by decide +kernel
theorem dL_sets_144 : decode cL_sets 144 = .ok (.if_icmp .ne 74, 3) := by decide +kernel
theorem dL_sets_147 : decode cL_sets 147 = .ok (.bipush 6, 2) := by decide +kernel
theorem dL_sets_149 : decode cL_sets 149 = .ok (.iload_n 1, 1) := by decide +kernel
theorem dL_sets_150 : decode cL_sets 150 = .ok (.iconst 2, 1) := by decide +kernel
theorem dL_sets_151 : decode cL_sets 151 = .ok (.ishr, 1) := by decide +kernel
theorem dL_sets_152 : decode cL_sets 152 = .ok (.iconst 4, 1) := by decide +kernel
theorem dL_sets_153 : decode cL_sets 153 = .ok (.invokestatic 125, 3) := by decide +kernel
theorem dL_sets_156 : decode cL_sets 156 = .ok (.iadd, 1) := by decide +kernel
theorem dL_sets_157 : decode cL_sets 157 = .ok (.istore 5, 2) := by decide +kernel
theorem dL_sets_159 : decode cL_sets 159 = .ok (.aload_n 2, 1) := by decide +kernel
theorem dL_sets_160 : decode cL_sets 160 = .ok (.iload 5, 2) := by decide +kernel
theorem dL_sets_162 : decode cL_sets 162 = .ok (.iaload, 1) := by decide +kernel
theorem dL_sets_163 : decode cL_sets 163 = .ok (.istore 6, 2) := by decide +kernel
theorem dL_sets_165 : decode cL_sets 165 = .ok (.aload_n 2, 1) := by decide +kernel
theorem dL_sets_166 : decode cL_sets 166 = .ok (.iload 5, 2) := by decide +kernel
theorem dL_sets_168 : decode cL_sets 168 = .ok (.iload_n 1, 1) := by decide +kernel
theorem dL_sets_169 : decode cL_sets 169 = .ok (.iconst 4, 1) := by decide +kernel
theorem dL_sets_170 : decode cL_sets 170 = .ok (.ishr, 1) := by decide +kernel
theorem dL_sets_171 : decode cL_sets 171 = .ok (.iconst 2, 1) := by decide +kernel
theorem dL_sets_172 : decode cL_sets 172 = .ok (.invokestatic 125, 3) := by decide +kernel
theorem dL_sets_175 : decode cL_sets 175 = .ok (.ifCond .ne 9, 3) := by decide +kernel
theorem dL_sets_178 : decode cL_sets 178 = .ok (.sipush 255, 3) := by decide +kernel
theorem dL_sets_181 : decode cL_sets 181 = .ok (.goto 12, 3) := by decide +kernel
theorem dL_sets_184 : decode cL_sets 184 = .ok (.iload_n 1, 1) := by decide +kernel
theorem dL_sets_185 : decode cL_sets 185 = .ok (.iconst 5, 1) := by decide +kernel
theorem dL_sets_186 : decode cL_sets 186 = .ok (.ishr, 1) := by decide +kernel
theorem dL_sets_187 : decode cL_sets 187 = .ok (.sipush 256, 3) := by decide +kernel
theorem dL_sets_190 : decode cL_sets 190 = .ok (.invokestatic 125, 3) := by decide +kernel
theorem dL_sets_193 : decode cL_sets 193 = .ok (.iastore, 1) := by decide +kernel
theorem dL_sets_194 : decode cL_sets 194 = .ok (.aload_n 0, 1) := by decide +kernel
theorem dL_sets_195 : decode cL_sets 195 = .ok (.iload 5, 2) := by decide +kernel
theorem dL_sets_197 : decode cL_sets 197 = .ok (.bipush 6, 2) := by decide +kernel
theorem dL_sets_199 : decode cL_sets 199 = .ok (.isub, 1) := by decide +kernel
theorem dL_sets_200 : decode cL_sets 200 = .ok (.aload_n 2, 1) := by decide +kernel
theorem dL_sets_201 : decode cL_sets 201 = .ok (.iload 5, 2) := by decide +kernel
theorem dL_sets_203 : decode cL_sets 203 = .ok (.iaload, 1) := by decide +kernel
theorem dL_sets_204 : decode cL_sets 204 = .ok (.invokevirtual 147, 3) := by decide +kernel
theorem dL_sets_207 : decode cL_sets 207 = .ok (.iload 6, 2) := by decide +kernel
theorem dL_sets_209 : decode cL_sets 209 = .ok (.if_icmp .ne 7, 3) := by decide +kernel
theorem dL_sets_212 : decode cL_sets 212 = .ok (.iconst 1, 1) := by decide +kernel
theorem dL_sets_213 : decode cL_sets 213 = .ok (.goto 4, 3) := by decide +kernel
theorem dL_sets_216 : decode cL_sets 216 = .ok (.iconst 0, 1) := by decide +kernel
theorem dL_sets_217 : decode cL_sets 217 = .ok (.ireturn, 1) := by decide +kernel
theorem dL_sets_218 : decode cL_sets 218 = .ok (.aload_n 2, 1) := by decide +kernel
theorem dL_sets_219 : decode cL_sets 219 = .ok (.iconst 1, 1) := by decide +kernel
theorem dL_sets_220 : decode cL_sets 220 = .ok (.iaload, 1) := by decide +kernel
theorem dL_sets_221 : decode cL_sets 221 = .ok (.istore 5, 2) := by decide +kernel
theorem dL_sets_223 : decode cL_sets 223 = .ok (.aload_n 2, 1) := by decide +kernel
theorem dL_sets_224 : decode cL_sets 224 = .ok (.iconst 1, 1) := by decide +kernel
theorem dL_sets_225 : decode cL_sets 225 = .ok (.iload_n 1, 1) := by decide +kernel
theorem dL_sets_226 : decode cL_sets 226 = .ok (.iconst 2, 1) := by decide +kernel
theorem dL_sets_227 : decode cL_sets 227 = .ok (.ishr, 1) := by decide +kernel
theorem dL_sets_228 : decode cL_sets 228 = .ok (.iload_n 1, 1) := by decide +kernel
theorem dL_sets_229 : decode cL_sets 229 = .ok (.bipush 6, 2) := by decide +kernel
theorem dL_sets_231 : decode cL_sets 231 = .ok (.ishr, 1) := by decide +kernel
theorem dL_sets_232 : decode cL_sets 232 = .ok (.iconst 2, 1) := by decide +kernel
theorem dL_sets_233 : decode cL_sets 233 = .ok (.invokestatic 125, 3) := by decide +kernel
theorem dL_sets_236 : decode cL_sets 236 = .ok (.ifCond .ne 8, 3) := by decide +kernel
theorem dL_sets_239 : decode cL_sets 239 = .ok (.bipush 13, 2) := by decide +kernel
theorem dL_sets_241 : decode cL_sets 241 = .ok (.goto 4, 3) := by decide +kernel
theorem dL_sets_244 : decode cL_sets 244 = .ok (.iconst 3, 1) := by decide +kernel
theorem dL_sets_245 : decode cL_sets 245 = .ok (.invokestatic 125, 3) := by decide +kernel
theorem dL_sets_248 : decode cL_sets 248 = .ok (.iastore, 1) := by decide +kernel
theorem dL_sets_249 : decode cL_sets 249 = .ok (.aload_n 0, 1) := by decide +kernel
theorem dL_sets_250 : decode cL_sets 250 = .ok (.aload_n 2, 1) := by decide +kernel
theorem dL_sets_251 : decode cL_sets 251 = .ok (.iconst 1, 1) := by decide +kernel
theorem dL_sets_252 : decode cL_sets 252 = .ok (.iaload, 1) := by decide +kernel
theorem dL_sets_253 : decode cL_sets 253 = .ok (.invokevirtual 150, 3) := by decide +kernel
theorem dL_sets_256 : decode cL_sets 256 = .ok (.iload 5, 2) := by decide +kernel
theorem dL_sets_258 : decode cL_sets 258 = .ok (.if_icmp .ne 7, 3) := by decide +kernel
theorem dL_sets_261 : decode cL_sets 261 = .ok (.iconst 1, 1) := by decide +kernel
theorem dL_sets_262 : decode cL_sets 262 = .ok (.goto 4, 3) := by decide +kernel
theorem dL_sets_265 : decode cL_sets 265 = .ok (.iconst 0, 1) := by decide +kernel
theorem dL_sets_266 : decode cL_sets 266 = .ok (.ireturn, 1) := by decide +kernel
theorem dL_machines_0 : decode cL_machines 0 = .ok (.iload_n 2, 1) := by decide +kernel
theorem dL_machines_1 : decode cL_machines 1 = .ok (.aload_n 3, 1) := by decide +kernel
theorem dL_machines_2 : decode cL_machines 2 = .ok (.iconst 3, 1) := by decide +kernel
theorem dL_machines_3 : decode cL_machines 3 = .ok (.iaload, 1) := by decide +kernel
theorem dL_machines_4 : decode cL_machines 4 = .ok (.invokestatic 125, 3) := by decide +kernel
theorem dL_machines_7 : decode cL_machines 7 = .ok (.istore 7, 2) := by decide +kernel
theorem dL_machines_9 : decode cL_machines 9 = .ok (.iload_n 1, 1) := by decide +kernel
theorem dL_machines_10 : decode cL_machines 10 = .ok (.ifCond .ne 131, 3) := by decide +kernel
theorem dL_machines_13 : decode cL_machines 13 = .ok (.iconst 1, 1) := by decide +kernel
theorem dL_machines_14 : decode cL_machines 14 = .ok (.iload_n 2, 1) := by decide +kernel
theorem dL_machines_15 : decode cL_machines 15 = .ok (.iconst 3, 1) := by decide +kernel
theorem dL_machines_16 : decode cL_machines 16 = .ok (.ishr, 1) := by decide +kernel
theorem dL_machines_17 : decode cL_machines 17 = .ok (.iload_n 2, 1) := by decide +kernel
theorem dL_machines_18 : decode cL_machines 18 = .ok (.bipush 9, 2) := by decide +kernel
theorem dL_machines_20 : decode cL_machines 20 = .ok (.ishr, 1) := by decide +kernel
theorem dL_machines_21 : decode cL_machines 21 = .ok (.iconst 3, 1) := by decide +kernel
theorem dL_machines_22 : decode cL_machines 22 = .ok (.invokestatic 125, 3) := by decide +kernel
theorem dL_machines_25 : decode cL_machines 25 = .ok (.ifCond .ne 8, 3) := by decide +kernel
theorem dL_machines_28 : decode cL_machines 28 = .ok (.bipush 30, 2) := by decide +kernel
theorem dL_machines_30 : decode cL_machines 30 = .ok (.goto 4, 3) := by decide +kernel
theorem dL_machines_33 : decode cL_machines 33 = .ok (.iconst 4, 1) := by decide +kernel
theorem dL_machines_34 : decode cL_machines 34 = .ok (.invokestatic 125, 3) := by decide +kernel
theorem dL_machines_37 : decode cL_machines 37 = .ok (.iadd, 1) := by decide +kernel
theorem dL_machines_38 : decode cL_machines 38 = .ok (.istore 8, 2) := by decide +kernel
theorem dL_machines_40 : decode cL_machines 40 = .ok (.aload_n 3, 1) := by decide +kernel
theorem dL_machines_41 : decode cL_machines 41 = .ok (.iconst 0, 1) := by decide +kernel
theorem dL_machines_42 : decode cL_machines 42 = .ok (.iaload, 1) := by decide +kernel
theorem dL_machines_43 : decode cL_machines 43 = .ok (.aload 4, 2) := by decide +kernel
theorem dL_machines_45 : decode cL_machines 45 = .ok (.bipush 7, 2) := by decide +kernel
theorem dL_machines_47 : decode cL_machines 47 = .ok (.iload 7, 2) := by decide +kernel
theorem dL_machines_49 : decode cL_machines 49 = .ok (.iadd, 1) := by decide +kernel
theorem dL_machines_50 : decode cL_machines 50 = .ok (.iaload, 1) := by decide +kernel
theorem dL_machines_51 : decode cL_machines 51 = .ok (.if_icmp .lt 19, 3) := by decide +kernel
theorem dL_machines_54 : decode cL_machines 54 = .ok (.iload 7, 2) := by decide +kernel
theorem dL_machines_56 : decode cL_machines 56 = .ok (.aload 5, 2) := by decide +kernel
theorem dL_machines_58 : decode cL_machines 58 = .ok (.aload 6, 2) := by decide +kernel
theorem dL_machines_60 : decode cL_machines 60 = .ok (.invokestatic 61, 3) := by decide +kernel
theorem dL_machines_63 : decode cL_machines 63 = .ok (.ifCond .ne 7, 3) := by decide +kernel
theorem dL_machines_66 : decode cL_machines 66 = .ok (.iconst 1, 1) := by decide +kernel
theorem dL_machines_67 : decode cL_machines 67 = .ok (.goto 4, 3) := by decide +kernel
theorem dL_machines_70 : decode cL_machines 70 = .ok (.iconst 0, 1) := by decide +kernel
theorem dL_machines_71 : decode cL_machines 71 = .ok (.istore 9, 2) := by decide +kernel
theorem dL_machines_73 : decode cL_machines 73 = .ok (.aload 4, 2) := by decide +kernel
theorem dL_machines_75 : decode cL_machines 75 = .ok (.bipush 7, 2) := by decide +kernel
theorem dL_machines_77 : decode cL_machines 77 = .ok (.iload 7, 2) := by decide +kernel
theorem dL_machines_79 : decode cL_machines 79 = .ok (.iadd, 1) := by decide +kernel
theorem dL_machines_80 : decode cL_machines 80 = .ok (.iload 9, 2) := by decide +kernel
theorem dL_machines_82 : decode cL_machines 82 = .ok (.ifCond .eq 12, 3) := by decide +kernel
theorem dL_machines_85 : decode cL_machines 85 = .ok (.aload_n 3, 1) := by decide +kernel
theorem dL_machines_86 : decode cL_machines 86 = .ok (.iconst 0, 1) := by decide +kernel
theorem dL_machines_87 : decode cL_machines 87 = .ok (.iaload, 1) := by decide +kernel
theorem dL_machines_88 : decode cL_machines 88 = .ok (.iload 8, 2) := by decide +kernel
theorem dL_machines_90 : decode cL_machines 90 = .ok (.iadd, 1) := by decide +kernel
theorem dL_machines_91 : decode cL_machines 91 = .ok (.goto 11, 3) := by decide +kernel
theorem dL_machines_94 : decode cL_machines 94 = .ok (.aload 4, 2) := by decide +kernel
theorem dL_machines_96 : decode cL_machines 96 = .ok (.bipush 7, 2) := by decide +kernel
theorem dL_machines_98 : decode cL_machines 98 = .ok (.iload 7, 2) := by decide +kernel
theorem dL_machines_100 : decode cL_machines 100 = .ok (.iadd, 1) := by decide +kernel
theorem dL_machines_101 : decode cL_machines 101 = .ok (.iaload, 1) := by decide +kernel
theorem dL_machines_102 : decode cL_machines 102 = .ok (.iastore, 1) := by decide +kernel
theorem dL_machines_103 : decode cL_machines 103 = .ok (.aload_n 0, 1) := by decide +kernel
theorem dL_machines_104 : decode cL_machines 104 = .ok (.iconst 3, 1) := by decide +kernel
theorem dL_machines_105 : decode cL_machines 105 = .ok (.iload 7, 2) := by decide +kernel
theorem dL_machines_107 : decode cL_machines 107 = .ok (.iload 8, 2) := by decide +kernel
theorem dL_machines_109 : decode cL_machines 109 = .ok (.iconst 0, 1) := by decide +kernel
theorem dL_machines_110 : decode cL_machines 110 = .ok (.iconst 0, 1) := by decide +kernel
theorem dL_machines_111 : decode cL_machines 111 = .ok (.invokestatic 139, 3) := by decide +kernel
theorem dL_machines_114 : decode cL_machines 114 = .ok (.iload 9, 2) := by decide +kernel
theorem dL_machines_116 : decode cL_machines 116 = .ok (.ifCond .eq 14, 3) := by decide +kernel
theorem dL_machines_119 : decode cL_machines 119 = .ok (.aload 4, 2) := by decide +kernel
theorem dL_machines_121 : decode cL_machines 121 = .ok (.bipush 7, 2) := by decide +kernel
theorem dL_machines_123 : decode cL_machines 123 = .ok (.iload 7, 2) := by decide +kernel
theorem dL_machines_125 : decode cL_machines 125 = .ok (.iadd, 1) := by decide +kernel
theorem dL_machines_126 : decode cL_machines 126 = .ok (.iaload, 1) := by decide +kernel
theorem dL_machines_127 : decode cL_machines 127 = .ok (.goto 5, 3) := by decide +kernel
theorem dL_machines_130 : decode cL_machines 130 = .ok (.bipush (-3), 2) := by decide +kernel
theorem dL_machines_132 : decode cL_machines 132 = .ok (.if_icmp .ne 7, 3) := by decide +kernel
theorem dL_machines_135 : decode cL_machines 135 = .ok (.iconst 1, 1) := by decide +kernel
theorem dL_machines_136 : decode cL_machines 136 = .ok (.goto 4, 3) := by decide +kernel
theorem dL_machines_139 : decode cL_machines 139 = .ok (.iconst 0, 1) := by decide +kernel
theorem dL_machines_140 : decode cL_machines 140 = .ok (.ireturn, 1) := by decide +kernel
theorem dL_machines_141 : decode cL_machines 141 = .ok (.iload_n 2, 1) := by decide +kernel
theorem dL_machines_142 : decode cL_machines 142 = .ok (.iconst 3, 1) := by decide +kernel
theorem dL_machines_143 : decode cL_machines 143 = .ok (.ishr, 1) := by decide +kernel
theorem dL_machines_144 : decode cL_machines 144 = .ok (.aload_n 3, 1) := by decide +kernel
theorem dL_machines_145 : decode cL_machines 145 = .ok (.iconst 2, 1) := by decide +kernel
theorem dL_machines_146 : decode cL_machines 146 = .ok (.iaload, 1) := by decide +kernel
theorem dL_machines_147 : decode cL_machines 147 = .ok (.invokestatic 125, 3) := by decide +kernel
theorem dL_machines_150 : decode cL_machines 150 = .ok (.istore 8, 2) := by decide +kernel
theorem dL_machines_152 : decode cL_machines 152 = .ok (.aload_n 0, 1) := by decide +kernel
theorem dL_machines_153 : decode cL_machines 153 = .ok (.iconst 4, 1) := by decide +kernel
theorem dL_machines_154 : decode cL_machines 154 = .ok (.iload 7, 2) := by decide +kernel
theorem dL_machines_156 : decode cL_machines 156 = .ok (.iload 8, 2) := by decide +kernel
theorem dL_machines_158 : decode cL_machines 158 = .ok (.iconst 0, 1) := by decide +kernel
theorem dL_machines_159 : decode cL_machines 159 = .ok (.iconst 0, 1) := by decide +kernel
theorem dL_machines_160 : decode cL_machines 160 = .ok (.invokestatic 139, 3) := by decide +kernel
theorem dL_machines_163 : decode cL_machines 163 = .ok (.iload 7, 2) := by decide +kernel
theorem dL_machines_165 : decode cL_machines 165 = .ok (.iload 8, 2) := by decide +kernel
theorem dL_machines_167 : decode cL_machines 167 = .ok (.aload_n 3, 1) := by decide +kernel
theorem dL_machines_168 : decode cL_machines 168 = .ok (.aload 4, 2) := by decide +kernel
theorem dL_machines_170 : decode cL_machines 170 = .ok (.aload 5, 2) := by decide +kernel
theorem dL_machines_172 : decode cL_machines 172 = .ok (.invokestatic 153, 3) := by decide +kernel
theorem dL_machines_175 : decode cL_machines 175 = .ok (.if_icmp .ne 7, 3) := by decide +kernel
theorem dL_machines_178 : decode cL_machines 178 = .ok (.iconst 1, 1) := by decide +kernel
theorem dL_machines_179 : decode cL_machines 179 = .ok (.goto 4, 3) := by decide +kernel
theorem dL_machines_182 : decode cL_machines 182 = .ok (.iconst 0, 1) := by decide +kernel
theorem dL_machines_183 : decode cL_machines 183 = .ok (.ireturn, 1) := by decide +kernel
theorem dL_persons_0 : decode cL_persons 0 = .ok (.iload_n 2, 1) := by decide +kernel
theorem dL_persons_1 : decode cL_persons 1 = .ok (.iconst 5, 1) := by decide +kernel
theorem dL_persons_2 : decode cL_persons 2 = .ok (.invokestatic 125, 3) := by decide +kernel
theorem dL_persons_5 : decode cL_persons 5 = .ok (.istore 9, 2) := by decide +kernel
theorem dL_persons_7 : decode cL_persons 7 = .ok (.iload_n 1, 1) := by decide +kernel
theorem dL_persons_8 : decode cL_persons 8 = .ok (.ifCond .ne 59, 3) := by decide +kernel
theorem dL_persons_11 : decode cL_persons 11 = .ok (.iload_n 2, 1) := by decide +kernel
theorem dL_persons_12 : decode cL_persons 12 = .ok (.iconst 3, 1) := by decide +kernel
theorem dL_persons_13 : decode cL_persons 13 = .ok (.ishr, 1) := by decide +kernel
theorem dL_persons_14 : decode cL_persons 14 = .ok (.iconst 2, 1) := by decide +kernel
theorem dL_persons_15 : decode cL_persons 15 = .ok (.invokestatic 125, 3) := by decide +kernel
theorem dL_persons_18 : decode cL_persons 18 = .ok (.istore 10, 2) := by decide +kernel
theorem dL_persons_20 : decode cL_persons 20 = .ok (.aload_n 0, 1) := by decide +kernel
theorem dL_persons_21 : decode cL_persons 21 = .ok (.iconst 2, 1) := by decide +kernel
theorem dL_persons_22 : decode cL_persons 22 = .ok (.iload 9, 2) := by decide +kernel
theorem dL_persons_24 : decode cL_persons 24 = .ok (.iload 10, 2) := by decide +kernel
theorem dL_persons_26 : decode cL_persons 26 = .ok (.iconst 0, 1) := by decide +kernel
theorem dL_persons_27 : decode cL_persons 27 = .ok (.iconst 0, 1) := by decide +kernel
theorem dL_persons_28 : decode cL_persons 28 = .ok (.invokestatic 139, 3) := by decide +kernel
theorem dL_persons_31 : decode cL_persons 31 = .ok (.iload 9, 2) := by decide +kernel
theorem dL_persons_33 : decode cL_persons 33 = .ok (.iload 10, 2) := by decide +kernel
theorem dL_persons_35 : decode cL_persons 35 = .ok (.iconst 1, 1) := by decide +kernel
theorem dL_persons_36 : decode cL_persons 36 = .ok (.if_icmp .ne 7, 3) := by decide +kernel
theorem dL_persons_39 : decode cL_persons 39 = .ok (.iconst 1, 1) := by decide +kernel
theorem dL_persons_40 : decode cL_persons 40 = .ok (.goto 4, 3) := by decide +kernel
theorem dL_persons_43 : decode cL_persons 43 = .ok (.iconst 0, 1) := by decide +kernel
theorem dL_persons_44 : decode cL_persons 44 = .ok (.aload_n 3, 1) := by decide +kernel
theorem dL_persons_45 : decode cL_persons 45 = .ok (.aload 4, 2) := by decide +kernel
theorem dL_persons_47 : decode cL_persons 47 = .ok (.aload 5, 2) := by decide +kernel
theorem dL_persons_49 : decode cL_persons 49 = .ok (.aload 6, 2) := by decide +kernel
theorem dL_persons_51 : decode cL_persons 51 = .ok (.aload 7, 2) := by decide +kernel
theorem dL_persons_53 : decode cL_persons 53 = .ok (.aload 8, 2) := by decide +kernel
theorem dL_persons_55 : decode cL_persons 55 = .ok (.invokestatic 157, 3) := by decide +kernel
theorem dL_persons_58 : decode cL_persons 58 = .ok (.if_icmp .ne 7, 3) := by decide +kernel
theorem dL_persons_61 : decode cL_persons 61 = .ok (.iconst 1, 1) := by decide +kernel
theorem dL_persons_62 : decode cL_persons 62 = .ok (.goto 4, 3) := by decide +kernel
theorem dL_persons_65 : decode cL_persons 65 = .ok (.iconst 0, 1) := by decide +kernel
theorem dL_persons_66 : decode cL_persons 66 = .ok (.ireturn, 1) := by decide +kernel
theorem dL_persons_67 : decode cL_persons 67 = .ok (.iload_n 1, 1) := by decide +kernel
theorem dL_persons_68 : decode cL_persons 68 = .ok (.iconst 1, 1) := by decide +kernel
theorem dL_persons_69 : decode cL_persons 69 = .ok (.if_icmp .ne 81, 3) := by decide +kernel
theorem dL_persons_72 : decode cL_persons 72 = .ok (.aload_n 3, 1) := by decide +kernel
theorem dL_persons_73 : decode cL_persons 73 = .ok (.bipush 10, 2) := by decide +kernel
theorem dL_persons_75 : decode cL_persons 75 = .ok (.iaload, 1) := by decide +kernel
theorem dL_persons_76 : decode cL_persons 76 = .ok (.iload 9, 2) := by decide +kernel
theorem dL_persons_78 : decode cL_persons 78 = .ok (.ishr, 1) := by decide +kernel
theorem dL_persons_79 : decode cL_persons 79 = .ok (.iconst 1, 1) := by decide +kernel
theorem dL_persons_80 : decode cL_persons 80 = .ok (.iand, 1) := by decide +kernel
theorem dL_persons_81 : decode cL_persons 81 = .ok (.iconst 1, 1) := by decide +kernel
theorem dL_persons_82 : decode cL_persons 82 = .ok (.if_icmp .ne 19, 3) := by decide +kernel
theorem dL_persons_85 : decode cL_persons 85 = .ok (.aload_n 3, 1) := by decide +kernel
theorem dL_persons_86 : decode cL_persons 86 = .ok (.bipush 11, 2) := by decide +kernel
theorem dL_persons_88 : decode cL_persons 88 = .ok (.iaload, 1) := by decide +kernel
theorem dL_persons_89 : decode cL_persons 89 = .ok (.iload 9, 2) := by decide +kernel
theorem dL_persons_91 : decode cL_persons 91 = .ok (.ishr, 1) := by decide +kernel
theorem dL_persons_92 : decode cL_persons 92 = .ok (.iconst 1, 1) := by decide +kernel
theorem dL_persons_93 : decode cL_persons 93 = .ok (.iand, 1) := by decide +kernel
theorem dL_persons_94 : decode cL_persons 94 = .ok (.ifCond .ne 7, 3) := by decide +kernel
theorem dL_persons_97 : decode cL_persons 97 = .ok (.iconst 1, 1) := by decide +kernel
theorem dL_persons_98 : decode cL_persons 98 = .ok (.goto 4, 3) := by decide +kernel
theorem dL_persons_101 : decode cL_persons 101 = .ok (.iconst 0, 1) := by decide +kernel
theorem dL_persons_102 : decode cL_persons 102 = .ok (.istore 10, 2) := by decide +kernel
theorem dL_persons_104 : decode cL_persons 104 = .ok (.aload_n 3, 1) := by decide +kernel
theorem dL_persons_105 : decode cL_persons 105 = .ok (.bipush 10, 2) := by decide +kernel
theorem dL_persons_107 : decode cL_persons 107 = .ok (.dup2, 1) := by decide +kernel
theorem dL_persons_108 : decode cL_persons 108 = .ok (.iaload, 1) := by decide +kernel
theorem dL_persons_109 : decode cL_persons 109 = .ok (.iload 10, 2) := by decide +kernel
theorem dL_persons_111 : decode cL_persons 111 = .ok (.ifCond .eq 10, 3) := by decide +kernel
theorem dL_persons_114 : decode cL_persons 114 = .ok (.iconst 1, 1) := by decide +kernel
theorem dL_persons_115 : decode cL_persons 115 = .ok (.iload 9, 2) := by decide +kernel
theorem dL_persons_117 : decode cL_persons 117 = .ok (.ishl, 1) := by decide +kernel
theorem dL_persons_118 : decode cL_persons 118 = .ok (.goto 4, 3) := by decide +kernel
theorem dL_persons_121 : decode cL_persons 121 = .ok (.iconst 0, 1) := by decide +kernel
theorem dL_persons_122 : decode cL_persons 122 = .ok (.ixor, 1) := by decide +kernel
theorem dL_persons_123 : decode cL_persons 123 = .ok (.iastore, 1) := by decide +kernel
theorem dL_persons_124 : decode cL_persons 124 = .ok (.aload_n 0, 1) := by decide +kernel
theorem dL_persons_125 : decode cL_persons 125 = .ok (.iload 9, 2) := by decide +kernel
theorem dL_persons_127 : decode cL_persons 127 = .ok (.invokestatic 161, 3) := by decide +kernel
theorem dL_persons_130 : decode cL_persons 130 = .ok (.iload 10, 2) := by decide +kernel
theorem dL_persons_132 : decode cL_persons 132 = .ok (.ifCond .eq 7, 3) := by decide +kernel
theorem dL_persons_135 : decode cL_persons 135 = .ok (.iconst 0, 1) := by decide +kernel
theorem dL_persons_136 : decode cL_persons 136 = .ok (.goto 5, 3) := by decide +kernel
theorem dL_persons_139 : decode cL_persons 139 = .ok (.bipush (-3), 2) := by decide +kernel
theorem dL_persons_141 : decode cL_persons 141 = .ok (.if_icmp .ne 7, 3) := by decide +kernel
theorem dL_persons_144 : decode cL_persons 144 = .ok (.iconst 1, 1) := by decide +kernel
theorem dL_persons_145 : decode cL_persons 145 = .ok (.goto 4, 3) := by decide +kernel
theorem dL_persons_148 : decode cL_persons 148 = .ok (.iconst 0, 1) := by decide +kernel
theorem dL_persons_149 : decode cL_persons 149 = .ok (.ireturn, 1) := by decide +kernel
theorem dL_persons_150 : decode cL_persons 150 = .ok (.iload_n 2, 1) := by decide +kernel
theorem dL_persons_151 : decode cL_persons 151 = .ok (.iconst 3, 1) := by decide +kernel
theorem dL_persons_152 : decode cL_persons 152 = .ok (.ishr, 1) := by decide +kernel
theorem dL_persons_153 : decode cL_persons 153 = .ok (.aload_n 3, 1) := by decide +kernel
theorem dL_persons_154 : decode cL_persons 154 = .ok (.iconst 4, 1) := by decide +kernel
theorem dL_persons_155 : decode cL_persons 155 = .ok (.iaload, 1) := by decide +kernel
theorem dL_persons_156 : decode cL_persons 156 = .ok (.invokestatic 125, 3) := by decide +kernel
theorem dL_persons_159 : decode cL_persons 159 = .ok (.istore 10, 2) := by decide +kernel
theorem dL_persons_161 : decode cL_persons 161 = .ok (.iload_n 1, 1) := by decide +kernel
theorem dL_persons_162 : decode cL_persons 162 = .ok (.iconst 2, 1) := by decide +kernel
theorem dL_persons_163 : decode cL_persons 163 = .ok (.if_icmp .ne 75, 3) := by decide +kernel
theorem dL_persons_166 : decode cL_persons 166 = .ok (.aload 6, 2) := by decide +kernel
theorem dL_persons_168 : decode cL_persons 168 = .ok (.iconst 5, 1) := by decide +kernel
theorem dL_persons_169 : decode cL_persons 169 = .ok (.iload 10, 2) := by decide +kernel
theorem dL_persons_171 : decode cL_persons 171 = .ok (.imul, 1) := by decide +kernel
theorem dL_persons_172 : decode cL_persons 172 = .ok (.iconst 3, 1) := by decide +kernel
theorem dL_persons_173 : decode cL_persons 173 = .ok (.iadd, 1) := by decide +kernel
theorem dL_persons_174 : decode cL_persons 174 = .ok (.iaload, 1) := by decide +kernel
theorem dL_persons_175 : decode cL_persons 175 = .ok (.ifCond .ne 7, 3) := by decide +kernel
theorem dL_persons_178 : decode cL_persons 178 = .ok (.iconst 1, 1) := by decide +kernel
theorem dL_persons_179 : decode cL_persons 179 = .ok (.goto 4, 3) := by decide +kernel
theorem dL_persons_182 : decode cL_persons 182 = .ok (.iconst 0, 1) := by decide +kernel
theorem dL_persons_183 : decode cL_persons 183 = .ok (.istore 11, 2) := by decide +kernel
theorem dL_persons_185 : decode cL_persons 185 = .ok (.aload 6, 2) := by decide +kernel
theorem dL_persons_187 : decode cL_persons 187 = .ok (.iconst 5, 1) := by decide +kernel
theorem dL_persons_188 : decode cL_persons 188 = .ok (.iload 10, 2) := by decide +kernel
theorem dL_persons_190 : decode cL_persons 190 = .ok (.imul, 1) := by decide +kernel
theorem dL_persons_191 : decode cL_persons 191 = .ok (.iconst 3, 1) := by decide +kernel
theorem dL_persons_192 : decode cL_persons 192 = .ok (.iadd, 1) := by decide +kernel
theorem dL_persons_193 : decode cL_persons 193 = .ok (.iload 11, 2) := by decide +kernel
theorem dL_persons_195 : decode cL_persons 195 = .ok (.ifCond .eq 7, 3) := by decide +kernel
theorem dL_persons_198 : decode cL_persons 198 = .ok (.iconst 3, 1) := by decide +kernel
theorem dL_persons_199 : decode cL_persons 199 = .ok (.goto 12, 3) := by decide +kernel
theorem dL_persons_202 : decode cL_persons 202 = .ok (.aload 6, 2) := by decide +kernel
theorem dL_persons_204 : decode cL_persons 204 = .ok (.iconst 5, 1) := by decide +kernel
theorem dL_persons_205 : decode cL_persons 205 = .ok (.iload 10, 2) := by decide +kernel
theorem dL_persons_207 : decode cL_persons 207 = .ok (.imul, 1) := by decide +kernel
theorem dL_persons_208 : decode cL_persons 208 = .ok (.iconst 3, 1) := by decide +kernel
theorem dL_persons_209 : decode cL_persons 209 = .ok (.iadd, 1) := by decide +kernel
theorem dL_persons_210 : decode cL_persons 210 = .ok (.iaload, 1) := by decide +kernel
theorem dL_persons_211 : decode cL_persons 211 = .ok (.iastore, 1) := by decide +kernel
theorem dL_persons_212 : decode cL_persons 212 = .ok (.aload_n 0, 1) := by decide +kernel
theorem dL_persons_213 : decode cL_persons 213 = .ok (.iload 10, 2) := by decide +kernel
theorem dL_persons_215 : decode cL_persons 215 = .ok (.invokestatic 165, 3) := by decide +kernel
theorem dL_persons_218 : decode cL_persons 218 = .ok (.iload 11, 2) := by decide +kernel
theorem dL_persons_220 : decode cL_persons 220 = .ok (.ifCond .eq 7, 3) := by decide +kernel
theorem dL_persons_223 : decode cL_persons 223 = .ok (.iconst 0, 1) := by decide +kernel
theorem dL_persons_224 : decode cL_persons 224 = .ok (.goto 5, 3) := by decide +kernel
theorem dL_persons_227 : decode cL_persons 227 = .ok (.bipush (-3), 2) := by decide +kernel
theorem dL_persons_229 : decode cL_persons 229 = .ok (.if_icmp .ne 7, 3) := by decide +kernel
theorem dL_persons_232 : decode cL_persons 232 = .ok (.iconst 1, 1) := by decide +kernel
theorem dL_persons_233 : decode cL_persons 233 = .ok (.goto 4, 3) := by decide +kernel
theorem dL_persons_236 : decode cL_persons 236 = .ok (.iconst 0, 1) := by decide +kernel
theorem dL_persons_237 : decode cL_persons 237 = .ok (.ireturn, 1) := by decide +kernel
theorem dL_persons_238 : decode cL_persons 238 = .ok (.iload_n 2, 1) := by decide +kernel
theorem dL_persons_239 : decode cL_persons 239 = .ok (.bipush 9, 2) := by decide +kernel
theorem dL_persons_241 : decode cL_persons 241 = .ok (.ishr, 1) := by decide +kernel
theorem dL_persons_242 : decode cL_persons 242 = .ok (.iconst 3, 1) := by decide +kernel
theorem dL_persons_243 : decode cL_persons 243 = .ok (.invokestatic 125, 3) := by decide +kernel
theorem dL_persons_246 : decode cL_persons 246 = .ok (.ifCond .le 32, 3) := by decide +kernel
theorem dL_persons_249 : decode cL_persons 249 = .ok (.aload_n 3, 1) := by decide +kernel
theorem dL_persons_250 : decode cL_persons 250 = .ok (.iconst 4, 1) := by decide +kernel
theorem dL_persons_251 : decode cL_persons 251 = .ok (.iaload, 1) := by decide +kernel
theorem dL_persons_252 : decode cL_persons 252 = .ok (.iconst 1, 1) := by decide +kernel
theorem dL_persons_253 : decode cL_persons 253 = .ok (.isub, 1) := by decide +kernel
theorem dL_persons_254 : decode cL_persons 254 = .ok (.iload_n 2, 1) := by decide +kernel
theorem dL_persons_255 : decode cL_persons 255 = .ok (.iconst 3, 1) := by decide +kernel
theorem dL_persons_256 : decode cL_persons 256 = .ok (.ishr, 1) := by decide +kernel
theorem dL_persons_257 : decode cL_persons 257 = .ok (.aload_n 3, 1) := by decide +kernel
theorem dL_persons_258 : decode cL_persons 258 = .ok (.iconst 4, 1) := by decide +kernel
theorem dL_persons_259 : decode cL_persons 259 = .ok (.iaload, 1) := by decide +kernel
theorem dL_persons_260 : decode cL_persons 260 = .ok (.iconst 3, 1) := by decide +kernel
theorem dL_persons_261 : decode cL_persons 261 = .ok (.if_icmp .ge 9, 3) := by decide +kernel
theorem dL_persons_264 : decode cL_persons 264 = .ok (.aload_n 3, 1) := by decide +kernel
theorem dL_persons_265 : decode cL_persons 265 = .ok (.iconst 4, 1) := by decide +kernel
theorem dL_persons_266 : decode cL_persons 266 = .ok (.iaload, 1) := by decide +kernel
theorem dL_persons_267 : decode cL_persons 267 = .ok (.goto 4, 3) := by decide +kernel
theorem dL_persons_270 : decode cL_persons 270 = .ok (.iconst 3, 1) := by decide +kernel
theorem dL_persons_271 : decode cL_persons 271 = .ok (.invokestatic 125, 3) := by decide +kernel
theorem dL_persons_274 : decode cL_persons 274 = .ok (.isub, 1) := by decide +kernel
theorem dL_persons_275 : decode cL_persons 275 = .ok (.goto 5, 3) := by decide +kernel
theorem dL_persons_278 : decode cL_persons 278 = .ok (.iload 10, 2) := by decide +kernel
theorem dL_persons_280 : decode cL_persons 280 = .ok (.istore 10, 2) := by decide +kernel
theorem dL_persons_282 : decode cL_persons 282 = .ok (.aload_n 0, 1) := by decide +kernel
theorem dL_persons_283 : decode cL_persons 283 = .ok (.iconst 1, 1) := by decide +kernel
theorem dL_persons_284 : decode cL_persons 284 = .ok (.iload 9, 2) := by decide +kernel
theorem dL_persons_286 : decode cL_persons 286 = .ok (.iload 10, 2) := by decide +kernel
theorem dL_persons_288 : decode cL_persons 288 = .ok (.iconst 0, 1) := by decide +kernel
theorem dL_persons_289 : decode cL_persons 289 = .ok (.iconst 0, 1) := by decide +kernel
theorem dL_persons_290 : decode cL_persons 290 = .ok (.invokestatic 139, 3) := by decide +kernel
theorem dL_persons_293 : decode cL_persons 293 = .ok (.iload 9, 2) := by decide +kernel
theorem dL_persons_295 : decode cL_persons 295 = .ok (.iload 10, 2) := by decide +kernel
theorem dL_persons_297 : decode cL_persons 297 = .ok (.aload_n 3, 1) := by decide +kernel
theorem dL_persons_298 : decode cL_persons 298 = .ok (.aload 6, 2) := by decide +kernel
theorem dL_persons_300 : decode cL_persons 300 = .ok (.aload 7, 2) := by decide +kernel
theorem dL_persons_302 : decode cL_persons 302 = .ok (.aload 8, 2) := by decide +kernel
theorem dL_persons_304 : decode cL_persons 304 = .ok (.invokestatic 168, 3) := by decide +kernel
theorem dL_persons_307 : decode cL_persons 307 = .ok (.if_icmp .ne 7, 3) := by decide +kernel
theorem dL_persons_310 : decode cL_persons 310 = .ok (.iconst 1, 1) := by decide +kernel
theorem dL_persons_311 : decode cL_persons 311 = .ok (.goto 4, 3) := by decide +kernel
theorem dL_persons_314 : decode cL_persons 314 = .ok (.iconst 0, 1) := by decide +kernel
theorem dL_persons_315 : decode cL_persons 315 = .ok (.ireturn, 1) := by decide +kernel
