theorem dX9_init_0 : decode cX9_init 0 = .ok (.aload_n 0, 1) := by decide +kernel
theorem dX9_init_1 : decode cX9_init 1 = .ok (.invokespecial 3, 3) := by decide +kernel
theorem dX9_init_4 : decode cX9_init 4 = .ok (.aload_n 0, 1) := by decide +kernel
theorem dX9_init_5 : decode cX9_init 5 = .ok (.sipush 132, 3) := by decide +kernel
theorem dX9_init_8 : decode cX9_init 8 = .ok (.newarray .int, 2) := by decide +kernel
theorem dX9_init_10 : decode cX9_init 10 = .ok (.putfield 9, 3) := by decide +kernel
theorem dX9_init_13 : decode cX9_init 13 = .ok (.aload_n 0, 1) := by decide +kernel
theorem dX9_init_14 : decode cX9_init 14 = .ok (.getfield 9, 3) := by decide +kernel
theorem dX9_init_17 : decode cX9_init 17 = .ok (.iconst (-1), 1) := by decide +kernel
theorem dX9_init_18 : decode cX9_init 18 = .ok (.invokestatic 15, 3) := by decide +kernel
theorem dX9_init_21 : decode cX9_init 21 = .ok (.return_, 1) := by decide +kernel
theorem dX9_clear_0 : decode cX9_clear 0 = .ok (.aload_n 0, 1) := by decide +kernel
theorem dX9_clear_1 : decode cX9_clear 1 = .ok (.getfield 9, 3) := by decide +kernel
theorem dX9_clear_4 : decode cX9_clear 4 = .ok (.iconst (-1), 1) := by decide +kernel
theorem dX9_clear_5 : decode cX9_clear 5 = .ok (.invokestatic 15, 3) := by decide +kernel
theorem dX9_clear_8 : decode cX9_clear 8 = .ok (.return_, 1) := by decide +kernel
theorem dX9_get_0 : decode cX9_get 0 = .ok (.aload_n 0, 1) := by decide +kernel
theorem dX9_get_1 : decode cX9_get 1 = .ok (.iload_n 1, 1) := by decide +kernel
theorem dX9_get_2 : decode cX9_get 2 = .ok (.invokevirtual 21, 3) := by decide +kernel
theorem dX9_get_5 : decode cX9_get 5 = .ok (.ifCond .eq 12, 3) := by decide +kernel
theorem dX9_get_8 : decode cX9_get 8 = .ok (.aload_n 0, 1) := by decide +kernel
theorem dX9_get_9 : decode cX9_get 9 = .ok (.getfield 9, 3) := by decide +kernel
theorem dX9_get_12 : decode cX9_get 12 = .ok (.iload_n 1, 1) := by decide +kernel
theorem dX9_get_13 : decode cX9_get 13 = .ok (.iaload, 1) := by decide +kernel
theorem dX9_get_14 : decode cX9_get 14 = .ok (.goto 4, 3) := by decide +kernel
theorem dX9_get_17 : decode cX9_get 17 = .ok (.iconst (-1), 1) := by decide +kernel
theorem dX9_get_18 : decode cX9_get 18 = .ok (.ireturn, 1) := by decide +kernel
theorem dX9_set_0 : decode cX9_set 0 = .ok (.aload_n 0, 1) := by decide +kernel
theorem dX9_set_1 : decode cX9_set 1 = .ok (.iload_n 1, 1) := by decide +kernel
theorem dX9_set_2 : decode cX9_set 2 = .ok (.invokevirtual 21, 3) := by decide +kernel
theorem dX9_set_5 : decode cX9_set 5 = .ok (.ifCond .eq 10, 3) := by decide +kernel
theorem dX9_set_8 : decode cX9_set 8 = .ok (.aload_n 0, 1) := by decide +kernel
theorem dX9_set_9 : decode cX9_set 9 = .ok (.getfield 9, 3) := by decide +kernel
theorem dX9_set_12 : decode cX9_set 12 = .ok (.iload_n 1, 1) := by decide +kernel
theorem dX9_set_13 : decode cX9_set 13 = .ok (.iload_n 2, 1) := by decide +kernel
theorem dX9_set_14 : decode cX9_set 14 = .ok (.iastore, 1) := by decide +kernel
theorem dX9_set_15 : decode cX9_set 15 = .ok (.return_, 1) := by decide +kernel
theorem dX9_isCell_0 : decode cX9_isCell 0 = .ok (.iload_n 1, 1) := by decide +kernel
theorem dX9_isCell_1 : decode cX9_isCell 1 = .ok (.ifCond .lt 16, 3) := by decide +kernel
theorem dX9_isCell_4 : decode cX9_isCell 4 = .ok (.iload_n 1, 1) := by decide +kernel
theorem dX9_isCell_5 : decode cX9_isCell 5 = .ok (.aload_n 0, 1) := by decide +kernel
theorem dX9_isCell_6 : decode cX9_isCell 6 = .ok (.getfield 9, 3) := by decide +kernel
theorem dX9_isCell_9 : decode cX9_isCell 9 = .ok (.arraylength, 1) := by decide +kernel
theorem dX9_isCell_10 : decode cX9_isCell 10 = .ok (.if_icmp .ge 7, 3) := by decide +kernel
theorem dX9_isCell_13 : decode cX9_isCell 13 = .ok (.iconst 1, 1) := by decide +kernel
theorem dX9_isCell_14 : decode cX9_isCell 14 = .ok (.goto 4, 3) := by decide +kernel
theorem dX9_isCell_17 : decode cX9_isCell 17 = .ok (.iconst 0, 1) := by decide +kernel
theorem dX9_isCell_18 : decode cX9_isCell 18 = .ok (.ireturn, 1) := by decide +kernel
theorem dX0_init_0 : decode cX0_init 0 = .ok (.aload_n 0, 1) := by decide +kernel
theorem dX0_init_1 : decode cX0_init 1 = .ok (.invokespecial 3, 3) := by decide +kernel
theorem dX0_init_4 : decode cX0_init 4 = .ok (.aload_n 0, 1) := by decide +kernel
theorem dX0_init_5 : decode cX0_init 5 = .ok (.iconst 0, 1) := by decide +kernel
theorem dX0_init_6 : decode cX0_init 6 = .ok (.putfield 9, 3) := by decide +kernel
theorem dX0_init_9 : decode cX0_init 9 = .ok (.aload_n 0, 1) := by decide +kernel
theorem dX0_init_10 : decode cX0_init 10 = .ok (.bipush 8, 2) := by decide +kernel
theorem dX0_init_12 : decode cX0_init 12 = .ok (.newarray .int, 2) := by decide +kernel
theorem dX0_init_14 : decode cX0_init 14 = .ok (.putfield 15, 3) := by decide +kernel
theorem dX0_init_17 : decode cX0_init 17 = .ok (.aload_n 0, 1) := by decide +kernel
theorem dX0_init_18 : decode cX0_init 18 = .ok (.bipush 8, 2) := by decide +kernel
theorem dX0_init_20 : decode cX0_init 20 = .ok (.newarray .int, 2) := by decide +kernel
theorem dX0_init_22 : decode cX0_init 22 = .ok (.putfield 19, 3) := by decide +kernel
theorem dX0_init_25 : decode cX0_init 25 = .ok (.aload_n 0, 1) := by decide +kernel
theorem dX0_init_26 : decode cX0_init 26 = .ok (.getfield 19, 3) := by decide +kernel
theorem dX0_init_29 : decode cX0_init 29 = .ok (.iconst (-1), 1) := by decide +kernel
theorem dX0_init_30 : decode cX0_init 30 = .ok (.invokestatic 22, 3) := by decide +kernel
theorem dX0_init_33 : decode cX0_init 33 = .ok (.return_, 1) := by decide +kernel
theorem dX0_begin_0 : decode cX0_begin 0 = .ok (.aload_n 0, 1) := by decide +kernel
theorem dX0_begin_1 : decode cX0_begin 1 = .ok (.iload_n 1, 1) := by decide +kernel
theorem dX0_begin_2 : decode cX0_begin 2 = .ok (.putfield 28, 3) := by decide +kernel
theorem dX0_begin_5 : decode cX0_begin 5 = .ok (.aload_n 0, 1) := by decide +kernel
theorem dX0_begin_6 : decode cX0_begin 6 = .ok (.iload_n 2, 1) := by decide +kernel
theorem dX0_begin_7 : decode cX0_begin 7 = .ok (.putfield 31, 3) := by decide +kernel
theorem dX0_begin_10 : decode cX0_begin 10 = .ok (.aload_n 0, 1) := by decide +kernel
theorem dX0_begin_11 : decode cX0_begin 11 = .ok (.iload_n 3, 1) := by decide +kernel
theorem dX0_begin_12 : decode cX0_begin 12 = .ok (.putfield 34, 3) := by decide +kernel
theorem dX0_begin_15 : decode cX0_begin 15 = .ok (.aload_n 0, 1) := by decide +kernel
theorem dX0_begin_16 : decode cX0_begin 16 = .ok (.iload 4, 2) := by decide +kernel
theorem dX0_begin_18 : decode cX0_begin 18 = .ok (.putfield 37, 3) := by decide +kernel
theorem dX0_begin_21 : decode cX0_begin 21 = .ok (.return_, 1) := by decide +kernel
theorem dX0_canBeApprovedBy_0 : decode cX0_canBeApprovedBy 0 = .ok (.iload_n 1, 1) := by decide +kernel
theorem dX0_canBeApprovedBy_1 : decode cX0_canBeApprovedBy 1 = .ok (.aload_n 0, 1) := by decide +kernel
theorem dX0_canBeApprovedBy_2 : decode cX0_canBeApprovedBy 2 = .ok (.getfield 28, 3) := by decide +kernel
theorem dX0_canBeApprovedBy_5 : decode cX0_canBeApprovedBy 5 = .ok (.if_icmp .eq 26, 3) := by decide +kernel
theorem dX0_canBeApprovedBy_8 : decode cX0_canBeApprovedBy 8 = .ok (.aload_n 0, 1) := by decide +kernel
theorem dX0_canBeApprovedBy_9 : decode cX0_canBeApprovedBy 9 = .ok (.getfield 9, 3) := by decide +kernel
theorem dX0_canBeApprovedBy_12 : decode cX0_canBeApprovedBy 12 = .ok (.iconst 3, 1) := by decide +kernel
theorem dX0_canBeApprovedBy_13 : decode cX0_canBeApprovedBy 13 = .ok (.if_icmp .eq 18, 3) := by decide +kernel
theorem dX0_canBeApprovedBy_16 : decode cX0_canBeApprovedBy 16 = .ok (.aload_n 0, 1) := by decide +kernel
theorem dX0_canBeApprovedBy_17 : decode cX0_canBeApprovedBy 17 = .ok (.getfield 40, 3) := by decide +kernel
theorem dX0_canBeApprovedBy_20 : decode cX0_canBeApprovedBy 20 = .ok (.iload_n 1, 1) := by decide +kernel
theorem dX0_canBeApprovedBy_21 : decode cX0_canBeApprovedBy 21 = .ok (.invokestatic 43, 3) := by decide +kernel
theorem dX0_canBeApprovedBy_24 : decode cX0_canBeApprovedBy 24 = .ok (.ifCond .ne 7, 3) := by decide +kernel
theorem dX0_canBeApprovedBy_27 : decode cX0_canBeApprovedBy 27 = .ok (.iconst 1, 1) := by decide +kernel
theorem dX0_canBeApprovedBy_28 : decode cX0_canBeApprovedBy 28 = .ok (.goto 4, 3) := by decide +kernel
theorem dX0_canBeApprovedBy_31 : decode cX0_canBeApprovedBy 31 = .ok (.iconst 0, 1) := by decide +kernel
theorem dX0_canBeApprovedBy_32 : decode cX0_canBeApprovedBy 32 = .ok (.ireturn, 1) := by decide +kernel
theorem dX0_addApproval_0 : decode cX0_addApproval 0 = .ok (.aload_n 0, 1) := by decide +kernel
theorem dX0_addApproval_1 : decode cX0_addApproval 1 = .ok (.aload_n 0, 1) := by decide +kernel
theorem dX0_addApproval_2 : decode cX0_addApproval 2 = .ok (.getfield 40, 3) := by decide +kernel
theorem dX0_addApproval_5 : decode cX0_addApproval 5 = .ok (.iload_n 1, 1) := by decide +kernel
theorem dX0_addApproval_6 : decode cX0_addApproval 6 = .ok (.iconst 1, 1) := by decide +kernel
theorem dX0_addApproval_7 : decode cX0_addApproval 7 = .ok (.invokestatic 47, 3) := by decide +kernel
theorem dX0_addApproval_10 : decode cX0_addApproval 10 = .ok (.putfield 40, 3) := by decide +kernel
theorem dX0_addApproval_13 : decode cX0_addApproval 13 = .ok (.aload_n 0, 1) := by decide +kernel
theorem dX0_addApproval_14 : decode cX0_addApproval 14 = .ok (.getfield 15, 3) := by decide +kernel
theorem dX0_addApproval_17 : decode cX0_addApproval 17 = .ok (.iload_n 1, 1) := by decide +kernel
theorem dX0_addApproval_18 : decode cX0_addApproval 18 = .ok (.iload_n 2, 1) := by decide +kernel
theorem dX0_addApproval_19 : decode cX0_addApproval 19 = .ok (.iastore, 1) := by decide +kernel
theorem dX0_addApproval_20 : decode cX0_addApproval 20 = .ok (.aload_n 0, 1) := by decide +kernel
theorem dX0_addApproval_21 : decode cX0_addApproval 21 = .ok (.getfield 19, 3) := by decide +kernel
theorem dX0_addApproval_24 : decode cX0_addApproval 24 = .ok (.iload_n 1, 1) := by decide +kernel
theorem dX0_addApproval_25 : decode cX0_addApproval 25 = .ok (.iload_n 3, 1) := by decide +kernel
theorem dX0_addApproval_26 : decode cX0_addApproval 26 = .ok (.iastore, 1) := by decide +kernel
theorem dX0_addApproval_27 : decode cX0_addApproval 27 = .ok (.return_, 1) := by decide +kernel
theorem dX0_countGood_0 : decode cX0_countGood 0 = .ok (.aload_n 0, 1) := by decide +kernel
theorem dX0_countGood_1 : decode cX0_countGood 1 = .ok (.getfield 40, 3) := by decide +kernel
theorem dX0_countGood_4 : decode cX0_countGood 4 = .ok (.invokestatic 51, 3) := by decide +kernel
theorem dX0_countGood_7 : decode cX0_countGood 7 = .ok (.ireturn, 1) := by decide +kernel
theorem dX0_loseByLeaving_0 : decode cX0_loseByLeaving 0 = .ok (.aload_n 0, 1) := by decide +kernel
theorem dX0_loseByLeaving_1 : decode cX0_loseByLeaving 1 = .ok (.getfield 9, 3) := by decide +kernel
theorem dX0_loseByLeaving_4 : decode cX0_loseByLeaving 4 = .ok (.iconst 1, 1) := by decide +kernel
theorem dX0_loseByLeaving_5 : decode cX0_loseByLeaving 5 = .ok (.if_icmp .ne 7, 3) := by decide +kernel
theorem dX0_loseByLeaving_8 : decode cX0_loseByLeaving 8 = .ok (.iconst 1, 1) := by decide +kernel
theorem dX0_loseByLeaving_9 : decode cX0_loseByLeaving 9 = .ok (.goto 4, 3) := by decide +kernel
theorem dX0_loseByLeaving_12 : decode cX0_loseByLeaving 12 = .ok (.iconst 0, 1) := by decide +kernel
theorem dX0_loseByLeaving_13 : decode cX0_loseByLeaving 13 = .ok (.istore_n 3, 1) := by decide +kernel
theorem dX0_loseByLeaving_14 : decode cX0_loseByLeaving 14 = .ok (.aload_n 0, 1) := by decide +kernel
theorem dX0_loseByLeaving_15 : decode cX0_loseByLeaving 15 = .ok (.getfield 40, 3) := by decide +kernel
theorem dX0_loseByLeaving_18 : decode cX0_loseByLeaving 18 = .ok (.iload_n 1, 1) := by decide +kernel
theorem dX0_loseByLeaving_19 : decode cX0_loseByLeaving 19 = .ok (.invokestatic 43, 3) := by decide +kernel
theorem dX0_loseByLeaving_22 : decode cX0_loseByLeaving 22 = .ok (.ifCond .eq 29, 3) := by decide +kernel
theorem dX0_loseByLeaving_25 : decode cX0_loseByLeaving 25 = .ok (.iload_n 2, 1) := by decide +kernel
theorem dX0_loseByLeaving_26 : decode cX0_loseByLeaving 26 = .ok (.aload_n 0, 1) := by decide +kernel
theorem dX0_loseByLeaving_27 : decode cX0_loseByLeaving 27 = .ok (.getfield 15, 3) := by decide +kernel
theorem dX0_loseByLeaving_30 : decode cX0_loseByLeaving 30 = .ok (.iload_n 1, 1) := by decide +kernel
theorem dX0_loseByLeaving_31 : decode cX0_loseByLeaving 31 = .ok (.iaload, 1) := by decide +kernel
theorem dX0_loseByLeaving_32 : decode cX0_loseByLeaving 32 = .ok (.isub, 1) := by decide +kernel
theorem dX0_loseByLeaving_33 : decode cX0_loseByLeaving 33 = .ok (.bipush 30, 2) := by decide +kernel
theorem dX0_loseByLeaving_35 : decode cX0_loseByLeaving 35 = .ok (.if_icmp .ge 16, 3) := by decide +kernel
theorem dX0_loseByLeaving_38 : decode cX0_loseByLeaving 38 = .ok (.aload_n 0, 1) := by decide +kernel
theorem dX0_loseByLeaving_39 : decode cX0_loseByLeaving 39 = .ok (.aload_n 0, 1) := by decide +kernel
theorem dX0_loseByLeaving_40 : decode cX0_loseByLeaving 40 = .ok (.getfield 40, 3) := by decide +kernel
theorem dX0_loseByLeaving_43 : decode cX0_loseByLeaving 43 = .ok (.iload_n 1, 1) := by decide +kernel
theorem dX0_loseByLeaving_44 : decode cX0_loseByLeaving 44 = .ok (.iconst 0, 1) := by decide +kernel
theorem dX0_loseByLeaving_45 : decode cX0_loseByLeaving 45 = .ok (.invokestatic 47, 3) := by decide +kernel
theorem dX0_loseByLeaving_48 : decode cX0_loseByLeaving 48 = .ok (.putfield 40, 3) := by decide +kernel
theorem dX0_loseByLeaving_51 : decode cX0_loseByLeaving 51 = .ok (.aload_n 0, 1) := by decide +kernel
theorem dX0_loseByLeaving_52 : decode cX0_loseByLeaving 52 = .ok (.getfield 28, 3) := by decide +kernel
theorem dX0_loseByLeaving_55 : decode cX0_loseByLeaving 55 = .ok (.iload_n 1, 1) := by decide +kernel
theorem dX0_loseByLeaving_56 : decode cX0_loseByLeaving 56 = .ok (.if_icmp .ne 22, 3) := by decide +kernel
theorem dX0_loseByLeaving_59 : decode cX0_loseByLeaving 59 = .ok (.iload_n 2, 1) := by decide +kernel
theorem dX0_loseByLeaving_60 : decode cX0_loseByLeaving 60 = .ok (.aload_n 0, 1) := by decide +kernel
theorem dX0_loseByLeaving_61 : decode cX0_loseByLeaving 61 = .ok (.getfield 37, 3) := by decide +kernel
theorem dX0_loseByLeaving_64 : decode cX0_loseByLeaving 64 = .ok (.isub, 1) := by decide +kernel
theorem dX0_loseByLeaving_65 : decode cX0_loseByLeaving 65 = .ok (.bipush 30, 2) := by decide +kernel
theorem dX0_loseByLeaving_67 : decode cX0_loseByLeaving 67 = .ok (.if_icmp .ge 11, 3) := by decide +kernel
theorem dX0_loseByLeaving_70 : decode cX0_loseByLeaving 70 = .ok (.aload_n 0, 1) := by decide +kernel
theorem dX0_loseByLeaving_71 : decode cX0_loseByLeaving 71 = .ok (.iconst 3, 1) := by decide +kernel
theorem dX0_loseByLeaving_72 : decode cX0_loseByLeaving 72 = .ok (.putfield 9, 3) := by decide +kernel
theorem dX0_loseByLeaving_75 : decode cX0_loseByLeaving 75 = .ok (.goto 20, 3) := by decide +kernel
theorem dX0_loseByLeaving_78 : decode cX0_loseByLeaving 78 = .ok (.iload_n 3, 1) := by decide +kernel
theorem dX0_loseByLeaving_79 : decode cX0_loseByLeaving 79 = .ok (.ifCond .eq 16, 3) := by decide +kernel
theorem dX0_loseByLeaving_82 : decode cX0_loseByLeaving 82 = .ok (.aload_n 0, 1) := by decide +kernel
theorem dX0_loseByLeaving_83 : decode cX0_loseByLeaving 83 = .ok (.invokevirtual 57, 3) := by decide +kernel
theorem dX0_loseByLeaving_86 : decode cX0_loseByLeaving 86 = .ok (.iconst 2, 1) := by decide +kernel
theorem dX0_loseByLeaving_87 : decode cX0_loseByLeaving 87 = .ok (.if_icmp .ge 8, 3) := by decide +kernel
theorem dX0_loseByLeaving_90 : decode cX0_loseByLeaving 90 = .ok (.aload_n 0, 1) := by decide +kernel
theorem dX0_loseByLeaving_91 : decode cX0_loseByLeaving 91 = .ok (.iconst 2, 1) := by decide +kernel
theorem dX0_loseByLeaving_92 : decode cX0_loseByLeaving 92 = .ok (.putfield 9, 3) := by decide +kernel
theorem dX0_loseByLeaving_95 : decode cX0_loseByLeaving 95 = .ok (.iload_n 3, 1) := by decide +kernel
theorem dX0_loseByLeaving_96 : decode cX0_loseByLeaving 96 = .ok (.ifCond .eq 15, 3) := by decide +kernel
theorem dX0_loseByLeaving_99 : decode cX0_loseByLeaving 99 = .ok (.aload_n 0, 1) := by decide +kernel
theorem dX0_loseByLeaving_100 : decode cX0_loseByLeaving 100 = .ok (.getfield 9, 3) := by decide +kernel
theorem dX0_loseByLeaving_103 : decode cX0_loseByLeaving 103 = .ok (.iconst 1, 1) := by decide +kernel
theorem dX0_loseByLeaving_104 : decode cX0_loseByLeaving 104 = .ok (.if_icmp .eq 7, 3) := by decide +kernel
theorem dX0_loseByLeaving_107 : decode cX0_loseByLeaving 107 = .ok (.iconst 1, 1) := by decide +kernel
theorem dX0_loseByLeaving_108 : decode cX0_loseByLeaving 108 = .ok (.goto 4, 3) := by decide +kernel
theorem dX0_loseByLeaving_111 : decode cX0_loseByLeaving 111 = .ok (.iconst 0, 1) := by decide +kernel
theorem dX0_loseByLeaving_112 : decode cX0_loseByLeaving 112 = .ok (.ireturn, 1) := by decide +kernel
theorem dX0_isHeldAnew_0 : decode cX0_isHeldAnew 0 = .ok (.aload_n 0, 1) := by decide +kernel
theorem dX0_isHeldAnew_1 : decode cX0_isHeldAnew 1 = .ok (.aload_n 1, 1) := by decide +kernel
theorem dX0_isHeldAnew_2 : decode cX0_isHeldAnew 2 = .ok (.invokevirtual 61, 3) := by decide +kernel
theorem dX0_isHeldAnew_5 : decode cX0_isHeldAnew 5 = .ok (.ifCond .eq 5, 3) := by decide +kernel
theorem dX0_isHeldAnew_8 : decode cX0_isHeldAnew 8 = .ok (.iconst 0, 1) := by decide +kernel
theorem dX0_isHeldAnew_9 : decode cX0_isHeldAnew 9 = .ok (.ireturn, 1) := by decide +kernel
theorem dX0_isHeldAnew_10 : decode cX0_isHeldAnew 10 = .ok (.iconst 0, 1) := by decide +kernel
theorem dX0_isHeldAnew_11 : decode cX0_isHeldAnew 11 = .ok (.istore_n 2, 1) := by decide +kernel
theorem dX0_isHeldAnew_12 : decode cX0_isHeldAnew 12 = .ok (.iconst 0, 1) := by decide +kernel
theorem dX0_isHeldAnew_13 : decode cX0_isHeldAnew 13 = .ok (.istore_n 3, 1) := by decide +kernel
theorem dX0_isHeldAnew_14 : decode cX0_isHeldAnew 14 = .ok (.iload_n 3, 1) := by decide +kernel
theorem dX0_isHeldAnew_15 : decode cX0_isHeldAnew 15 = .ok (.bipush 8, 2) := by decide +kernel
theorem dX0_isHeldAnew_17 : decode cX0_isHeldAnew 17 = .ok (.if_icmp .ge 37, 3) := by decide +kernel
theorem dX0_isHeldAnew_20 : decode cX0_isHeldAnew 20 = .ok (.aload_n 0, 1) := by decide +kernel
theorem dX0_isHeldAnew_21 : decode cX0_isHeldAnew 21 = .ok (.getfield 19, 3) := by decide +kernel
theorem dX0_isHeldAnew_24 : decode cX0_isHeldAnew 24 = .ok (.iload_n 3, 1) := by decide +kernel
theorem dX0_isHeldAnew_25 : decode cX0_isHeldAnew 25 = .ok (.iaload, 1) := by decide +kernel
theorem dX0_isHeldAnew_26 : decode cX0_isHeldAnew 26 = .ok (.iconst (-1), 1) := by decide +kernel
theorem dX0_isHeldAnew_27 : decode cX0_isHeldAnew 27 = .ok (.if_icmp .eq 21, 3) := by decide +kernel
theorem dX0_isHeldAnew_30 : decode cX0_isHeldAnew 30 = .ok (.aload_n 1, 1) := by decide +kernel
theorem dX0_isHeldAnew_31 : decode cX0_isHeldAnew 31 = .ok (.iload_n 3, 1) := by decide +kernel
theorem dX0_isHeldAnew_32 : decode cX0_isHeldAnew 32 = .ok (.aaload, 1) := by decide +kernel
theorem dX0_isHeldAnew_33 : decode cX0_isHeldAnew 33 = .ok (.aload_n 0, 1) := by decide +kernel
theorem dX0_isHeldAnew_34 : decode cX0_isHeldAnew 34 = .ok (.getfield 15, 3) := by decide +kernel
theorem dX0_isHeldAnew_37 : decode cX0_isHeldAnew 37 = .ok (.iload_n 3, 1) := by decide +kernel
theorem dX0_isHeldAnew_38 : decode cX0_isHeldAnew 38 = .ok (.iaload, 1) := by decide +kernel
theorem dX0_isHeldAnew_39 : decode cX0_isHeldAnew 39 = .ok (.invokevirtual 65, 3) := by decide +kernel
theorem dX0_isHeldAnew_42 : decode cX0_isHeldAnew 42 = .ok (.ifCond .ne 6, 3) := by decide +kernel
theorem dX0_isHeldAnew_45 : decode cX0_isHeldAnew 45 = .ok (.iinc 2 1, 3) := by decide +kernel
theorem dX0_isHeldAnew_48 : decode cX0_isHeldAnew 48 = .ok (.iinc 3 1, 3) := by decide +kernel
theorem dX0_isHeldAnew_51 : decode cX0_isHeldAnew 51 = .ok (.goto (-37), 3) := by decide +kernel
theorem dX0_isHeldAnew_54 : decode cX0_isHeldAnew 54 = .ok (.iload_n 2, 1) := by decide +kernel
theorem dX0_isHeldAnew_55 : decode cX0_isHeldAnew 55 = .ok (.iconst 2, 1) := by decide +kernel
theorem dX0_isHeldAnew_56 : decode cX0_isHeldAnew 56 = .ok (.if_icmp .lt 7, 3) := by decide +kernel
theorem dX0_isHeldAnew_59 : decode cX0_isHeldAnew 59 = .ok (.iconst 1, 1) := by decide +kernel
theorem dX0_isHeldAnew_60 : decode cX0_isHeldAnew 60 = .ok (.goto 4, 3) := by decide +kernel
theorem dX0_isHeldAnew_63 : decode cX0_isHeldAnew 63 = .ok (.iconst 0, 1) := by decide +kernel
theorem dX0_isHeldAnew_64 : decode cX0_isHeldAnew 64 = .ok (.ireturn, 1) := by decide +kernel
theorem dX0_isProposalVoided_0 : decode cX0_isProposalVoided 0 = .ok (.aload_n 0, 1) := by decide +kernel
theorem dX0_isProposalVoided_1 : decode cX0_isProposalVoided 1 = .ok (.getfield 28, 3) := by decide +kernel
theorem dX0_isProposalVoided_4 : decode cX0_isProposalVoided 4 = .ok (.ifCond .lt 32, 3) := by decide +kernel
theorem dX0_isProposalVoided_7 : decode cX0_isProposalVoided 7 = .ok (.aload_n 0, 1) := by decide +kernel
theorem dX0_isProposalVoided_8 : decode cX0_isProposalVoided 8 = .ok (.getfield 28, 3) := by decide +kernel
theorem dX0_isProposalVoided_11 : decode cX0_isProposalVoided 11 = .ok (.aload_n 1, 1) := by decide +kernel
theorem dX0_isProposalVoided_12 : decode cX0_isProposalVoided 12 = .ok (.arraylength, 1) := by decide +kernel
theorem dX0_isProposalVoided_13 : decode cX0_isProposalVoided 13 = .ok (.if_icmp .ge 23, 3) := by decide +kernel
theorem dX0_isProposalVoided_16 : decode cX0_isProposalVoided 16 = .ok (.aload_n 1, 1) := by decide +kernel
theorem dX0_isProposalVoided_17 : decode cX0_isProposalVoided 17 = .ok (.aload_n 0, 1) := by decide +kernel
theorem dX0_isProposalVoided_18 : decode cX0_isProposalVoided 18 = .ok (.getfield 28, 3) := by decide +kernel
theorem dX0_isProposalVoided_21 : decode cX0_isProposalVoided 21 = .ok (.aaload, 1) := by decide +kernel
theorem dX0_isProposalVoided_22 : decode cX0_isProposalVoided 22 = .ok (.aload_n 0, 1) := by decide +kernel
theorem dX0_isProposalVoided_23 : decode cX0_isProposalVoided 23 = .ok (.getfield 37, 3) := by decide +kernel
theorem dX0_isProposalVoided_26 : decode cX0_isProposalVoided 26 = .ok (.invokevirtual 65, 3) := by decide +kernel
theorem dX0_isProposalVoided_29 : decode cX0_isProposalVoided 29 = .ok (.ifCond .eq 7, 3) := by decide +kernel
theorem dX0_isProposalVoided_32 : decode cX0_isProposalVoided 32 = .ok (.iconst 1, 1) := by decide +kernel
theorem dX0_isProposalVoided_33 : decode cX0_isProposalVoided 33 = .ok (.goto 4, 3) := by decide +kernel
theorem dX0_isProposalVoided_36 : decode cX0_isProposalVoided 36 = .ok (.iconst 0, 1) := by decide +kernel
theorem dX0_isProposalVoided_37 : decode cX0_isProposalVoided 37 = .ok (.ireturn, 1) := by decide +kernel
theorem dX0_firstHeldMoment_0 : decode cX0_firstHeldMoment 0 = .ok (.iconst (-1), 1) := by decide +kernel
theorem dX0_firstHeldMoment_1 : decode cX0_firstHeldMoment 1 = .ok (.istore_n 2, 1) := by decide +kernel
theorem dX0_firstHeldMoment_2 : decode cX0_firstHeldMoment 2 = .ok (.iconst 0, 1) := by decide +kernel
theorem dX0_firstHeldMoment_3 : decode cX0_firstHeldMoment 3 = .ok (.istore_n 3, 1) := by decide +kernel
theorem dX0_firstHeldMoment_4 : decode cX0_firstHeldMoment 4 = .ok (.iload_n 3, 1) := by decide +kernel
theorem dX0_firstHeldMoment_5 : decode cX0_firstHeldMoment 5 = .ok (.bipush 8, 2) := by decide +kernel
theorem dX0_firstHeldMoment_7 : decode cX0_firstHeldMoment 7 = .ok (.if_icmp .ge 60, 3) := by decide +kernel
theorem dX0_firstHeldMoment_10 : decode cX0_firstHeldMoment 10 = .ok (.aload_n 0, 1) := by decide +kernel
theorem dX0_firstHeldMoment_11 : decode cX0_firstHeldMoment 11 = .ok (.getfield 19, 3) := by decide +kernel
theorem dX0_firstHeldMoment_14 : decode cX0_firstHeldMoment 14 = .ok (.iload_n 3, 1) := by decide +kernel
theorem dX0_firstHeldMoment_15 : decode cX0_firstHeldMoment 15 = .ok (.iaload, 1) := by decide +kernel
theorem dX0_firstHeldMoment_16 : decode cX0_firstHeldMoment 16 = .ok (.istore 4, 2) := by decide +kernel
theorem dX0_firstHeldMoment_18 : decode cX0_firstHeldMoment 18 = .ok (.iload 4, 2) := by decide +kernel
theorem dX0_firstHeldMoment_20 : decode cX0_firstHeldMoment 20 = .ok (.iconst (-1), 1) := by decide +kernel
theorem dX0_firstHeldMoment_21 : decode cX0_firstHeldMoment 21 = .ok (.if_icmp .eq 18, 3) := by decide +kernel
theorem dX0_firstHeldMoment_24 : decode cX0_firstHeldMoment 24 = .ok (.iload_n 2, 1) := by decide +kernel
theorem dX0_firstHeldMoment_25 : decode cX0_firstHeldMoment 25 = .ok (.iconst (-1), 1) := by decide +kernel
theorem dX0_firstHeldMoment_26 : decode cX0_firstHeldMoment 26 = .ok (.if_icmp .eq 9, 3) := by decide +kernel
theorem dX0_firstHeldMoment_29 : decode cX0_firstHeldMoment 29 = .ok (.iload 4, 2) := by decide +kernel
theorem dX0_firstHeldMoment_31 : decode cX0_firstHeldMoment 31 = .ok (.iload_n 2, 1) := by decide +kernel
theorem dX0_firstHeldMoment_32 : decode cX0_firstHeldMoment 32 = .ok (.if_icmp .ge 7, 3) := by decide +kernel
theorem dX0_firstHeldMoment_35 : decode cX0_firstHeldMoment 35 = .ok (.iconst 1, 1) := by decide +kernel
theorem dX0_firstHeldMoment_36 : decode cX0_firstHeldMoment 36 = .ok (.goto 4, 3) := by decide +kernel
theorem dX0_firstHeldMoment_39 : decode cX0_firstHeldMoment 39 = .ok (.iconst 0, 1) := by decide +kernel
theorem dX0_firstHeldMoment_40 : decode cX0_firstHeldMoment 40 = .ok (.istore 5, 2) := by decide +kernel
theorem dX0_firstHeldMoment_42 : decode cX0_firstHeldMoment 42 = .ok (.iload 5, 2) := by decide +kernel
theorem dX0_firstHeldMoment_44 : decode cX0_firstHeldMoment 44 = .ok (.ifCond .eq 17, 3) := by decide +kernel
theorem dX0_firstHeldMoment_47 : decode cX0_firstHeldMoment 47 = .ok (.aload_n 0, 1) := by decide +kernel
theorem dX0_firstHeldMoment_48 : decode cX0_firstHeldMoment 48 = .ok (.iload 4, 2) := by decide +kernel
theorem dX0_firstHeldMoment_50 : decode cX0_firstHeldMoment 50 = .ok (.aload_n 1, 1) := by decide +kernel
theorem dX0_firstHeldMoment_51 : decode cX0_firstHeldMoment 51 = .ok (.invokevirtual 71, 3) := by decide +kernel
theorem dX0_firstHeldMoment_54 : decode cX0_firstHeldMoment 54 = .ok (.iconst 2, 1) := by decide +kernel
theorem dX0_firstHeldMoment_55 : decode cX0_firstHeldMoment 55 = .ok (.if_icmp .lt 6, 3) := by decide +kernel
theorem dX0_firstHeldMoment_58 : decode cX0_firstHeldMoment 58 = .ok (.iload 4, 2) := by decide +kernel
theorem dX0_firstHeldMoment_60 : decode cX0_firstHeldMoment 60 = .ok (.istore_n 2, 1) := by decide +kernel
theorem dX0_firstHeldMoment_61 : decode cX0_firstHeldMoment 61 = .ok (.iinc 3 1, 3) := by decide +kernel
theorem dX0_firstHeldMoment_64 : decode cX0_firstHeldMoment 64 = .ok (.goto (-60), 3) := by decide +kernel
theorem dX0_firstHeldMoment_67 : decode cX0_firstHeldMoment 67 = .ok (.iload_n 2, 1) := by decide +kernel
theorem dX0_firstHeldMoment_68 : decode cX0_firstHeldMoment 68 = .ok (.ireturn, 1) := by decide +kernel
theorem dX0_countGoodAt_0 : decode cX0_countGoodAt 0 = .ok (.iconst 0, 1) := by decide +kernel
theorem dX0_countGoodAt_1 : decode cX0_countGoodAt 1 = .ok (.istore_n 3, 1) := by decide +kernel
theorem dX0_countGoodAt_2 : decode cX0_countGoodAt 2 = .ok (.iconst 0, 1) := by decide +kernel
theorem dX0_countGoodAt_3 : decode cX0_countGoodAt 3 = .ok (.istore 4, 2) := by decide +kernel
theorem dX0_countGoodAt_5 : decode cX0_countGoodAt 5 = .ok (.iload 4, 2) := by decide +kernel
theorem dX0_countGoodAt_7 : decode cX0_countGoodAt 7 = .ok (.bipush 8, 2) := by decide +kernel
theorem dX0_countGoodAt_9 : decode cX0_countGoodAt 9 = .ok (.if_icmp .ge 86, 3) := by decide +kernel
theorem dX0_countGoodAt_12 : decode cX0_countGoodAt 12 = .ok (.aload_n 0, 1) := by decide +kernel
theorem dX0_countGoodAt_13 : decode cX0_countGoodAt 13 = .ok (.getfield 19, 3) := by decide +kernel
theorem dX0_countGoodAt_16 : decode cX0_countGoodAt 16 = .ok (.iload 4, 2) := by decide +kernel
theorem dX0_countGoodAt_18 : decode cX0_countGoodAt 18 = .ok (.iaload, 1) := by decide +kernel
theorem dX0_countGoodAt_19 : decode cX0_countGoodAt 19 = .ok (.iconst (-1), 1) := by decide +kernel
theorem dX0_countGoodAt_20 : decode cX0_countGoodAt 20 = .ok (.if_icmp .eq 18, 3) := by decide +kernel
theorem dX0_countGoodAt_23 : decode cX0_countGoodAt 23 = .ok (.aload_n 0, 1) := by decide +kernel
theorem dX0_countGoodAt_24 : decode cX0_countGoodAt 24 = .ok (.getfield 19, 3) := by decide +kernel
theorem dX0_countGoodAt_27 : decode cX0_countGoodAt 27 = .ok (.iload 4, 2) := by decide +kernel
theorem dX0_countGoodAt_29 : decode cX0_countGoodAt 29 = .ok (.iaload, 1) := by decide +kernel
theorem dX0_countGoodAt_30 : decode cX0_countGoodAt 30 = .ok (.iload_n 1, 1) := by decide +kernel
theorem dX0_countGoodAt_31 : decode cX0_countGoodAt 31 = .ok (.if_icmp .gt 7, 3) := by decide +kernel
theorem dX0_countGoodAt_34 : decode cX0_countGoodAt 34 = .ok (.iconst 1, 1) := by decide +kernel
theorem dX0_countGoodAt_35 : decode cX0_countGoodAt 35 = .ok (.goto 4, 3) := by decide +kernel
theorem dX0_countGoodAt_38 : decode cX0_countGoodAt 38 = .ok (.iconst 0, 1) := by decide +kernel
theorem dX0_countGoodAt_39 : decode cX0_countGoodAt 39 = .ok (.istore 5, 2) := by decide +kernel
theorem dX0_countGoodAt_41 : decode cX0_countGoodAt 41 = .ok (.aload_n 2, 1) := by decide +kernel
theorem dX0_countGoodAt_42 : decode cX0_countGoodAt 42 = .ok (.iload 4, 2) := by decide +kernel
theorem dX0_countGoodAt_44 : decode cX0_countGoodAt 44 = .ok (.aaload, 1) := by decide +kernel
theorem dX0_countGoodAt_45 : decode cX0_countGoodAt 45 = .ok (.aload_n 0, 1) := by decide +kernel
theorem dX0_countGoodAt_46 : decode cX0_countGoodAt 46 = .ok (.getfield 15, 3) := by decide +kernel
theorem dX0_countGoodAt_49 : decode cX0_countGoodAt 49 = .ok (.iload 4, 2) := by decide +kernel
theorem dX0_countGoodAt_51 : decode cX0_countGoodAt 51 = .ok (.iaload, 1) := by decide +kernel
theorem dX0_countGoodAt_52 : decode cX0_countGoodAt 52 = .ok (.invokevirtual 65, 3) := by decide +kernel
theorem dX0_countGoodAt_55 : decode cX0_countGoodAt 55 = .ok (.ifCond .eq 18, 3) := by decide +kernel
theorem dX0_countGoodAt_58 : decode cX0_countGoodAt 58 = .ok (.aload_n 2, 1) := by decide +kernel
theorem dX0_countGoodAt_59 : decode cX0_countGoodAt 59 = .ok (.iload 4, 2) := by decide +kernel
theorem dX0_countGoodAt_61 : decode cX0_countGoodAt 61 = .ok (.aaload, 1) := by decide +kernel
theorem dX0_countGoodAt_62 : decode cX0_countGoodAt 62 = .ok (.getfield 75, 3) := by decide +kernel
theorem dX0_countGoodAt_65 : decode cX0_countGoodAt 65 = .ok (.iload_n 1, 1) := by decide +kernel
theorem dX0_countGoodAt_66 : decode cX0_countGoodAt 66 = .ok (.if_icmp .ge 7, 3) := by decide +kernel
theorem dX0_countGoodAt_69 : decode cX0_countGoodAt 69 = .ok (.iconst 1, 1) := by decide +kernel
theorem dX0_countGoodAt_70 : decode cX0_countGoodAt 70 = .ok (.goto 4, 3) := by decide +kernel
theorem dX0_countGoodAt_73 : decode cX0_countGoodAt 73 = .ok (.iconst 0, 1) := by decide +kernel
theorem dX0_countGoodAt_74 : decode cX0_countGoodAt 74 = .ok (.istore 6, 2) := by decide +kernel
theorem dX0_countGoodAt_76 : decode cX0_countGoodAt 76 = .ok (.iload 5, 2) := by decide +kernel
theorem dX0_countGoodAt_78 : decode cX0_countGoodAt 78 = .ok (.ifCond .eq 11, 3) := by decide +kernel
theorem dX0_countGoodAt_81 : decode cX0_countGoodAt 81 = .ok (.iload 6, 2) := by decide +kernel
theorem dX0_countGoodAt_83 : decode cX0_countGoodAt 83 = .ok (.ifCond .ne 6, 3) := by decide +kernel
theorem dX0_countGoodAt_86 : decode cX0_countGoodAt 86 = .ok (.iinc 3 1, 3) := by decide +kernel
theorem dX0_countGoodAt_89 : decode cX0_countGoodAt 89 = .ok (.iinc 4 1, 3) := by decide +kernel
theorem dX0_countGoodAt_92 : decode cX0_countGoodAt 92 = .ok (.goto (-87), 3) := by decide +kernel
theorem dX0_countGoodAt_95 : decode cX0_countGoodAt 95 = .ok (.iload_n 3, 1) := by decide +kernel
theorem dX0_countGoodAt_96 : decode cX0_countGoodAt 96 = .ok (.ireturn, 1) := by decide +kernel
theorem dX1_init_0 : decode cX1_init 0 = .ok (.aload_n 0, 1) := by decide +kernel
theorem dX1_init_1 : decode cX1_init 1 = .ok (.invokespecial 3, 3) := by decide +kernel
theorem dX1_init_4 : decode cX1_init 4 = .ok (.aload_n 0, 1) := by decide +kernel
theorem dX1_init_5 : decode cX1_init 5 = .ok (.new 9, 3) := by decide +kernel
theorem dX1_init_8 : decode cX1_init 8 = .ok (.dup, 1) := by decide +kernel
theorem dX1_init_9 : decode cX1_init 9 = .ok (.invokespecial 11, 3) := by decide +kernel
theorem dX1_init_12 : decode cX1_init 12 = .ok (.putfield 12, 3) := by decide +kernel
theorem dX1_init_15 : decode cX1_init 15 = .ok (.aload_n 0, 1) := by decide +kernel
theorem dX1_init_16 : decode cX1_init 16 = .ok (.bipush 40, 2) := by decide +kernel
theorem dX1_init_18 : decode cX1_init 18 = .ok (.newarray .int, 2) := by decide +kernel
theorem dX1_init_20 : decode cX1_init 20 = .ok (.putfield 18, 3) := by decide +kernel
theorem dX1_init_23 : decode cX1_init 23 = .ok (.aload_n 0, 1) := by decide +kernel
theorem dX1_init_24 : decode cX1_init 24 = .ok (.getfield 18, 3) := by decide +kernel
theorem dX1_init_27 : decode cX1_init 27 = .ok (.iconst (-1), 1) := by decide +kernel
theorem dX1_init_28 : decode cX1_init 28 = .ok (.invokestatic 22, 3) := by decide +kernel
theorem dX1_init_31 : decode cX1_init 31 = .ok (.return_, 1) := by decide +kernel
theorem dX1_rankOf_0 : decode cX1_rankOf 0 = .ok (.aload_n 0, 1) := by decide +kernel
theorem dX1_rankOf_1 : decode cX1_rankOf 1 = .ok (.iload_n 1, 1) := by decide +kernel
theorem dX1_rankOf_2 : decode cX1_rankOf 2 = .ok (.invokevirtual 28, 3) := by decide +kernel
theorem dX1_rankOf_5 : decode cX1_rankOf 5 = .ok (.ifCond .eq 12, 3) := by decide +kernel
theorem dX1_rankOf_8 : decode cX1_rankOf 8 = .ok (.aload_n 0, 1) := by decide +kernel
theorem dX1_rankOf_9 : decode cX1_rankOf 9 = .ok (.getfield 18, 3) := by decide +kernel
theorem dX1_rankOf_12 : decode cX1_rankOf 12 = .ok (.iload_n 1, 1) := by decide +kernel
theorem dX1_rankOf_13 : decode cX1_rankOf 13 = .ok (.iaload, 1) := by decide +kernel
theorem dX1_rankOf_14 : decode cX1_rankOf 14 = .ok (.goto 4, 3) := by decide +kernel
theorem dX1_rankOf_17 : decode cX1_rankOf 17 = .ok (.iconst (-1), 1) := by decide +kernel
theorem dX1_rankOf_18 : decode cX1_rankOf 18 = .ok (.ireturn, 1) := by decide +kernel
theorem dX1_setRank_0 : decode cX1_setRank 0 = .ok (.aload_n 0, 1) := by decide +kernel
theorem dX1_setRank_1 : decode cX1_setRank 1 = .ok (.iload_n 1, 1) := by decide +kernel
theorem dX1_setRank_2 : decode cX1_setRank 2 = .ok (.invokevirtual 28, 3) := by decide +kernel
theorem dX1_setRank_5 : decode cX1_setRank 5 = .ok (.ifCond .eq 10, 3) := by decide +kernel
theorem dX1_setRank_8 : decode cX1_setRank 8 = .ok (.aload_n 0, 1) := by decide +kernel
theorem dX1_setRank_9 : decode cX1_setRank 9 = .ok (.getfield 18, 3) := by decide +kernel
theorem dX1_setRank_12 : decode cX1_setRank 12 = .ok (.iload_n 1, 1) := by decide +kernel
theorem dX1_setRank_13 : decode cX1_setRank 13 = .ok (.iload_n 2, 1) := by decide +kernel
theorem dX1_setRank_14 : decode cX1_setRank 14 = .ok (.iastore, 1) := by decide +kernel
theorem dX1_setRank_15 : decode cX1_setRank 15 = .ok (.return_, 1) := by decide +kernel
theorem dX1_raise_0 : decode cX1_raise 0 = .ok (.aload_n 0, 1) := by decide +kernel
theorem dX1_raise_1 : decode cX1_raise 1 = .ok (.aload_n 0, 1) := by decide +kernel
theorem dX1_raise_2 : decode cX1_raise 2 = .ok (.getfield 12, 3) := by decide +kernel
theorem dX1_raise_5 : decode cX1_raise 5 = .ok (.iload_n 1, 1) := by decide +kernel
theorem dX1_raise_6 : decode cX1_raise 6 = .ok (.invokevirtual 32, 3) := by decide +kernel
theorem dX1_raise_9 : decode cX1_raise 9 = .ok (.invokevirtual 36, 3) := by decide +kernel
theorem dX1_raise_12 : decode cX1_raise 12 = .ok (.aload_n 0, 1) := by decide +kernel
theorem dX1_raise_13 : decode cX1_raise 13 = .ok (.iload_n 2, 1) := by decide +kernel
theorem dX1_raise_14 : decode cX1_raise 14 = .ok (.invokevirtual 36, 3) := by decide +kernel
theorem dX1_raise_17 : decode cX1_raise 17 = .ok (.if_icmp .ge 12, 3) := by decide +kernel
theorem dX1_raise_20 : decode cX1_raise 20 = .ok (.aload_n 0, 1) := by decide +kernel
theorem dX1_raise_21 : decode cX1_raise 21 = .ok (.getfield 12, 3) := by decide +kernel
theorem dX1_raise_24 : decode cX1_raise 24 = .ok (.iload_n 1, 1) := by decide +kernel
theorem dX1_raise_25 : decode cX1_raise 25 = .ok (.iload_n 2, 1) := by decide +kernel
theorem dX1_raise_26 : decode cX1_raise 26 = .ok (.invokevirtual 39, 3) := by decide +kernel
theorem dX1_raise_29 : decode cX1_raise 29 = .ok (.return_, 1) := by decide +kernel
theorem dX1_isRanked_0 : decode cX1_isRanked 0 = .ok (.iload_n 1, 1) := by decide +kernel
theorem dX1_isRanked_1 : decode cX1_isRanked 1 = .ok (.ifCond .lt 16, 3) := by decide +kernel
theorem dX1_isRanked_4 : decode cX1_isRanked 4 = .ok (.iload_n 1, 1) := by decide +kernel
theorem dX1_isRanked_5 : decode cX1_isRanked 5 = .ok (.aload_n 0, 1) := by decide +kernel
theorem dX1_isRanked_6 : decode cX1_isRanked 6 = .ok (.getfield 18, 3) := by decide +kernel
theorem dX1_isRanked_9 : decode cX1_isRanked 9 = .ok (.arraylength, 1) := by decide +kernel
theorem dX1_isRanked_10 : decode cX1_isRanked 10 = .ok (.if_icmp .ge 7, 3) := by decide +kernel
theorem dX1_isRanked_13 : decode cX1_isRanked 13 = .ok (.iconst 1, 1) := by decide +kernel
theorem dX1_isRanked_14 : decode cX1_isRanked 14 = .ok (.goto 4, 3) := by decide +kernel
theorem dX1_isRanked_17 : decode cX1_isRanked 17 = .ok (.iconst 0, 1) := by decide +kernel
theorem dX1_isRanked_18 : decode cX1_isRanked 18 = .ok (.ireturn, 1) := by decide +kernel
theorem dX2_init_0 : decode cX2_init 0 = .ok (.aload_n 0, 1) := by decide +kernel
theorem dX2_init_1 : decode cX2_init 1 = .ok (.invokespecial 3, 3) := by decide +kernel
theorem dX2_init_4 : decode cX2_init 4 = .ok (.aload_n 0, 1) := by decide +kernel
theorem dX2_init_5 : decode cX2_init 5 = .ok (.new 9, 3) := by decide +kernel
theorem dX2_init_8 : decode cX2_init 8 = .ok (.dup, 1) := by decide +kernel
theorem dX2_init_9 : decode cX2_init 9 = .ok (.invokespecial 11, 3) := by decide +kernel
theorem dX2_init_12 : decode cX2_init 12 = .ok (.putfield 12, 3) := by decide +kernel
theorem dX2_init_15 : decode cX2_init 15 = .ok (.aload_n 0, 1) := by decide +kernel
theorem dX2_init_16 : decode cX2_init 16 = .ok (.bipush 11, 2) := by decide +kernel
theorem dX2_init_18 : decode cX2_init 18 = .ok (.newarray .int, 2) := by decide +kernel
theorem dX2_init_20 : decode cX2_init 20 = .ok (.putfield 18, 3) := by decide +kernel
theorem dX2_init_23 : decode cX2_init 23 = .ok (.aload_n 0, 1) := by decide +kernel
theorem dX2_init_24 : decode cX2_init 24 = .ok (.iload_n 1, 1) := by decide +kernel
theorem dX2_init_25 : decode cX2_init 25 = .ok (.putfield 22, 3) := by decide +kernel
theorem dX2_init_28 : decode cX2_init 28 = .ok (.return_, 1) := by decide +kernel
theorem dX2_enterGroup_0 : decode cX2_enterGroup 0 = .ok (.aload_n 0, 1) := by decide +kernel
theorem dX2_enterGroup_1 : decode cX2_enterGroup 1 = .ok (.iload_n 1, 1) := by decide +kernel
theorem dX2_enterGroup_2 : decode cX2_enterGroup 2 = .ok (.putfield 26, 3) := by decide +kernel
theorem dX2_enterGroup_5 : decode cX2_enterGroup 5 = .ok (.aload_n 0, 1) := by decide +kernel
theorem dX2_enterGroup_6 : decode cX2_enterGroup 6 = .ok (.iconst 0, 1) := by decide +kernel
theorem dX2_enterGroup_7 : decode cX2_enterGroup 7 = .ok (.putfield 29, 3) := by decide +kernel
theorem dX2_enterGroup_10 : decode cX2_enterGroup 10 = .ok (.aload_n 0, 1) := by decide +kernel
theorem dX2_enterGroup_11 : decode cX2_enterGroup 11 = .ok (.aload_n 0, 1) := by decide +kernel
theorem dX2_enterGroup_12 : decode cX2_enterGroup 12 = .ok (.getfield 22, 3) := by decide +kernel
theorem dX2_enterGroup_15 : decode cX2_enterGroup 15 = .ok (.invokevirtual 32, 3) := by decide +kernel
theorem dX2_enterGroup_18 : decode cX2_enterGroup 18 = .ok (.iload_n 1, 1) := by decide +kernel
theorem dX2_enterGroup_19 : decode cX2_enterGroup 19 = .ok (.istore_n 3, 1) := by decide +kernel
theorem dX2_enterGroup_20 : decode cX2_enterGroup 20 = .ok (.bipush 10, 2) := by decide +kernel
theorem dX2_enterGroup_22 : decode cX2_enterGroup 22 = .ok (.istore 4, 2) := by decide +kernel
theorem dX2_enterGroup_24 : decode cX2_enterGroup 24 = .ok (.iload 4, 2) := by decide +kernel
theorem dX2_enterGroup_26 : decode cX2_enterGroup 26 = .ok (.ifCond .le 28, 3) := by decide +kernel
theorem dX2_enterGroup_29 : decode cX2_enterGroup 29 = .ok (.iload_n 3, 1) := by decide +kernel
theorem dX2_enterGroup_30 : decode cX2_enterGroup 30 = .ok (.ifCond .lt 24, 3) := by decide +kernel
theorem dX2_enterGroup_33 : decode cX2_enterGroup 33 = .ok (.iload_n 3, 1) := by decide +kernel
theorem dX2_enterGroup_34 : decode cX2_enterGroup 34 = .ok (.aload_n 2, 1) := by decide +kernel
theorem dX2_enterGroup_35 : decode cX2_enterGroup 35 = .ok (.arraylength, 1) := by decide +kernel
theorem dX2_enterGroup_36 : decode cX2_enterGroup 36 = .ok (.if_icmp .ge 18, 3) := by decide +kernel
theorem dX2_enterGroup_39 : decode cX2_enterGroup 39 = .ok (.aload_n 0, 1) := by decide +kernel
theorem dX2_enterGroup_40 : decode cX2_enterGroup 40 = .ok (.iload_n 3, 1) := by decide +kernel
theorem dX2_enterGroup_41 : decode cX2_enterGroup 41 = .ok (.invokevirtual 32, 3) := by decide +kernel
theorem dX2_enterGroup_44 : decode cX2_enterGroup 44 = .ok (.aload_n 2, 1) := by decide +kernel
theorem dX2_enterGroup_45 : decode cX2_enterGroup 45 = .ok (.iload_n 3, 1) := by decide +kernel
theorem dX2_enterGroup_46 : decode cX2_enterGroup 46 = .ok (.iaload, 1) := by decide +kernel
theorem dX2_enterGroup_47 : decode cX2_enterGroup 47 = .ok (.istore_n 3, 1) := by decide +kernel
theorem dX2_enterGroup_48 : decode cX2_enterGroup 48 = .ok (.iinc 4 (-1), 3) := by decide +kernel
theorem dX2_enterGroup_51 : decode cX2_enterGroup 51 = .ok (.goto (-27), 3) := by decide +kernel
theorem dX2_enterGroup_54 : decode cX2_enterGroup 54 = .ok (.aload_n 0, 1) := by decide +kernel
theorem dX2_enterGroup_55 : decode cX2_enterGroup 55 = .ok (.invokevirtual 36, 3) := by decide +kernel
theorem dX2_enterGroup_58 : decode cX2_enterGroup 58 = .ok (.return_, 1) := by decide +kernel
theorem dX2_hasLayer_0 : decode cX2_hasLayer 0 = .ok (.iload_n 1, 1) := by decide +kernel
theorem dX2_hasLayer_1 : decode cX2_hasLayer 1 = .ok (.ifCond .lt 15, 3) := by decide +kernel
theorem dX2_hasLayer_4 : decode cX2_hasLayer 4 = .ok (.iload_n 1, 1) := by decide +kernel
theorem dX2_hasLayer_5 : decode cX2_hasLayer 5 = .ok (.aload_n 0, 1) := by decide +kernel
theorem dX2_hasLayer_6 : decode cX2_hasLayer 6 = .ok (.getfield 29, 3) := by decide +kernel
theorem dX2_hasLayer_9 : decode cX2_hasLayer 9 = .ok (.if_icmp .ge 7, 3) := by decide +kernel
theorem dX2_hasLayer_12 : decode cX2_hasLayer 12 = .ok (.iconst 1, 1) := by decide +kernel
theorem dX2_hasLayer_13 : decode cX2_hasLayer 13 = .ok (.goto 4, 3) := by decide +kernel
theorem dX2_hasLayer_16 : decode cX2_hasLayer 16 = .ok (.iconst 0, 1) := by decide +kernel
theorem dX2_hasLayer_17 : decode cX2_hasLayer 17 = .ok (.ireturn, 1) := by decide +kernel
theorem dX2_cellIn_0 : decode cX2_cellIn 0 = .ok (.aload_n 0, 1) := by decide +kernel
theorem dX2_cellIn_1 : decode cX2_cellIn 1 = .ok (.iload_n 1, 1) := by decide +kernel
theorem dX2_cellIn_2 : decode cX2_cellIn 2 = .ok (.invokevirtual 39, 3) := by decide +kernel
theorem dX2_cellIn_5 : decode cX2_cellIn 5 = .ok (.ifCond .eq 16, 3) := by decide +kernel
theorem dX2_cellIn_8 : decode cX2_cellIn 8 = .ok (.aload_n 0, 1) := by decide +kernel
theorem dX2_cellIn_9 : decode cX2_cellIn 9 = .ok (.getfield 18, 3) := by decide +kernel
theorem dX2_cellIn_12 : decode cX2_cellIn 12 = .ok (.iload_n 1, 1) := by decide +kernel
theorem dX2_cellIn_13 : decode cX2_cellIn 13 = .ok (.iaload, 1) := by decide +kernel
theorem dX2_cellIn_14 : decode cX2_cellIn 14 = .ok (.iload_n 2, 1) := by decide +kernel
theorem dX2_cellIn_15 : decode cX2_cellIn 15 = .ok (.invokestatic 43, 3) := by decide +kernel
theorem dX2_cellIn_18 : decode cX2_cellIn 18 = .ok (.goto 4, 3) := by decide +kernel
theorem dX2_cellIn_21 : decode cX2_cellIn 21 = .ok (.iconst (-1), 1) := by decide +kernel
theorem dX2_cellIn_22 : decode cX2_cellIn 22 = .ok (.ireturn, 1) := by decide +kernel
theorem dX2_addLayer_0 : decode cX2_addLayer 0 = .ok (.aload_n 0, 1) := by decide +kernel
theorem dX2_addLayer_1 : decode cX2_addLayer 1 = .ok (.getfield 29, 3) := by decide +kernel
theorem dX2_addLayer_4 : decode cX2_addLayer 4 = .ok (.aload_n 0, 1) := by decide +kernel
theorem dX2_addLayer_5 : decode cX2_addLayer 5 = .ok (.getfield 18, 3) := by decide +kernel
theorem dX2_addLayer_8 : decode cX2_addLayer 8 = .ok (.arraylength, 1) := by decide +kernel
theorem dX2_addLayer_9 : decode cX2_addLayer 9 = .ok (.if_icmp .ge 23, 3) := by decide +kernel
theorem dX2_addLayer_12 : decode cX2_addLayer 12 = .ok (.aload_n 0, 1) := by decide +kernel
theorem dX2_addLayer_13 : decode cX2_addLayer 13 = .ok (.getfield 18, 3) := by decide +kernel
theorem dX2_addLayer_16 : decode cX2_addLayer 16 = .ok (.aload_n 0, 1) := by decide +kernel
theorem dX2_addLayer_17 : decode cX2_addLayer 17 = .ok (.getfield 29, 3) := by decide +kernel
theorem dX2_addLayer_20 : decode cX2_addLayer 20 = .ok (.iload_n 1, 1) := by decide +kernel
theorem dX2_addLayer_21 : decode cX2_addLayer 21 = .ok (.iastore, 1) := by decide +kernel
theorem dX2_addLayer_22 : decode cX2_addLayer 22 = .ok (.aload_n 0, 1) := by decide +kernel
theorem dX2_addLayer_23 : decode cX2_addLayer 23 = .ok (.dup, 1) := by decide +kernel
theorem dX2_addLayer_24 : decode cX2_addLayer 24 = .ok (.getfield 29, 3) := by decide +kernel
theorem dX2_addLayer_27 : decode cX2_addLayer 27 = .ok (.iconst 1, 1) := by decide +kernel
theorem dX2_addLayer_28 : decode cX2_addLayer 28 = .ok (.iadd, 1) := by decide +kernel
theorem dX2_addLayer_29 : decode cX2_addLayer 29 = .ok (.putfield 29, 3) := by decide +kernel
theorem dX2_addLayer_32 : decode cX2_addLayer 32 = .ok (.return_, 1) := by decide +kernel
theorem dX2_dropOtherGroups_0 : decode cX2_dropOtherGroups 0 = .ok (.iconst 0, 1) := by decide +kernel
theorem dX2_dropOtherGroups_1 : decode cX2_dropOtherGroups 1 = .ok (.istore_n 1, 1) := by decide +kernel
theorem dX2_dropOtherGroups_2 : decode cX2_dropOtherGroups 2 = .ok (.iload_n 1, 1) := by decide +kernel
theorem dX2_dropOtherGroups_3 : decode cX2_dropOtherGroups 3 = .ok (.bipush 10, 2) := by decide +kernel
theorem dX2_dropOtherGroups_5 : decode cX2_dropOtherGroups 5 = .ok (.if_icmp .ge 22, 3) := by decide +kernel
theorem dX2_dropOtherGroups_8 : decode cX2_dropOtherGroups 8 = .ok (.aload_n 0, 1) := by decide +kernel
theorem dX2_dropOtherGroups_9 : decode cX2_dropOtherGroups 9 = .ok (.iload_n 1, 1) := by decide +kernel
theorem dX2_dropOtherGroups_10 : decode cX2_dropOtherGroups 10 = .ok (.invokevirtual 47, 3) := by decide +kernel
theorem dX2_dropOtherGroups_13 : decode cX2_dropOtherGroups 13 = .ok (.ifCond .ne 8, 3) := by decide +kernel
theorem dX2_dropOtherGroups_16 : decode cX2_dropOtherGroups 16 = .ok (.aload_n 0, 1) := by decide +kernel
theorem dX2_dropOtherGroups_17 : decode cX2_dropOtherGroups 17 = .ok (.iload_n 1, 1) := by decide +kernel
theorem dX2_dropOtherGroups_18 : decode cX2_dropOtherGroups 18 = .ok (.invokevirtual 50, 3) := by decide +kernel
theorem dX2_dropOtherGroups_21 : decode cX2_dropOtherGroups 21 = .ok (.iinc 1 1, 3) := by decide +kernel
theorem dX2_dropOtherGroups_24 : decode cX2_dropOtherGroups 24 = .ok (.goto (-22), 3) := by decide +kernel
theorem dX2_dropOtherGroups_27 : decode cX2_dropOtherGroups 27 = .ok (.return_, 1) := by decide +kernel
theorem dX2_drop_0 : decode cX2_drop 0 = .ok (.iconst 0, 1) := by decide +kernel
theorem dX2_drop_1 : decode cX2_drop 1 = .ok (.istore_n 2, 1) := by decide +kernel
theorem dX2_drop_2 : decode cX2_drop 2 = .ok (.iload_n 2, 1) := by decide +kernel
theorem dX2_drop_3 : decode cX2_drop 3 = .ok (.bipush 6, 2) := by decide +kernel
theorem dX2_drop_5 : decode cX2_drop 5 = .ok (.if_icmp .ge 22, 3) := by decide +kernel
theorem dX2_drop_8 : decode cX2_drop 8 = .ok (.aload_n 0, 1) := by decide +kernel
theorem dX2_drop_9 : decode cX2_drop 9 = .ok (.getfield 12, 3) := by decide +kernel
theorem dX2_drop_12 : decode cX2_drop 12 = .ok (.iload_n 1, 1) := by decide +kernel
theorem dX2_drop_13 : decode cX2_drop 13 = .ok (.iload_n 2, 1) := by decide +kernel
theorem dX2_drop_14 : decode cX2_drop 14 = .ok (.invokestatic 43, 3) := by decide +kernel
theorem dX2_drop_17 : decode cX2_drop 17 = .ok (.iconst (-1), 1) := by decide +kernel
theorem dX2_drop_18 : decode cX2_drop 18 = .ok (.invokevirtual 53, 3) := by decide +kernel
theorem dX2_drop_21 : decode cX2_drop 21 = .ok (.iinc 2 1, 3) := by decide +kernel
theorem dX2_drop_24 : decode cX2_drop 24 = .ok (.goto (-22), 3) := by decide +kernel
theorem dX2_drop_27 : decode cX2_drop 27 = .ok (.return_, 1) := by decide +kernel
theorem dX2_isAmongLayers_0 : decode cX2_isAmongLayers 0 = .ok (.iconst 0, 1) := by decide +kernel
theorem dX2_isAmongLayers_1 : decode cX2_isAmongLayers 1 = .ok (.istore_n 2, 1) := by decide +kernel
theorem dX2_isAmongLayers_2 : decode cX2_isAmongLayers 2 = .ok (.iload_n 2, 1) := by decide +kernel
theorem dX2_isAmongLayers_3 : decode cX2_isAmongLayers 3 = .ok (.aload_n 0, 1) := by decide +kernel
theorem dX2_isAmongLayers_4 : decode cX2_isAmongLayers 4 = .ok (.getfield 29, 3) := by decide +kernel
theorem dX2_isAmongLayers_7 : decode cX2_isAmongLayers 7 = .ok (.if_icmp .ge 21, 3) := by decide +kernel
theorem dX2_isAmongLayers_10 : decode cX2_isAmongLayers 10 = .ok (.aload_n 0, 1) := by decide +kernel
theorem dX2_isAmongLayers_11 : decode cX2_isAmongLayers 11 = .ok (.getfield 18, 3) := by decide +kernel
theorem dX2_isAmongLayers_14 : decode cX2_isAmongLayers 14 = .ok (.iload_n 2, 1) := by decide +kernel
theorem dX2_isAmongLayers_15 : decode cX2_isAmongLayers 15 = .ok (.iaload, 1) := by decide +kernel
theorem dX2_isAmongLayers_16 : decode cX2_isAmongLayers 16 = .ok (.iload_n 1, 1) := by decide +kernel
theorem dX2_isAmongLayers_17 : decode cX2_isAmongLayers 17 = .ok (.if_icmp .ne 5, 3) := by decide +kernel
theorem dX2_isAmongLayers_20 : decode cX2_isAmongLayers 20 = .ok (.iconst 1, 1) := by decide +kernel
theorem dX2_isAmongLayers_21 : decode cX2_isAmongLayers 21 = .ok (.ireturn, 1) := by decide +kernel
theorem dX2_isAmongLayers_22 : decode cX2_isAmongLayers 22 = .ok (.iinc 2 1, 3) := by decide +kernel
theorem dX2_isAmongLayers_25 : decode cX2_isAmongLayers 25 = .ok (.goto (-23), 3) := by decide +kernel
theorem dX2_isAmongLayers_28 : decode cX2_isAmongLayers 28 = .ok (.iconst 0, 1) := by decide +kernel
theorem dX2_isAmongLayers_29 : decode cX2_isAmongLayers 29 = .ok (.ireturn, 1) := by decide +kernel
theorem dX3_init_0 : decode cX3_init 0 = .ok (.aload_n 0, 1) := by decide +kernel
theorem dX3_init_1 : decode cX3_init 1 = .ok (.invokespecial 3, 3) := by decide +kernel
theorem dX3_init_4 : decode cX3_init 4 = .ok (.aload_n 0, 1) := by decide +kernel
theorem dX3_init_5 : decode cX3_init 5 = .ok (.bipush 6, 2) := by decide +kernel
theorem dX3_init_7 : decode cX3_init 7 = .ok (.newarray .int, 2) := by decide +kernel
theorem dX3_init_9 : decode cX3_init 9 = .ok (.putfield 9, 3) := by decide +kernel
theorem dX3_init_12 : decode cX3_init 12 = .ok (.aload_n 0, 1) := by decide +kernel
theorem dX3_init_13 : decode cX3_init 13 = .ok (.bipush 6, 2) := by decide +kernel
theorem dX3_init_15 : decode cX3_init 15 = .ok (.newarray .int, 2) := by decide +kernel
theorem dX3_init_17 : decode cX3_init 17 = .ok (.putfield 15, 3) := by decide +kernel
theorem dX3_init_20 : decode cX3_init 20 = .ok (.aload_n 0, 1) := by decide +kernel
theorem dX3_init_21 : decode cX3_init 21 = .ok (.bipush 6, 2) := by decide +kernel
theorem dX3_init_23 : decode cX3_init 23 = .ok (.newarray .int, 2) := by decide +kernel
theorem dX3_init_25 : decode cX3_init 25 = .ok (.putfield 18, 3) := by decide +kernel
theorem dX3_init_28 : decode cX3_init 28 = .ok (.return_, 1) := by decide +kernel
theorem dX3_forget_0 : decode cX3_forget 0 = .ok (.aload_n 0, 1) := by decide +kernel
theorem dX3_forget_1 : decode cX3_forget 1 = .ok (.getfield 9, 3) := by decide +kernel
theorem dX3_forget_4 : decode cX3_forget 4 = .ok (.iconst (-1), 1) := by decide +kernel
theorem dX3_forget_5 : decode cX3_forget 5 = .ok (.invokestatic 21, 3) := by decide +kernel
theorem dX3_forget_8 : decode cX3_forget 8 = .ok (.aload_n 0, 1) := by decide +kernel
theorem dX3_forget_9 : decode cX3_forget 9 = .ok (.iconst 0, 1) := by decide +kernel
theorem dX3_forget_10 : decode cX3_forget 10 = .ok (.putfield 27, 3) := by decide +kernel
theorem dX3_forget_13 : decode cX3_forget 13 = .ok (.return_, 1) := by decide +kernel
theorem dX3_set_0 : decode cX3_set 0 = .ok (.aload_n 0, 1) := by decide +kernel
theorem dX3_set_1 : decode cX3_set 1 = .ok (.getfield 9, 3) := by decide +kernel
theorem dX3_set_4 : decode cX3_set 4 = .ok (.iload_n 1, 1) := by decide +kernel
theorem dX3_set_5 : decode cX3_set 5 = .ok (.iload_n 2, 1) := by decide +kernel
theorem dX3_set_6 : decode cX3_set 6 = .ok (.iastore, 1) := by decide +kernel
theorem dX3_set_7 : decode cX3_set 7 = .ok (.aload_n 0, 1) := by decide +kernel
theorem dX3_set_8 : decode cX3_set 8 = .ok (.getfield 15, 3) := by decide +kernel
theorem dX3_set_11 : decode cX3_set 11 = .ok (.iload_n 1, 1) := by decide +kernel
theorem dX3_set_12 : decode cX3_set 12 = .ok (.iload_n 3, 1) := by decide +kernel
theorem dX3_set_13 : decode cX3_set 13 = .ok (.iastore, 1) := by decide +kernel
theorem dX3_set_14 : decode cX3_set 14 = .ok (.aload_n 0, 1) := by decide +kernel
theorem dX3_set_15 : decode cX3_set 15 = .ok (.getfield 18, 3) := by decide +kernel
theorem dX3_set_18 : decode cX3_set 18 = .ok (.iload_n 1, 1) := by decide +kernel
theorem dX3_set_19 : decode cX3_set 19 = .ok (.iload 4, 2) := by decide +kernel
theorem dX3_set_21 : decode cX3_set 21 = .ok (.iastore, 1) := by decide +kernel
theorem dX3_set_22 : decode cX3_set 22 = .ok (.return_, 1) := by decide +kernel
theorem dX3_hideExcluded_0 : decode cX3_hideExcluded 0 = .ok (.iconst 0, 1) := by decide +kernel
theorem dX3_hideExcluded_1 : decode cX3_hideExcluded 1 = .ok (.istore_n 2, 1) := by decide +kernel
theorem dX3_hideExcluded_2 : decode cX3_hideExcluded 2 = .ok (.iload_n 2, 1) := by decide +kernel
theorem dX3_hideExcluded_3 : decode cX3_hideExcluded 3 = .ok (.bipush 6, 2) := by decide +kernel
theorem dX3_hideExcluded_5 : decode cX3_hideExcluded 5 = .ok (.if_icmp .ge 55, 3) := by decide +kernel
theorem dX3_hideExcluded_8 : decode cX3_hideExcluded 8 = .ok (.iconst 0, 1) := by decide +kernel
theorem dX3_hideExcluded_9 : decode cX3_hideExcluded 9 = .ok (.istore_n 3, 1) := by decide +kernel
theorem dX3_hideExcluded_10 : decode cX3_hideExcluded 10 = .ok (.iload_n 3, 1) := by decide +kernel
theorem dX3_hideExcluded_11 : decode cX3_hideExcluded 11 = .ok (.bipush 6, 2) := by decide +kernel
theorem dX3_hideExcluded_13 : decode cX3_hideExcluded 13 = .ok (.if_icmp .ge 41, 3) := by decide +kernel
theorem dX3_hideExcluded_16 : decode cX3_hideExcluded 16 = .ok (.aload_n 1, 1) := by decide +kernel
theorem dX3_hideExcluded_17 : decode cX3_hideExcluded 17 = .ok (.iload_n 2, 1) := by decide +kernel
theorem dX3_hideExcluded_18 : decode cX3_hideExcluded 18 = .ok (.iaload, 1) := by decide +kernel
theorem dX3_hideExcluded_19 : decode cX3_hideExcluded 19 = .ok (.iload_n 3, 1) := by decide +kernel
theorem dX3_hideExcluded_20 : decode cX3_hideExcluded 20 = .ok (.invokestatic 31, 3) := by decide +kernel
theorem dX3_hideExcluded_23 : decode cX3_hideExcluded 23 = .ok (.ifCond .eq 25, 3) := by decide +kernel
theorem dX3_hideExcluded_26 : decode cX3_hideExcluded 26 = .ok (.aload_n 0, 1) := by decide +kernel
theorem dX3_hideExcluded_27 : decode cX3_hideExcluded 27 = .ok (.iload_n 2, 1) := by decide +kernel
theorem dX3_hideExcluded_28 : decode cX3_hideExcluded 28 = .ok (.iload_n 3, 1) := by decide +kernel
theorem dX3_hideExcluded_29 : decode cX3_hideExcluded 29 = .ok (.invokevirtual 35, 3) := by decide +kernel
theorem dX3_hideExcluded_32 : decode cX3_hideExcluded 32 = .ok (.ifCond .eq 16, 3) := by decide +kernel
theorem dX3_hideExcluded_35 : decode cX3_hideExcluded 35 = .ok (.aload_n 0, 1) := by decide +kernel
theorem dX3_hideExcluded_36 : decode cX3_hideExcluded 36 = .ok (.aload_n 0, 1) := by decide +kernel
theorem dX3_hideExcluded_37 : decode cX3_hideExcluded 37 = .ok (.getfield 27, 3) := by decide +kernel
theorem dX3_hideExcluded_40 : decode cX3_hideExcluded 40 = .ok (.iload_n 2, 1) := by decide +kernel
theorem dX3_hideExcluded_41 : decode cX3_hideExcluded 41 = .ok (.iconst 1, 1) := by decide +kernel
theorem dX3_hideExcluded_42 : decode cX3_hideExcluded 42 = .ok (.invokestatic 38, 3) := by decide +kernel
theorem dX3_hideExcluded_45 : decode cX3_hideExcluded 45 = .ok (.putfield 27, 3) := by decide +kernel
theorem dX3_hideExcluded_48 : decode cX3_hideExcluded 48 = .ok (.iinc 3 1, 3) := by decide +kernel
theorem dX3_hideExcluded_51 : decode cX3_hideExcluded 51 = .ok (.goto (-41), 3) := by decide +kernel
theorem dX3_hideExcluded_54 : decode cX3_hideExcluded 54 = .ok (.iinc 2 1, 3) := by decide +kernel
theorem dX3_hideExcluded_57 : decode cX3_hideExcluded 57 = .ok (.goto (-55), 3) := by decide +kernel
theorem dX3_hideExcluded_60 : decode cX3_hideExcluded 60 = .ok (.return_, 1) := by decide +kernel
theorem dX3_yields_0 : decode cX3_yields 0 = .ok (.aload_n 0, 1) := by decide +kernel
theorem dX3_yields_1 : decode cX3_yields 1 = .ok (.getfield 9, 3) := by decide +kernel
theorem dX3_yields_4 : decode cX3_yields 4 = .ok (.iload_n 1, 1) := by decide +kernel
theorem dX3_yields_5 : decode cX3_yields 5 = .ok (.iaload, 1) := by decide +kernel
theorem dX3_yields_6 : decode cX3_yields 6 = .ok (.iconst (-1), 1) := by decide +kernel
theorem dX3_yields_7 : decode cX3_yields 7 = .ok (.if_icmp .eq 13, 3) := by decide +kernel
theorem dX3_yields_10 : decode cX3_yields 10 = .ok (.aload_n 0, 1) := by decide +kernel
theorem dX3_yields_11 : decode cX3_yields 11 = .ok (.getfield 9, 3) := by decide +kernel
theorem dX3_yields_14 : decode cX3_yields 14 = .ok (.iload_n 2, 1) := by decide +kernel
theorem dX3_yields_15 : decode cX3_yields 15 = .ok (.iaload, 1) := by decide +kernel
theorem dX3_yields_16 : decode cX3_yields 16 = .ok (.iconst (-1), 1) := by decide +kernel
theorem dX3_yields_17 : decode cX3_yields 17 = .ok (.if_icmp .ne 5, 3) := by decide +kernel
theorem dX3_yields_20 : decode cX3_yields 20 = .ok (.iconst 0, 1) := by decide +kernel
theorem dX3_yields_21 : decode cX3_yields 21 = .ok (.ireturn, 1) := by decide +kernel
theorem dX3_yields_22 : decode cX3_yields 22 = .ok (.aload_n 0, 1) := by decide +kernel
theorem dX3_yields_23 : decode cX3_yields 23 = .ok (.getfield 15, 3) := by decide +kernel
theorem dX3_yields_26 : decode cX3_yields 26 = .ok (.iload_n 1, 1) := by decide +kernel
theorem dX3_yields_27 : decode cX3_yields 27 = .ok (.iaload, 1) := by decide +kernel
theorem dX3_yields_28 : decode cX3_yields 28 = .ok (.aload_n 0, 1) := by decide +kernel
theorem dX3_yields_29 : decode cX3_yields 29 = .ok (.getfield 15, 3) := by decide +kernel
theorem dX3_yields_32 : decode cX3_yields 32 = .ok (.iload_n 2, 1) := by decide +kernel
theorem dX3_yields_33 : decode cX3_yields 33 = .ok (.iaload, 1) := by decide +kernel
theorem dX3_yields_34 : decode cX3_yields 34 = .ok (.if_icmp .eq 24, 3) := by decide +kernel
theorem dX3_yields_37 : decode cX3_yields 37 = .ok (.aload_n 0, 1) := by decide +kernel
theorem dX3_yields_38 : decode cX3_yields 38 = .ok (.getfield 15, 3) := by decide +kernel
theorem dX3_yields_41 : decode cX3_yields 41 = .ok (.iload_n 1, 1) := by decide +kernel
theorem dX3_yields_42 : decode cX3_yields 42 = .ok (.iaload, 1) := by decide +kernel
theorem dX3_yields_43 : decode cX3_yields 43 = .ok (.aload_n 0, 1) := by decide +kernel
theorem dX3_yields_44 : decode cX3_yields 44 = .ok (.getfield 15, 3) := by decide +kernel
theorem dX3_yields_47 : decode cX3_yields 47 = .ok (.iload_n 2, 1) := by decide +kernel
theorem dX3_yields_48 : decode cX3_yields 48 = .ok (.iaload, 1) := by decide +kernel
theorem dX3_yields_49 : decode cX3_yields 49 = .ok (.if_icmp .le 7, 3) := by decide +kernel
theorem dX3_yields_52 : decode cX3_yields 52 = .ok (.iconst 1, 1) := by decide +kernel
theorem dX3_yields_53 : decode cX3_yields 53 = .ok (.goto 4, 3) := by decide +kernel
theorem dX3_yields_56 : decode cX3_yields 56 = .ok (.iconst 0, 1) := by decide +kernel
theorem dX3_yields_57 : decode cX3_yields 57 = .ok (.ireturn, 1) := by decide +kernel
theorem dX3_yields_58 : decode cX3_yields 58 = .ok (.aload_n 0, 1) := by decide +kernel
theorem dX3_yields_59 : decode cX3_yields 59 = .ok (.getfield 18, 3) := by decide +kernel
theorem dX3_yields_62 : decode cX3_yields 62 = .ok (.iload_n 1, 1) := by decide +kernel
theorem dX3_yields_63 : decode cX3_yields 63 = .ok (.iaload, 1) := by decide +kernel
theorem dX3_yields_64 : decode cX3_yields 64 = .ok (.aload_n 0, 1) := by decide +kernel
theorem dX3_yields_65 : decode cX3_yields 65 = .ok (.getfield 18, 3) := by decide +kernel
theorem dX3_yields_68 : decode cX3_yields 68 = .ok (.iload_n 2, 1) := by decide +kernel
theorem dX3_yields_69 : decode cX3_yields 69 = .ok (.iaload, 1) := by decide +kernel
theorem dX3_yields_70 : decode cX3_yields 70 = .ok (.if_icmp .ge 7, 3) := by decide +kernel
theorem dX3_yields_73 : decode cX3_yields 73 = .ok (.iconst 1, 1) := by decide +kernel
theorem dX3_yields_74 : decode cX3_yields 74 = .ok (.goto 4, 3) := by decide +kernel
theorem dX3_yields_77 : decode cX3_yields 77 = .ok (.iconst 0, 1) := by decide +kernel
theorem dX3_yields_78 : decode cX3_yields 78 = .ok (.ireturn, 1) := by decide +kernel
theorem dX3_valueIfShown_0 : decode cX3_valueIfShown 0 = .ok (.aload_n 0, 1) := by decide +kernel
theorem dX3_valueIfShown_1 : decode cX3_valueIfShown 1 = .ok (.getfield 27, 3) := by decide +kernel
theorem dX3_valueIfShown_4 : decode cX3_valueIfShown 4 = .ok (.iload_n 1, 1) := by decide +kernel
theorem dX3_valueIfShown_5 : decode cX3_valueIfShown 5 = .ok (.invokestatic 31, 3) := by decide +kernel
theorem dX3_valueIfShown_8 : decode cX3_valueIfShown 8 = .ok (.ifCond .eq 7, 3) := by decide +kernel
theorem dX3_valueIfShown_11 : decode cX3_valueIfShown 11 = .ok (.iconst (-1), 1) := by decide +kernel
theorem dX3_valueIfShown_12 : decode cX3_valueIfShown 12 = .ok (.goto 9, 3) := by decide +kernel
theorem dX3_valueIfShown_15 : decode cX3_valueIfShown 15 = .ok (.aload_n 0, 1) := by decide +kernel
theorem dX3_valueIfShown_16 : decode cX3_valueIfShown 16 = .ok (.getfield 9, 3) := by decide +kernel
theorem dX3_valueIfShown_19 : decode cX3_valueIfShown 19 = .ok (.iload_n 1, 1) := by decide +kernel
theorem dX3_valueIfShown_20 : decode cX3_valueIfShown 20 = .ok (.iaload, 1) := by decide +kernel
theorem dX3_valueIfShown_21 : decode cX3_valueIfShown 21 = .ok (.ireturn, 1) := by decide +kernel
theorem dX3_layerIfShown_0 : decode cX3_layerIfShown 0 = .ok (.aload_n 0, 1) := by decide +kernel
theorem dX3_layerIfShown_1 : decode cX3_layerIfShown 1 = .ok (.iload_n 1, 1) := by decide +kernel
theorem dX3_layerIfShown_2 : decode cX3_layerIfShown 2 = .ok (.invokevirtual 42, 3) := by decide +kernel
theorem dX3_layerIfShown_5 : decode cX3_layerIfShown 5 = .ok (.iconst (-1), 1) := by decide +kernel
theorem dX3_layerIfShown_6 : decode cX3_layerIfShown 6 = .ok (.if_icmp .ne 7, 3) := by decide +kernel
theorem dX3_layerIfShown_9 : decode cX3_layerIfShown 9 = .ok (.iconst (-1), 1) := by decide +kernel
theorem dX3_layerIfShown_10 : decode cX3_layerIfShown 10 = .ok (.goto 9, 3) := by decide +kernel
theorem dX3_layerIfShown_13 : decode cX3_layerIfShown 13 = .ok (.aload_n 0, 1) := by decide +kernel
theorem dX3_layerIfShown_14 : decode cX3_layerIfShown 14 = .ok (.getfield 15, 3) := by decide +kernel
theorem dX3_layerIfShown_17 : decode cX3_layerIfShown 17 = .ok (.iload_n 1, 1) := by decide +kernel
theorem dX3_layerIfShown_18 : decode cX3_layerIfShown 18 = .ok (.iaload, 1) := by decide +kernel
theorem dX3_layerIfShown_19 : decode cX3_layerIfShown 19 = .ok (.ireturn, 1) := by decide +kernel
theorem dX4_init_0 : decode cX4_init 0 = .ok (.aload_n 0, 1) := by decide +kernel
theorem dX4_init_1 : decode cX4_init 1 = .ok (.invokespecial 3, 3) := by decide +kernel
theorem dX4_init_4 : decode cX4_init 4 = .ok (.aload_n 0, 1) := by decide +kernel
theorem dX4_init_5 : decode cX4_init 5 = .ok (.iconst 1, 1) := by decide +kernel
theorem dX4_init_6 : decode cX4_init 6 = .ok (.putfield 9, 3) := by decide +kernel
theorem dX4_init_9 : decode cX4_init 9 = .ok (.return_, 1) := by decide +kernel
theorem dX4_hasVoided_0 : decode cX4_hasVoided 0 = .ok (.aload_n 0, 1) := by decide +kernel
theorem dX4_hasVoided_1 : decode cX4_hasVoided 1 = .ok (.getfield 15, 3) := by decide +kernel
theorem dX4_hasVoided_4 : decode cX4_hasVoided 4 = .ok (.ifCond .eq 18, 3) := by decide +kernel
theorem dX4_hasVoided_7 : decode cX4_hasVoided 7 = .ok (.aload_n 0, 1) := by decide +kernel
theorem dX4_hasVoided_8 : decode cX4_hasVoided 8 = .ok (.getfield 18, 3) := by decide +kernel
theorem dX4_hasVoided_11 : decode cX4_hasVoided 11 = .ok (.iload_n 1, 1) := by decide +kernel
theorem dX4_hasVoided_12 : decode cX4_hasVoided 12 = .ok (.isub, 1) := by decide +kernel
theorem dX4_hasVoided_13 : decode cX4_hasVoided 13 = .ok (.bipush 30, 2) := by decide +kernel
theorem dX4_hasVoided_15 : decode cX4_hasVoided 15 = .ok (.if_icmp .ge 7, 3) := by decide +kernel
theorem dX4_hasVoided_18 : decode cX4_hasVoided 18 = .ok (.iconst 1, 1) := by decide +kernel
theorem dX4_hasVoided_19 : decode cX4_hasVoided 19 = .ok (.goto 4, 3) := by decide +kernel
theorem dX4_hasVoided_22 : decode cX4_hasVoided 22 = .ok (.iconst 0, 1) := by decide +kernel
theorem dX4_hasVoided_23 : decode cX4_hasVoided 23 = .ok (.ireturn, 1) := by decide +kernel
theorem dX5_init_0 : decode cX5_init 0 = .ok (.aload_n 0, 1) := by decide +kernel
theorem dX5_init_1 : decode cX5_init 1 = .ok (.invokespecial 3, 3) := by decide +kernel
theorem dX5_init_4 : decode cX5_init 4 = .ok (.aload_n 0, 1) := by decide +kernel
theorem dX5_init_5 : decode cX5_init 5 = .ok (.bipush 12, 2) := by decide +kernel
theorem dX5_init_7 : decode cX5_init 7 = .ok (.putfield 9, 3) := by decide +kernel
theorem dX5_init_10 : decode cX5_init 10 = .ok (.aload_n 0, 1) := by decide +kernel
theorem dX5_init_11 : decode cX5_init 11 = .ok (.iconst 4, 1) := by decide +kernel
theorem dX5_init_12 : decode cX5_init 12 = .ok (.newarray .int, 2) := by decide +kernel
theorem dX5_init_14 : decode cX5_init 14 = .ok (.putfield 13, 3) := by decide +kernel
theorem dX5_init_17 : decode cX5_init 17 = .ok (.aload_n 0, 1) := by decide +kernel
theorem dX5_init_18 : decode cX5_init 18 = .ok (.bipush 8, 2) := by decide +kernel
theorem dX5_init_20 : decode cX5_init 20 = .ok (.anewarray 17, 3) := by decide +kernel
theorem dX5_init_23 : decode cX5_init 23 = .ok (.putfield 19, 3) := by decide +kernel
theorem dX5_init_26 : decode cX5_init 26 = .ok (.aload_n 0, 1) := by decide +kernel
theorem dX5_init_27 : decode cX5_init 27 = .ok (.bipush 10, 2) := by decide +kernel
theorem dX5_init_29 : decode cX5_init 29 = .ok (.newarray .int, 2) := by decide +kernel
theorem dX5_init_31 : decode cX5_init 31 = .ok (.putfield 23, 3) := by decide +kernel
theorem dX5_init_34 : decode cX5_init 34 = .ok (.aload_n 0, 1) := by decide +kernel
theorem dX5_init_35 : decode cX5_init 35 = .ok (.iconst 1, 1) := by decide +kernel
theorem dX5_init_36 : decode cX5_init 36 = .ok (.putfield 26, 3) := by decide +kernel
theorem dX5_init_39 : decode cX5_init 39 = .ok (.aload_n 0, 1) := by decide +kernel
theorem dX5_init_40 : decode cX5_init 40 = .ok (.bipush 12, 2) := by decide +kernel
theorem dX5_init_42 : decode cX5_init 42 = .ok (.anewarray 29, 3) := by decide +kernel
theorem dX5_init_45 : decode cX5_init 45 = .ok (.putfield 31, 3) := by decide +kernel
theorem dX5_init_48 : decode cX5_init 48 = .ok (.aload_n 0, 1) := by decide +kernel
theorem dX5_init_49 : decode cX5_init 49 = .ok (.bipush 40, 2) := by decide +kernel
theorem dX5_init_51 : decode cX5_init 51 = .ok (.anewarray 35, 3) := by decide +kernel
theorem dX5_init_54 : decode cX5_init 54 = .ok (.putfield 37, 3) := by decide +kernel
theorem dX5_init_57 : decode cX5_init 57 = .ok (.aload_n 0, 1) := by decide +kernel
theorem dX5_init_58 : decode cX5_init 58 = .ok (.bipush 6, 2) := by decide +kernel
theorem dX5_init_60 : decode cX5_init 60 = .ok (.newarray .int, 2) := by decide +kernel
theorem dX5_init_62 : decode cX5_init 62 = .ok (.putfield 41, 3) := by decide +kernel
theorem dX5_init_65 : decode cX5_init 65 = .ok (.aload_n 0, 1) := by decide +kernel
theorem dX5_init_66 : decode cX5_init 66 = .ok (.new 44, 3) := by decide +kernel
theorem dX5_init_69 : decode cX5_init 69 = .ok (.dup, 1) := by decide +kernel
theorem dX5_init_70 : decode cX5_init 70 = .ok (.invokespecial 46, 3) := by decide +kernel
theorem dX5_init_73 : decode cX5_init 73 = .ok (.putfield 47, 3) := by decide +kernel
theorem dX5_init_76 : decode cX5_init 76 = .ok (.aload_n 0, 1) := by decide +kernel
theorem dX5_init_77 : decode cX5_init 77 = .ok (.new 44, 3) := by decide +kernel
theorem dX5_init_80 : decode cX5_init 80 = .ok (.dup, 1) := by decide +kernel
theorem dX5_init_81 : decode cX5_init 81 = .ok (.invokespecial 46, 3) := by decide +kernel
theorem dX5_init_84 : decode cX5_init 84 = .ok (.putfield 51, 3) := by decide +kernel
theorem dX5_init_87 : decode cX5_init 87 = .ok (.aload_n 0, 1) := by decide +kernel
theorem dX5_init_88 : decode cX5_init 88 = .ok (.new 54, 3) := by decide +kernel
theorem dX5_init_91 : decode cX5_init 91 = .ok (.dup, 1) := by decide +kernel
theorem dX5_init_92 : decode cX5_init 92 = .ok (.invokespecial 56, 3) := by decide +kernel
theorem dX5_init_95 : decode cX5_init 95 = .ok (.putfield 57, 3) := by decide +kernel
theorem dX5_init_98 : decode cX5_init 98 = .ok (.aload_n 0, 1) := by decide +kernel
theorem dX5_init_99 : decode cX5_init 99 = .ok (.getfield 13, 3) := by decide +kernel
theorem dX5_init_102 : decode cX5_init 102 = .ok (.sipush 255, 3) := by decide +kernel
theorem dX5_init_105 : decode cX5_init 105 = .ok (.invokestatic 61, 3) := by decide +kernel
theorem dX5_init_108 : decode cX5_init 108 = .ok (.aload_n 0, 1) := by decide +kernel
theorem dX5_init_109 : decode cX5_init 109 = .ok (.getfield 23, 3) := by decide +kernel
theorem dX5_init_112 : decode cX5_init 112 = .ok (.iconst (-1), 1) := by decide +kernel
theorem dX5_init_113 : decode cX5_init 113 = .ok (.invokestatic 61, 3) := by decide +kernel
theorem dX5_init_116 : decode cX5_init 116 = .ok (.iconst 0, 1) := by decide +kernel
theorem dX5_init_117 : decode cX5_init 117 = .ok (.istore_n 1, 1) := by decide +kernel
theorem dX5_init_118 : decode cX5_init 118 = .ok (.iload_n 1, 1) := by decide +kernel
theorem dX5_init_119 : decode cX5_init 119 = .ok (.bipush 8, 2) := by decide +kernel
theorem dX5_init_121 : decode cX5_init 121 = .ok (.if_icmp .ge 22, 3) := by decide +kernel
theorem dX5_init_124 : decode cX5_init 124 = .ok (.aload_n 0, 1) := by decide +kernel
theorem dX5_init_125 : decode cX5_init 125 = .ok (.getfield 19, 3) := by decide +kernel
theorem dX5_init_128 : decode cX5_init 128 = .ok (.iload_n 1, 1) := by decide +kernel
theorem dX5_init_129 : decode cX5_init 129 = .ok (.new 17, 3) := by decide +kernel
theorem dX5_init_132 : decode cX5_init 132 = .ok (.dup, 1) := by decide +kernel
theorem dX5_init_133 : decode cX5_init 133 = .ok (.invokespecial 67, 3) := by decide +kernel
theorem dX5_init_136 : decode cX5_init 136 = .ok (.aastore, 1) := by decide +kernel
theorem dX5_init_137 : decode cX5_init 137 = .ok (.iinc 1 1, 3) := by decide +kernel
theorem dX5_init_140 : decode cX5_init 140 = .ok (.goto (-22), 3) := by decide +kernel
theorem dX5_init_143 : decode cX5_init 143 = .ok (.iconst 0, 1) := by decide +kernel
theorem dX5_init_144 : decode cX5_init 144 = .ok (.istore_n 1, 1) := by decide +kernel
theorem dX5_init_145 : decode cX5_init 145 = .ok (.iload_n 1, 1) := by decide +kernel
theorem dX5_init_146 : decode cX5_init 146 = .ok (.bipush 12, 2) := by decide +kernel
theorem dX5_init_148 : decode cX5_init 148 = .ok (.if_icmp .ge 26, 3) := by decide +kernel
theorem dX5_init_151 : decode cX5_init 151 = .ok (.aload_n 0, 1) := by decide +kernel
theorem dX5_init_152 : decode cX5_init 152 = .ok (.getfield 31, 3) := by decide +kernel
theorem dX5_init_155 : decode cX5_init 155 = .ok (.iload_n 1, 1) := by decide +kernel
theorem dX5_init_156 : decode cX5_init 156 = .ok (.new 29, 3) := by decide +kernel
theorem dX5_init_159 : decode cX5_init 159 = .ok (.dup, 1) := by decide +kernel
theorem dX5_init_160 : decode cX5_init 160 = .ok (.bipush 10, 2) := by decide +kernel
theorem dX5_init_162 : decode cX5_init 162 = .ok (.iload_n 1, 1) := by decide +kernel
theorem dX5_init_163 : decode cX5_init 163 = .ok (.iadd, 1) := by decide +kernel
theorem dX5_init_164 : decode cX5_init 164 = .ok (.invokespecial 68, 3) := by decide +kernel
theorem dX5_init_167 : decode cX5_init 167 = .ok (.aastore, 1) := by decide +kernel
theorem dX5_init_168 : decode cX5_init 168 = .ok (.iinc 1 1, 3) := by decide +kernel
theorem dX5_init_171 : decode cX5_init 171 = .ok (.goto (-26), 3) := by decide +kernel
theorem dX5_init_174 : decode cX5_init 174 = .ok (.iconst 0, 1) := by decide +kernel
theorem dX5_init_175 : decode cX5_init 175 = .ok (.istore_n 1, 1) := by decide +kernel
theorem dX5_init_176 : decode cX5_init 176 = .ok (.iload_n 1, 1) := by decide +kernel
theorem dX5_init_177 : decode cX5_init 177 = .ok (.bipush 40, 2) := by decide +kernel
theorem dX5_init_179 : decode cX5_init 179 = .ok (.if_icmp .ge 22, 3) := by decide +kernel
theorem dX5_init_182 : decode cX5_init 182 = .ok (.aload_n 0, 1) := by decide +kernel
theorem dX5_init_183 : decode cX5_init 183 = .ok (.getfield 37, 3) := by decide +kernel
theorem dX5_init_186 : decode cX5_init 186 = .ok (.iload_n 1, 1) := by decide +kernel
theorem dX5_init_187 : decode cX5_init 187 = .ok (.new 35, 3) := by decide +kernel
theorem dX5_init_190 : decode cX5_init 190 = .ok (.dup, 1) := by decide +kernel
theorem dX5_init_191 : decode cX5_init 191 = .ok (.invokespecial 71, 3) := by decide +kernel
theorem dX5_init_194 : decode cX5_init 194 = .ok (.aastore, 1) := by decide +kernel
theorem dX5_init_195 : decode cX5_init 195 = .ok (.iinc 1 1, 3) := by decide +kernel
theorem dX5_init_198 : decode cX5_init 198 = .ok (.goto (-22), 3) := by decide +kernel
theorem dX5_init_201 : decode cX5_init 201 = .ok (.return_, 1) := by decide +kernel
theorem dX5_setDuty_0 : decode cX5_setDuty 0 = .ok (.iload_n 1, 1) := by decide +kernel
theorem dX5_setDuty_1 : decode cX5_setDuty 1 = .ok (.ifCond .lt 19, 3) := by decide +kernel
theorem dX5_setDuty_4 : decode cX5_setDuty 4 = .ok (.iload_n 1, 1) := by decide +kernel
theorem dX5_setDuty_5 : decode cX5_setDuty 5 = .ok (.iconst 4, 1) := by decide +kernel
theorem dX5_setDuty_6 : decode cX5_setDuty 6 = .ok (.if_icmp .ge 14, 3) := by decide +kernel
theorem dX5_setDuty_9 : decode cX5_setDuty 9 = .ok (.iload_n 2, 1) := by decide +kernel
theorem dX5_setDuty_10 : decode cX5_setDuty 10 = .ok (.ifCond .lt 10, 3) := by decide +kernel
theorem dX5_setDuty_13 : decode cX5_setDuty 13 = .ok (.iload_n 2, 1) := by decide +kernel
theorem dX5_setDuty_14 : decode cX5_setDuty 14 = .ok (.sipush 255, 3) := by decide +kernel
theorem dX5_setDuty_17 : decode cX5_setDuty 17 = .ok (.if_icmp .le 13, 3) := by decide +kernel
theorem dX5_setDuty_20 : decode cX5_setDuty 20 = .ok (.new 72, 3) := by decide +kernel
theorem dX5_setDuty_23 : decode cX5_setDuty 23 = .ok (.dup, 1) := by decide +kernel
theorem dX5_setDuty_24 : decode cX5_setDuty 24 = .ok (.ldc 74, 2) := by decide +kernel
theorem dX5_setDuty_26 : decode cX5_setDuty 26 = .ok (.invokespecial 76, 3) := by decide +kernel
theorem dX5_setDuty_29 : decode cX5_setDuty 29 = .ok (.athrow, 1) := by decide +kernel
theorem dX5_setDuty_30 : decode cX5_setDuty 30 = .ok (.aload_n 0, 1) := by decide +kernel
theorem dX5_setDuty_31 : decode cX5_setDuty 31 = .ok (.getfield 13, 3) := by decide +kernel
theorem dX5_setDuty_34 : decode cX5_setDuty 34 = .ok (.iload_n 1, 1) := by decide +kernel
theorem dX5_setDuty_35 : decode cX5_setDuty 35 = .ok (.iaload, 1) := by decide +kernel
theorem dX5_setDuty_36 : decode cX5_setDuty 36 = .ok (.istore_n 3, 1) := by decide +kernel
theorem dX5_setDuty_37 : decode cX5_setDuty 37 = .ok (.aload_n 0, 1) := by decide +kernel
theorem dX5_setDuty_38 : decode cX5_setDuty 38 = .ok (.getfield 13, 3) := by decide +kernel
theorem dX5_setDuty_41 : decode cX5_setDuty 41 = .ok (.iload_n 1, 1) := by decide +kernel
theorem dX5_setDuty_42 : decode cX5_setDuty 42 = .ok (.iload_n 2, 1) := by decide +kernel
theorem dX5_setDuty_43 : decode cX5_setDuty 43 = .ok (.iastore, 1) := by decide +kernel
theorem dX5_setDuty_44 : decode cX5_setDuty 44 = .ok (.iload_n 3, 1) := by decide +kernel
theorem dX5_setDuty_45 : decode cX5_setDuty 45 = .ok (.ireturn, 1) := by decide +kernel
theorem dX5_leave_0 : decode cX5_leave 0 = .ok (.iload_n 1, 1) := by decide +kernel
theorem dX5_leave_1 : decode cX5_leave 1 = .ok (.invokestatic 79, 3) := by decide +kernel
theorem dX5_leave_4 : decode cX5_leave 4 = .ok (.aload_n 0, 1) := by decide +kernel
theorem dX5_leave_5 : decode cX5_leave 5 = .ok (.getfield 19, 3) := by decide +kernel
theorem dX5_leave_8 : decode cX5_leave 8 = .ok (.iload_n 1, 1) := by decide +kernel
theorem dX5_leave_9 : decode cX5_leave 9 = .ok (.aaload, 1) := by decide +kernel
theorem dX5_leave_10 : decode cX5_leave 10 = .ok (.astore_n 3, 1) := by decide +kernel
theorem dX5_leave_11 : decode cX5_leave 11 = .ok (.aload_n 3, 1) := by decide +kernel
theorem dX5_leave_12 : decode cX5_leave 12 = .ok (.getfield 82, 3) := by decide +kernel
theorem dX5_leave_15 : decode cX5_leave 15 = .ok (.ifCond .ne 13, 3) := by decide +kernel
theorem dX5_leave_18 : decode cX5_leave 18 = .ok (.new 86, 3) := by decide +kernel
theorem dX5_leave_21 : decode cX5_leave 21 = .ok (.dup, 1) := by decide +kernel
theorem dX5_leave_22 : decode cX5_leave 22 = .ok (.ldc 88, 2) := by decide +kernel
theorem dX5_leave_24 : decode cX5_leave 24 = .ok (.invokespecial 90, 3) := by decide +kernel
theorem dX5_leave_27 : decode cX5_leave 27 = .ok (.athrow, 1) := by decide +kernel
theorem dX5_leave_28 : decode cX5_leave 28 = .ok (.aload_n 3, 1) := by decide +kernel
theorem dX5_leave_29 : decode cX5_leave 29 = .ok (.iconst 0, 1) := by decide +kernel
theorem dX5_leave_30 : decode cX5_leave 30 = .ok (.putfield 82, 3) := by decide +kernel
theorem dX5_leave_33 : decode cX5_leave 33 = .ok (.iload_n 2, 1) := by decide +kernel
theorem dX5_leave_34 : decode cX5_leave 34 = .ok (.ifCond .ne 5, 3) := by decide +kernel
theorem dX5_leave_37 : decode cX5_leave 37 = .ok (.iconst 0, 1) := by decide +kernel
theorem dX5_leave_38 : decode cX5_leave 38 = .ok (.ireturn, 1) := by decide +kernel
theorem dX5_leave_39 : decode cX5_leave 39 = .ok (.aload_n 0, 1) := by decide +kernel
theorem dX5_leave_40 : decode cX5_leave 40 = .ok (.dup, 1) := by decide +kernel
theorem dX5_leave_41 : decode cX5_leave 41 = .ok (.getfield 91, 3) := by decide +kernel
theorem dX5_leave_44 : decode cX5_leave 44 = .ok (.iconst 1, 1) := by decide +kernel
theorem dX5_leave_45 : decode cX5_leave 45 = .ok (.iadd, 1) := by decide +kernel
theorem dX5_leave_46 : decode cX5_leave 46 = .ok (.putfield 91, 3) := by decide +kernel
theorem dX5_leave_49 : decode cX5_leave 49 = .ok (.aload_n 3, 1) := by decide +kernel
theorem dX5_leave_50 : decode cX5_leave 50 = .ok (.iconst 1, 1) := by decide +kernel
theorem dX5_leave_51 : decode cX5_leave 51 = .ok (.putfield 94, 3) := by decide +kernel
theorem dX5_leave_54 : decode cX5_leave 54 = .ok (.aload_n 3, 1) := by decide +kernel
theorem dX5_leave_55 : decode cX5_leave 55 = .ok (.aload_n 0, 1) := by decide +kernel
theorem dX5_leave_56 : decode cX5_leave 56 = .ok (.getfield 97, 3) := by decide +kernel
theorem dX5_leave_59 : decode cX5_leave 59 = .ok (.putfield 100, 3) := by decide +kernel
theorem dX5_leave_62 : decode cX5_leave 62 = .ok (.aload_n 3, 1) := by decide +kernel
theorem dX5_leave_63 : decode cX5_leave 63 = .ok (.aload_n 0, 1) := by decide +kernel
theorem dX5_leave_64 : decode cX5_leave 64 = .ok (.getfield 91, 3) := by decide +kernel
theorem dX5_leave_67 : decode cX5_leave 67 = .ok (.putfield 103, 3) := by decide +kernel
theorem dX5_leave_70 : decode cX5_leave 70 = .ok (.aload_n 0, 1) := by decide +kernel
theorem dX5_leave_71 : decode cX5_leave 71 = .ok (.iload_n 1, 1) := by decide +kernel
theorem dX5_leave_72 : decode cX5_leave 72 = .ok (.invokevirtual 106, 3) := by decide +kernel
theorem dX5_leave_75 : decode cX5_leave 75 = .ok (.ireturn, 1) := by decide +kernel
theorem dX5_comeBack_0 : decode cX5_comeBack 0 = .ok (.iload_n 1, 1) := by decide +kernel
theorem dX5_comeBack_1 : decode cX5_comeBack 1 = .ok (.invokestatic 79, 3) := by decide +kernel
theorem dX5_comeBack_4 : decode cX5_comeBack 4 = .ok (.aload_n 0, 1) := by decide +kernel
theorem dX5_comeBack_5 : decode cX5_comeBack 5 = .ok (.getfield 19, 3) := by decide +kernel
theorem dX5_comeBack_8 : decode cX5_comeBack 8 = .ok (.iload_n 1, 1) := by decide +kernel
theorem dX5_comeBack_9 : decode cX5_comeBack 9 = .ok (.aaload, 1) := by decide +kernel
theorem dX5_comeBack_10 : decode cX5_comeBack 10 = .ok (.astore_n 2, 1) := by decide +kernel
theorem dX5_comeBack_11 : decode cX5_comeBack 11 = .ok (.aload_n 2, 1) := by decide +kernel
theorem dX5_comeBack_12 : decode cX5_comeBack 12 = .ok (.getfield 82, 3) := by decide +kernel
theorem dX5_comeBack_15 : decode cX5_comeBack 15 = .ok (.ifCond .ne 10, 3) := by decide +kernel
theorem dX5_comeBack_18 : decode cX5_comeBack 18 = .ok (.aload_n 2, 1) := by decide +kernel
theorem dX5_comeBack_19 : decode cX5_comeBack 19 = .ok (.getfield 94, 3) := by decide +kernel
theorem dX5_comeBack_22 : decode cX5_comeBack 22 = .ok (.ifCond .eq 13, 3) := by decide +kernel
theorem dX5_comeBack_25 : decode cX5_comeBack 25 = .ok (.new 86, 3) := by decide +kernel
theorem dX5_comeBack_28 : decode cX5_comeBack 28 = .ok (.dup, 1) := by decide +kernel
theorem dX5_comeBack_29 : decode cX5_comeBack 29 = .ok (.ldc 110, 2) := by decide +kernel
theorem dX5_comeBack_31 : decode cX5_comeBack 31 = .ok (.invokespecial 90, 3) := by decide +kernel
theorem dX5_comeBack_34 : decode cX5_comeBack 34 = .ok (.athrow, 1) := by decide +kernel
theorem dX5_comeBack_35 : decode cX5_comeBack 35 = .ok (.aload_n 2, 1) := by decide +kernel
theorem dX5_comeBack_36 : decode cX5_comeBack 36 = .ok (.iconst 1, 1) := by decide +kernel
theorem dX5_comeBack_37 : decode cX5_comeBack 37 = .ok (.putfield 82, 3) := by decide +kernel
theorem dX5_comeBack_40 : decode cX5_comeBack 40 = .ok (.return_, 1) := by decide +kernel
theorem dX5_pass_0 : decode cX5_pass 0 = .ok (.iload_n 1, 1) := by decide +kernel
theorem dX5_pass_1 : decode cX5_pass 1 = .ok (.iconst 1, 1) := by decide +kernel
theorem dX5_pass_2 : decode cX5_pass 2 = .ok (.if_icmp .lt 9, 3) := by decide +kernel
theorem dX5_pass_5 : decode cX5_pass 5 = .ok (.iload_n 1, 1) := by decide +kernel
theorem dX5_pass_6 : decode cX5_pass 6 = .ok (.bipush 60, 2) := by decide +kernel
theorem dX5_pass_8 : decode cX5_pass 8 = .ok (.if_icmp .le 13, 3) := by decide +kernel
theorem dX5_pass_11 : decode cX5_pass 11 = .ok (.new 72, 3) := by decide +kernel
theorem dX5_pass_14 : decode cX5_pass 14 = .ok (.dup, 1) := by decide +kernel
theorem dX5_pass_15 : decode cX5_pass 15 = .ok (.ldc 112, 2) := by decide +kernel
theorem dX5_pass_17 : decode cX5_pass 17 = .ok (.invokespecial 76, 3) := by decide +kernel
theorem dX5_pass_20 : decode cX5_pass 20 = .ok (.athrow, 1) := by decide +kernel
theorem dX5_pass_21 : decode cX5_pass 21 = .ok (.iconst 0, 1) := by decide +kernel
theorem dX5_pass_22 : decode cX5_pass 22 = .ok (.istore_n 2, 1) := by decide +kernel
theorem dX5_pass_23 : decode cX5_pass 23 = .ok (.iload_n 1, 1) := by decide +kernel
theorem dX5_pass_24 : decode cX5_pass 24 = .ok (.iconst 1, 1) := by decide +kernel
theorem dX5_pass_25 : decode cX5_pass 25 = .ok (.isub, 1) := by decide +kernel
theorem dX5_pass_26 : decode cX5_pass 26 = .ok (.istore_n 3, 1) := by decide +kernel
theorem dX5_pass_27 : decode cX5_pass 27 = .ok (.iload_n 3, 1) := by decide +kernel
theorem dX5_pass_28 : decode cX5_pass 28 = .ok (.ifCond .lt 55, 3) := by decide +kernel
theorem dX5_pass_31 : decode cX5_pass 31 = .ok (.aload_n 0, 1) := by decide +kernel
theorem dX5_pass_32 : decode cX5_pass 32 = .ok (.dup, 1) := by decide +kernel
theorem dX5_pass_33 : decode cX5_pass 33 = .ok (.getfield 97, 3) := by decide +kernel
theorem dX5_pass_36 : decode cX5_pass 36 = .ok (.iconst 1, 1) := by decide +kernel
theorem dX5_pass_37 : decode cX5_pass 37 = .ok (.iadd, 1) := by decide +kernel
theorem dX5_pass_38 : decode cX5_pass 38 = .ok (.putfield 97, 3) := by decide +kernel
theorem dX5_pass_41 : decode cX5_pass 41 = .ok (.aload_n 0, 1) := by decide +kernel
theorem dX5_pass_42 : decode cX5_pass 42 = .ok (.invokevirtual 114, 3) := by decide +kernel
theorem dX5_pass_45 : decode cX5_pass 45 = .ok (.istore 4, 2) := by decide +kernel
theorem dX5_pass_47 : decode cX5_pass 47 = .ok (.iload_n 2, 1) := by decide +kernel
theorem dX5_pass_48 : decode cX5_pass 48 = .ok (.iload 4, 2) := by decide +kernel
theorem dX5_pass_50 : decode cX5_pass 50 = .ok (.iadd, 1) := by decide +kernel
theorem dX5_pass_51 : decode cX5_pass 51 = .ok (.istore_n 2, 1) := by decide +kernel
theorem dX5_pass_52 : decode cX5_pass 52 = .ok (.iload 4, 2) := by decide +kernel
theorem dX5_pass_54 : decode cX5_pass 54 = .ok (.ifCond .ne 23, 3) := by decide +kernel
theorem dX5_pass_57 : decode cX5_pass 57 = .ok (.aload_n 0, 1) := by decide +kernel
theorem dX5_pass_58 : decode cX5_pass 58 = .ok (.invokevirtual 118, 3) := by decide +kernel
theorem dX5_pass_61 : decode cX5_pass 61 = .ok (.ifCond .ne 16, 3) := by decide +kernel
theorem dX5_pass_64 : decode cX5_pass 64 = .ok (.aload_n 0, 1) := by decide +kernel
theorem dX5_pass_65 : decode cX5_pass 65 = .ok (.dup, 1) := by decide +kernel
theorem dX5_pass_66 : decode cX5_pass 66 = .ok (.getfield 97, 3) := by decide +kernel
theorem dX5_pass_69 : decode cX5_pass 69 = .ok (.iload_n 3, 1) := by decide +kernel
theorem dX5_pass_70 : decode cX5_pass 70 = .ok (.iadd, 1) := by decide +kernel
theorem dX5_pass_71 : decode cX5_pass 71 = .ok (.putfield 97, 3) := by decide +kernel
theorem dX5_pass_74 : decode cX5_pass 74 = .ok (.goto 9, 3) := by decide +kernel
theorem dX5_pass_77 : decode cX5_pass 77 = .ok (.iinc 3 (-1), 3) := by decide +kernel
theorem dX5_pass_80 : decode cX5_pass 80 = .ok (.goto (-53), 3) := by decide +kernel
theorem dX5_pass_83 : decode cX5_pass 83 = .ok (.iload_n 2, 1) := by decide +kernel
theorem dX5_pass_84 : decode cX5_pass 84 = .ok (.ireturn, 1) := by decide +kernel
theorem dX5_day_0 : decode cX5_day 0 = .ok (.aload_n 0, 1) := by decide +kernel
theorem dX5_day_1 : decode cX5_day 1 = .ok (.getfield 97, 3) := by decide +kernel
theorem dX5_day_4 : decode cX5_day 4 = .ok (.ireturn, 1) := by decide +kernel
theorem dX5_addGroup_0 : decode cX5_addGroup 0 = .ok (.aload_n 0, 1) := by decide +kernel
theorem dX5_addGroup_1 : decode cX5_addGroup 1 = .ok (.iload_n 1, 1) := by decide +kernel
theorem dX5_addGroup_2 : decode cX5_addGroup 2 = .ok (.invokevirtual 122, 3) := by decide +kernel
theorem dX5_addGroup_5 : decode cX5_addGroup 5 = .ok (.aload_n 0, 1) := by decide +kernel
theorem dX5_addGroup_6 : decode cX5_addGroup 6 = .ok (.getfield 26, 3) := by decide +kernel
theorem dX5_addGroup_9 : decode cX5_addGroup 9 = .ok (.bipush 10, 2) := by decide +kernel
theorem dX5_addGroup_11 : decode cX5_addGroup 11 = .ok (.if_icmp .lt 13, 3) := by decide +kernel
theorem dX5_addGroup_14 : decode cX5_addGroup 14 = .ok (.new 86, 3) := by decide +kernel
theorem dX5_addGroup_17 : decode cX5_addGroup 17 = .ok (.dup, 1) := by decide +kernel
theorem dX5_addGroup_18 : decode cX5_addGroup 18 = .ok (.ldc 125, 2) := by decide +kernel
theorem dX5_addGroup_20 : decode cX5_addGroup 20 = .ok (.invokespecial 90, 3) := by decide +kernel
theorem dX5_addGroup_23 : decode cX5_addGroup 23 = .ok (.athrow, 1) := by decide +kernel
theorem dX5_addGroup_24 : decode cX5_addGroup 24 = .ok (.aload_n 0, 1) := by decide +kernel
theorem dX5_addGroup_25 : decode cX5_addGroup 25 = .ok (.getfield 26, 3) := by decide +kernel
theorem dX5_addGroup_28 : decode cX5_addGroup 28 = .ok (.istore_n 2, 1) := by decide +kernel
theorem dX5_addGroup_29 : decode cX5_addGroup 29 = .ok (.aload_n 0, 1) := by decide +kernel
theorem dX5_addGroup_30 : decode cX5_addGroup 30 = .ok (.getfield 23, 3) := by decide +kernel
theorem dX5_addGroup_33 : decode cX5_addGroup 33 = .ok (.iload_n 2, 1) := by decide +kernel
theorem dX5_addGroup_34 : decode cX5_addGroup 34 = .ok (.iload_n 1, 1) := by decide +kernel
theorem dX5_addGroup_35 : decode cX5_addGroup 35 = .ok (.iastore, 1) := by decide +kernel
theorem dX5_addGroup_36 : decode cX5_addGroup 36 = .ok (.aload_n 0, 1) := by decide +kernel
theorem dX5_addGroup_37 : decode cX5_addGroup 37 = .ok (.dup, 1) := by decide +kernel
theorem dX5_addGroup_38 : decode cX5_addGroup 38 = .ok (.getfield 26, 3) := by decide +kernel
theorem dX5_addGroup_41 : decode cX5_addGroup 41 = .ok (.iconst 1, 1) := by decide +kernel
theorem dX5_addGroup_42 : decode cX5_addGroup 42 = .ok (.iadd, 1) := by decide +kernel
theorem dX5_addGroup_43 : decode cX5_addGroup 43 = .ok (.putfield 26, 3) := by decide +kernel
theorem dX5_addGroup_46 : decode cX5_addGroup 46 = .ok (.iload_n 2, 1) := by decide +kernel
theorem dX5_addGroup_47 : decode cX5_addGroup 47 = .ok (.ireturn, 1) := by decide +kernel
theorem dX5_addMachine_0 : decode cX5_addMachine 0 = .ok (.aload_n 0, 1) := by decide +kernel
theorem dX5_addMachine_1 : decode cX5_addMachine 1 = .ok (.iload_n 1, 1) := by decide +kernel
theorem dX5_addMachine_2 : decode cX5_addMachine 2 = .ok (.invokevirtual 122, 3) := by decide +kernel
theorem dX5_addMachine_5 : decode cX5_addMachine 5 = .ok (.aload_n 0, 1) := by decide +kernel
theorem dX5_addMachine_6 : decode cX5_addMachine 6 = .ok (.getfield 127, 3) := by decide +kernel
theorem dX5_addMachine_9 : decode cX5_addMachine 9 = .ok (.bipush 12, 2) := by decide +kernel
theorem dX5_addMachine_11 : decode cX5_addMachine 11 = .ok (.if_icmp .lt 13, 3) := by decide +kernel
theorem dX5_addMachine_14 : decode cX5_addMachine 14 = .ok (.new 86, 3) := by decide +kernel
theorem dX5_addMachine_17 : decode cX5_addMachine 17 = .ok (.dup, 1) := by decide +kernel
theorem dX5_addMachine_18 : decode cX5_addMachine 18 = .ok (.ldc 130, 2) := by decide +kernel
theorem dX5_addMachine_20 : decode cX5_addMachine 20 = .ok (.invokespecial 90, 3) := by decide +kernel
theorem dX5_addMachine_23 : decode cX5_addMachine 23 = .ok (.athrow, 1) := by decide +kernel
theorem dX5_addMachine_24 : decode cX5_addMachine 24 = .ok (.aload_n 0, 1) := by decide +kernel
theorem dX5_addMachine_25 : decode cX5_addMachine 25 = .ok (.getfield 127, 3) := by decide +kernel
theorem dX5_addMachine_28 : decode cX5_addMachine 28 = .ok (.istore_n 2, 1) := by decide +kernel
theorem dX5_addMachine_29 : decode cX5_addMachine 29 = .ok (.aload_n 0, 1) := by decide +kernel
theorem dX5_addMachine_30 : decode cX5_addMachine 30 = .ok (.getfield 31, 3) := by decide +kernel
theorem dX5_addMachine_33 : decode cX5_addMachine 33 = .ok (.iload_n 2, 1) := by decide +kernel
theorem dX5_addMachine_34 : decode cX5_addMachine 34 = .ok (.aaload, 1) := by decide +kernel
theorem dX5_addMachine_35 : decode cX5_addMachine 35 = .ok (.iload_n 1, 1) := by decide +kernel
theorem dX5_addMachine_36 : decode cX5_addMachine 36 = .ok (.aload_n 0, 1) := by decide +kernel
theorem dX5_addMachine_37 : decode cX5_addMachine 37 = .ok (.getfield 23, 3) := by decide +kernel
theorem dX5_addMachine_40 : decode cX5_addMachine 40 = .ok (.invokevirtual 132, 3) := by decide +kernel
theorem dX5_addMachine_43 : decode cX5_addMachine 43 = .ok (.aload_n 0, 1) := by decide +kernel
theorem dX5_addMachine_44 : decode cX5_addMachine 44 = .ok (.dup, 1) := by decide +kernel
theorem dX5_addMachine_45 : decode cX5_addMachine 45 = .ok (.getfield 127, 3) := by decide +kernel
theorem dX5_addMachine_48 : decode cX5_addMachine 48 = .ok (.iconst 1, 1) := by decide +kernel
theorem dX5_addMachine_49 : decode cX5_addMachine 49 = .ok (.iadd, 1) := by decide +kernel
theorem dX5_addMachine_50 : decode cX5_addMachine 50 = .ok (.putfield 127, 3) := by decide +kernel
theorem dX5_addMachine_53 : decode cX5_addMachine 53 = .ok (.iload_n 2, 1) := by decide +kernel
theorem dX5_addMachine_54 : decode cX5_addMachine 54 = .ok (.ireturn, 1) := by decide +kernel
theorem dX5_moveMachine_0 : decode cX5_moveMachine 0 = .ok (.aload_n 0, 1) := by decide +kernel
theorem dX5_moveMachine_1 : decode cX5_moveMachine 1 = .ok (.iload_n 1, 1) := by decide +kernel
theorem dX5_moveMachine_2 : decode cX5_moveMachine 2 = .ok (.invokevirtual 136, 3) := by decide +kernel
theorem dX5_moveMachine_5 : decode cX5_moveMachine 5 = .ok (.aload_n 0, 1) := by decide +kernel
theorem dX5_moveMachine_6 : decode cX5_moveMachine 6 = .ok (.iload_n 2, 1) := by decide +kernel
theorem dX5_moveMachine_7 : decode cX5_moveMachine 7 = .ok (.invokevirtual 122, 3) := by decide +kernel
theorem dX5_moveMachine_10 : decode cX5_moveMachine 10 = .ok (.aload_n 0, 1) := by decide +kernel
theorem dX5_moveMachine_11 : decode cX5_moveMachine 11 = .ok (.getfield 31, 3) := by decide +kernel
theorem dX5_moveMachine_14 : decode cX5_moveMachine 14 = .ok (.iload_n 1, 1) := by decide +kernel
theorem dX5_moveMachine_15 : decode cX5_moveMachine 15 = .ok (.aaload, 1) := by decide +kernel
theorem dX5_moveMachine_16 : decode cX5_moveMachine 16 = .ok (.astore_n 3, 1) := by decide +kernel
theorem dX5_moveMachine_17 : decode cX5_moveMachine 17 = .ok (.aload_n 3, 1) := by decide +kernel
theorem dX5_moveMachine_18 : decode cX5_moveMachine 18 = .ok (.getfield 139, 3) := by decide +kernel
theorem dX5_moveMachine_21 : decode cX5_moveMachine 21 = .ok (.aload_n 0, 1) := by decide +kernel
theorem dX5_moveMachine_22 : decode cX5_moveMachine 22 = .ok (.getfield 97, 3) := by decide +kernel
theorem dX5_moveMachine_25 : decode cX5_moveMachine 25 = .ok (.if_icmp .le 13, 3) := by decide +kernel
theorem dX5_moveMachine_28 : decode cX5_moveMachine 28 = .ok (.new 86, 3) := by decide +kernel
theorem dX5_moveMachine_31 : decode cX5_moveMachine 31 = .ok (.dup, 1) := by decide +kernel
theorem dX5_moveMachine_32 : decode cX5_moveMachine 32 = .ok (.ldc 142, 2) := by decide +kernel
theorem dX5_moveMachine_34 : decode cX5_moveMachine 34 = .ok (.invokespecial 90, 3) := by decide +kernel
theorem dX5_moveMachine_37 : decode cX5_moveMachine 37 = .ok (.athrow, 1) := by decide +kernel
theorem dX5_moveMachine_38 : decode cX5_moveMachine 38 = .ok (.aload_n 3, 1) := by decide +kernel
theorem dX5_moveMachine_39 : decode cX5_moveMachine 39 = .ok (.getfield 144, 3) := by decide +kernel
theorem dX5_moveMachine_42 : decode cX5_moveMachine 42 = .ok (.istore 4, 2) := by decide +kernel
theorem dX5_moveMachine_44 : decode cX5_moveMachine 44 = .ok (.aload_n 3, 1) := by decide +kernel
theorem dX5_moveMachine_45 : decode cX5_moveMachine 45 = .ok (.iload_n 2, 1) := by decide +kernel
theorem dX5_moveMachine_46 : decode cX5_moveMachine 46 = .ok (.aload_n 0, 1) := by decide +kernel
theorem dX5_moveMachine_47 : decode cX5_moveMachine 47 = .ok (.getfield 23, 3) := by decide +kernel
theorem dX5_moveMachine_50 : decode cX5_moveMachine 50 = .ok (.invokevirtual 132, 3) := by decide +kernel
theorem dX5_moveMachine_53 : decode cX5_moveMachine 53 = .ok (.iload 4, 2) := by decide +kernel
theorem dX5_moveMachine_55 : decode cX5_moveMachine 55 = .ok (.ireturn, 1) := by decide +kernel
theorem dX5_work_0 : decode cX5_work 0 = .ok (.aload_n 0, 1) := by decide +kernel
theorem dX5_work_1 : decode cX5_work 1 = .ok (.iload_n 1, 1) := by decide +kernel
theorem dX5_work_2 : decode cX5_work 2 = .ok (.invokevirtual 136, 3) := by decide +kernel
theorem dX5_work_5 : decode cX5_work 5 = .ok (.iload_n 2, 1) := by decide +kernel
theorem dX5_work_6 : decode cX5_work 6 = .ok (.iconst 1, 1) := by decide +kernel
theorem dX5_work_7 : decode cX5_work 7 = .ok (.if_icmp .lt 9, 3) := by decide +kernel
theorem dX5_work_10 : decode cX5_work 10 = .ok (.iload_n 2, 1) := by decide +kernel
theorem dX5_work_11 : decode cX5_work 11 = .ok (.bipush 30, 2) := by decide +kernel
theorem dX5_work_13 : decode cX5_work 13 = .ok (.if_icmp .le 13, 3) := by decide +kernel
theorem dX5_work_16 : decode cX5_work 16 = .ok (.new 72, 3) := by decide +kernel
theorem dX5_work_19 : decode cX5_work 19 = .ok (.dup, 1) := by decide +kernel
theorem dX5_work_20 : decode cX5_work 20 = .ok (.ldc 112, 2) := by decide +kernel
theorem dX5_work_22 : decode cX5_work 22 = .ok (.invokespecial 76, 3) := by decide +kernel
theorem dX5_work_25 : decode cX5_work 25 = .ok (.athrow, 1) := by decide +kernel
theorem dX5_work_26 : decode cX5_work 26 = .ok (.aload_n 0, 1) := by decide +kernel
theorem dX5_work_27 : decode cX5_work 27 = .ok (.getfield 31, 3) := by decide +kernel
theorem dX5_work_30 : decode cX5_work 30 = .ok (.iload_n 1, 1) := by decide +kernel
theorem dX5_work_31 : decode cX5_work 31 = .ok (.aaload, 1) := by decide +kernel
theorem dX5_work_32 : decode cX5_work 32 = .ok (.astore_n 3, 1) := by decide +kernel
theorem dX5_work_33 : decode cX5_work 33 = .ok (.aload_n 3, 1) := by decide +kernel
theorem dX5_work_34 : decode cX5_work 34 = .ok (.getfield 139, 3) := by decide +kernel
theorem dX5_work_37 : decode cX5_work 37 = .ok (.aload_n 0, 1) := by decide +kernel
theorem dX5_work_38 : decode cX5_work 38 = .ok (.getfield 97, 3) := by decide +kernel
theorem dX5_work_41 : decode cX5_work 41 = .ok (.if_icmp .gt 12, 3) := by decide +kernel
theorem dX5_work_44 : decode cX5_work 44 = .ok (.aload_n 0, 1) := by decide +kernel
theorem dX5_work_45 : decode cX5_work 45 = .ok (.aload_n 3, 1) := by decide +kernel
theorem dX5_work_46 : decode cX5_work 46 = .ok (.invokevirtual 147, 3) := by decide +kernel
theorem dX5_work_49 : decode cX5_work 49 = .ok (.iconst (-1), 1) := by decide +kernel
theorem dX5_work_50 : decode cX5_work 50 = .ok (.if_icmp .eq 13, 3) := by decide +kernel
theorem dX5_work_53 : decode cX5_work 53 = .ok (.new 86, 3) := by decide +kernel
theorem dX5_work_56 : decode cX5_work 56 = .ok (.dup, 1) := by decide +kernel
theorem dX5_work_57 : decode cX5_work 57 = .ok (.ldc 151, 2) := by decide +kernel
theorem dX5_work_59 : decode cX5_work 59 = .ok (.invokespecial 90, 3) := by decide +kernel
theorem dX5_work_62 : decode cX5_work 62 = .ok (.athrow, 1) := by decide +kernel
theorem dX5_work_63 : decode cX5_work 63 = .ok (.aload_n 3, 1) := by decide +kernel
theorem dX5_work_64 : decode cX5_work 64 = .ok (.aload_n 0, 1) := by decide +kernel
theorem dX5_work_65 : decode cX5_work 65 = .ok (.getfield 97, 3) := by decide +kernel
theorem dX5_work_68 : decode cX5_work 68 = .ok (.iload_n 2, 1) := by decide +kernel
theorem dX5_work_69 : decode cX5_work 69 = .ok (.iadd, 1) := by decide +kernel
theorem dX5_work_70 : decode cX5_work 70 = .ok (.putfield 139, 3) := by decide +kernel
theorem dX5_work_73 : decode cX5_work 73 = .ok (.aload_n 3, 1) := by decide +kernel
theorem dX5_work_74 : decode cX5_work 74 = .ok (.getfield 139, 3) := by decide +kernel
theorem dX5_work_77 : decode cX5_work 77 = .ok (.ireturn, 1) := by decide +kernel
theorem dX5_setPace_0 : decode cX5_setPace 0 = .ok (.iload_n 1, 1) := by decide +kernel
theorem dX5_setPace_1 : decode cX5_setPace 1 = .ok (.ifCond .lt 9, 3) := by decide +kernel
theorem dX5_setPace_4 : decode cX5_setPace 4 = .ok (.iload_n 1, 1) := by decide +kernel
theorem dX5_setPace_5 : decode cX5_setPace 5 = .ok (.bipush 12, 2) := by decide +kernel
theorem dX5_setPace_7 : decode cX5_setPace 7 = .ok (.if_icmp .le 13, 3) := by decide +kernel
theorem dX5_setPace_10 : decode cX5_setPace 10 = .ok (.new 72, 3) := by decide +kernel
theorem dX5_setPace_13 : decode cX5_setPace 13 = .ok (.dup, 1) := by decide +kernel
theorem dX5_setPace_14 : decode cX5_setPace 14 = .ok (.ldc 153, 2) := by decide +kernel
theorem dX5_setPace_16 : decode cX5_setPace 16 = .ok (.invokespecial 76, 3) := by decide +kernel
theorem dX5_setPace_19 : decode cX5_setPace 19 = .ok (.athrow, 1) := by decide +kernel
theorem dX5_setPace_20 : decode cX5_setPace 20 = .ok (.aload_n 0, 1) := by decide +kernel
theorem dX5_setPace_21 : decode cX5_setPace 21 = .ok (.getfield 9, 3) := by decide +kernel
theorem dX5_setPace_24 : decode cX5_setPace 24 = .ok (.istore_n 2, 1) := by decide +kernel
theorem dX5_setPace_25 : decode cX5_setPace 25 = .ok (.aload_n 0, 1) := by decide +kernel
theorem dX5_setPace_26 : decode cX5_setPace 26 = .ok (.iload_n 1, 1) := by decide +kernel
theorem dX5_setPace_27 : decode cX5_setPace 27 = .ok (.putfield 9, 3) := by decide +kernel
theorem dX5_setPace_30 : decode cX5_setPace 30 = .ok (.iload_n 2, 1) := by decide +kernel
theorem dX5_setPace_31 : decode cX5_setPace 31 = .ok (.ireturn, 1) := by decide +kernel
theorem dX5_isBusy_0 : decode cX5_isBusy 0 = .ok (.aload_n 0, 1) := by decide +kernel
theorem dX5_isBusy_1 : decode cX5_isBusy 1 = .ok (.iload_n 1, 1) := by decide +kernel
theorem dX5_isBusy_2 : decode cX5_isBusy 2 = .ok (.invokevirtual 136, 3) := by decide +kernel
theorem dX5_isBusy_5 : decode cX5_isBusy 5 = .ok (.aload_n 0, 1) := by decide +kernel
theorem dX5_isBusy_6 : decode cX5_isBusy 6 = .ok (.getfield 31, 3) := by decide +kernel
theorem dX5_isBusy_9 : decode cX5_isBusy 9 = .ok (.iload_n 1, 1) := by decide +kernel
theorem dX5_isBusy_10 : decode cX5_isBusy 10 = .ok (.aaload, 1) := by decide +kernel
theorem dX5_isBusy_11 : decode cX5_isBusy 11 = .ok (.getfield 139, 3) := by decide +kernel
theorem dX5_isBusy_14 : decode cX5_isBusy 14 = .ok (.aload_n 0, 1) := by decide +kernel
theorem dX5_isBusy_15 : decode cX5_isBusy 15 = .ok (.getfield 97, 3) := by decide +kernel
theorem dX5_isBusy_18 : decode cX5_isBusy 18 = .ok (.if_icmp .le 7, 3) := by decide +kernel
theorem dX5_isBusy_21 : decode cX5_isBusy 21 = .ok (.iconst 1, 1) := by decide +kernel
theorem dX5_isBusy_22 : decode cX5_isBusy 22 = .ok (.goto 4, 3) := by decide +kernel
theorem dX5_isBusy_25 : decode cX5_isBusy 25 = .ok (.iconst 0, 1) := by decide +kernel
theorem dX5_isBusy_26 : decode cX5_isBusy 26 = .ok (.ireturn, 1) := by decide +kernel
theorem dX5_isStopped_0 : decode cX5_isStopped 0 = .ok (.aload_n 0, 1) := by decide +kernel
theorem dX5_isStopped_1 : decode cX5_isStopped 1 = .ok (.iload_n 1, 1) := by decide +kernel
theorem dX5_isStopped_2 : decode cX5_isStopped 2 = .ok (.invokevirtual 136, 3) := by decide +kernel
theorem dX5_isStopped_5 : decode cX5_isStopped 5 = .ok (.aload_n 0, 1) := by decide +kernel
theorem dX5_isStopped_6 : decode cX5_isStopped 6 = .ok (.aload_n 0, 1) := by decide +kernel
theorem dX5_isStopped_7 : decode cX5_isStopped 7 = .ok (.getfield 31, 3) := by decide +kernel
theorem dX5_isStopped_10 : decode cX5_isStopped 10 = .ok (.iload_n 1, 1) := by decide +kernel
theorem dX5_isStopped_11 : decode cX5_isStopped 11 = .ok (.aaload, 1) := by decide +kernel
theorem dX5_isStopped_12 : decode cX5_isStopped 12 = .ok (.invokevirtual 147, 3) := by decide +kernel
theorem dX5_isStopped_15 : decode cX5_isStopped 15 = .ok (.iconst (-1), 1) := by decide +kernel
theorem dX5_isStopped_16 : decode cX5_isStopped 16 = .ok (.if_icmp .eq 7, 3) := by decide +kernel
theorem dX5_isStopped_19 : decode cX5_isStopped 19 = .ok (.iconst 1, 1) := by decide +kernel
theorem dX5_isStopped_20 : decode cX5_isStopped 20 = .ok (.goto 4, 3) := by decide +kernel
theorem dX5_isStopped_23 : decode cX5_isStopped 23 = .ok (.iconst 0, 1) := by decide +kernel
theorem dX5_isStopped_24 : decode cX5_isStopped 24 = .ok (.ireturn, 1) := by decide +kernel
theorem dX5_propose_0 : decode cX5_propose 0 = .ok (.iload_n 1, 1) := by decide +kernel
theorem dX5_propose_1 : decode cX5_propose 1 = .ok (.invokestatic 79, 3) := by decide +kernel
theorem dX5_propose_4 : decode cX5_propose 4 = .ok (.aload_n 0, 1) := by decide +kernel
theorem dX5_propose_5 : decode cX5_propose 5 = .ok (.iload_n 2, 1) := by decide +kernel
theorem dX5_propose_6 : decode cX5_propose 6 = .ok (.invokevirtual 155, 3) := by decide +kernel
theorem dX5_propose_9 : decode cX5_propose 9 = .ok (.iload_n 3, 1) := by decide +kernel
theorem dX5_propose_10 : decode cX5_propose 10 = .ok (.invokestatic 158, 3) := by decide +kernel
theorem dX5_propose_13 : decode cX5_propose 13 = .ok (.iload 4, 2) := by decide +kernel
theorem dX5_propose_15 : decode cX5_propose 15 = .ok (.ifCond .lt 10, 3) := by decide +kernel
theorem dX5_propose_18 : decode cX5_propose 18 = .ok (.iload 4, 2) := by decide +kernel
theorem dX5_propose_20 : decode cX5_propose 20 = .ok (.bipush 101, 2) := by decide +kernel
theorem dX5_propose_22 : decode cX5_propose 22 = .ok (.if_icmp .le 13, 3) := by decide +kernel
theorem dX5_propose_25 : decode cX5_propose 25 = .ok (.new 72, 3) := by decide +kernel
theorem dX5_propose_28 : decode cX5_propose 28 = .ok (.dup, 1) := by decide +kernel
theorem dX5_propose_29 : decode cX5_propose 29 = .ok (.ldc 161, 2) := by decide +kernel
theorem dX5_propose_31 : decode cX5_propose 31 = .ok (.invokespecial 76, 3) := by decide +kernel
theorem dX5_propose_34 : decode cX5_propose 34 = .ok (.athrow, 1) := by decide +kernel
theorem dX5_propose_35 : decode cX5_propose 35 = .ok (.aload_n 0, 1) := by decide +kernel
theorem dX5_propose_36 : decode cX5_propose 36 = .ok (.getfield 19, 3) := by decide +kernel
theorem dX5_propose_39 : decode cX5_propose 39 = .ok (.iload_n 1, 1) := by decide +kernel
theorem dX5_propose_40 : decode cX5_propose 40 = .ok (.aaload, 1) := by decide +kernel
theorem dX5_propose_41 : decode cX5_propose 41 = .ok (.getfield 82, 3) := by decide +kernel
theorem dX5_propose_44 : decode cX5_propose 44 = .ok (.ifCond .eq 12, 3) := by decide +kernel
theorem dX5_propose_47 : decode cX5_propose 47 = .ok (.aload_n 0, 1) := by decide +kernel
theorem dX5_propose_48 : decode cX5_propose 48 = .ok (.getfield 163, 3) := by decide +kernel
theorem dX5_propose_51 : decode cX5_propose 51 = .ok (.bipush 40, 2) := by decide +kernel
theorem dX5_propose_53 : decode cX5_propose 53 = .ok (.if_icmp .lt 13, 3) := by decide +kernel
theorem dX5_propose_56 : decode cX5_propose 56 = .ok (.new 86, 3) := by decide +kernel
theorem dX5_propose_59 : decode cX5_propose 59 = .ok (.dup, 1) := by decide +kernel
theorem dX5_propose_60 : decode cX5_propose 60 = .ok (.ldc 166, 2) := by decide +kernel
theorem dX5_propose_62 : decode cX5_propose 62 = .ok (.invokespecial 90, 3) := by decide +kernel
theorem dX5_propose_65 : decode cX5_propose 65 = .ok (.athrow, 1) := by decide +kernel
theorem dX5_propose_66 : decode cX5_propose 66 = .ok (.aload_n 0, 1) := by decide +kernel
theorem dX5_propose_67 : decode cX5_propose 67 = .ok (.getfield 163, 3) := by decide +kernel
theorem dX5_propose_70 : decode cX5_propose 70 = .ok (.istore 5, 2) := by decide +kernel
theorem dX5_propose_72 : decode cX5_propose 72 = .ok (.aload_n 0, 1) := by decide +kernel
theorem dX5_propose_73 : decode cX5_propose 73 = .ok (.getfield 37, 3) := by decide +kernel
theorem dX5_propose_76 : decode cX5_propose 76 = .ok (.iload 5, 2) := by decide +kernel
theorem dX5_propose_78 : decode cX5_propose 78 = .ok (.aaload, 1) := by decide +kernel
theorem dX5_propose_79 : decode cX5_propose 79 = .ok (.iload_n 1, 1) := by decide +kernel
theorem dX5_propose_80 : decode cX5_propose 80 = .ok (.aload_n 0, 1) := by decide +kernel
theorem dX5_propose_81 : decode cX5_propose 81 = .ok (.iload_n 2, 1) := by decide +kernel
theorem dX5_propose_82 : decode cX5_propose 82 = .ok (.invokevirtual 168, 3) := by decide +kernel
theorem dX5_propose_85 : decode cX5_propose 85 = .ok (.iload_n 3, 1) := by decide +kernel
theorem dX5_propose_86 : decode cX5_propose 86 = .ok (.invokestatic 171, 3) := by decide +kernel
theorem dX5_propose_89 : decode cX5_propose 89 = .ok (.iload 4, 2) := by decide +kernel
theorem dX5_propose_91 : decode cX5_propose 91 = .ok (.aload_n 0, 1) := by decide +kernel
theorem dX5_propose_92 : decode cX5_propose 92 = .ok (.getfield 97, 3) := by decide +kernel
theorem dX5_propose_95 : decode cX5_propose 95 = .ok (.invokevirtual 175, 3) := by decide +kernel
theorem dX5_propose_98 : decode cX5_propose 98 = .ok (.aload_n 0, 1) := by decide +kernel
theorem dX5_propose_99 : decode cX5_propose 99 = .ok (.dup, 1) := by decide +kernel
theorem dX5_propose_100 : decode cX5_propose 100 = .ok (.getfield 163, 3) := by decide +kernel
theorem dX5_propose_103 : decode cX5_propose 103 = .ok (.iconst 1, 1) := by decide +kernel
theorem dX5_propose_104 : decode cX5_propose 104 = .ok (.iadd, 1) := by decide +kernel
theorem dX5_propose_105 : decode cX5_propose 105 = .ok (.putfield 163, 3) := by decide +kernel
theorem dX5_propose_108 : decode cX5_propose 108 = .ok (.iload 5, 2) := by decide +kernel
theorem dX5_propose_110 : decode cX5_propose 110 = .ok (.ireturn, 1) := by decide +kernel
theorem dX5_approve_0 : decode cX5_approve 0 = .ok (.iload_n 1, 1) := by decide +kernel
theorem dX5_approve_1 : decode cX5_approve 1 = .ok (.invokestatic 79, 3) := by decide +kernel
theorem dX5_approve_4 : decode cX5_approve 4 = .ok (.aload_n 0, 1) := by decide +kernel
theorem dX5_approve_5 : decode cX5_approve 5 = .ok (.iload_n 2, 1) := by decide +kernel
theorem dX5_approve_6 : decode cX5_approve 6 = .ok (.invokevirtual 179, 3) := by decide +kernel
theorem dX5_approve_9 : decode cX5_approve 9 = .ok (.aload_n 0, 1) := by decide +kernel
theorem dX5_approve_10 : decode cX5_approve 10 = .ok (.getfield 37, 3) := by decide +kernel
theorem dX5_approve_13 : decode cX5_approve 13 = .ok (.iload_n 2, 1) := by decide +kernel
theorem dX5_approve_14 : decode cX5_approve 14 = .ok (.aaload, 1) := by decide +kernel
theorem dX5_approve_15 : decode cX5_approve 15 = .ok (.astore_n 3, 1) := by decide +kernel
theorem dX5_approve_16 : decode cX5_approve 16 = .ok (.aload_n 0, 1) := by decide +kernel
theorem dX5_approve_17 : decode cX5_approve 17 = .ok (.getfield 19, 3) := by decide +kernel
theorem dX5_approve_20 : decode cX5_approve 20 = .ok (.iload_n 1, 1) := by decide +kernel
theorem dX5_approve_21 : decode cX5_approve 21 = .ok (.aaload, 1) := by decide +kernel
theorem dX5_approve_22 : decode cX5_approve 22 = .ok (.getfield 82, 3) := by decide +kernel
theorem dX5_approve_25 : decode cX5_approve 25 = .ok (.ifCond .eq 19, 3) := by decide +kernel
theorem dX5_approve_28 : decode cX5_approve 28 = .ok (.aload_n 0, 1) := by decide +kernel
theorem dX5_approve_29 : decode cX5_approve 29 = .ok (.iload_n 1, 1) := by decide +kernel
theorem dX5_approve_30 : decode cX5_approve 30 = .ok (.invokevirtual 182, 3) := by decide +kernel
theorem dX5_approve_33 : decode cX5_approve 33 = .ok (.ifCond .eq 11, 3) := by decide +kernel
theorem dX5_approve_36 : decode cX5_approve 36 = .ok (.aload_n 3, 1) := by decide +kernel
theorem dX5_approve_37 : decode cX5_approve 37 = .ok (.iload_n 1, 1) := by decide +kernel
theorem dX5_approve_38 : decode cX5_approve 38 = .ok (.invokevirtual 186, 3) := by decide +kernel
theorem dX5_approve_41 : decode cX5_approve 41 = .ok (.ifCond .ne 13, 3) := by decide +kernel
theorem dX5_approve_44 : decode cX5_approve 44 = .ok (.new 86, 3) := by decide +kernel
theorem dX5_approve_47 : decode cX5_approve 47 = .ok (.dup, 1) := by decide +kernel
theorem dX5_approve_48 : decode cX5_approve 48 = .ok (.ldc 189, 2) := by decide +kernel
theorem dX5_approve_50 : decode cX5_approve 50 = .ok (.invokespecial 90, 3) := by decide +kernel
theorem dX5_approve_53 : decode cX5_approve 53 = .ok (.athrow, 1) := by decide +kernel
theorem dX5_approve_54 : decode cX5_approve 54 = .ok (.aload_n 0, 1) := by decide +kernel
theorem dX5_approve_55 : decode cX5_approve 55 = .ok (.dup, 1) := by decide +kernel
theorem dX5_approve_56 : decode cX5_approve 56 = .ok (.getfield 91, 3) := by decide +kernel
theorem dX5_approve_59 : decode cX5_approve 59 = .ok (.iconst 1, 1) := by decide +kernel
theorem dX5_approve_60 : decode cX5_approve 60 = .ok (.iadd, 1) := by decide +kernel
theorem dX5_approve_61 : decode cX5_approve 61 = .ok (.putfield 91, 3) := by decide +kernel
theorem dX5_approve_64 : decode cX5_approve 64 = .ok (.aload_n 3, 1) := by decide +kernel
theorem dX5_approve_65 : decode cX5_approve 65 = .ok (.iload_n 1, 1) := by decide +kernel
theorem dX5_approve_66 : decode cX5_approve 66 = .ok (.aload_n 0, 1) := by decide +kernel
theorem dX5_approve_67 : decode cX5_approve 67 = .ok (.getfield 97, 3) := by decide +kernel
theorem dX5_approve_70 : decode cX5_approve 70 = .ok (.aload_n 0, 1) := by decide +kernel
theorem dX5_approve_71 : decode cX5_approve 71 = .ok (.getfield 91, 3) := by decide +kernel
theorem dX5_approve_74 : decode cX5_approve 74 = .ok (.invokevirtual 191, 3) := by decide +kernel
theorem dX5_approve_77 : decode cX5_approve 77 = .ok (.aload_n 3, 1) := by decide +kernel
theorem dX5_approve_78 : decode cX5_approve 78 = .ok (.getfield 195, 3) := by decide +kernel
theorem dX5_approve_81 : decode cX5_approve 81 = .ok (.iconst 1, 1) := by decide +kernel
theorem dX5_approve_82 : decode cX5_approve 82 = .ok (.if_icmp .eq 16, 3) := by decide +kernel
theorem dX5_approve_85 : decode cX5_approve 85 = .ok (.aload_n 3, 1) := by decide +kernel
theorem dX5_approve_86 : decode cX5_approve 86 = .ok (.invokevirtual 198, 3) := by decide +kernel
theorem dX5_approve_89 : decode cX5_approve 89 = .ok (.iconst 2, 1) := by decide +kernel
theorem dX5_approve_90 : decode cX5_approve 90 = .ok (.if_icmp .lt 8, 3) := by decide +kernel
theorem dX5_approve_93 : decode cX5_approve 93 = .ok (.aload_n 0, 1) := by decide +kernel
theorem dX5_approve_94 : decode cX5_approve 94 = .ok (.iload_n 2, 1) := by decide +kernel
theorem dX5_approve_95 : decode cX5_approve 95 = .ok (.invokevirtual 201, 3) := by decide +kernel
theorem dX5_approve_98 : decode cX5_approve 98 = .ok (.aload_n 3, 1) := by decide +kernel
theorem dX5_approve_99 : decode cX5_approve 99 = .ok (.getfield 195, 3) := by decide +kernel
theorem dX5_approve_102 : decode cX5_approve 102 = .ok (.ireturn, 1) := by decide +kernel
theorem dX5_withdraw_0 : decode cX5_withdraw 0 = .ok (.aload_n 0, 1) := by decide +kernel
theorem dX5_withdraw_1 : decode cX5_withdraw 1 = .ok (.iload_n 1, 1) := by decide +kernel
theorem dX5_withdraw_2 : decode cX5_withdraw 2 = .ok (.invokevirtual 179, 3) := by decide +kernel
theorem dX5_withdraw_5 : decode cX5_withdraw 5 = .ok (.aload_n 0, 1) := by decide +kernel
theorem dX5_withdraw_6 : decode cX5_withdraw 6 = .ok (.getfield 37, 3) := by decide +kernel
theorem dX5_withdraw_9 : decode cX5_withdraw 9 = .ok (.iload_n 1, 1) := by decide +kernel
theorem dX5_withdraw_10 : decode cX5_withdraw 10 = .ok (.aaload, 1) := by decide +kernel
theorem dX5_withdraw_11 : decode cX5_withdraw 11 = .ok (.astore_n 2, 1) := by decide +kernel
theorem dX5_withdraw_12 : decode cX5_withdraw 12 = .ok (.aload_n 2, 1) := by decide +kernel
theorem dX5_withdraw_13 : decode cX5_withdraw 13 = .ok (.getfield 195, 3) := by decide +kernel
theorem dX5_withdraw_16 : decode cX5_withdraw 16 = .ok (.ifCond .eq 13, 3) := by decide +kernel
theorem dX5_withdraw_19 : decode cX5_withdraw 19 = .ok (.new 86, 3) := by decide +kernel
theorem dX5_withdraw_22 : decode cX5_withdraw 22 = .ok (.dup, 1) := by decide +kernel
theorem dX5_withdraw_23 : decode cX5_withdraw 23 = .ok (.ldc 204, 2) := by decide +kernel
theorem dX5_withdraw_25 : decode cX5_withdraw 25 = .ok (.invokespecial 90, 3) := by decide +kernel
theorem dX5_withdraw_28 : decode cX5_withdraw 28 = .ok (.athrow, 1) := by decide +kernel
theorem dX5_withdraw_29 : decode cX5_withdraw 29 = .ok (.aload_n 2, 1) := by decide +kernel
theorem dX5_withdraw_30 : decode cX5_withdraw 30 = .ok (.iconst 3, 1) := by decide +kernel
theorem dX5_withdraw_31 : decode cX5_withdraw 31 = .ok (.putfield 195, 3) := by decide +kernel
theorem dX5_withdraw_34 : decode cX5_withdraw 34 = .ok (.return_, 1) := by decide +kernel
theorem dX5_exclude_0 : decode cX5_exclude 0 = .ok (.iload_n 1, 1) := by decide +kernel
theorem dX5_exclude_1 : decode cX5_exclude 1 = .ok (.invokestatic 158, 3) := by decide +kernel
theorem dX5_exclude_4 : decode cX5_exclude 4 = .ok (.iload_n 2, 1) := by decide +kernel
theorem dX5_exclude_5 : decode cX5_exclude 5 = .ok (.invokestatic 158, 3) := by decide +kernel
theorem dX5_exclude_8 : decode cX5_exclude 8 = .ok (.iload_n 1, 1) := by decide +kernel
theorem dX5_exclude_9 : decode cX5_exclude 9 = .ok (.iload_n 2, 1) := by decide +kernel
theorem dX5_exclude_10 : decode cX5_exclude 10 = .ok (.if_icmp .ne 13, 3) := by decide +kernel
theorem dX5_exclude_13 : decode cX5_exclude 13 = .ok (.new 72, 3) := by decide +kernel
theorem dX5_exclude_16 : decode cX5_exclude 16 = .ok (.dup, 1) := by decide +kernel
theorem dX5_exclude_17 : decode cX5_exclude 17 = .ok (.ldc 206, 2) := by decide +kernel
theorem dX5_exclude_19 : decode cX5_exclude 19 = .ok (.invokespecial 76, 3) := by decide +kernel
theorem dX5_exclude_22 : decode cX5_exclude 22 = .ok (.athrow, 1) := by decide +kernel
theorem dX5_exclude_23 : decode cX5_exclude 23 = .ok (.aload_n 0, 1) := by decide +kernel
theorem dX5_exclude_24 : decode cX5_exclude 24 = .ok (.getfield 41, 3) := by decide +kernel
theorem dX5_exclude_27 : decode cX5_exclude 27 = .ok (.iload_n 1, 1) := by decide +kernel
theorem dX5_exclude_28 : decode cX5_exclude 28 = .ok (.iaload, 1) := by decide +kernel
theorem dX5_exclude_29 : decode cX5_exclude 29 = .ok (.iload_n 2, 1) := by decide +kernel
theorem dX5_exclude_30 : decode cX5_exclude 30 = .ok (.invokestatic 208, 3) := by decide +kernel
theorem dX5_exclude_33 : decode cX5_exclude 33 = .ok (.istore 4, 2) := by decide +kernel
theorem dX5_exclude_35 : decode cX5_exclude 35 = .ok (.aload_n 0, 1) := by decide +kernel
theorem dX5_exclude_36 : decode cX5_exclude 36 = .ok (.getfield 41, 3) := by decide +kernel
theorem dX5_exclude_39 : decode cX5_exclude 39 = .ok (.iload_n 1, 1) := by decide +kernel
theorem dX5_exclude_40 : decode cX5_exclude 40 = .ok (.aload_n 0, 1) := by decide +kernel
theorem dX5_exclude_41 : decode cX5_exclude 41 = .ok (.getfield 41, 3) := by decide +kernel
theorem dX5_exclude_44 : decode cX5_exclude 44 = .ok (.iload_n 1, 1) := by decide +kernel
theorem dX5_exclude_45 : decode cX5_exclude 45 = .ok (.iaload, 1) := by decide +kernel
theorem dX5_exclude_46 : decode cX5_exclude 46 = .ok (.iload_n 2, 1) := by decide +kernel
theorem dX5_exclude_47 : decode cX5_exclude 47 = .ok (.iload_n 3, 1) := by decide +kernel
theorem dX5_exclude_48 : decode cX5_exclude 48 = .ok (.invokestatic 212, 3) := by decide +kernel
theorem dX5_exclude_51 : decode cX5_exclude 51 = .ok (.iastore, 1) := by decide +kernel
theorem dX5_exclude_52 : decode cX5_exclude 52 = .ok (.aload_n 0, 1) := by decide +kernel
theorem dX5_exclude_53 : decode cX5_exclude 53 = .ok (.getfield 41, 3) := by decide +kernel
theorem dX5_exclude_56 : decode cX5_exclude 56 = .ok (.iload_n 2, 1) := by decide +kernel
theorem dX5_exclude_57 : decode cX5_exclude 57 = .ok (.aload_n 0, 1) := by decide +kernel
theorem dX5_exclude_58 : decode cX5_exclude 58 = .ok (.getfield 41, 3) := by decide +kernel
theorem dX5_exclude_61 : decode cX5_exclude 61 = .ok (.iload_n 2, 1) := by decide +kernel
theorem dX5_exclude_62 : decode cX5_exclude 62 = .ok (.iaload, 1) := by decide +kernel
theorem dX5_exclude_63 : decode cX5_exclude 63 = .ok (.iload_n 1, 1) := by decide +kernel
theorem dX5_exclude_64 : decode cX5_exclude 64 = .ok (.iload_n 3, 1) := by decide +kernel
theorem dX5_exclude_65 : decode cX5_exclude 65 = .ok (.invokestatic 212, 3) := by decide +kernel
theorem dX5_exclude_68 : decode cX5_exclude 68 = .ok (.iastore, 1) := by decide +kernel
theorem dX5_exclude_69 : decode cX5_exclude 69 = .ok (.iload 4, 2) := by decide +kernel
theorem dX5_exclude_71 : decode cX5_exclude 71 = .ok (.ireturn, 1) := by decide +kernel
theorem dX5_changes_0 : decode cX5_changes 0 = .ok (.aload_n 0, 1) := by decide +kernel
theorem dX5_changes_1 : decode cX5_changes 1 = .ok (.getfield 163, 3) := by decide +kernel
theorem dX5_changes_4 : decode cX5_changes 4 = .ok (.ireturn, 1) := by decide +kernel
theorem dX5_state_0 : decode cX5_state 0 = .ok (.aload_n 0, 1) := by decide +kernel
theorem dX5_state_1 : decode cX5_state 1 = .ok (.iload_n 1, 1) := by decide +kernel
theorem dX5_state_2 : decode cX5_state 2 = .ok (.invokevirtual 179, 3) := by decide +kernel
theorem dX5_state_5 : decode cX5_state 5 = .ok (.aload_n 0, 1) := by decide +kernel
theorem dX5_state_6 : decode cX5_state 6 = .ok (.getfield 37, 3) := by decide +kernel
theorem dX5_state_9 : decode cX5_state 9 = .ok (.iload_n 1, 1) := by decide +kernel
theorem dX5_state_10 : decode cX5_state 10 = .ok (.aaload, 1) := by decide +kernel
theorem dX5_state_11 : decode cX5_state 11 = .ok (.getfield 195, 3) := by decide +kernel
theorem dX5_state_14 : decode cX5_state 14 = .ok (.ireturn, 1) := by decide +kernel
theorem dX5_rank_0 : decode cX5_rank 0 = .ok (.aload_n 0, 1) := by decide +kernel
theorem dX5_rank_1 : decode cX5_rank 1 = .ok (.iload_n 1, 1) := by decide +kernel
theorem dX5_rank_2 : decode cX5_rank 2 = .ok (.invokevirtual 179, 3) := by decide +kernel
theorem dX5_rank_5 : decode cX5_rank 5 = .ok (.aload_n 0, 1) := by decide +kernel
theorem dX5_rank_6 : decode cX5_rank 6 = .ok (.getfield 47, 3) := by decide +kernel
theorem dX5_rank_9 : decode cX5_rank 9 = .ok (.iload_n 1, 1) := by decide +kernel
theorem dX5_rank_10 : decode cX5_rank 10 = .ok (.invokevirtual 216, 3) := by decide +kernel
theorem dX5_rank_13 : decode cX5_rank 13 = .ok (.ireturn, 1) := by decide +kernel
theorem dX5_approvals_0 : decode cX5_approvals 0 = .ok (.aload_n 0, 1) := by decide +kernel
theorem dX5_approvals_1 : decode cX5_approvals 1 = .ok (.iload_n 1, 1) := by decide +kernel
theorem dX5_approvals_2 : decode cX5_approvals 2 = .ok (.invokevirtual 179, 3) := by decide +kernel
theorem dX5_approvals_5 : decode cX5_approvals 5 = .ok (.aload_n 0, 1) := by decide +kernel
theorem dX5_approvals_6 : decode cX5_approvals 6 = .ok (.getfield 37, 3) := by decide +kernel
theorem dX5_approvals_9 : decode cX5_approvals 9 = .ok (.iload_n 1, 1) := by decide +kernel
theorem dX5_approvals_10 : decode cX5_approvals 10 = .ok (.aaload, 1) := by decide +kernel
theorem dX5_approvals_11 : decode cX5_approvals 11 = .ok (.invokevirtual 198, 3) := by decide +kernel
theorem dX5_approvals_14 : decode cX5_approvals 14 = .ok (.ireturn, 1) := by decide +kernel
theorem dX5_told_0 : decode cX5_told 0 = .ok (.aload_n 0, 1) := by decide +kernel
theorem dX5_told_1 : decode cX5_told 1 = .ok (.iload_n 1, 1) := by decide +kernel
theorem dX5_told_2 : decode cX5_told 2 = .ok (.invokevirtual 155, 3) := by decide +kernel
theorem dX5_told_5 : decode cX5_told 5 = .ok (.iload_n 2, 1) := by decide +kernel
theorem dX5_told_6 : decode cX5_told 6 = .ok (.invokestatic 158, 3) := by decide +kernel
theorem dX5_told_9 : decode cX5_told 9 = .ok (.aload_n 0, 1) := by decide +kernel
theorem dX5_told_10 : decode cX5_told 10 = .ok (.aload_n 0, 1) := by decide +kernel
theorem dX5_told_11 : decode cX5_told 11 = .ok (.getfield 47, 3) := by decide +kernel
theorem dX5_told_14 : decode cX5_told 14 = .ok (.getfield 219, 3) := by decide +kernel
theorem dX5_told_17 : decode cX5_told 17 = .ok (.aload_n 0, 1) := by decide +kernel
theorem dX5_told_18 : decode cX5_told 18 = .ok (.iload_n 1, 1) := by decide +kernel
theorem dX5_told_19 : decode cX5_told 19 = .ok (.invokevirtual 168, 3) := by decide +kernel
theorem dX5_told_22 : decode cX5_told 22 = .ok (.iload_n 2, 1) := by decide +kernel
theorem dX5_told_23 : decode cX5_told 23 = .ok (.invokestatic 171, 3) := by decide +kernel
theorem dX5_told_26 : decode cX5_told 26 = .ok (.invokevirtual 223, 3) := by decide +kernel
theorem dX5_told_29 : decode cX5_told 29 = .ok (.invokevirtual 228, 3) := by decide +kernel
theorem dX5_told_32 : decode cX5_told 32 = .ok (.istore_n 3, 1) := by decide +kernel
theorem dX5_told_33 : decode cX5_told 33 = .ok (.iload_n 3, 1) := by decide +kernel
theorem dX5_told_34 : decode cX5_told 34 = .ok (.bipush 101, 2) := by decide +kernel
theorem dX5_told_36 : decode cX5_told 36 = .ok (.if_icmp .ne 7, 3) := by decide +kernel
theorem dX5_told_39 : decode cX5_told 39 = .ok (.iconst (-1), 1) := by decide +kernel
theorem dX5_told_40 : decode cX5_told 40 = .ok (.goto 4, 3) := by decide +kernel
theorem dX5_told_43 : decode cX5_told 43 = .ok (.iload_n 3, 1) := by decide +kernel
theorem dX5_told_44 : decode cX5_told 44 = .ok (.ireturn, 1) := by decide +kernel
theorem dX5_taken_0 : decode cX5_taken 0 = .ok (.aload_n 0, 1) := by decide +kernel
theorem dX5_taken_1 : decode cX5_taken 1 = .ok (.iload_n 1, 1) := by decide +kernel
theorem dX5_taken_2 : decode cX5_taken 2 = .ok (.invokevirtual 136, 3) := by decide +kernel
theorem dX5_taken_5 : decode cX5_taken 5 = .ok (.aload_n 0, 1) := by decide +kernel
theorem dX5_taken_6 : decode cX5_taken 6 = .ok (.getfield 31, 3) := by decide +kernel
theorem dX5_taken_9 : decode cX5_taken 9 = .ok (.iload_n 1, 1) := by decide +kernel
theorem dX5_taken_10 : decode cX5_taken 10 = .ok (.aaload, 1) := by decide +kernel
theorem dX5_taken_11 : decode cX5_taken 11 = .ok (.astore 4, 2) := by decide +kernel
theorem dX5_taken_13 : decode cX5_taken 13 = .ok (.aload 4, 2) := by decide +kernel
theorem dX5_taken_15 : decode cX5_taken 15 = .ok (.iload_n 2, 1) := by decide +kernel
theorem dX5_taken_16 : decode cX5_taken 16 = .ok (.invokevirtual 231, 3) := by decide +kernel
theorem dX5_taken_19 : decode cX5_taken 19 = .ok (.ifCond .ne 13, 3) := by decide +kernel
theorem dX5_taken_22 : decode cX5_taken 22 = .ok (.new 234, 3) := by decide +kernel
theorem dX5_taken_25 : decode cX5_taken 25 = .ok (.dup, 1) := by decide +kernel
theorem dX5_taken_26 : decode cX5_taken 26 = .ok (.ldc 236, 2) := by decide +kernel
theorem dX5_taken_28 : decode cX5_taken 28 = .ok (.invokespecial 238, 3) := by decide +kernel
theorem dX5_taken_31 : decode cX5_taken 31 = .ok (.athrow, 1) := by decide +kernel
theorem dX5_taken_32 : decode cX5_taken 32 = .ok (.iload_n 3, 1) := by decide +kernel
theorem dX5_taken_33 : decode cX5_taken 33 = .ok (.invokestatic 158, 3) := by decide +kernel
theorem dX5_taken_36 : decode cX5_taken 36 = .ok (.aload 4, 2) := by decide +kernel
theorem dX5_taken_38 : decode cX5_taken 38 = .ok (.getfield 239, 3) := by decide +kernel
theorem dX5_taken_41 : decode cX5_taken 41 = .ok (.aload 4, 2) := by decide +kernel
theorem dX5_taken_43 : decode cX5_taken 43 = .ok (.iload_n 2, 1) := by decide +kernel
theorem dX5_taken_44 : decode cX5_taken 44 = .ok (.iload_n 3, 1) := by decide +kernel
theorem dX5_taken_45 : decode cX5_taken 45 = .ok (.invokevirtual 242, 3) := by decide +kernel
theorem dX5_taken_48 : decode cX5_taken 48 = .ok (.invokevirtual 223, 3) := by decide +kernel
theorem dX5_taken_51 : decode cX5_taken 51 = .ok (.ireturn, 1) := by decide +kernel
theorem dX5_runs_0 : decode cX5_runs 0 = .ok (.aload_n 0, 1) := by decide +kernel
theorem dX5_runs_1 : decode cX5_runs 1 = .ok (.iload_n 1, 1) := by decide +kernel
theorem dX5_runs_2 : decode cX5_runs 2 = .ok (.invokevirtual 136, 3) := by decide +kernel
theorem dX5_runs_5 : decode cX5_runs 5 = .ok (.iload_n 2, 1) := by decide +kernel
theorem dX5_runs_6 : decode cX5_runs 6 = .ok (.invokestatic 158, 3) := by decide +kernel
theorem dX5_runs_9 : decode cX5_runs 9 = .ok (.aload_n 0, 1) := by decide +kernel
theorem dX5_runs_10 : decode cX5_runs 10 = .ok (.aload_n 0, 1) := by decide +kernel
theorem dX5_runs_11 : decode cX5_runs 11 = .ok (.getfield 31, 3) := by decide +kernel
theorem dX5_runs_14 : decode cX5_runs 14 = .ok (.iload_n 1, 1) := by decide +kernel
theorem dX5_runs_15 : decode cX5_runs 15 = .ok (.aaload, 1) := by decide +kernel
theorem dX5_runs_16 : decode cX5_runs 16 = .ok (.invokevirtual 245, 3) := by decide +kernel
theorem dX5_runs_19 : decode cX5_runs 19 = .ok (.aload_n 0, 1) := by decide +kernel
theorem dX5_runs_20 : decode cX5_runs 20 = .ok (.getfield 57, 3) := by decide +kernel
theorem dX5_runs_23 : decode cX5_runs 23 = .ok (.iload_n 2, 1) := by decide +kernel
theorem dX5_runs_24 : decode cX5_runs 24 = .ok (.invokevirtual 249, 3) := by decide +kernel
theorem dX5_runs_27 : decode cX5_runs 27 = .ok (.ireturn, 1) := by decide +kernel
theorem dX5_layerOf_0 : decode cX5_layerOf 0 = .ok (.aload_n 0, 1) := by decide +kernel
theorem dX5_layerOf_1 : decode cX5_layerOf 1 = .ok (.iload_n 1, 1) := by decide +kernel
theorem dX5_layerOf_2 : decode cX5_layerOf 2 = .ok (.invokevirtual 136, 3) := by decide +kernel
theorem dX5_layerOf_5 : decode cX5_layerOf 5 = .ok (.iload_n 2, 1) := by decide +kernel
theorem dX5_layerOf_6 : decode cX5_layerOf 6 = .ok (.invokestatic 158, 3) := by decide +kernel
theorem dX5_layerOf_9 : decode cX5_layerOf 9 = .ok (.aload_n 0, 1) := by decide +kernel
theorem dX5_layerOf_10 : decode cX5_layerOf 10 = .ok (.aload_n 0, 1) := by decide +kernel
theorem dX5_layerOf_11 : decode cX5_layerOf 11 = .ok (.getfield 31, 3) := by decide +kernel
theorem dX5_layerOf_14 : decode cX5_layerOf 14 = .ok (.iload_n 1, 1) := by decide +kernel
theorem dX5_layerOf_15 : decode cX5_layerOf 15 = .ok (.aaload, 1) := by decide +kernel
theorem dX5_layerOf_16 : decode cX5_layerOf 16 = .ok (.invokevirtual 245, 3) := by decide +kernel
theorem dX5_layerOf_19 : decode cX5_layerOf 19 = .ok (.aload_n 0, 1) := by decide +kernel
theorem dX5_layerOf_20 : decode cX5_layerOf 20 = .ok (.getfield 57, 3) := by decide +kernel
theorem dX5_layerOf_23 : decode cX5_layerOf 23 = .ok (.iload_n 2, 1) := by decide +kernel
theorem dX5_layerOf_24 : decode cX5_layerOf 24 = .ok (.invokevirtual 252, 3) := by decide +kernel
theorem dX5_layerOf_27 : decode cX5_layerOf 27 = .ok (.ireturn, 1) := by decide +kernel
theorem dX5_due_0 : decode cX5_due 0 = .ok (.aload_n 0, 1) := by decide +kernel
theorem dX5_due_1 : decode cX5_due 1 = .ok (.iload_n 1, 1) := by decide +kernel
theorem dX5_due_2 : decode cX5_due 2 = .ok (.invokevirtual 136, 3) := by decide +kernel
theorem dX5_due_5 : decode cX5_due 5 = .ok (.iload_n 2, 1) := by decide +kernel
theorem dX5_due_6 : decode cX5_due 6 = .ok (.invokestatic 158, 3) := by decide +kernel
theorem dX5_due_9 : decode cX5_due 9 = .ok (.aload_n 0, 1) := by decide +kernel
theorem dX5_due_10 : decode cX5_due 10 = .ok (.aload_n 0, 1) := by decide +kernel
theorem dX5_due_11 : decode cX5_due 11 = .ok (.getfield 31, 3) := by decide +kernel
theorem dX5_due_14 : decode cX5_due 14 = .ok (.iload_n 1, 1) := by decide +kernel
theorem dX5_due_15 : decode cX5_due 15 = .ok (.aaload, 1) := by decide +kernel
theorem dX5_due_16 : decode cX5_due 16 = .ok (.aload_n 0, 1) := by decide +kernel
theorem dX5_due_17 : decode cX5_due 17 = .ok (.getfield 47, 3) := by decide +kernel
theorem dX5_due_20 : decode cX5_due 20 = .ok (.getfield 219, 3) := by decide +kernel
theorem dX5_due_23 : decode cX5_due 23 = .ok (.aload_n 0, 1) := by decide +kernel
theorem dX5_due_24 : decode cX5_due 24 = .ok (.getfield 47, 3) := by decide +kernel
theorem dX5_due_27 : decode cX5_due 27 = .ok (.invokevirtual 255, 3) := by decide +kernel
theorem dX5_due_30 : decode cX5_due 30 = .ok (.aload_n 0, 1) := by decide +kernel
theorem dX5_due_31 : decode cX5_due 31 = .ok (.getfield 57, 3) := by decide +kernel
theorem dX5_due_34 : decode cX5_due 34 = .ok (.iload_n 2, 1) := by decide +kernel
theorem dX5_due_35 : decode cX5_due 35 = .ok (.invokevirtual 249, 3) := by decide +kernel
theorem dX5_due_38 : decode cX5_due 38 = .ok (.ireturn, 1) := by decide +kernel
theorem dX5_dueAnew_0 : decode cX5_dueAnew 0 = .ok (.aload_n 0, 1) := by decide +kernel
theorem dX5_dueAnew_1 : decode cX5_dueAnew 1 = .ok (.iload_n 1, 1) := by decide +kernel
theorem dX5_dueAnew_2 : decode cX5_dueAnew 2 = .ok (.invokevirtual 136, 3) := by decide +kernel
theorem dX5_dueAnew_5 : decode cX5_dueAnew 5 = .ok (.iload_n 2, 1) := by decide +kernel
theorem dX5_dueAnew_6 : decode cX5_dueAnew 6 = .ok (.invokestatic 158, 3) := by decide +kernel
theorem dX5_dueAnew_9 : decode cX5_dueAnew 9 = .ok (.aload_n 0, 1) := by decide +kernel
theorem dX5_dueAnew_10 : decode cX5_dueAnew 10 = .ok (.invokevirtual 259, 3) := by decide +kernel
theorem dX5_dueAnew_13 : decode cX5_dueAnew 13 = .ok (.aload_n 0, 1) := by decide +kernel
theorem dX5_dueAnew_14 : decode cX5_dueAnew 14 = .ok (.aload_n 0, 1) := by decide +kernel
theorem dX5_dueAnew_15 : decode cX5_dueAnew 15 = .ok (.getfield 31, 3) := by decide +kernel
theorem dX5_dueAnew_18 : decode cX5_dueAnew 18 = .ok (.iload_n 1, 1) := by decide +kernel
theorem dX5_dueAnew_19 : decode cX5_dueAnew 19 = .ok (.aaload, 1) := by decide +kernel
theorem dX5_dueAnew_20 : decode cX5_dueAnew 20 = .ok (.aload_n 0, 1) := by decide +kernel
theorem dX5_dueAnew_21 : decode cX5_dueAnew 21 = .ok (.getfield 51, 3) := by decide +kernel
theorem dX5_dueAnew_24 : decode cX5_dueAnew 24 = .ok (.getfield 219, 3) := by decide +kernel
theorem dX5_dueAnew_27 : decode cX5_dueAnew 27 = .ok (.aload_n 0, 1) := by decide +kernel
theorem dX5_dueAnew_28 : decode cX5_dueAnew 28 = .ok (.getfield 51, 3) := by decide +kernel
theorem dX5_dueAnew_31 : decode cX5_dueAnew 31 = .ok (.invokevirtual 255, 3) := by decide +kernel
theorem dX5_dueAnew_34 : decode cX5_dueAnew 34 = .ok (.aload_n 0, 1) := by decide +kernel
theorem dX5_dueAnew_35 : decode cX5_dueAnew 35 = .ok (.getfield 57, 3) := by decide +kernel
theorem dX5_dueAnew_38 : decode cX5_dueAnew 38 = .ok (.iload_n 2, 1) := by decide +kernel
theorem dX5_dueAnew_39 : decode cX5_dueAnew 39 = .ok (.invokevirtual 249, 3) := by decide +kernel
theorem dX5_dueAnew_42 : decode cX5_dueAnew 42 = .ok (.ireturn, 1) := by decide +kernel
theorem dX5_behind_0 : decode cX5_behind 0 = .ok (.aload_n 0, 1) := by decide +kernel
theorem dX5_behind_1 : decode cX5_behind 1 = .ok (.iload_n 1, 1) := by decide +kernel
theorem dX5_behind_2 : decode cX5_behind 2 = .ok (.invokevirtual 136, 3) := by decide +kernel
theorem dX5_behind_5 : decode cX5_behind 5 = .ok (.aload_n 0, 1) := by decide +kernel
theorem dX5_behind_6 : decode cX5_behind 6 = .ok (.getfield 31, 3) := by decide +kernel
theorem dX5_behind_9 : decode cX5_behind 9 = .ok (.iload_n 1, 1) := by decide +kernel
theorem dX5_behind_10 : decode cX5_behind 10 = .ok (.aaload, 1) := by decide +kernel
theorem dX5_behind_11 : decode cX5_behind 11 = .ok (.astore_n 2, 1) := by decide +kernel
theorem dX5_behind_12 : decode cX5_behind 12 = .ok (.iconst 0, 1) := by decide +kernel
theorem dX5_behind_13 : decode cX5_behind 13 = .ok (.istore_n 3, 1) := by decide +kernel
theorem dX5_behind_14 : decode cX5_behind 14 = .ok (.iconst 0, 1) := by decide +kernel
theorem dX5_behind_15 : decode cX5_behind 15 = .ok (.istore 4, 2) := by decide +kernel
theorem dX5_behind_17 : decode cX5_behind 17 = .ok (.iload 4, 2) := by decide +kernel
theorem dX5_behind_19 : decode cX5_behind 19 = .ok (.aload_n 2, 1) := by decide +kernel
theorem dX5_behind_20 : decode cX5_behind 20 = .ok (.getfield 262, 3) := by decide +kernel
theorem dX5_behind_23 : decode cX5_behind 23 = .ok (.if_icmp .ge 22, 3) := by decide +kernel
theorem dX5_behind_26 : decode cX5_behind 26 = .ok (.aload_n 0, 1) := by decide +kernel
theorem dX5_behind_27 : decode cX5_behind 27 = .ok (.aload_n 2, 1) := by decide +kernel
theorem dX5_behind_28 : decode cX5_behind 28 = .ok (.iload 4, 2) := by decide +kernel
theorem dX5_behind_30 : decode cX5_behind 30 = .ok (.invokevirtual 265, 3) := by decide +kernel
theorem dX5_behind_33 : decode cX5_behind 33 = .ok (.ifCond .eq 6, 3) := by decide +kernel
theorem dX5_behind_36 : decode cX5_behind 36 = .ok (.iinc 3 1, 3) := by decide +kernel
theorem dX5_behind_39 : decode cX5_behind 39 = .ok (.iinc 4 1, 3) := by decide +kernel
theorem dX5_behind_42 : decode cX5_behind 42 = .ok (.goto (-25), 3) := by decide +kernel
theorem dX5_behind_45 : decode cX5_behind 45 = .ok (.iload_n 3, 1) := by decide +kernel
theorem dX5_behind_46 : decode cX5_behind 46 = .ok (.ireturn, 1) := by decide +kernel
theorem dX5_hidden_0 : decode cX5_hidden 0 = .ok (.aload_n 0, 1) := by decide +kernel
theorem dX5_hidden_1 : decode cX5_hidden 1 = .ok (.iload_n 1, 1) := by decide +kernel
theorem dX5_hidden_2 : decode cX5_hidden 2 = .ok (.invokevirtual 136, 3) := by decide +kernel
theorem dX5_hidden_5 : decode cX5_hidden 5 = .ok (.aload_n 0, 1) := by decide +kernel
theorem dX5_hidden_6 : decode cX5_hidden 6 = .ok (.aload_n 0, 1) := by decide +kernel
theorem dX5_hidden_7 : decode cX5_hidden 7 = .ok (.getfield 31, 3) := by decide +kernel
theorem dX5_hidden_10 : decode cX5_hidden 10 = .ok (.iload_n 1, 1) := by decide +kernel
theorem dX5_hidden_11 : decode cX5_hidden 11 = .ok (.aaload, 1) := by decide +kernel
theorem dX5_hidden_12 : decode cX5_hidden 12 = .ok (.aload_n 0, 1) := by decide +kernel
theorem dX5_hidden_13 : decode cX5_hidden 13 = .ok (.getfield 47, 3) := by decide +kernel
theorem dX5_hidden_16 : decode cX5_hidden 16 = .ok (.getfield 219, 3) := by decide +kernel
theorem dX5_hidden_19 : decode cX5_hidden 19 = .ok (.aload_n 0, 1) := by decide +kernel
theorem dX5_hidden_20 : decode cX5_hidden 20 = .ok (.getfield 47, 3) := by decide +kernel
theorem dX5_hidden_23 : decode cX5_hidden 23 = .ok (.invokevirtual 255, 3) := by decide +kernel
theorem dX5_hidden_26 : decode cX5_hidden 26 = .ok (.aload_n 0, 1) := by decide +kernel
theorem dX5_hidden_27 : decode cX5_hidden 27 = .ok (.getfield 57, 3) := by decide +kernel
theorem dX5_hidden_30 : decode cX5_hidden 30 = .ok (.getfield 269, 3) := by decide +kernel
theorem dX5_hidden_33 : decode cX5_hidden 33 = .ok (.ireturn, 1) := by decide +kernel
theorem dX5_spread_0 : decode cX5_spread 0 = .ok (.aload_n 0, 1) := by decide +kernel
theorem dX5_spread_1 : decode cX5_spread 1 = .ok (.iload_n 1, 1) := by decide +kernel
theorem dX5_spread_2 : decode cX5_spread 2 = .ok (.invokevirtual 179, 3) := by decide +kernel
theorem dX5_spread_5 : decode cX5_spread 5 = .ok (.aload_n 0, 1) := by decide +kernel
theorem dX5_spread_6 : decode cX5_spread 6 = .ok (.getfield 37, 3) := by decide +kernel
theorem dX5_spread_9 : decode cX5_spread 9 = .ok (.iload_n 1, 1) := by decide +kernel
theorem dX5_spread_10 : decode cX5_spread 10 = .ok (.aaload, 1) := by decide +kernel
theorem dX5_spread_11 : decode cX5_spread 11 = .ok (.getfield 272, 3) := by decide +kernel
theorem dX5_spread_14 : decode cX5_spread 14 = .ok (.istore_n 2, 1) := by decide +kernel
theorem dX5_spread_15 : decode cX5_spread 15 = .ok (.iconst 0, 1) := by decide +kernel
theorem dX5_spread_16 : decode cX5_spread 16 = .ok (.istore_n 3, 1) := by decide +kernel
theorem dX5_spread_17 : decode cX5_spread 17 = .ok (.iconst 0, 1) := by decide +kernel
theorem dX5_spread_18 : decode cX5_spread 18 = .ok (.istore 4, 2) := by decide +kernel
theorem dX5_spread_20 : decode cX5_spread 20 = .ok (.iload 4, 2) := by decide +kernel
theorem dX5_spread_22 : decode cX5_spread 22 = .ok (.aload_n 0, 1) := by decide +kernel
theorem dX5_spread_23 : decode cX5_spread 23 = .ok (.getfield 127, 3) := by decide +kernel
theorem dX5_spread_26 : decode cX5_spread 26 = .ok (.if_icmp .ge 30, 3) := by decide +kernel
theorem dX5_spread_29 : decode cX5_spread 29 = .ok (.aload_n 0, 1) := by decide +kernel
theorem dX5_spread_30 : decode cX5_spread 30 = .ok (.getfield 31, 3) := by decide +kernel
theorem dX5_spread_33 : decode cX5_spread 33 = .ok (.iload 4, 2) := by decide +kernel
theorem dX5_spread_35 : decode cX5_spread 35 = .ok (.aaload, 1) := by decide +kernel
theorem dX5_spread_36 : decode cX5_spread 36 = .ok (.getfield 239, 3) := by decide +kernel
theorem dX5_spread_39 : decode cX5_spread 39 = .ok (.iload_n 2, 1) := by decide +kernel
theorem dX5_spread_40 : decode cX5_spread 40 = .ok (.invokevirtual 223, 3) := by decide +kernel
theorem dX5_spread_43 : decode cX5_spread 43 = .ok (.iload_n 1, 1) := by decide +kernel
theorem dX5_spread_44 : decode cX5_spread 44 = .ok (.if_icmp .ne 6, 3) := by decide +kernel
theorem dX5_spread_47 : decode cX5_spread 47 = .ok (.iinc 3 1, 3) := by decide +kernel
theorem dX5_spread_50 : decode cX5_spread 50 = .ok (.iinc 4 1, 3) := by decide +kernel
theorem dX5_spread_53 : decode cX5_spread 53 = .ok (.goto (-33), 3) := by decide +kernel
theorem dX5_spread_56 : decode cX5_spread 56 = .ok (.iload_n 3, 1) := by decide +kernel
theorem dX5_spread_57 : decode cX5_spread 57 = .ok (.ireturn, 1) := by decide +kernel
theorem dX5_requirePerson_0 : decode cX5_requirePerson 0 = .ok (.iload_n 0, 1) := by decide +kernel
theorem dX5_requirePerson_1 : decode cX5_requirePerson 1 = .ok (.ifCond .lt 9, 3) := by decide +kernel
theorem dX5_requirePerson_4 : decode cX5_requirePerson 4 = .ok (.iload_n 0, 1) := by decide +kernel
theorem dX5_requirePerson_5 : decode cX5_requirePerson 5 = .ok (.bipush 8, 2) := by decide +kernel
theorem dX5_requirePerson_7 : decode cX5_requirePerson 7 = .ok (.if_icmp .lt 14, 3) := by decide +kernel
theorem dX5_requirePerson_10 : decode cX5_requirePerson 10 = .ok (.new 234, 3) := by decide +kernel
theorem dX5_requirePerson_13 : decode cX5_requirePerson 13 = .ok (.dup, 1) := by decide +kernel
theorem dX5_requirePerson_14 : decode cX5_requirePerson 14 = .ok (.ldc_w 275, 3) := by decide +kernel
theorem dX5_requirePerson_17 : decode cX5_requirePerson 17 = .ok (.invokespecial 238, 3) := by decide +kernel
theorem dX5_requirePerson_20 : decode cX5_requirePerson 20 = .ok (.athrow, 1) := by decide +kernel
theorem dX5_requirePerson_21 : decode cX5_requirePerson 21 = .ok (.return_, 1) := by decide +kernel
theorem dX5_requireKey_0 : decode cX5_requireKey 0 = .ok (.iload_n 0, 1) := by decide +kernel
theorem dX5_requireKey_1 : decode cX5_requireKey 1 = .ok (.ifCond .lt 9, 3) := by decide +kernel
theorem dX5_requireKey_4 : decode cX5_requireKey 4 = .ok (.iload_n 0, 1) := by decide +kernel
theorem dX5_requireKey_5 : decode cX5_requireKey 5 = .ok (.bipush 6, 2) := by decide +kernel
theorem dX5_requireKey_7 : decode cX5_requireKey 7 = .ok (.if_icmp .lt 14, 3) := by decide +kernel
theorem dX5_requireKey_10 : decode cX5_requireKey 10 = .ok (.new 234, 3) := by decide +kernel
theorem dX5_requireKey_13 : decode cX5_requireKey 13 = .ok (.dup, 1) := by decide +kernel
theorem dX5_requireKey_14 : decode cX5_requireKey 14 = .ok (.ldc_w 277, 3) := by decide +kernel
theorem dX5_requireKey_17 : decode cX5_requireKey 17 = .ok (.invokespecial 238, 3) := by decide +kernel
theorem dX5_requireKey_20 : decode cX5_requireKey 20 = .ok (.athrow, 1) := by decide +kernel
theorem dX5_requireKey_21 : decode cX5_requireKey 21 = .ok (.return_, 1) := by decide +kernel
theorem dX5_requireGroup_0 : decode cX5_requireGroup 0 = .ok (.iload_n 1, 1) := by decide +kernel
theorem dX5_requireGroup_1 : decode cX5_requireGroup 1 = .ok (.ifCond .lt 11, 3) := by decide +kernel
theorem dX5_requireGroup_4 : decode cX5_requireGroup 4 = .ok (.iload_n 1, 1) := by decide +kernel
theorem dX5_requireGroup_5 : decode cX5_requireGroup 5 = .ok (.aload_n 0, 1) := by decide +kernel
theorem dX5_requireGroup_6 : decode cX5_requireGroup 6 = .ok (.getfield 26, 3) := by decide +kernel
theorem dX5_requireGroup_9 : decode cX5_requireGroup 9 = .ok (.if_icmp .lt 14, 3) := by decide +kernel
theorem dX5_requireGroup_12 : decode cX5_requireGroup 12 = .ok (.new 234, 3) := by decide +kernel
theorem dX5_requireGroup_15 : decode cX5_requireGroup 15 = .ok (.dup, 1) := by decide +kernel
theorem dX5_requireGroup_16 : decode cX5_requireGroup 16 = .ok (.ldc_w 279, 3) := by decide +kernel
theorem dX5_requireGroup_19 : decode cX5_requireGroup 19 = .ok (.invokespecial 238, 3) := by decide +kernel
theorem dX5_requireGroup_22 : decode cX5_requireGroup 22 = .ok (.athrow, 1) := by decide +kernel
theorem dX5_requireGroup_23 : decode cX5_requireGroup 23 = .ok (.return_, 1) := by decide +kernel
theorem dX5_requireMachine_0 : decode cX5_requireMachine 0 = .ok (.iload_n 1, 1) := by decide +kernel
theorem dX5_requireMachine_1 : decode cX5_requireMachine 1 = .ok (.ifCond .lt 11, 3) := by decide +kernel
theorem dX5_requireMachine_4 : decode cX5_requireMachine 4 = .ok (.iload_n 1, 1) := by decide +kernel
theorem dX5_requireMachine_5 : decode cX5_requireMachine 5 = .ok (.aload_n 0, 1) := by decide +kernel
theorem dX5_requireMachine_6 : decode cX5_requireMachine 6 = .ok (.getfield 127, 3) := by decide +kernel
theorem dX5_requireMachine_9 : decode cX5_requireMachine 9 = .ok (.if_icmp .lt 14, 3) := by decide +kernel
theorem dX5_requireMachine_12 : decode cX5_requireMachine 12 = .ok (.new 234, 3) := by decide +kernel
theorem dX5_requireMachine_15 : decode cX5_requireMachine 15 = .ok (.dup, 1) := by decide +kernel
theorem dX5_requireMachine_16 : decode cX5_requireMachine 16 = .ok (.ldc_w 281, 3) := by decide +kernel
theorem dX5_requireMachine_19 : decode cX5_requireMachine 19 = .ok (.invokespecial 238, 3) := by decide +kernel
theorem dX5_requireMachine_22 : decode cX5_requireMachine 22 = .ok (.athrow, 1) := by decide +kernel
theorem dX5_requireMachine_23 : decode cX5_requireMachine 23 = .ok (.return_, 1) := by decide +kernel
theorem dX5_requirePlace_0 : decode cX5_requirePlace 0 = .ok (.aload_n 0, 1) := by decide +kernel
theorem dX5_requirePlace_1 : decode cX5_requirePlace 1 = .ok (.iload_n 1, 1) := by decide +kernel
theorem dX5_requirePlace_2 : decode cX5_requirePlace 2 = .ok (.invokevirtual 168, 3) := by decide +kernel
theorem dX5_requirePlace_5 : decode cX5_requirePlace 5 = .ok (.iconst (-1), 1) := by decide +kernel
theorem dX5_requirePlace_6 : decode cX5_requirePlace 6 = .ok (.if_icmp .ne 14, 3) := by decide +kernel
theorem dX5_requirePlace_9 : decode cX5_requirePlace 9 = .ok (.new 234, 3) := by decide +kernel
theorem dX5_requirePlace_12 : decode cX5_requirePlace 12 = .ok (.dup, 1) := by decide +kernel
theorem dX5_requirePlace_13 : decode cX5_requirePlace 13 = .ok (.ldc_w 283, 3) := by decide +kernel
theorem dX5_requirePlace_16 : decode cX5_requirePlace 16 = .ok (.invokespecial 238, 3) := by decide +kernel
theorem dX5_requirePlace_19 : decode cX5_requirePlace 19 = .ok (.athrow, 1) := by decide +kernel
theorem dX5_requirePlace_20 : decode cX5_requirePlace 20 = .ok (.return_, 1) := by decide +kernel
theorem dX5_requireChange_0 : decode cX5_requireChange 0 = .ok (.aload_n 0, 1) := by decide +kernel
theorem dX5_requireChange_1 : decode cX5_requireChange 1 = .ok (.iload_n 1, 1) := by decide +kernel
theorem dX5_requireChange_2 : decode cX5_requireChange 2 = .ok (.invokevirtual 285, 3) := by decide +kernel
theorem dX5_requireChange_5 : decode cX5_requireChange 5 = .ok (.ifCond .ne 14, 3) := by decide +kernel
theorem dX5_requireChange_8 : decode cX5_requireChange 8 = .ok (.new 234, 3) := by decide +kernel
theorem dX5_requireChange_11 : decode cX5_requireChange 11 = .ok (.dup, 1) := by decide +kernel
theorem dX5_requireChange_12 : decode cX5_requireChange 12 = .ok (.ldc_w 288, 3) := by decide +kernel
theorem dX5_requireChange_15 : decode cX5_requireChange 15 = .ok (.invokespecial 238, 3) := by decide +kernel
theorem dX5_requireChange_18 : decode cX5_requireChange 18 = .ok (.athrow, 1) := by decide +kernel
theorem dX5_requireChange_19 : decode cX5_requireChange 19 = .ok (.return_, 1) := by decide +kernel
theorem dX5_isChange_0 : decode cX5_isChange 0 = .ok (.iload_n 1, 1) := by decide +kernel
theorem dX5_isChange_1 : decode cX5_isChange 1 = .ok (.ifCond .lt 15, 3) := by decide +kernel
theorem dX5_isChange_4 : decode cX5_isChange 4 = .ok (.iload_n 1, 1) := by decide +kernel
theorem dX5_isChange_5 : decode cX5_isChange 5 = .ok (.aload_n 0, 1) := by decide +kernel
theorem dX5_isChange_6 : decode cX5_isChange 6 = .ok (.getfield 163, 3) := by decide +kernel
theorem dX5_isChange_9 : decode cX5_isChange 9 = .ok (.if_icmp .ge 7, 3) := by decide +kernel
theorem dX5_isChange_12 : decode cX5_isChange 12 = .ok (.iconst 1, 1) := by decide +kernel
theorem dX5_isChange_13 : decode cX5_isChange 13 = .ok (.goto 4, 3) := by decide +kernel
theorem dX5_isChange_16 : decode cX5_isChange 16 = .ok (.iconst 0, 1) := by decide +kernel
theorem dX5_isChange_17 : decode cX5_isChange 17 = .ok (.ireturn, 1) := by decide +kernel
theorem dX5_slotOf_0 : decode cX5_slotOf 0 = .ok (.iload_n 1, 1) := by decide +kernel
theorem dX5_slotOf_1 : decode cX5_slotOf 1 = .ok (.ifCond .lt 13, 3) := by decide +kernel
theorem dX5_slotOf_4 : decode cX5_slotOf 4 = .ok (.iload_n 1, 1) := by decide +kernel
theorem dX5_slotOf_5 : decode cX5_slotOf 5 = .ok (.aload_n 0, 1) := by decide +kernel
theorem dX5_slotOf_6 : decode cX5_slotOf 6 = .ok (.getfield 26, 3) := by decide +kernel
theorem dX5_slotOf_9 : decode cX5_slotOf 9 = .ok (.if_icmp .ge 5, 3) := by decide +kernel
theorem dX5_slotOf_12 : decode cX5_slotOf 12 = .ok (.iload_n 1, 1) := by decide +kernel
theorem dX5_slotOf_13 : decode cX5_slotOf 13 = .ok (.ireturn, 1) := by decide +kernel
theorem dX5_slotOf_14 : decode cX5_slotOf 14 = .ok (.iload_n 1, 1) := by decide +kernel
theorem dX5_slotOf_15 : decode cX5_slotOf 15 = .ok (.bipush 100, 2) := by decide +kernel
theorem dX5_slotOf_17 : decode cX5_slotOf 17 = .ok (.if_icmp .lt 22, 3) := by decide +kernel
theorem dX5_slotOf_20 : decode cX5_slotOf 20 = .ok (.iload_n 1, 1) := by decide +kernel
theorem dX5_slotOf_21 : decode cX5_slotOf 21 = .ok (.bipush 100, 2) := by decide +kernel
theorem dX5_slotOf_23 : decode cX5_slotOf 23 = .ok (.aload_n 0, 1) := by decide +kernel
theorem dX5_slotOf_24 : decode cX5_slotOf 24 = .ok (.getfield 127, 3) := by decide +kernel
theorem dX5_slotOf_27 : decode cX5_slotOf 27 = .ok (.iadd, 1) := by decide +kernel
theorem dX5_slotOf_28 : decode cX5_slotOf 28 = .ok (.if_icmp .ge 11, 3) := by decide +kernel
theorem dX5_slotOf_31 : decode cX5_slotOf 31 = .ok (.bipush 10, 2) := by decide +kernel
theorem dX5_slotOf_33 : decode cX5_slotOf 33 = .ok (.iload_n 1, 1) := by decide +kernel
theorem dX5_slotOf_34 : decode cX5_slotOf 34 = .ok (.iadd, 1) := by decide +kernel
theorem dX5_slotOf_35 : decode cX5_slotOf 35 = .ok (.bipush 100, 2) := by decide +kernel
theorem dX5_slotOf_37 : decode cX5_slotOf 37 = .ok (.isub, 1) := by decide +kernel
theorem dX5_slotOf_38 : decode cX5_slotOf 38 = .ok (.ireturn, 1) := by decide +kernel
theorem dX5_slotOf_39 : decode cX5_slotOf 39 = .ok (.iconst (-1), 1) := by decide +kernel
theorem dX5_slotOf_40 : decode cX5_slotOf 40 = .ok (.ireturn, 1) := by decide +kernel
theorem dX5_cellOf_0 : decode cX5_cellOf 0 = .ok (.iload_n 0, 1) := by decide +kernel
theorem dX5_cellOf_1 : decode cX5_cellOf 1 = .ok (.bipush 6, 2) := by decide +kernel
theorem dX5_cellOf_3 : decode cX5_cellOf 3 = .ok (.imul, 1) := by decide +kernel
theorem dX5_cellOf_4 : decode cX5_cellOf 4 = .ok (.iload_n 1, 1) := by decide +kernel
theorem dX5_cellOf_5 : decode cX5_cellOf 5 = .ok (.iadd, 1) := by decide +kernel
theorem dX5_cellOf_6 : decode cX5_cellOf 6 = .ok (.ireturn, 1) := by decide +kernel
theorem dX5_contains_0 : decode cX5_contains 0 = .ok (.iload_n 0, 1) := by decide +kernel
theorem dX5_contains_1 : decode cX5_contains 1 = .ok (.iload_n 1, 1) := by decide +kernel
theorem dX5_contains_2 : decode cX5_contains 2 = .ok (.ishr, 1) := by decide +kernel
theorem dX5_contains_3 : decode cX5_contains 3 = .ok (.iconst 1, 1) := by decide +kernel
theorem dX5_contains_4 : decode cX5_contains 4 = .ok (.iand, 1) := by decide +kernel
theorem dX5_contains_5 : decode cX5_contains 5 = .ok (.ifCond .eq 7, 3) := by decide +kernel
theorem dX5_contains_8 : decode cX5_contains 8 = .ok (.iconst 1, 1) := by decide +kernel
theorem dX5_contains_9 : decode cX5_contains 9 = .ok (.goto 4, 3) := by decide +kernel
theorem dX5_contains_12 : decode cX5_contains 12 = .ok (.iconst 0, 1) := by decide +kernel
theorem dX5_contains_13 : decode cX5_contains 13 = .ok (.ireturn, 1) := by decide +kernel
theorem dX5_with_0 : decode cX5_with 0 = .ok (.iload_n 2, 1) := by decide +kernel
theorem dX5_with_1 : decode cX5_with 1 = .ok (.ifCond .eq 11, 3) := by decide +kernel
theorem dX5_with_4 : decode cX5_with 4 = .ok (.iload_n 0, 1) := by decide +kernel
theorem dX5_with_5 : decode cX5_with 5 = .ok (.iconst 1, 1) := by decide +kernel
theorem dX5_with_6 : decode cX5_with 6 = .ok (.iload_n 1, 1) := by decide +kernel
theorem dX5_with_7 : decode cX5_with 7 = .ok (.ishl, 1) := by decide +kernel
theorem dX5_with_8 : decode cX5_with 8 = .ok (.ior, 1) := by decide +kernel
theorem dX5_with_9 : decode cX5_with 9 = .ok (.goto 10, 3) := by decide +kernel
theorem dX5_with_12 : decode cX5_with 12 = .ok (.iload_n 0, 1) := by decide +kernel
theorem dX5_with_13 : decode cX5_with 13 = .ok (.iconst 1, 1) := by decide +kernel
theorem dX5_with_14 : decode cX5_with 14 = .ok (.iload_n 1, 1) := by decide +kernel
theorem dX5_with_15 : decode cX5_with 15 = .ok (.ishl, 1) := by decide +kernel
theorem dX5_with_16 : decode cX5_with 16 = .ok (.iconst (-1), 1) := by decide +kernel
theorem dX5_with_17 : decode cX5_with 17 = .ok (.ixor, 1) := by decide +kernel
theorem dX5_with_18 : decode cX5_with 18 = .ok (.iand, 1) := by decide +kernel
theorem dX5_with_19 : decode cX5_with 19 = .ok (.ireturn, 1) := by decide +kernel
theorem dX5_isOnDuty_0 : decode cX5_isOnDuty 0 = .ok (.aload_n 0, 1) := by decide +kernel
theorem dX5_isOnDuty_1 : decode cX5_isOnDuty 1 = .ok (.getfield 97, 3) := by decide +kernel
theorem dX5_isOnDuty_4 : decode cX5_isOnDuty 4 = .ok (.bipush 7, 2) := by decide +kernel
theorem dX5_isOnDuty_6 : decode cX5_isOnDuty 6 = .ok (.idiv, 1) := by decide +kernel
theorem dX5_isOnDuty_7 : decode cX5_isOnDuty 7 = .ok (.iconst 4, 1) := by decide +kernel
theorem dX5_isOnDuty_8 : decode cX5_isOnDuty 8 = .ok (.irem, 1) := by decide +kernel
theorem dX5_isOnDuty_9 : decode cX5_isOnDuty 9 = .ok (.istore_n 2, 1) := by decide +kernel
theorem dX5_isOnDuty_10 : decode cX5_isOnDuty 10 = .ok (.iload_n 2, 1) := by decide +kernel
theorem dX5_isOnDuty_11 : decode cX5_isOnDuty 11 = .ok (.ifCond .lt 20, 3) := by decide +kernel
theorem dX5_isOnDuty_14 : decode cX5_isOnDuty 14 = .ok (.aload_n 0, 1) := by decide +kernel
theorem dX5_isOnDuty_15 : decode cX5_isOnDuty 15 = .ok (.getfield 13, 3) := by decide +kernel
theorem dX5_isOnDuty_18 : decode cX5_isOnDuty 18 = .ok (.iload_n 2, 1) := by decide +kernel
theorem dX5_isOnDuty_19 : decode cX5_isOnDuty 19 = .ok (.iaload, 1) := by decide +kernel
theorem dX5_isOnDuty_20 : decode cX5_isOnDuty 20 = .ok (.iload_n 1, 1) := by decide +kernel
theorem dX5_isOnDuty_21 : decode cX5_isOnDuty 21 = .ok (.invokestatic 208, 3) := by decide +kernel
theorem dX5_isOnDuty_24 : decode cX5_isOnDuty 24 = .ok (.ifCond .eq 7, 3) := by decide +kernel
theorem dX5_isOnDuty_27 : decode cX5_isOnDuty 27 = .ok (.iconst 1, 1) := by decide +kernel
theorem dX5_isOnDuty_28 : decode cX5_isOnDuty 28 = .ok (.goto 4, 3) := by decide +kernel
theorem dX5_isOnDuty_31 : decode cX5_isOnDuty 31 = .ok (.iconst 0, 1) := by decide +kernel
theorem dX5_isOnDuty_32 : decode cX5_isOnDuty 32 = .ok (.ireturn, 1) := by decide +kernel
theorem dX5_hold_0 : decode cX5_hold 0 = .ok (.aload_n 0, 1) := by decide +kernel
theorem dX5_hold_1 : decode cX5_hold 1 = .ok (.getfield 37, 3) := by decide +kernel
theorem dX5_hold_4 : decode cX5_hold 4 = .ok (.iload_n 1, 1) := by decide +kernel
theorem dX5_hold_5 : decode cX5_hold 5 = .ok (.aaload, 1) := by decide +kernel
theorem dX5_hold_6 : decode cX5_hold 6 = .ok (.iconst 1, 1) := by decide +kernel
theorem dX5_hold_7 : decode cX5_hold 7 = .ok (.putfield 195, 3) := by decide +kernel
theorem dX5_hold_10 : decode cX5_hold 10 = .ok (.aload_n 0, 1) := by decide +kernel
theorem dX5_hold_11 : decode cX5_hold 11 = .ok (.getfield 47, 3) := by decide +kernel
theorem dX5_hold_14 : decode cX5_hold 14 = .ok (.iload_n 1, 1) := by decide +kernel
theorem dX5_hold_15 : decode cX5_hold 15 = .ok (.invokevirtual 216, 3) := by decide +kernel
theorem dX5_hold_18 : decode cX5_hold 18 = .ok (.iconst (-1), 1) := by decide +kernel
theorem dX5_hold_19 : decode cX5_hold 19 = .ok (.if_icmp .ne 25, 3) := by decide +kernel
theorem dX5_hold_22 : decode cX5_hold 22 = .ok (.aload_n 0, 1) := by decide +kernel
theorem dX5_hold_23 : decode cX5_hold 23 = .ok (.getfield 47, 3) := by decide +kernel
theorem dX5_hold_26 : decode cX5_hold 26 = .ok (.iload_n 1, 1) := by decide +kernel
theorem dX5_hold_27 : decode cX5_hold 27 = .ok (.aload_n 0, 1) := by decide +kernel
theorem dX5_hold_28 : decode cX5_hold 28 = .ok (.getfield 290, 3) := by decide +kernel
theorem dX5_hold_31 : decode cX5_hold 31 = .ok (.invokevirtual 293, 3) := by decide +kernel
theorem dX5_hold_34 : decode cX5_hold 34 = .ok (.aload_n 0, 1) := by decide +kernel
theorem dX5_hold_35 : decode cX5_hold 35 = .ok (.dup, 1) := by decide +kernel
theorem dX5_hold_36 : decode cX5_hold 36 = .ok (.getfield 290, 3) := by decide +kernel
theorem dX5_hold_39 : decode cX5_hold 39 = .ok (.iconst 1, 1) := by decide +kernel
theorem dX5_hold_40 : decode cX5_hold 40 = .ok (.iadd, 1) := by decide +kernel
theorem dX5_hold_41 : decode cX5_hold 41 = .ok (.putfield 290, 3) := by decide +kernel
theorem dX5_hold_44 : decode cX5_hold 44 = .ok (.aload_n 0, 1) := by decide +kernel
theorem dX5_hold_45 : decode cX5_hold 45 = .ok (.invokevirtual 297, 3) := by decide +kernel
theorem dX5_hold_48 : decode cX5_hold 48 = .ok (.return_, 1) := by decide +kernel
theorem dX5_voidWhatIsNotOld_0 : decode cX5_voidWhatIsNotOld 0 = .ok (.iconst 0, 1) := by decide +kernel
theorem dX5_voidWhatIsNotOld_1 : decode cX5_voidWhatIsNotOld 1 = .ok (.istore_n 2, 1) := by decide +kernel
theorem dX5_voidWhatIsNotOld_2 : decode cX5_voidWhatIsNotOld 2 = .ok (.iconst 0, 1) := by decide +kernel
theorem dX5_voidWhatIsNotOld_3 : decode cX5_voidWhatIsNotOld 3 = .ok (.istore_n 3, 1) := by decide +kernel
theorem dX5_voidWhatIsNotOld_4 : decode cX5_voidWhatIsNotOld 4 = .ok (.iload_n 3, 1) := by decide +kernel
theorem dX5_voidWhatIsNotOld_5 : decode cX5_voidWhatIsNotOld 5 = .ok (.aload_n 0, 1) := by decide +kernel
theorem dX5_voidWhatIsNotOld_6 : decode cX5_voidWhatIsNotOld 6 = .ok (.getfield 163, 3) := by decide +kernel
theorem dX5_voidWhatIsNotOld_9 : decode cX5_voidWhatIsNotOld 9 = .ok (.if_icmp .ge 29, 3) := by decide +kernel
theorem dX5_voidWhatIsNotOld_12 : decode cX5_voidWhatIsNotOld 12 = .ok (.aload_n 0, 1) := by decide +kernel
theorem dX5_voidWhatIsNotOld_13 : decode cX5_voidWhatIsNotOld 13 = .ok (.getfield 37, 3) := by decide +kernel
theorem dX5_voidWhatIsNotOld_16 : decode cX5_voidWhatIsNotOld 16 = .ok (.iload_n 3, 1) := by decide +kernel
theorem dX5_voidWhatIsNotOld_17 : decode cX5_voidWhatIsNotOld 17 = .ok (.aaload, 1) := by decide +kernel
theorem dX5_voidWhatIsNotOld_18 : decode cX5_voidWhatIsNotOld 18 = .ok (.iload_n 1, 1) := by decide +kernel
theorem dX5_voidWhatIsNotOld_19 : decode cX5_voidWhatIsNotOld 19 = .ok (.aload_n 0, 1) := by decide +kernel
theorem dX5_voidWhatIsNotOld_20 : decode cX5_voidWhatIsNotOld 20 = .ok (.getfield 97, 3) := by decide +kernel
theorem dX5_voidWhatIsNotOld_23 : decode cX5_voidWhatIsNotOld 23 = .ok (.invokevirtual 300, 3) := by decide +kernel
theorem dX5_voidWhatIsNotOld_26 : decode cX5_voidWhatIsNotOld 26 = .ok (.ifCond .eq 6, 3) := by decide +kernel
theorem dX5_voidWhatIsNotOld_29 : decode cX5_voidWhatIsNotOld 29 = .ok (.iinc 2 1, 3) := by decide +kernel
theorem dX5_voidWhatIsNotOld_32 : decode cX5_voidWhatIsNotOld 32 = .ok (.iinc 3 1, 3) := by decide +kernel
theorem dX5_voidWhatIsNotOld_35 : decode cX5_voidWhatIsNotOld 35 = .ok (.goto (-31), 3) := by decide +kernel
theorem dX5_voidWhatIsNotOld_38 : decode cX5_voidWhatIsNotOld 38 = .ok (.aload_n 0, 1) := by decide +kernel
theorem dX5_voidWhatIsNotOld_39 : decode cX5_voidWhatIsNotOld 39 = .ok (.invokevirtual 297, 3) := by decide +kernel
theorem dX5_voidWhatIsNotOld_42 : decode cX5_voidWhatIsNotOld 42 = .ok (.iconst 0, 1) := by decide +kernel
theorem dX5_voidWhatIsNotOld_43 : decode cX5_voidWhatIsNotOld 43 = .ok (.istore_n 3, 1) := by decide +kernel
theorem dX5_voidWhatIsNotOld_44 : decode cX5_voidWhatIsNotOld 44 = .ok (.iload_n 3, 1) := by decide +kernel
theorem dX5_voidWhatIsNotOld_45 : decode cX5_voidWhatIsNotOld 45 = .ok (.aload_n 0, 1) := by decide +kernel
theorem dX5_voidWhatIsNotOld_46 : decode cX5_voidWhatIsNotOld 46 = .ok (.getfield 127, 3) := by decide +kernel
theorem dX5_voidWhatIsNotOld_49 : decode cX5_voidWhatIsNotOld 49 = .ok (.if_icmp .ge 36, 3) := by decide +kernel
theorem dX5_voidWhatIsNotOld_52 : decode cX5_voidWhatIsNotOld 52 = .ok (.aload_n 0, 1) := by decide +kernel
theorem dX5_voidWhatIsNotOld_53 : decode cX5_voidWhatIsNotOld 53 = .ok (.getfield 31, 3) := by decide +kernel
theorem dX5_voidWhatIsNotOld_56 : decode cX5_voidWhatIsNotOld 56 = .ok (.iload_n 3, 1) := by decide +kernel
theorem dX5_voidWhatIsNotOld_57 : decode cX5_voidWhatIsNotOld 57 = .ok (.aaload, 1) := by decide +kernel
theorem dX5_voidWhatIsNotOld_58 : decode cX5_voidWhatIsNotOld 58 = .ok (.astore 4, 2) := by decide +kernel
theorem dX5_voidWhatIsNotOld_60 : decode cX5_voidWhatIsNotOld 60 = .ok (.aload_n 0, 1) := by decide +kernel
theorem dX5_voidWhatIsNotOld_61 : decode cX5_voidWhatIsNotOld 61 = .ok (.aload 4, 2) := by decide +kernel
theorem dX5_voidWhatIsNotOld_63 : decode cX5_voidWhatIsNotOld 63 = .ok (.invokevirtual 147, 3) := by decide +kernel
theorem dX5_voidWhatIsNotOld_66 : decode cX5_voidWhatIsNotOld 66 = .ok (.iconst (-1), 1) := by decide +kernel
theorem dX5_voidWhatIsNotOld_67 : decode cX5_voidWhatIsNotOld 67 = .ok (.if_icmp .eq 12, 3) := by decide +kernel
theorem dX5_voidWhatIsNotOld_70 : decode cX5_voidWhatIsNotOld 70 = .ok (.aload 4, 2) := by decide +kernel
theorem dX5_voidWhatIsNotOld_72 : decode cX5_voidWhatIsNotOld 72 = .ok (.aload_n 0, 1) := by decide +kernel
theorem dX5_voidWhatIsNotOld_73 : decode cX5_voidWhatIsNotOld 73 = .ok (.getfield 97, 3) := by decide +kernel
theorem dX5_voidWhatIsNotOld_76 : decode cX5_voidWhatIsNotOld 76 = .ok (.putfield 139, 3) := by decide +kernel
theorem dX5_voidWhatIsNotOld_79 : decode cX5_voidWhatIsNotOld 79 = .ok (.iinc 3 1, 3) := by decide +kernel
theorem dX5_voidWhatIsNotOld_82 : decode cX5_voidWhatIsNotOld 82 = .ok (.goto (-38), 3) := by decide +kernel
theorem dX5_voidWhatIsNotOld_85 : decode cX5_voidWhatIsNotOld 85 = .ok (.iload_n 2, 1) := by decide +kernel
theorem dX5_voidWhatIsNotOld_86 : decode cX5_voidWhatIsNotOld 86 = .ok (.ireturn, 1) := by decide +kernel
theorem dX5_findHeads_0 : decode cX5_findHeads 0 = .ok (.aload_n 0, 1) := by decide +kernel
theorem dX5_findHeads_1 : decode cX5_findHeads 1 = .ok (.getfield 47, 3) := by decide +kernel
theorem dX5_findHeads_4 : decode cX5_findHeads 4 = .ok (.getfield 219, 3) := by decide +kernel
theorem dX5_findHeads_7 : decode cX5_findHeads 7 = .ok (.invokevirtual 303, 3) := by decide +kernel
theorem dX5_findHeads_10 : decode cX5_findHeads 10 = .ok (.iconst 0, 1) := by decide +kernel
theorem dX5_findHeads_11 : decode cX5_findHeads 11 = .ok (.istore_n 1, 1) := by decide +kernel
theorem dX5_findHeads_12 : decode cX5_findHeads 12 = .ok (.iload_n 1, 1) := by decide +kernel
theorem dX5_findHeads_13 : decode cX5_findHeads 13 = .ok (.aload_n 0, 1) := by decide +kernel
theorem dX5_findHeads_14 : decode cX5_findHeads 14 = .ok (.getfield 163, 3) := by decide +kernel
theorem dX5_findHeads_17 : decode cX5_findHeads 17 = .ok (.if_icmp .ge 39, 3) := by decide +kernel
theorem dX5_findHeads_20 : decode cX5_findHeads 20 = .ok (.aload_n 0, 1) := by decide +kernel
theorem dX5_findHeads_21 : decode cX5_findHeads 21 = .ok (.getfield 37, 3) := by decide +kernel
theorem dX5_findHeads_24 : decode cX5_findHeads 24 = .ok (.iload_n 1, 1) := by decide +kernel
theorem dX5_findHeads_25 : decode cX5_findHeads 25 = .ok (.aaload, 1) := by decide +kernel
theorem dX5_findHeads_26 : decode cX5_findHeads 26 = .ok (.getfield 195, 3) := by decide +kernel
theorem dX5_findHeads_29 : decode cX5_findHeads 29 = .ok (.iconst 1, 1) := by decide +kernel
theorem dX5_findHeads_30 : decode cX5_findHeads 30 = .ok (.if_icmp .ne 20, 3) := by decide +kernel
theorem dX5_findHeads_33 : decode cX5_findHeads 33 = .ok (.aload_n 0, 1) := by decide +kernel
theorem dX5_findHeads_34 : decode cX5_findHeads 34 = .ok (.getfield 47, 3) := by decide +kernel
theorem dX5_findHeads_37 : decode cX5_findHeads 37 = .ok (.aload_n 0, 1) := by decide +kernel
theorem dX5_findHeads_38 : decode cX5_findHeads 38 = .ok (.getfield 37, 3) := by decide +kernel
theorem dX5_findHeads_41 : decode cX5_findHeads 41 = .ok (.iload_n 1, 1) := by decide +kernel
theorem dX5_findHeads_42 : decode cX5_findHeads 42 = .ok (.aaload, 1) := by decide +kernel
theorem dX5_findHeads_43 : decode cX5_findHeads 43 = .ok (.getfield 272, 3) := by decide +kernel
theorem dX5_findHeads_46 : decode cX5_findHeads 46 = .ok (.iload_n 1, 1) := by decide +kernel
theorem dX5_findHeads_47 : decode cX5_findHeads 47 = .ok (.invokevirtual 306, 3) := by decide +kernel
theorem dX5_findHeads_50 : decode cX5_findHeads 50 = .ok (.iinc 1 1, 3) := by decide +kernel
theorem dX5_findHeads_53 : decode cX5_findHeads 53 = .ok (.goto (-41), 3) := by decide +kernel
theorem dX5_findHeads_56 : decode cX5_findHeads 56 = .ok (.return_, 1) := by decide +kernel
theorem dX5_findHeadsAnew_0 : decode cX5_findHeadsAnew 0 = .ok (.aload_n 0, 1) := by decide +kernel
theorem dX5_findHeadsAnew_1 : decode cX5_findHeadsAnew 1 = .ok (.getfield 51, 3) := by decide +kernel
theorem dX5_findHeadsAnew_4 : decode cX5_findHeadsAnew 4 = .ok (.getfield 219, 3) := by decide +kernel
theorem dX5_findHeadsAnew_7 : decode cX5_findHeadsAnew 7 = .ok (.invokevirtual 303, 3) := by decide +kernel
theorem dX5_findHeadsAnew_10 : decode cX5_findHeadsAnew 10 = .ok (.iconst 0, 1) := by decide +kernel
theorem dX5_findHeadsAnew_11 : decode cX5_findHeadsAnew 11 = .ok (.istore_n 1, 1) := by decide +kernel
theorem dX5_findHeadsAnew_12 : decode cX5_findHeadsAnew 12 = .ok (.iload_n 1, 1) := by decide +kernel
theorem dX5_findHeadsAnew_13 : decode cX5_findHeadsAnew 13 = .ok (.aload_n 0, 1) := by decide +kernel
theorem dX5_findHeadsAnew_14 : decode cX5_findHeadsAnew 14 = .ok (.getfield 163, 3) := by decide +kernel
theorem dX5_findHeadsAnew_17 : decode cX5_findHeadsAnew 17 = .ok (.if_icmp .ge 63, 3) := by decide +kernel
theorem dX5_findHeadsAnew_20 : decode cX5_findHeadsAnew 20 = .ok (.aload_n 0, 1) := by decide +kernel
theorem dX5_findHeadsAnew_21 : decode cX5_findHeadsAnew 21 = .ok (.getfield 51, 3) := by decide +kernel
theorem dX5_findHeadsAnew_24 : decode cX5_findHeadsAnew 24 = .ok (.iload_n 1, 1) := by decide +kernel
theorem dX5_findHeadsAnew_25 : decode cX5_findHeadsAnew 25 = .ok (.aload_n 0, 1) := by decide +kernel
theorem dX5_findHeadsAnew_26 : decode cX5_findHeadsAnew 26 = .ok (.getfield 37, 3) := by decide +kernel
theorem dX5_findHeadsAnew_29 : decode cX5_findHeadsAnew 29 = .ok (.iload_n 1, 1) := by decide +kernel
theorem dX5_findHeadsAnew_30 : decode cX5_findHeadsAnew 30 = .ok (.aaload, 1) := by decide +kernel
theorem dX5_findHeadsAnew_31 : decode cX5_findHeadsAnew 31 = .ok (.aload_n 0, 1) := by decide +kernel
theorem dX5_findHeadsAnew_32 : decode cX5_findHeadsAnew 32 = .ok (.getfield 19, 3) := by decide +kernel
theorem dX5_findHeadsAnew_35 : decode cX5_findHeadsAnew 35 = .ok (.invokevirtual 309, 3) := by decide +kernel
theorem dX5_findHeadsAnew_38 : decode cX5_findHeadsAnew 38 = .ok (.invokevirtual 293, 3) := by decide +kernel
theorem dX5_findHeadsAnew_41 : decode cX5_findHeadsAnew 41 = .ok (.aload_n 0, 1) := by decide +kernel
theorem dX5_findHeadsAnew_42 : decode cX5_findHeadsAnew 42 = .ok (.getfield 37, 3) := by decide +kernel
theorem dX5_findHeadsAnew_45 : decode cX5_findHeadsAnew 45 = .ok (.iload_n 1, 1) := by decide +kernel
theorem dX5_findHeadsAnew_46 : decode cX5_findHeadsAnew 46 = .ok (.aaload, 1) := by decide +kernel
theorem dX5_findHeadsAnew_47 : decode cX5_findHeadsAnew 47 = .ok (.aload_n 0, 1) := by decide +kernel
theorem dX5_findHeadsAnew_48 : decode cX5_findHeadsAnew 48 = .ok (.getfield 19, 3) := by decide +kernel
theorem dX5_findHeadsAnew_51 : decode cX5_findHeadsAnew 51 = .ok (.invokevirtual 313, 3) := by decide +kernel
theorem dX5_findHeadsAnew_54 : decode cX5_findHeadsAnew 54 = .ok (.ifCond .eq 20, 3) := by decide +kernel
theorem dX5_findHeadsAnew_57 : decode cX5_findHeadsAnew 57 = .ok (.aload_n 0, 1) := by decide +kernel
theorem dX5_findHeadsAnew_58 : decode cX5_findHeadsAnew 58 = .ok (.getfield 51, 3) := by decide +kernel
theorem dX5_findHeadsAnew_61 : decode cX5_findHeadsAnew 61 = .ok (.aload_n 0, 1) := by decide +kernel
theorem dX5_findHeadsAnew_62 : decode cX5_findHeadsAnew 62 = .ok (.getfield 37, 3) := by decide +kernel
theorem dX5_findHeadsAnew_65 : decode cX5_findHeadsAnew 65 = .ok (.iload_n 1, 1) := by decide +kernel
theorem dX5_findHeadsAnew_66 : decode cX5_findHeadsAnew 66 = .ok (.aaload, 1) := by decide +kernel
theorem dX5_findHeadsAnew_67 : decode cX5_findHeadsAnew 67 = .ok (.getfield 272, 3) := by decide +kernel
theorem dX5_findHeadsAnew_70 : decode cX5_findHeadsAnew 70 = .ok (.iload_n 1, 1) := by decide +kernel
theorem dX5_findHeadsAnew_71 : decode cX5_findHeadsAnew 71 = .ok (.invokevirtual 306, 3) := by decide +kernel
theorem dX5_findHeadsAnew_74 : decode cX5_findHeadsAnew 74 = .ok (.iinc 1 1, 3) := by decide +kernel
theorem dX5_findHeadsAnew_77 : decode cX5_findHeadsAnew 77 = .ok (.goto (-65), 3) := by decide +kernel
theorem dX5_findHeadsAnew_80 : decode cX5_findHeadsAnew 80 = .ok (.return_, 1) := by decide +kernel
theorem dX5_stepMachines_0 : decode cX5_stepMachines 0 = .ok (.iconst 0, 1) := by decide +kernel
theorem dX5_stepMachines_1 : decode cX5_stepMachines 1 = .ok (.istore_n 1, 1) := by decide +kernel
theorem dX5_stepMachines_2 : decode cX5_stepMachines 2 = .ok (.iconst 0, 1) := by decide +kernel
theorem dX5_stepMachines_3 : decode cX5_stepMachines 3 = .ok (.istore_n 2, 1) := by decide +kernel
theorem dX5_stepMachines_4 : decode cX5_stepMachines 4 = .ok (.iconst 0, 1) := by decide +kernel
theorem dX5_stepMachines_5 : decode cX5_stepMachines 5 = .ok (.istore_n 3, 1) := by decide +kernel
theorem dX5_stepMachines_6 : decode cX5_stepMachines 6 = .ok (.iload_n 3, 1) := by decide +kernel
theorem dX5_stepMachines_7 : decode cX5_stepMachines 7 = .ok (.aload_n 0, 1) := by decide +kernel
theorem dX5_stepMachines_8 : decode cX5_stepMachines 8 = .ok (.getfield 127, 3) := by decide +kernel
theorem dX5_stepMachines_11 : decode cX5_stepMachines 11 = .ok (.if_icmp .ge 80, 3) := by decide +kernel
theorem dX5_stepMachines_14 : decode cX5_stepMachines 14 = .ok (.aload_n 0, 1) := by decide +kernel
theorem dX5_stepMachines_15 : decode cX5_stepMachines 15 = .ok (.getfield 31, 3) := by decide +kernel
theorem dX5_stepMachines_18 : decode cX5_stepMachines 18 = .ok (.iload_n 3, 1) := by decide +kernel
theorem dX5_stepMachines_19 : decode cX5_stepMachines 19 = .ok (.aaload, 1) := by decide +kernel
theorem dX5_stepMachines_20 : decode cX5_stepMachines 20 = .ok (.astore 4, 2) := by decide +kernel
theorem dX5_stepMachines_22 : decode cX5_stepMachines 22 = .ok (.aload_n 0, 1) := by decide +kernel
theorem dX5_stepMachines_23 : decode cX5_stepMachines 23 = .ok (.aload 4, 2) := by decide +kernel
theorem dX5_stepMachines_25 : decode cX5_stepMachines 25 = .ok (.invokevirtual 147, 3) := by decide +kernel
theorem dX5_stepMachines_28 : decode cX5_stepMachines 28 = .ok (.istore 5, 2) := by decide +kernel
theorem dX5_stepMachines_30 : decode cX5_stepMachines 30 = .ok (.iload 5, 2) := by decide +kernel
theorem dX5_stepMachines_32 : decode cX5_stepMachines 32 = .ok (.iconst (-1), 1) := by decide +kernel
theorem dX5_stepMachines_33 : decode cX5_stepMachines 33 = .ok (.if_icmp .eq 17, 3) := by decide +kernel
theorem dX5_stepMachines_36 : decode cX5_stepMachines 36 = .ok (.aload_n 0, 1) := by decide +kernel
theorem dX5_stepMachines_37 : decode cX5_stepMachines 37 = .ok (.aload 4, 2) := by decide +kernel
theorem dX5_stepMachines_39 : decode cX5_stepMachines 39 = .ok (.iload 5, 2) := by decide +kernel
theorem dX5_stepMachines_41 : decode cX5_stepMachines 41 = .ok (.invokevirtual 317, 3) := by decide +kernel
theorem dX5_stepMachines_44 : decode cX5_stepMachines 44 = .ok (.iinc 1 1, 3) := by decide +kernel
theorem dX5_stepMachines_47 : decode cX5_stepMachines 47 = .ok (.goto 38, 3) := by decide +kernel
theorem dX5_stepMachines_50 : decode cX5_stepMachines 50 = .ok (.aload 4, 2) := by decide +kernel
theorem dX5_stepMachines_52 : decode cX5_stepMachines 52 = .ok (.getfield 139, 3) := by decide +kernel
theorem dX5_stepMachines_55 : decode cX5_stepMachines 55 = .ok (.aload_n 0, 1) := by decide +kernel
theorem dX5_stepMachines_56 : decode cX5_stepMachines 56 = .ok (.getfield 97, 3) := by decide +kernel
theorem dX5_stepMachines_59 : decode cX5_stepMachines 59 = .ok (.if_icmp .gt 26, 3) := by decide +kernel
theorem dX5_stepMachines_62 : decode cX5_stepMachines 62 = .ok (.iload_n 2, 1) := by decide +kernel
theorem dX5_stepMachines_63 : decode cX5_stepMachines 63 = .ok (.aload_n 0, 1) := by decide +kernel
theorem dX5_stepMachines_64 : decode cX5_stepMachines 64 = .ok (.getfield 9, 3) := by decide +kernel
theorem dX5_stepMachines_67 : decode cX5_stepMachines 67 = .ok (.if_icmp .ge 18, 3) := by decide +kernel
theorem dX5_stepMachines_70 : decode cX5_stepMachines 70 = .ok (.aload_n 0, 1) := by decide +kernel
theorem dX5_stepMachines_71 : decode cX5_stepMachines 71 = .ok (.aload 4, 2) := by decide +kernel
theorem dX5_stepMachines_73 : decode cX5_stepMachines 73 = .ok (.invokevirtual 321, 3) := by decide +kernel
theorem dX5_stepMachines_76 : decode cX5_stepMachines 76 = .ok (.ifCond .eq 9, 3) := by decide +kernel
theorem dX5_stepMachines_79 : decode cX5_stepMachines 79 = .ok (.iinc 2 1, 3) := by decide +kernel
theorem dX5_stepMachines_82 : decode cX5_stepMachines 82 = .ok (.iinc 1 1, 3) := by decide +kernel
theorem dX5_stepMachines_85 : decode cX5_stepMachines 85 = .ok (.iinc 3 1, 3) := by decide +kernel
theorem dX5_stepMachines_88 : decode cX5_stepMachines 88 = .ok (.goto (-82), 3) := by decide +kernel
theorem dX5_stepMachines_91 : decode cX5_stepMachines 91 = .ok (.iload_n 1, 1) := by decide +kernel
theorem dX5_stepMachines_92 : decode cX5_stepMachines 92 = .ok (.ireturn, 1) := by decide +kernel
theorem dX5_isAnyBusy_0 : decode cX5_isAnyBusy 0 = .ok (.iconst 0, 1) := by decide +kernel
theorem dX5_isAnyBusy_1 : decode cX5_isAnyBusy 1 = .ok (.istore_n 1, 1) := by decide +kernel
theorem dX5_isAnyBusy_2 : decode cX5_isAnyBusy 2 = .ok (.iload_n 1, 1) := by decide +kernel
theorem dX5_isAnyBusy_3 : decode cX5_isAnyBusy 3 = .ok (.aload_n 0, 1) := by decide +kernel
theorem dX5_isAnyBusy_4 : decode cX5_isAnyBusy 4 = .ok (.getfield 127, 3) := by decide +kernel
theorem dX5_isAnyBusy_7 : decode cX5_isAnyBusy 7 = .ok (.if_icmp .ge 27, 3) := by decide +kernel
theorem dX5_isAnyBusy_10 : decode cX5_isAnyBusy 10 = .ok (.aload_n 0, 1) := by decide +kernel
theorem dX5_isAnyBusy_11 : decode cX5_isAnyBusy 11 = .ok (.getfield 31, 3) := by decide +kernel
theorem dX5_isAnyBusy_14 : decode cX5_isAnyBusy 14 = .ok (.iload_n 1, 1) := by decide +kernel
theorem dX5_isAnyBusy_15 : decode cX5_isAnyBusy 15 = .ok (.aaload, 1) := by decide +kernel
theorem dX5_isAnyBusy_16 : decode cX5_isAnyBusy 16 = .ok (.getfield 139, 3) := by decide +kernel
theorem dX5_isAnyBusy_19 : decode cX5_isAnyBusy 19 = .ok (.aload_n 0, 1) := by decide +kernel
theorem dX5_isAnyBusy_20 : decode cX5_isAnyBusy 20 = .ok (.getfield 97, 3) := by decide +kernel
theorem dX5_isAnyBusy_23 : decode cX5_isAnyBusy 23 = .ok (.if_icmp .le 5, 3) := by decide +kernel
theorem dX5_isAnyBusy_26 : decode cX5_isAnyBusy 26 = .ok (.iconst 1, 1) := by decide +kernel
theorem dX5_isAnyBusy_27 : decode cX5_isAnyBusy 27 = .ok (.ireturn, 1) := by decide +kernel
theorem dX5_isAnyBusy_28 : decode cX5_isAnyBusy 28 = .ok (.iinc 1 1, 3) := by decide +kernel
theorem dX5_isAnyBusy_31 : decode cX5_isAnyBusy 31 = .ok (.goto (-29), 3) := by decide +kernel
theorem dX5_isAnyBusy_34 : decode cX5_isAnyBusy 34 = .ok (.iconst 0, 1) := by decide +kernel
theorem dX5_isAnyBusy_35 : decode cX5_isAnyBusy 35 = .ok (.ireturn, 1) := by decide +kernel
theorem dX5_nearestLayerNotHeld_0 : decode cX5_nearestLayerNotHeld 0 = .ok (.iconst 0, 1) := by decide +kernel
theorem dX5_nearestLayerNotHeld_1 : decode cX5_nearestLayerNotHeld 1 = .ok (.istore_n 2, 1) := by decide +kernel
theorem dX5_nearestLayerNotHeld_2 : decode cX5_nearestLayerNotHeld 2 = .ok (.iload_n 2, 1) := by decide +kernel
theorem dX5_nearestLayerNotHeld_3 : decode cX5_nearestLayerNotHeld 3 = .ok (.aload_n 1, 1) := by decide +kernel
theorem dX5_nearestLayerNotHeld_4 : decode cX5_nearestLayerNotHeld 4 = .ok (.getfield 262, 3) := by decide +kernel
theorem dX5_nearestLayerNotHeld_7 : decode cX5_nearestLayerNotHeld 7 = .ok (.if_icmp .ge 45, 3) := by decide +kernel
theorem dX5_nearestLayerNotHeld_10 : decode cX5_nearestLayerNotHeld 10 = .ok (.iconst 0, 1) := by decide +kernel
theorem dX5_nearestLayerNotHeld_11 : decode cX5_nearestLayerNotHeld 11 = .ok (.istore_n 3, 1) := by decide +kernel
theorem dX5_nearestLayerNotHeld_12 : decode cX5_nearestLayerNotHeld 12 = .ok (.iload_n 3, 1) := by decide +kernel
theorem dX5_nearestLayerNotHeld_13 : decode cX5_nearestLayerNotHeld 13 = .ok (.bipush 6, 2) := by decide +kernel
theorem dX5_nearestLayerNotHeld_15 : decode cX5_nearestLayerNotHeld 15 = .ok (.if_icmp .ge 31, 3) := by decide +kernel
theorem dX5_nearestLayerNotHeld_18 : decode cX5_nearestLayerNotHeld 18 = .ok (.aload_n 0, 1) := by decide +kernel
theorem dX5_nearestLayerNotHeld_19 : decode cX5_nearestLayerNotHeld 19 = .ok (.aload_n 1, 1) := by decide +kernel
theorem dX5_nearestLayerNotHeld_20 : decode cX5_nearestLayerNotHeld 20 = .ok (.getfield 239, 3) := by decide +kernel
theorem dX5_nearestLayerNotHeld_23 : decode cX5_nearestLayerNotHeld 23 = .ok (.aload_n 1, 1) := by decide +kernel
theorem dX5_nearestLayerNotHeld_24 : decode cX5_nearestLayerNotHeld 24 = .ok (.iload_n 2, 1) := by decide +kernel
theorem dX5_nearestLayerNotHeld_25 : decode cX5_nearestLayerNotHeld 25 = .ok (.iload_n 3, 1) := by decide +kernel
theorem dX5_nearestLayerNotHeld_26 : decode cX5_nearestLayerNotHeld 26 = .ok (.invokevirtual 242, 3) := by decide +kernel
theorem dX5_nearestLayerNotHeld_29 : decode cX5_nearestLayerNotHeld 29 = .ok (.invokevirtual 223, 3) := by decide +kernel
theorem dX5_nearestLayerNotHeld_32 : decode cX5_nearestLayerNotHeld 32 = .ok (.invokevirtual 325, 3) := by decide +kernel
theorem dX5_nearestLayerNotHeld_35 : decode cX5_nearestLayerNotHeld 35 = .ok (.ifCond .eq 5, 3) := by decide +kernel
theorem dX5_nearestLayerNotHeld_38 : decode cX5_nearestLayerNotHeld 38 = .ok (.iload_n 2, 1) := by decide +kernel
theorem dX5_nearestLayerNotHeld_39 : decode cX5_nearestLayerNotHeld 39 = .ok (.ireturn, 1) := by decide +kernel
theorem dX5_nearestLayerNotHeld_40 : decode cX5_nearestLayerNotHeld 40 = .ok (.iinc 3 1, 3) := by decide +kernel
theorem dX5_nearestLayerNotHeld_43 : decode cX5_nearestLayerNotHeld 43 = .ok (.goto (-31), 3) := by decide +kernel
theorem dX5_nearestLayerNotHeld_46 : decode cX5_nearestLayerNotHeld 46 = .ok (.iinc 2 1, 3) := by decide +kernel
theorem dX5_nearestLayerNotHeld_49 : decode cX5_nearestLayerNotHeld 49 = .ok (.goto (-47), 3) := by decide +kernel
theorem dX5_nearestLayerNotHeld_52 : decode cX5_nearestLayerNotHeld 52 = .ok (.iconst (-1), 1) := by decide +kernel
theorem dX5_nearestLayerNotHeld_53 : decode cX5_nearestLayerNotHeld 53 = .ok (.ireturn, 1) := by decide +kernel
theorem dX5_isTakenNotHeld_0 : decode cX5_isTakenNotHeld 0 = .ok (.aload_n 0, 1) := by decide +kernel
theorem dX5_isTakenNotHeld_1 : decode cX5_isTakenNotHeld 1 = .ok (.iload_n 1, 1) := by decide +kernel
theorem dX5_isTakenNotHeld_2 : decode cX5_isTakenNotHeld 2 = .ok (.invokevirtual 285, 3) := by decide +kernel
theorem dX5_isTakenNotHeld_5 : decode cX5_isTakenNotHeld 5 = .ok (.ifCond .eq 20, 3) := by decide +kernel
theorem dX5_isTakenNotHeld_8 : decode cX5_isTakenNotHeld 8 = .ok (.aload_n 0, 1) := by decide +kernel
theorem dX5_isTakenNotHeld_9 : decode cX5_isTakenNotHeld 9 = .ok (.getfield 37, 3) := by decide +kernel
theorem dX5_isTakenNotHeld_12 : decode cX5_isTakenNotHeld 12 = .ok (.iload_n 1, 1) := by decide +kernel
theorem dX5_isTakenNotHeld_13 : decode cX5_isTakenNotHeld 13 = .ok (.aaload, 1) := by decide +kernel
theorem dX5_isTakenNotHeld_14 : decode cX5_isTakenNotHeld 14 = .ok (.getfield 195, 3) := by decide +kernel
theorem dX5_isTakenNotHeld_17 : decode cX5_isTakenNotHeld 17 = .ok (.iconst 1, 1) := by decide +kernel
theorem dX5_isTakenNotHeld_18 : decode cX5_isTakenNotHeld 18 = .ok (.if_icmp .eq 7, 3) := by decide +kernel
theorem dX5_isTakenNotHeld_21 : decode cX5_isTakenNotHeld 21 = .ok (.iconst 1, 1) := by decide +kernel
theorem dX5_isTakenNotHeld_22 : decode cX5_isTakenNotHeld 22 = .ok (.goto 4, 3) := by decide +kernel
theorem dX5_isTakenNotHeld_25 : decode cX5_isTakenNotHeld 25 = .ok (.iconst 0, 1) := by decide +kernel
theorem dX5_isTakenNotHeld_26 : decode cX5_isTakenNotHeld 26 = .ok (.ireturn, 1) := by decide +kernel
theorem dX5_goBack_0 : decode cX5_goBack 0 = .ok (.iconst 0, 1) := by decide +kernel
theorem dX5_goBack_1 : decode cX5_goBack 1 = .ok (.istore_n 3, 1) := by decide +kernel
theorem dX5_goBack_2 : decode cX5_goBack 2 = .ok (.iload_n 3, 1) := by decide +kernel
theorem dX5_goBack_3 : decode cX5_goBack 3 = .ok (.bipush 6, 2) := by decide +kernel
theorem dX5_goBack_5 : decode cX5_goBack 5 = .ok (.if_icmp .ge 54, 3) := by decide +kernel
theorem dX5_goBack_8 : decode cX5_goBack 8 = .ok (.aload_n 1, 1) := by decide +kernel
theorem dX5_goBack_9 : decode cX5_goBack 9 = .ok (.iload_n 2, 1) := by decide +kernel
theorem dX5_goBack_10 : decode cX5_goBack 10 = .ok (.iload_n 3, 1) := by decide +kernel
theorem dX5_goBack_11 : decode cX5_goBack 11 = .ok (.invokevirtual 242, 3) := by decide +kernel
theorem dX5_goBack_14 : decode cX5_goBack 14 = .ok (.istore 4, 2) := by decide +kernel
theorem dX5_goBack_16 : decode cX5_goBack 16 = .ok (.aload_n 0, 1) := by decide +kernel
theorem dX5_goBack_17 : decode cX5_goBack 17 = .ok (.aload_n 1, 1) := by decide +kernel
theorem dX5_goBack_18 : decode cX5_goBack 18 = .ok (.getfield 239, 3) := by decide +kernel
theorem dX5_goBack_21 : decode cX5_goBack 21 = .ok (.iload 4, 2) := by decide +kernel
theorem dX5_goBack_23 : decode cX5_goBack 23 = .ok (.invokevirtual 223, 3) := by decide +kernel
theorem dX5_goBack_26 : decode cX5_goBack 26 = .ok (.invokevirtual 325, 3) := by decide +kernel
theorem dX5_goBack_29 : decode cX5_goBack 29 = .ok (.ifCond .eq 24, 3) := by decide +kernel
theorem dX5_goBack_32 : decode cX5_goBack 32 = .ok (.aload_n 1, 1) := by decide +kernel
theorem dX5_goBack_33 : decode cX5_goBack 33 = .ok (.getfield 239, 3) := by decide +kernel
theorem dX5_goBack_36 : decode cX5_goBack 36 = .ok (.iload 4, 2) := by decide +kernel
theorem dX5_goBack_38 : decode cX5_goBack 38 = .ok (.aload_n 0, 1) := by decide +kernel
theorem dX5_goBack_39 : decode cX5_goBack 39 = .ok (.getfield 47, 3) := by decide +kernel
theorem dX5_goBack_42 : decode cX5_goBack 42 = .ok (.getfield 219, 3) := by decide +kernel
theorem dX5_goBack_45 : decode cX5_goBack 45 = .ok (.iload 4, 2) := by decide +kernel
theorem dX5_goBack_47 : decode cX5_goBack 47 = .ok (.invokevirtual 223, 3) := by decide +kernel
theorem dX5_goBack_50 : decode cX5_goBack 50 = .ok (.invokevirtual 328, 3) := by decide +kernel
theorem dX5_goBack_53 : decode cX5_goBack 53 = .ok (.iinc 3 1, 3) := by decide +kernel
theorem dX5_goBack_56 : decode cX5_goBack 56 = .ok (.goto (-54), 3) := by decide +kernel
theorem dX5_goBack_59 : decode cX5_goBack 59 = .ok (.return_, 1) := by decide +kernel
theorem dX5_takeFarthestLayer_0 : decode cX5_takeFarthestLayer 0 = .ok (.aload_n 1, 1) := by decide +kernel
theorem dX5_takeFarthestLayer_1 : decode cX5_takeFarthestLayer 1 = .ok (.getfield 262, 3) := by decide +kernel
theorem dX5_takeFarthestLayer_4 : decode cX5_takeFarthestLayer 4 = .ok (.iconst 1, 1) := by decide +kernel
theorem dX5_takeFarthestLayer_5 : decode cX5_takeFarthestLayer 5 = .ok (.isub, 1) := by decide +kernel
theorem dX5_takeFarthestLayer_6 : decode cX5_takeFarthestLayer 6 = .ok (.istore_n 2, 1) := by decide +kernel
theorem dX5_takeFarthestLayer_7 : decode cX5_takeFarthestLayer 7 = .ok (.iload_n 2, 1) := by decide +kernel
theorem dX5_takeFarthestLayer_8 : decode cX5_takeFarthestLayer 8 = .ok (.ifCond .lt 26, 3) := by decide +kernel
theorem dX5_takeFarthestLayer_11 : decode cX5_takeFarthestLayer 11 = .ok (.aload_n 0, 1) := by decide +kernel
theorem dX5_takeFarthestLayer_12 : decode cX5_takeFarthestLayer 12 = .ok (.aload_n 1, 1) := by decide +kernel
theorem dX5_takeFarthestLayer_13 : decode cX5_takeFarthestLayer 13 = .ok (.iload_n 2, 1) := by decide +kernel
theorem dX5_takeFarthestLayer_14 : decode cX5_takeFarthestLayer 14 = .ok (.invokevirtual 265, 3) := by decide +kernel
theorem dX5_takeFarthestLayer_17 : decode cX5_takeFarthestLayer 17 = .ok (.ifCond .eq 11, 3) := by decide +kernel
theorem dX5_takeFarthestLayer_20 : decode cX5_takeFarthestLayer 20 = .ok (.aload_n 0, 1) := by decide +kernel
theorem dX5_takeFarthestLayer_21 : decode cX5_takeFarthestLayer 21 = .ok (.aload_n 1, 1) := by decide +kernel
theorem dX5_takeFarthestLayer_22 : decode cX5_takeFarthestLayer 22 = .ok (.iload_n 2, 1) := by decide +kernel
theorem dX5_takeFarthestLayer_23 : decode cX5_takeFarthestLayer 23 = .ok (.invokevirtual 331, 3) := by decide +kernel
theorem dX5_takeFarthestLayer_26 : decode cX5_takeFarthestLayer 26 = .ok (.iconst 1, 1) := by decide +kernel
theorem dX5_takeFarthestLayer_27 : decode cX5_takeFarthestLayer 27 = .ok (.ireturn, 1) := by decide +kernel
theorem dX5_takeFarthestLayer_28 : decode cX5_takeFarthestLayer 28 = .ok (.iinc 2 (-1), 3) := by decide +kernel
theorem dX5_takeFarthestLayer_31 : decode cX5_takeFarthestLayer 31 = .ok (.goto (-24), 3) := by decide +kernel
theorem dX5_takeFarthestLayer_34 : decode cX5_takeFarthestLayer 34 = .ok (.iconst 0, 1) := by decide +kernel
theorem dX5_takeFarthestLayer_35 : decode cX5_takeFarthestLayer 35 = .ok (.ireturn, 1) := by decide +kernel
theorem dX5_takeLayer_0 : decode cX5_takeLayer 0 = .ok (.iconst 0, 1) := by decide +kernel
theorem dX5_takeLayer_1 : decode cX5_takeLayer 1 = .ok (.istore_n 3, 1) := by decide +kernel
theorem dX5_takeLayer_2 : decode cX5_takeLayer 2 = .ok (.iload_n 3, 1) := by decide +kernel
theorem dX5_takeLayer_3 : decode cX5_takeLayer 3 = .ok (.bipush 6, 2) := by decide +kernel
theorem dX5_takeLayer_5 : decode cX5_takeLayer 5 = .ok (.if_icmp .ge 38, 3) := by decide +kernel
theorem dX5_takeLayer_8 : decode cX5_takeLayer 8 = .ok (.aload_n 1, 1) := by decide +kernel
theorem dX5_takeLayer_9 : decode cX5_takeLayer 9 = .ok (.iload_n 2, 1) := by decide +kernel
theorem dX5_takeLayer_10 : decode cX5_takeLayer 10 = .ok (.iload_n 3, 1) := by decide +kernel
theorem dX5_takeLayer_11 : decode cX5_takeLayer 11 = .ok (.invokevirtual 242, 3) := by decide +kernel
theorem dX5_takeLayer_14 : decode cX5_takeLayer 14 = .ok (.istore 4, 2) := by decide +kernel
theorem dX5_takeLayer_16 : decode cX5_takeLayer 16 = .ok (.aload_n 1, 1) := by decide +kernel
theorem dX5_takeLayer_17 : decode cX5_takeLayer 17 = .ok (.getfield 239, 3) := by decide +kernel
theorem dX5_takeLayer_20 : decode cX5_takeLayer 20 = .ok (.iload 4, 2) := by decide +kernel
theorem dX5_takeLayer_22 : decode cX5_takeLayer 22 = .ok (.aload_n 0, 1) := by decide +kernel
theorem dX5_takeLayer_23 : decode cX5_takeLayer 23 = .ok (.getfield 47, 3) := by decide +kernel
theorem dX5_takeLayer_26 : decode cX5_takeLayer 26 = .ok (.getfield 219, 3) := by decide +kernel
theorem dX5_takeLayer_29 : decode cX5_takeLayer 29 = .ok (.iload 4, 2) := by decide +kernel
theorem dX5_takeLayer_31 : decode cX5_takeLayer 31 = .ok (.invokevirtual 223, 3) := by decide +kernel
theorem dX5_takeLayer_34 : decode cX5_takeLayer 34 = .ok (.invokevirtual 328, 3) := by decide +kernel
theorem dX5_takeLayer_37 : decode cX5_takeLayer 37 = .ok (.iinc 3 1, 3) := by decide +kernel
theorem dX5_takeLayer_40 : decode cX5_takeLayer 40 = .ok (.goto (-38), 3) := by decide +kernel
theorem dX5_takeLayer_43 : decode cX5_takeLayer 43 = .ok (.return_, 1) := by decide +kernel
theorem dX5_isBehindIn_0 : decode cX5_isBehindIn 0 = .ok (.iconst 0, 1) := by decide +kernel
theorem dX5_isBehindIn_1 : decode cX5_isBehindIn 1 = .ok (.istore_n 3, 1) := by decide +kernel
theorem dX5_isBehindIn_2 : decode cX5_isBehindIn 2 = .ok (.iload_n 3, 1) := by decide +kernel
theorem dX5_isBehindIn_3 : decode cX5_isBehindIn 3 = .ok (.bipush 6, 2) := by decide +kernel
theorem dX5_isBehindIn_5 : decode cX5_isBehindIn 5 = .ok (.if_icmp .ge 43, 3) := by decide +kernel
theorem dX5_isBehindIn_8 : decode cX5_isBehindIn 8 = .ok (.aload_n 1, 1) := by decide +kernel
theorem dX5_isBehindIn_9 : decode cX5_isBehindIn 9 = .ok (.iload_n 2, 1) := by decide +kernel
theorem dX5_isBehindIn_10 : decode cX5_isBehindIn 10 = .ok (.iload_n 3, 1) := by decide +kernel
theorem dX5_isBehindIn_11 : decode cX5_isBehindIn 11 = .ok (.invokevirtual 242, 3) := by decide +kernel
theorem dX5_isBehindIn_14 : decode cX5_isBehindIn 14 = .ok (.istore 4, 2) := by decide +kernel
theorem dX5_isBehindIn_16 : decode cX5_isBehindIn 16 = .ok (.aload_n 1, 1) := by decide +kernel
theorem dX5_isBehindIn_17 : decode cX5_isBehindIn 17 = .ok (.getfield 239, 3) := by decide +kernel
theorem dX5_isBehindIn_20 : decode cX5_isBehindIn 20 = .ok (.iload 4, 2) := by decide +kernel
theorem dX5_isBehindIn_22 : decode cX5_isBehindIn 22 = .ok (.invokevirtual 223, 3) := by decide +kernel
theorem dX5_isBehindIn_25 : decode cX5_isBehindIn 25 = .ok (.aload_n 0, 1) := by decide +kernel
theorem dX5_isBehindIn_26 : decode cX5_isBehindIn 26 = .ok (.getfield 47, 3) := by decide +kernel
theorem dX5_isBehindIn_29 : decode cX5_isBehindIn 29 = .ok (.getfield 219, 3) := by decide +kernel
theorem dX5_isBehindIn_32 : decode cX5_isBehindIn 32 = .ok (.iload 4, 2) := by decide +kernel
theorem dX5_isBehindIn_34 : decode cX5_isBehindIn 34 = .ok (.invokevirtual 223, 3) := by decide +kernel
theorem dX5_isBehindIn_37 : decode cX5_isBehindIn 37 = .ok (.if_icmp .eq 5, 3) := by decide +kernel
theorem dX5_isBehindIn_40 : decode cX5_isBehindIn 40 = .ok (.iconst 1, 1) := by decide +kernel
theorem dX5_isBehindIn_41 : decode cX5_isBehindIn 41 = .ok (.ireturn, 1) := by decide +kernel
theorem dX5_isBehindIn_42 : decode cX5_isBehindIn 42 = .ok (.iinc 3 1, 3) := by decide +kernel
theorem dX5_isBehindIn_45 : decode cX5_isBehindIn 45 = .ok (.goto (-43), 3) := by decide +kernel
theorem dX5_isBehindIn_48 : decode cX5_isBehindIn 48 = .ok (.iconst 0, 1) := by decide +kernel
theorem dX5_isBehindIn_49 : decode cX5_isBehindIn 49 = .ok (.ireturn, 1) := by decide +kernel
theorem dX5_findRunning_0 : decode cX5_findRunning 0 = .ok (.aload_n 0, 1) := by decide +kernel
theorem dX5_findRunning_1 : decode cX5_findRunning 1 = .ok (.aload_n 1, 1) := by decide +kernel
theorem dX5_findRunning_2 : decode cX5_findRunning 2 = .ok (.invokevirtual 147, 3) := by decide +kernel
theorem dX5_findRunning_5 : decode cX5_findRunning 5 = .ok (.iconst (-1), 1) := by decide +kernel
theorem dX5_findRunning_6 : decode cX5_findRunning 6 = .ok (.if_icmp .eq 13, 3) := by decide +kernel
theorem dX5_findRunning_9 : decode cX5_findRunning 9 = .ok (.aload_n 0, 1) := by decide +kernel
theorem dX5_findRunning_10 : decode cX5_findRunning 10 = .ok (.getfield 57, 3) := by decide +kernel
theorem dX5_findRunning_13 : decode cX5_findRunning 13 = .ok (.invokevirtual 334, 3) := by decide +kernel
theorem dX5_findRunning_16 : decode cX5_findRunning 16 = .ok (.goto 16, 3) := by decide +kernel
theorem dX5_findRunning_19 : decode cX5_findRunning 19 = .ok (.aload_n 0, 1) := by decide +kernel
theorem dX5_findRunning_20 : decode cX5_findRunning 20 = .ok (.aload_n 1, 1) := by decide +kernel
theorem dX5_findRunning_21 : decode cX5_findRunning 21 = .ok (.aload_n 1, 1) := by decide +kernel
theorem dX5_findRunning_22 : decode cX5_findRunning 22 = .ok (.getfield 239, 3) := by decide +kernel
theorem dX5_findRunning_25 : decode cX5_findRunning 25 = .ok (.aload_n 0, 1) := by decide +kernel
theorem dX5_findRunning_26 : decode cX5_findRunning 26 = .ok (.getfield 47, 3) := by decide +kernel
theorem dX5_findRunning_29 : decode cX5_findRunning 29 = .ok (.invokevirtual 255, 3) := by decide +kernel
theorem dX5_findRunning_32 : decode cX5_findRunning 32 = .ok (.return_, 1) := by decide +kernel
theorem dX5_findOutcome_0 : decode cX5_findOutcome 0 = .ok (.aload_n 0, 1) := by decide +kernel
theorem dX5_findOutcome_1 : decode cX5_findOutcome 1 = .ok (.getfield 57, 3) := by decide +kernel
theorem dX5_findOutcome_4 : decode cX5_findOutcome 4 = .ok (.invokevirtual 334, 3) := by decide +kernel
theorem dX5_findOutcome_7 : decode cX5_findOutcome 7 = .ok (.iconst 0, 1) := by decide +kernel
theorem dX5_findOutcome_8 : decode cX5_findOutcome 8 = .ok (.istore 4, 2) := by decide +kernel
theorem dX5_findOutcome_10 : decode cX5_findOutcome 10 = .ok (.iload 4, 2) := by decide +kernel
theorem dX5_findOutcome_12 : decode cX5_findOutcome 12 = .ok (.bipush 6, 2) := by decide +kernel
theorem dX5_findOutcome_14 : decode cX5_findOutcome 14 = .ok (.if_icmp .ge 18, 3) := by decide +kernel
theorem dX5_findOutcome_17 : decode cX5_findOutcome 17 = .ok (.aload_n 0, 1) := by decide +kernel
theorem dX5_findOutcome_18 : decode cX5_findOutcome 18 = .ok (.aload_n 1, 1) := by decide +kernel
theorem dX5_findOutcome_19 : decode cX5_findOutcome 19 = .ok (.aload_n 2, 1) := by decide +kernel
theorem dX5_findOutcome_20 : decode cX5_findOutcome 20 = .ok (.aload_n 3, 1) := by decide +kernel
theorem dX5_findOutcome_21 : decode cX5_findOutcome 21 = .ok (.iload 4, 2) := by decide +kernel
theorem dX5_findOutcome_23 : decode cX5_findOutcome 23 = .ok (.invokevirtual 337, 3) := by decide +kernel
theorem dX5_findOutcome_26 : decode cX5_findOutcome 26 = .ok (.iinc 4 1, 3) := by decide +kernel
theorem dX5_findOutcome_29 : decode cX5_findOutcome 29 = .ok (.goto (-19), 3) := by decide +kernel
theorem dX5_findOutcome_32 : decode cX5_findOutcome 32 = .ok (.aload_n 0, 1) := by decide +kernel
theorem dX5_findOutcome_33 : decode cX5_findOutcome 33 = .ok (.getfield 57, 3) := by decide +kernel
theorem dX5_findOutcome_36 : decode cX5_findOutcome 36 = .ok (.aload_n 0, 1) := by decide +kernel
theorem dX5_findOutcome_37 : decode cX5_findOutcome 37 = .ok (.getfield 41, 3) := by decide +kernel
theorem dX5_findOutcome_40 : decode cX5_findOutcome 40 = .ok (.invokevirtual 341, 3) := by decide +kernel
theorem dX5_findOutcome_43 : decode cX5_findOutcome 43 = .ok (.return_, 1) := by decide +kernel
theorem dX5_decide_0 : decode cX5_decide 0 = .ok (.iconst 0, 1) := by decide +kernel
theorem dX5_decide_1 : decode cX5_decide 1 = .ok (.istore 5, 2) := by decide +kernel
theorem dX5_decide_3 : decode cX5_decide 3 = .ok (.iload 5, 2) := by decide +kernel
theorem dX5_decide_5 : decode cX5_decide 5 = .ok (.aload_n 1, 1) := by decide +kernel
theorem dX5_decide_6 : decode cX5_decide 6 = .ok (.getfield 262, 3) := by decide +kernel
theorem dX5_decide_9 : decode cX5_decide 9 = .ok (.if_icmp .ge 72, 3) := by decide +kernel
theorem dX5_decide_12 : decode cX5_decide 12 = .ok (.aload_n 2, 1) := by decide +kernel
theorem dX5_decide_13 : decode cX5_decide 13 = .ok (.aload_n 1, 1) := by decide +kernel
theorem dX5_decide_14 : decode cX5_decide 14 = .ok (.iload 5, 2) := by decide +kernel
theorem dX5_decide_16 : decode cX5_decide 16 = .ok (.iload 4, 2) := by decide +kernel
theorem dX5_decide_18 : decode cX5_decide 18 = .ok (.invokevirtual 242, 3) := by decide +kernel
theorem dX5_decide_21 : decode cX5_decide 21 = .ok (.invokevirtual 223, 3) := by decide +kernel
theorem dX5_decide_24 : decode cX5_decide 24 = .ok (.istore 6, 2) := by decide +kernel
theorem dX5_decide_26 : decode cX5_decide 26 = .ok (.aload_n 0, 1) := by decide +kernel
theorem dX5_decide_27 : decode cX5_decide 27 = .ok (.iload 6, 2) := by decide +kernel
theorem dX5_decide_29 : decode cX5_decide 29 = .ok (.invokevirtual 228, 3) := by decide +kernel
theorem dX5_decide_32 : decode cX5_decide 32 = .ok (.istore 7, 2) := by decide +kernel
theorem dX5_decide_34 : decode cX5_decide 34 = .ok (.iload 7, 2) := by decide +kernel
theorem dX5_decide_36 : decode cX5_decide 36 = .ok (.bipush 100, 2) := by decide +kernel
theorem dX5_decide_38 : decode cX5_decide 38 = .ok (.if_icmp .ne 4, 3) := by decide +kernel
theorem dX5_decide_41 : decode cX5_decide 41 = .ok (.return_, 1) := by decide +kernel
theorem dX5_decide_42 : decode cX5_decide 42 = .ok (.iload 7, 2) := by decide +kernel
theorem dX5_decide_44 : decode cX5_decide 44 = .ok (.iconst (-1), 1) := by decide +kernel
theorem dX5_decide_45 : decode cX5_decide 45 = .ok (.if_icmp .eq 30, 3) := by decide +kernel
theorem dX5_decide_48 : decode cX5_decide 48 = .ok (.iload 7, 2) := by decide +kernel
theorem dX5_decide_50 : decode cX5_decide 50 = .ok (.bipush 101, 2) := by decide +kernel
theorem dX5_decide_52 : decode cX5_decide 52 = .ok (.if_icmp .eq 23, 3) := by decide +kernel
theorem dX5_decide_55 : decode cX5_decide 55 = .ok (.aload_n 0, 1) := by decide +kernel
theorem dX5_decide_56 : decode cX5_decide 56 = .ok (.getfield 57, 3) := by decide +kernel
theorem dX5_decide_59 : decode cX5_decide 59 = .ok (.iload 4, 2) := by decide +kernel
theorem dX5_decide_61 : decode cX5_decide 61 = .ok (.iload 7, 2) := by decide +kernel
theorem dX5_decide_63 : decode cX5_decide 63 = .ok (.iload 5, 2) := by decide +kernel
theorem dX5_decide_65 : decode cX5_decide 65 = .ok (.aload_n 3, 1) := by decide +kernel
theorem dX5_decide_66 : decode cX5_decide 66 = .ok (.iload 6, 2) := by decide +kernel
theorem dX5_decide_68 : decode cX5_decide 68 = .ok (.invokevirtual 216, 3) := by decide +kernel
theorem dX5_decide_71 : decode cX5_decide 71 = .ok (.invokevirtual 345, 3) := by decide +kernel
theorem dX5_decide_74 : decode cX5_decide 74 = .ok (.return_, 1) := by decide +kernel
theorem dX5_decide_75 : decode cX5_decide 75 = .ok (.iinc 5 1, 3) := by decide +kernel
theorem dX5_decide_78 : decode cX5_decide 78 = .ok (.goto (-75), 3) := by decide +kernel
theorem dX5_decide_81 : decode cX5_decide 81 = .ok (.return_, 1) := by decide +kernel
theorem dX5_whatIsToldBy_0 : decode cX5_whatIsToldBy 0 = .ok (.aload_n 0, 1) := by decide +kernel
theorem dX5_whatIsToldBy_1 : decode cX5_whatIsToldBy 1 = .ok (.iload_n 1, 1) := by decide +kernel
theorem dX5_whatIsToldBy_2 : decode cX5_whatIsToldBy 2 = .ok (.invokevirtual 285, 3) := by decide +kernel
theorem dX5_whatIsToldBy_5 : decode cX5_whatIsToldBy 5 = .ok (.ifCond .eq 15, 3) := by decide +kernel
theorem dX5_whatIsToldBy_8 : decode cX5_whatIsToldBy 8 = .ok (.aload_n 0, 1) := by decide +kernel
theorem dX5_whatIsToldBy_9 : decode cX5_whatIsToldBy 9 = .ok (.getfield 37, 3) := by decide +kernel
theorem dX5_whatIsToldBy_12 : decode cX5_whatIsToldBy 12 = .ok (.iload_n 1, 1) := by decide +kernel
theorem dX5_whatIsToldBy_13 : decode cX5_whatIsToldBy 13 = .ok (.aaload, 1) := by decide +kernel
theorem dX5_whatIsToldBy_14 : decode cX5_whatIsToldBy 14 = .ok (.getfield 347, 3) := by decide +kernel
theorem dX5_whatIsToldBy_17 : decode cX5_whatIsToldBy 17 = .ok (.goto 4, 3) := by decide +kernel
theorem dX5_whatIsToldBy_20 : decode cX5_whatIsToldBy 20 = .ok (.iconst (-1), 1) := by decide +kernel
theorem dX5_whatIsToldBy_21 : decode cX5_whatIsToldBy 21 = .ok (.ireturn, 1) := by decide +kernel
theorem dJ6_bitCount_0f7a4_0 : decode cJ6_bitCount_0f7a4 0 = .ok (.iload_n 0, 1) := by decide +kernel
theorem dJ6_bitCount_0f7a4_1 : decode cJ6_bitCount_0f7a4 1 = .ok (.iload_n 0, 1) := by decide +kernel
theorem dJ6_bitCount_0f7a4_2 : decode cJ6_bitCount_0f7a4 2 = .ok (.iconst 1, 1) := by decide +kernel
theorem dJ6_bitCount_0f7a4_3 : decode cJ6_bitCount_0f7a4 3 = .ok (.iushr, 1) := by decide +kernel
theorem dJ6_bitCount_0f7a4_4 : decode cJ6_bitCount_0f7a4 4 = .ok (.ldc_w 265, 3) := by decide +kernel
theorem dJ6_bitCount_0f7a4_7 : decode cJ6_bitCount_0f7a4 7 = .ok (.iand, 1) := by decide +kernel
theorem dJ6_bitCount_0f7a4_8 : decode cJ6_bitCount_0f7a4 8 = .ok (.isub, 1) := by decide +kernel
theorem dJ6_bitCount_0f7a4_9 : decode cJ6_bitCount_0f7a4 9 = .ok (.istore_n 0, 1) := by decide +kernel
theorem dJ6_bitCount_0f7a4_10 : decode cJ6_bitCount_0f7a4 10 = .ok (.iload_n 0, 1) := by decide +kernel
theorem dJ6_bitCount_0f7a4_11 : decode cJ6_bitCount_0f7a4 11 = .ok (.ldc_w 266, 3) := by decide +kernel
theorem dJ6_bitCount_0f7a4_14 : decode cJ6_bitCount_0f7a4 14 = .ok (.iand, 1) := by decide +kernel
theorem dJ6_bitCount_0f7a4_15 : decode cJ6_bitCount_0f7a4 15 = .ok (.iload_n 0, 1) := by decide +kernel
theorem dJ6_bitCount_0f7a4_16 : decode cJ6_bitCount_0f7a4 16 = .ok (.iconst 2, 1) := by decide +kernel
theorem dJ6_bitCount_0f7a4_17 : decode cJ6_bitCount_0f7a4 17 = .ok (.iushr, 1) := by decide +kernel
theorem dJ6_bitCount_0f7a4_18 : decode cJ6_bitCount_0f7a4 18 = .ok (.ldc_w 266, 3) := by decide +kernel
theorem dJ6_bitCount_0f7a4_21 : decode cJ6_bitCount_0f7a4 21 = .ok (.iand, 1) := by decide +kernel
theorem dJ6_bitCount_0f7a4_22 : decode cJ6_bitCount_0f7a4 22 = .ok (.iadd, 1) := by decide +kernel
theorem dJ6_bitCount_0f7a4_23 : decode cJ6_bitCount_0f7a4 23 = .ok (.istore_n 0, 1) := by decide +kernel
theorem dJ6_bitCount_0f7a4_24 : decode cJ6_bitCount_0f7a4 24 = .ok (.iload_n 0, 1) := by decide +kernel
theorem dJ6_bitCount_0f7a4_25 : decode cJ6_bitCount_0f7a4 25 = .ok (.iload_n 0, 1) := by decide +kernel
theorem dJ6_bitCount_0f7a4_26 : decode cJ6_bitCount_0f7a4 26 = .ok (.iconst 4, 1) := by decide +kernel
theorem dJ6_bitCount_0f7a4_27 : decode cJ6_bitCount_0f7a4 27 = .ok (.iushr, 1) := by decide +kernel
theorem dJ6_bitCount_0f7a4_28 : decode cJ6_bitCount_0f7a4 28 = .ok (.iadd, 1) := by decide +kernel
theorem dJ6_bitCount_0f7a4_29 : decode cJ6_bitCount_0f7a4 29 = .ok (.ldc_w 267, 3) := by decide +kernel
theorem dJ6_bitCount_0f7a4_32 : decode cJ6_bitCount_0f7a4 32 = .ok (.iand, 1) := by decide +kernel
theorem dJ6_bitCount_0f7a4_33 : decode cJ6_bitCount_0f7a4 33 = .ok (.istore_n 0, 1) := by decide +kernel
theorem dJ6_bitCount_0f7a4_34 : decode cJ6_bitCount_0f7a4 34 = .ok (.iload_n 0, 1) := by decide +kernel
theorem dJ6_bitCount_0f7a4_35 : decode cJ6_bitCount_0f7a4 35 = .ok (.iload_n 0, 1) := by decide +kernel
theorem dJ6_bitCount_0f7a4_36 : decode cJ6_bitCount_0f7a4 36 = .ok (.bipush 8, 2) := by decide +kernel
theorem dJ6_bitCount_0f7a4_38 : decode cJ6_bitCount_0f7a4 38 = .ok (.iushr, 1) := by decide +kernel
theorem dJ6_bitCount_0f7a4_39 : decode cJ6_bitCount_0f7a4 39 = .ok (.iadd, 1) := by decide +kernel
theorem dJ6_bitCount_0f7a4_40 : decode cJ6_bitCount_0f7a4 40 = .ok (.istore_n 0, 1) := by decide +kernel
theorem dJ6_bitCount_0f7a4_41 : decode cJ6_bitCount_0f7a4 41 = .ok (.iload_n 0, 1) := by decide +kernel
theorem dJ6_bitCount_0f7a4_42 : decode cJ6_bitCount_0f7a4 42 = .ok (.iload_n 0, 1) := by decide +kernel
theorem dJ6_bitCount_0f7a4_43 : decode cJ6_bitCount_0f7a4 43 = .ok (.bipush 16, 2) := by decide +kernel
theorem dJ6_bitCount_0f7a4_45 : decode cJ6_bitCount_0f7a4 45 = .ok (.iushr, 1) := by decide +kernel
theorem dJ6_bitCount_0f7a4_46 : decode cJ6_bitCount_0f7a4 46 = .ok (.iadd, 1) := by decide +kernel
theorem dJ6_bitCount_0f7a4_47 : decode cJ6_bitCount_0f7a4 47 = .ok (.istore_n 0, 1) := by decide +kernel
theorem dJ6_bitCount_0f7a4_48 : decode cJ6_bitCount_0f7a4 48 = .ok (.iload_n 0, 1) := by decide +kernel
theorem dJ6_bitCount_0f7a4_49 : decode cJ6_bitCount_0f7a4 49 = .ok (.bipush 63, 2) := by decide +kernel
theorem dJ6_bitCount_0f7a4_51 : decode cJ6_bitCount_0f7a4 51 = .ok (.iand, 1) := by decide +kernel
theorem dJ6_bitCount_0f7a4_52 : decode cJ6_bitCount_0f7a4 52 = .ok (.ireturn, 1) := by decide +kernel
theorem dJ7_fill_53178_0 : decode cJ7_fill_53178 0 = .ok (.iconst 0, 1) := by decide +kernel
theorem dJ7_fill_53178_1 : decode cJ7_fill_53178 1 = .ok (.istore_n 2, 1) := by decide +kernel
theorem dJ7_fill_53178_2 : decode cJ7_fill_53178 2 = .ok (.aload_n 0, 1) := by decide +kernel
theorem dJ7_fill_53178_3 : decode cJ7_fill_53178 3 = .ok (.arraylength, 1) := by decide +kernel
theorem dJ7_fill_53178_4 : decode cJ7_fill_53178 4 = .ok (.istore_n 3, 1) := by decide +kernel
theorem dJ7_fill_53178_5 : decode cJ7_fill_53178 5 = .ok (.iload_n 2, 1) := by decide +kernel
theorem dJ7_fill_53178_6 : decode cJ7_fill_53178 6 = .ok (.iload_n 3, 1) := by decide +kernel
theorem dJ7_fill_53178_7 : decode cJ7_fill_53178 7 = .ok (.if_icmp .ge 13, 3) := by decide +kernel
theorem dJ7_fill_53178_10 : decode cJ7_fill_53178 10 = .ok (.aload_n 0, 1) := by decide +kernel
theorem dJ7_fill_53178_11 : decode cJ7_fill_53178 11 = .ok (.iload_n 2, 1) := by decide +kernel
theorem dJ7_fill_53178_12 : decode cJ7_fill_53178 12 = .ok (.iload_n 1, 1) := by decide +kernel
theorem dJ7_fill_53178_13 : decode cJ7_fill_53178 13 = .ok (.iastore, 1) := by decide +kernel
theorem dJ7_fill_53178_14 : decode cJ7_fill_53178 14 = .ok (.iinc 2 1, 3) := by decide +kernel
theorem dJ7_fill_53178_17 : decode cJ7_fill_53178 17 = .ok (.goto (-12), 3) := by decide +kernel
theorem dJ7_fill_53178_20 : decode cJ7_fill_53178 20 = .ok (.return_, 1) := by decide +kernel
