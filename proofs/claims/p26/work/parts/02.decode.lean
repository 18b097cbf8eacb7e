theorem dX0_init_0 : decode cX0_init 0 = .ok (.aload_n 0, 1) := by decide +kernel
theorem dX0_init_1 : decode cX0_init 1 = .ok (.invokespecial 3, 3) := by decide +kernel
theorem dX0_init_4 : decode cX0_init 4 = .ok (.aload_n 0, 1) := by decide +kernel
theorem dX0_init_5 : decode cX0_init 5 = .ok (.bipush 24, 2) := by decide +kernel
theorem dX0_init_7 : decode cX0_init 7 = .ok (.newarray .long, 2) := by decide +kernel
theorem dX0_init_9 : decode cX0_init 9 = .ok (.putfield 9, 3) := by decide +kernel
theorem dX0_init_12 : decode cX0_init 12 = .ok (.aload_n 0, 1) := by decide +kernel
theorem dX0_init_13 : decode cX0_init 13 = .ok (.bipush 48, 2) := by decide +kernel
theorem dX0_init_15 : decode cX0_init 15 = .ok (.newarray .int, 2) := by decide +kernel
theorem dX0_init_17 : decode cX0_init 17 = .ok (.putfield 15, 3) := by decide +kernel
theorem dX0_init_20 : decode cX0_init 20 = .ok (.return_, 1) := by decide +kernel
theorem dX0_clear_0 : decode cX0_clear 0 = .ok (.aload_n 0, 1) := by decide +kernel
theorem dX0_clear_1 : decode cX0_clear 1 = .ok (.iconst 0, 1) := by decide +kernel
theorem dX0_clear_2 : decode cX0_clear 2 = .ok (.putfield 19, 3) := by decide +kernel
theorem dX0_clear_5 : decode cX0_clear 5 = .ok (.aload_n 0, 1) := by decide +kernel
theorem dX0_clear_6 : decode cX0_clear 6 = .ok (.getfield 15, 3) := by decide +kernel
theorem dX0_clear_9 : decode cX0_clear 9 = .ok (.iconst (-1), 1) := by decide +kernel
theorem dX0_clear_10 : decode cX0_clear 10 = .ok (.invokestatic 23, 3) := by decide +kernel
theorem dX0_clear_13 : decode cX0_clear 13 = .ok (.return_, 1) := by decide +kernel
theorem dX0_give_0 : decode cX0_give 0 = .ok (.aload_n 0, 1) := by decide +kernel
theorem dX0_give_1 : decode cX0_give 1 = .ok (.getfield 19, 3) := by decide +kernel
theorem dX0_give_4 : decode cX0_give 4 = .ok (.ifCond .lt 12, 3) := by decide +kernel
theorem dX0_give_7 : decode cX0_give 7 = .ok (.aload_n 0, 1) := by decide +kernel
theorem dX0_give_8 : decode cX0_give 8 = .ok (.getfield 19, 3) := by decide +kernel
theorem dX0_give_11 : decode cX0_give 11 = .ok (.bipush 24, 2) := by decide +kernel
theorem dX0_give_13 : decode cX0_give 13 = .ok (.if_icmp .lt 5, 3) := by decide +kernel
theorem dX0_give_16 : decode cX0_give 16 = .ok (.iconst 0, 1) := by decide +kernel
theorem dX0_give_17 : decode cX0_give 17 = .ok (.ireturn, 1) := by decide +kernel
theorem dX0_give_18 : decode cX0_give 18 = .ok (.aload_n 0, 1) := by decide +kernel
theorem dX0_give_19 : decode cX0_give 19 = .ok (.getfield 9, 3) := by decide +kernel
theorem dX0_give_22 : decode cX0_give 22 = .ok (.aload_n 0, 1) := by decide +kernel
theorem dX0_give_23 : decode cX0_give 23 = .ok (.getfield 19, 3) := by decide +kernel
theorem dX0_give_26 : decode cX0_give 26 = .ok (.lload_n 1, 1) := by decide +kernel
theorem dX0_give_27 : decode cX0_give 27 = .ok (.lastore, 1) := by decide +kernel
theorem dX0_give_28 : decode cX0_give 28 = .ok (.aload_n 0, 1) := by decide +kernel
theorem dX0_give_29 : decode cX0_give 29 = .ok (.lconst 0, 1) := by decide +kernel
theorem dX0_give_30 : decode cX0_give 30 = .ok (.putfield 29, 3) := by decide +kernel
theorem dX0_give_33 : decode cX0_give 33 = .ok (.aload_n 0, 1) := by decide +kernel
theorem dX0_give_34 : decode cX0_give 34 = .ok (.aload_n 0, 1) := by decide +kernel
theorem dX0_give_35 : decode cX0_give 35 = .ok (.getfield 19, 3) := by decide +kernel
theorem dX0_give_38 : decode cX0_give 38 = .ok (.iconst 0, 1) := by decide +kernel
theorem dX0_give_39 : decode cX0_give 39 = .ok (.invokevirtual 33, 3) := by decide +kernel
theorem dX0_give_42 : decode cX0_give 42 = .ok (.ifCond .ne 5, 3) := by decide +kernel
theorem dX0_give_45 : decode cX0_give 45 = .ok (.iconst 0, 1) := by decide +kernel
theorem dX0_give_46 : decode cX0_give 46 = .ok (.ireturn, 1) := by decide +kernel
theorem dX0_give_47 : decode cX0_give 47 = .ok (.aload_n 0, 1) := by decide +kernel
theorem dX0_give_48 : decode cX0_give 48 = .ok (.dup, 1) := by decide +kernel
theorem dX0_give_49 : decode cX0_give 49 = .ok (.getfield 19, 3) := by decide +kernel
theorem dX0_give_52 : decode cX0_give 52 = .ok (.iconst 1, 1) := by decide +kernel
theorem dX0_give_53 : decode cX0_give 53 = .ok (.iadd, 1) := by decide +kernel
theorem dX0_give_54 : decode cX0_give 54 = .ok (.putfield 19, 3) := by decide +kernel
theorem dX0_give_57 : decode cX0_give 57 = .ok (.iconst 1, 1) := by decide +kernel
theorem dX0_give_58 : decode cX0_give 58 = .ok (.ireturn, 1) := by decide +kernel
theorem dX0_findCell_0 : decode cX0_findCell 0 = .ok (.iload_n 1, 1) := by decide +kernel
theorem dX0_findCell_1 : decode cX0_findCell 1 = .ok (.ifCond .lt 9, 3) := by decide +kernel
theorem dX0_findCell_4 : decode cX0_findCell 4 = .ok (.iload_n 1, 1) := by decide +kernel
theorem dX0_findCell_5 : decode cX0_findCell 5 = .ok (.bipush 24, 2) := by decide +kernel
theorem dX0_findCell_7 : decode cX0_findCell 7 = .ok (.if_icmp .lt 5, 3) := by decide +kernel
theorem dX0_findCell_10 : decode cX0_findCell 10 = .ok (.iconst 0, 1) := by decide +kernel
theorem dX0_findCell_11 : decode cX0_findCell 11 = .ok (.ireturn, 1) := by decide +kernel
theorem dX0_findCell_12 : decode cX0_findCell 12 = .ok (.iconst 0, 1) := by decide +kernel
theorem dX0_findCell_13 : decode cX0_findCell 13 = .ok (.istore_n 3, 1) := by decide +kernel
theorem dX0_findCell_14 : decode cX0_findCell 14 = .ok (.iload_n 3, 1) := by decide +kernel
theorem dX0_findCell_15 : decode cX0_findCell 15 = .ok (.bipush 48, 2) := by decide +kernel
theorem dX0_findCell_17 : decode cX0_findCell 17 = .ok (.if_icmp .ge 81, 3) := by decide +kernel
theorem dX0_findCell_20 : decode cX0_findCell 20 = .ok (.lconst 1, 1) := by decide +kernel
theorem dX0_findCell_21 : decode cX0_findCell 21 = .ok (.iload_n 3, 1) := by decide +kernel
theorem dX0_findCell_22 : decode cX0_findCell 22 = .ok (.lshl, 1) := by decide +kernel
theorem dX0_findCell_23 : decode cX0_findCell 23 = .ok (.lstore 4, 2) := by decide +kernel
theorem dX0_findCell_25 : decode cX0_findCell 25 = .ok (.aload_n 0, 1) := by decide +kernel
theorem dX0_findCell_26 : decode cX0_findCell 26 = .ok (.getfield 9, 3) := by decide +kernel
theorem dX0_findCell_29 : decode cX0_findCell 29 = .ok (.iload_n 1, 1) := by decide +kernel
theorem dX0_findCell_30 : decode cX0_findCell 30 = .ok (.laload, 1) := by decide +kernel
theorem dX0_findCell_31 : decode cX0_findCell 31 = .ok (.aload_n 0, 1) := by decide +kernel
theorem dX0_findCell_32 : decode cX0_findCell 32 = .ok (.getfield 29, 3) := by decide +kernel
theorem dX0_findCell_35 : decode cX0_findCell 35 = .ok (.ldc2_w 37, 3) := by decide +kernel
theorem dX0_findCell_38 : decode cX0_findCell 38 = .ok (.lxor, 1) := by decide +kernel
theorem dX0_findCell_39 : decode cX0_findCell 39 = .ok (.land, 1) := by decide +kernel
theorem dX0_findCell_40 : decode cX0_findCell 40 = .ok (.lload 4, 2) := by decide +kernel
theorem dX0_findCell_42 : decode cX0_findCell 42 = .ok (.land, 1) := by decide +kernel
theorem dX0_findCell_43 : decode cX0_findCell 43 = .ok (.lconst 0, 1) := by decide +kernel
theorem dX0_findCell_44 : decode cX0_findCell 44 = .ok (.lcmp, 1) := by decide +kernel
theorem dX0_findCell_45 : decode cX0_findCell 45 = .ok (.ifCond .eq 47, 3) := by decide +kernel
theorem dX0_findCell_48 : decode cX0_findCell 48 = .ok (.aload_n 0, 1) := by decide +kernel
theorem dX0_findCell_49 : decode cX0_findCell 49 = .ok (.dup, 1) := by decide +kernel
theorem dX0_findCell_50 : decode cX0_findCell 50 = .ok (.getfield 29, 3) := by decide +kernel
theorem dX0_findCell_53 : decode cX0_findCell 53 = .ok (.lload 4, 2) := by decide +kernel
theorem dX0_findCell_55 : decode cX0_findCell 55 = .ok (.lor, 1) := by decide +kernel
theorem dX0_findCell_56 : decode cX0_findCell 56 = .ok (.putfield 29, 3) := by decide +kernel
theorem dX0_findCell_59 : decode cX0_findCell 59 = .ok (.aload_n 0, 1) := by decide +kernel
theorem dX0_findCell_60 : decode cX0_findCell 60 = .ok (.getfield 15, 3) := by decide +kernel
theorem dX0_findCell_63 : decode cX0_findCell 63 = .ok (.iload_n 3, 1) := by decide +kernel
theorem dX0_findCell_64 : decode cX0_findCell 64 = .ok (.iaload, 1) := by decide +kernel
theorem dX0_findCell_65 : decode cX0_findCell 65 = .ok (.iconst (-1), 1) := by decide +kernel
theorem dX0_findCell_66 : decode cX0_findCell 66 = .ok (.if_icmp .eq 17, 3) := by decide +kernel
theorem dX0_findCell_69 : decode cX0_findCell 69 = .ok (.aload_n 0, 1) := by decide +kernel
theorem dX0_findCell_70 : decode cX0_findCell 70 = .ok (.aload_n 0, 1) := by decide +kernel
theorem dX0_findCell_71 : decode cX0_findCell 71 = .ok (.getfield 15, 3) := by decide +kernel
theorem dX0_findCell_74 : decode cX0_findCell 74 = .ok (.iload_n 3, 1) := by decide +kernel
theorem dX0_findCell_75 : decode cX0_findCell 75 = .ok (.iaload, 1) := by decide +kernel
theorem dX0_findCell_76 : decode cX0_findCell 76 = .ok (.iload_n 2, 1) := by decide +kernel
theorem dX0_findCell_77 : decode cX0_findCell 77 = .ok (.invokevirtual 39, 3) := by decide +kernel
theorem dX0_findCell_80 : decode cX0_findCell 80 = .ok (.ifCond .eq 12, 3) := by decide +kernel
theorem dX0_findCell_83 : decode cX0_findCell 83 = .ok (.aload_n 0, 1) := by decide +kernel
theorem dX0_findCell_84 : decode cX0_findCell 84 = .ok (.getfield 15, 3) := by decide +kernel
theorem dX0_findCell_87 : decode cX0_findCell 87 = .ok (.iload_n 3, 1) := by decide +kernel
theorem dX0_findCell_88 : decode cX0_findCell 88 = .ok (.iload_n 1, 1) := by decide +kernel
theorem dX0_findCell_89 : decode cX0_findCell 89 = .ok (.iastore, 1) := by decide +kernel
theorem dX0_findCell_90 : decode cX0_findCell 90 = .ok (.iconst 1, 1) := by decide +kernel
theorem dX0_findCell_91 : decode cX0_findCell 91 = .ok (.ireturn, 1) := by decide +kernel
theorem dX0_findCell_92 : decode cX0_findCell 92 = .ok (.iinc 3 1, 3) := by decide +kernel
theorem dX0_findCell_95 : decode cX0_findCell 95 = .ok (.goto (-81), 3) := by decide +kernel
theorem dX0_findCell_98 : decode cX0_findCell 98 = .ok (.iconst 0, 1) := by decide +kernel
theorem dX0_findCell_99 : decode cX0_findCell 99 = .ok (.ireturn, 1) := by decide +kernel
theorem dX0_canMove_0 : decode cX0_canMove 0 = .ok (.iload_n 2, 1) := by decide +kernel
theorem dX0_canMove_1 : decode cX0_canMove 1 = .ok (.bipush 24, 2) := by decide +kernel
theorem dX0_canMove_3 : decode cX0_canMove 3 = .ok (.if_icmp .ge 18, 3) := by decide +kernel
theorem dX0_canMove_6 : decode cX0_canMove 6 = .ok (.aload_n 0, 1) := by decide +kernel
theorem dX0_canMove_7 : decode cX0_canMove 7 = .ok (.iload_n 1, 1) := by decide +kernel
theorem dX0_canMove_8 : decode cX0_canMove 8 = .ok (.iload_n 2, 1) := by decide +kernel
theorem dX0_canMove_9 : decode cX0_canMove 9 = .ok (.iconst 1, 1) := by decide +kernel
theorem dX0_canMove_10 : decode cX0_canMove 10 = .ok (.iadd, 1) := by decide +kernel
theorem dX0_canMove_11 : decode cX0_canMove 11 = .ok (.invokevirtual 33, 3) := by decide +kernel
theorem dX0_canMove_14 : decode cX0_canMove 14 = .ok (.ifCond .eq 7, 3) := by decide +kernel
theorem dX0_canMove_17 : decode cX0_canMove 17 = .ok (.iconst 1, 1) := by decide +kernel
theorem dX0_canMove_18 : decode cX0_canMove 18 = .ok (.goto 4, 3) := by decide +kernel
theorem dX0_canMove_21 : decode cX0_canMove 21 = .ok (.iconst 0, 1) := by decide +kernel
theorem dX0_canMove_22 : decode cX0_canMove 22 = .ok (.ireturn, 1) := by decide +kernel
theorem dX1_init_0 : decode cX1_init 0 = .ok (.aload_n 0, 1) := by decide +kernel
theorem dX1_init_1 : decode cX1_init 1 = .ok (.invokespecial 3, 3) := by decide +kernel
theorem dX1_init_4 : decode cX1_init 4 = .ok (.aload_n 0, 1) := by decide +kernel
theorem dX1_init_5 : decode cX1_init 5 = .ok (.new 9, 3) := by decide +kernel
theorem dX1_init_8 : decode cX1_init 8 = .ok (.dup, 1) := by decide +kernel
theorem dX1_init_9 : decode cX1_init 9 = .ok (.invokespecial 11, 3) := by decide +kernel
theorem dX1_init_12 : decode cX1_init 12 = .ok (.putfield 12, 3) := by decide +kernel
theorem dX1_init_15 : decode cX1_init 15 = .ok (.aload_n 0, 1) := by decide +kernel
theorem dX1_init_16 : decode cX1_init 16 = .ok (.bipush 8, 2) := by decide +kernel
theorem dX1_init_18 : decode cX1_init 18 = .ok (.newarray .long, 2) := by decide +kernel
theorem dX1_init_20 : decode cX1_init 20 = .ok (.putfield 18, 3) := by decide +kernel
theorem dX1_init_23 : decode cX1_init 23 = .ok (.aload_n 0, 1) := by decide +kernel
theorem dX1_init_24 : decode cX1_init 24 = .ok (.bipush 96, 2) := by decide +kernel
theorem dX1_init_26 : decode cX1_init 26 = .ok (.newarray .long, 2) := by decide +kernel
theorem dX1_init_28 : decode cX1_init 28 = .ok (.putfield 22, 3) := by decide +kernel
theorem dX1_init_31 : decode cX1_init 31 = .ok (.aload_n 0, 1) := by decide +kernel
theorem dX1_init_32 : decode cX1_init 32 = .ok (.bipush 8, 2) := by decide +kernel
theorem dX1_init_34 : decode cX1_init 34 = .ok (.bipush 96, 2) := by decide +kernel
theorem dX1_init_36 : decode cX1_init 36 = .ok (.multianewarray 25 2, 4) := by decide +kernel
theorem dX1_init_40 : decode cX1_init 40 = .ok (.putfield 27, 3) := by decide +kernel
theorem dX1_init_43 : decode cX1_init 43 = .ok (.aload_n 0, 1) := by decide +kernel
theorem dX1_init_44 : decode cX1_init 44 = .ok (.bipush 9, 2) := by decide +kernel
theorem dX1_init_46 : decode cX1_init 46 = .ok (.newarray .int, 2) := by decide +kernel
theorem dX1_init_48 : decode cX1_init 48 = .ok (.putfield 30, 3) := by decide +kernel
theorem dX1_init_51 : decode cX1_init 51 = .ok (.aload_n 0, 1) := by decide +kernel
theorem dX1_init_52 : decode cX1_init 52 = .ok (.bipush 8, 2) := by decide +kernel
theorem dX1_init_54 : decode cX1_init 54 = .ok (.newarray .int, 2) := by decide +kernel
theorem dX1_init_56 : decode cX1_init 56 = .ok (.putfield 34, 3) := by decide +kernel
theorem dX1_init_59 : decode cX1_init 59 = .ok (.aload_n 0, 1) := by decide +kernel
theorem dX1_init_60 : decode cX1_init 60 = .ok (.bipush 8, 2) := by decide +kernel
theorem dX1_init_62 : decode cX1_init 62 = .ok (.newarray .int, 2) := by decide +kernel
theorem dX1_init_64 : decode cX1_init 64 = .ok (.putfield 37, 3) := by decide +kernel
theorem dX1_init_67 : decode cX1_init 67 = .ok (.return_, 1) := by decide +kernel
theorem dX1_spotOfCut_0 : decode cX1_spotOfCut 0 = .ok (.iload_n 1, 1) := by decide +kernel
theorem dX1_spotOfCut_1 : decode cX1_spotOfCut 1 = .ok (.ifCond .lt 26, 3) := by decide +kernel
theorem dX1_spotOfCut_4 : decode cX1_spotOfCut 4 = .ok (.iload_n 1, 1) := by decide +kernel
theorem dX1_spotOfCut_5 : decode cX1_spotOfCut 5 = .ok (.aload_n 0, 1) := by decide +kernel
theorem dX1_spotOfCut_6 : decode cX1_spotOfCut 6 = .ok (.getfield 40, 3) := by decide +kernel
theorem dX1_spotOfCut_9 : decode cX1_spotOfCut 9 = .ok (.if_icmp .ge 18, 3) := by decide +kernel
theorem dX1_spotOfCut_12 : decode cX1_spotOfCut 12 = .ok (.iload_n 1, 1) := by decide +kernel
theorem dX1_spotOfCut_13 : decode cX1_spotOfCut 13 = .ok (.bipush 8, 2) := by decide +kernel
theorem dX1_spotOfCut_15 : decode cX1_spotOfCut 15 = .ok (.if_icmp .ge 12, 3) := by decide +kernel
theorem dX1_spotOfCut_18 : decode cX1_spotOfCut 18 = .ok (.aload_n 0, 1) := by decide +kernel
theorem dX1_spotOfCut_19 : decode cX1_spotOfCut 19 = .ok (.getfield 34, 3) := by decide +kernel
theorem dX1_spotOfCut_22 : decode cX1_spotOfCut 22 = .ok (.iload_n 1, 1) := by decide +kernel
theorem dX1_spotOfCut_23 : decode cX1_spotOfCut 23 = .ok (.iaload, 1) := by decide +kernel
theorem dX1_spotOfCut_24 : decode cX1_spotOfCut 24 = .ok (.goto 4, 3) := by decide +kernel
theorem dX1_spotOfCut_27 : decode cX1_spotOfCut 27 = .ok (.iconst 0, 1) := by decide +kernel
theorem dX1_spotOfCut_28 : decode cX1_spotOfCut 28 = .ok (.ireturn, 1) := by decide +kernel
theorem dX1_lengthOfCut_0 : decode cX1_lengthOfCut 0 = .ok (.iload_n 1, 1) := by decide +kernel
theorem dX1_lengthOfCut_1 : decode cX1_lengthOfCut 1 = .ok (.ifCond .lt 26, 3) := by decide +kernel
theorem dX1_lengthOfCut_4 : decode cX1_lengthOfCut 4 = .ok (.iload_n 1, 1) := by decide +kernel
theorem dX1_lengthOfCut_5 : decode cX1_lengthOfCut 5 = .ok (.aload_n 0, 1) := by decide +kernel
theorem dX1_lengthOfCut_6 : decode cX1_lengthOfCut 6 = .ok (.getfield 40, 3) := by decide +kernel
theorem dX1_lengthOfCut_9 : decode cX1_lengthOfCut 9 = .ok (.if_icmp .ge 18, 3) := by decide +kernel
theorem dX1_lengthOfCut_12 : decode cX1_lengthOfCut 12 = .ok (.iload_n 1, 1) := by decide +kernel
theorem dX1_lengthOfCut_13 : decode cX1_lengthOfCut 13 = .ok (.bipush 8, 2) := by decide +kernel
theorem dX1_lengthOfCut_15 : decode cX1_lengthOfCut 15 = .ok (.if_icmp .ge 12, 3) := by decide +kernel
theorem dX1_lengthOfCut_18 : decode cX1_lengthOfCut 18 = .ok (.aload_n 0, 1) := by decide +kernel
theorem dX1_lengthOfCut_19 : decode cX1_lengthOfCut 19 = .ok (.getfield 37, 3) := by decide +kernel
theorem dX1_lengthOfCut_22 : decode cX1_lengthOfCut 22 = .ok (.iload_n 1, 1) := by decide +kernel
theorem dX1_lengthOfCut_23 : decode cX1_lengthOfCut 23 = .ok (.iaload, 1) := by decide +kernel
theorem dX1_lengthOfCut_24 : decode cX1_lengthOfCut 24 = .ok (.goto 4, 3) := by decide +kernel
theorem dX1_lengthOfCut_27 : decode cX1_lengthOfCut 27 = .ok (.iconst 0, 1) := by decide +kernel
theorem dX1_lengthOfCut_28 : decode cX1_lengthOfCut 28 = .ok (.ireturn, 1) := by decide +kernel
theorem dX1_prepare_0 : decode cX1_prepare 0 = .ok (.aload_n 0, 1) := by decide +kernel
theorem dX1_prepare_1 : decode cX1_prepare 1 = .ok (.iconst 0, 1) := by decide +kernel
theorem dX1_prepare_2 : decode cX1_prepare 2 = .ok (.bipush 8, 2) := by decide +kernel
theorem dX1_prepare_4 : decode cX1_prepare 4 = .ok (.aload_n 1, 1) := by decide +kernel
theorem dX1_prepare_5 : decode cX1_prepare 5 = .ok (.getfield 44, 3) := by decide +kernel
theorem dX1_prepare_8 : decode cX1_prepare 8 = .ok (.invokestatic 49, 3) := by decide +kernel
theorem dX1_prepare_11 : decode cX1_prepare 11 = .ok (.invokestatic 55, 3) := by decide +kernel
theorem dX1_prepare_14 : decode cX1_prepare 14 = .ok (.putfield 58, 3) := by decide +kernel
theorem dX1_prepare_17 : decode cX1_prepare 17 = .ok (.iconst 0, 1) := by decide +kernel
theorem dX1_prepare_18 : decode cX1_prepare 18 = .ok (.istore_n 2, 1) := by decide +kernel
theorem dX1_prepare_19 : decode cX1_prepare 19 = .ok (.iload_n 2, 1) := by decide +kernel
theorem dX1_prepare_20 : decode cX1_prepare 20 = .ok (.bipush 96, 2) := by decide +kernel
theorem dX1_prepare_22 : decode cX1_prepare 22 = .ok (.if_icmp .ge 34, 3) := by decide +kernel
theorem dX1_prepare_25 : decode cX1_prepare 25 = .ok (.aload_n 0, 1) := by decide +kernel
theorem dX1_prepare_26 : decode cX1_prepare 26 = .ok (.getfield 22, 3) := by decide +kernel
theorem dX1_prepare_29 : decode cX1_prepare 29 = .ok (.iload_n 2, 1) := by decide +kernel
theorem dX1_prepare_30 : decode cX1_prepare 30 = .ok (.aload_n 1, 1) := by decide +kernel
theorem dX1_prepare_31 : decode cX1_prepare 31 = .ok (.iload_n 2, 1) := by decide +kernel
theorem dX1_prepare_32 : decode cX1_prepare 32 = .ok (.invokevirtual 61, 3) := by decide +kernel
theorem dX1_prepare_35 : decode cX1_prepare 35 = .ok (.ifCond .eq 13, 3) := by decide +kernel
theorem dX1_prepare_38 : decode cX1_prepare 38 = .ok (.lconst 1, 1) := by decide +kernel
theorem dX1_prepare_39 : decode cX1_prepare 39 = .ok (.aload_n 1, 1) := by decide +kernel
theorem dX1_prepare_40 : decode cX1_prepare 40 = .ok (.iload_n 2, 1) := by decide +kernel
theorem dX1_prepare_41 : decode cX1_prepare 41 = .ok (.invokevirtual 65, 3) := by decide +kernel
theorem dX1_prepare_44 : decode cX1_prepare 44 = .ok (.lshl, 1) := by decide +kernel
theorem dX1_prepare_45 : decode cX1_prepare 45 = .ok (.goto 4, 3) := by decide +kernel
theorem dX1_prepare_48 : decode cX1_prepare 48 = .ok (.lconst 0, 1) := by decide +kernel
theorem dX1_prepare_49 : decode cX1_prepare 49 = .ok (.lastore, 1) := by decide +kernel
theorem dX1_prepare_50 : decode cX1_prepare 50 = .ok (.iinc 2 1, 3) := by decide +kernel
theorem dX1_prepare_53 : decode cX1_prepare 53 = .ok (.goto (-34), 3) := by decide +kernel
theorem dX1_prepare_56 : decode cX1_prepare 56 = .ok (.aload_n 0, 1) := by decide +kernel
theorem dX1_prepare_57 : decode cX1_prepare 57 = .ok (.getfield 30, 3) := by decide +kernel
theorem dX1_prepare_60 : decode cX1_prepare 60 = .ok (.aload_n 0, 1) := by decide +kernel
theorem dX1_prepare_61 : decode cX1_prepare 61 = .ok (.getfield 58, 3) := by decide +kernel
theorem dX1_prepare_64 : decode cX1_prepare 64 = .ok (.iconst 0, 1) := by decide +kernel
theorem dX1_prepare_65 : decode cX1_prepare 65 = .ok (.iastore, 1) := by decide +kernel
theorem dX1_prepare_66 : decode cX1_prepare 66 = .ok (.aload_n 0, 1) := by decide +kernel
theorem dX1_prepare_67 : decode cX1_prepare 67 = .ok (.getfield 58, 3) := by decide +kernel
theorem dX1_prepare_70 : decode cX1_prepare 70 = .ok (.iconst 1, 1) := by decide +kernel
theorem dX1_prepare_71 : decode cX1_prepare 71 = .ok (.isub, 1) := by decide +kernel
theorem dX1_prepare_72 : decode cX1_prepare 72 = .ok (.istore_n 2, 1) := by decide +kernel
theorem dX1_prepare_73 : decode cX1_prepare 73 = .ok (.iload_n 2, 1) := by decide +kernel
theorem dX1_prepare_74 : decode cX1_prepare 74 = .ok (.ifCond .lt 63, 3) := by decide +kernel
theorem dX1_prepare_77 : decode cX1_prepare 77 = .ok (.aload_n 0, 1) := by decide +kernel
theorem dX1_prepare_78 : decode cX1_prepare 78 = .ok (.getfield 18, 3) := by decide +kernel
theorem dX1_prepare_81 : decode cX1_prepare 81 = .ok (.iload_n 2, 1) := by decide +kernel
theorem dX1_prepare_82 : decode cX1_prepare 82 = .ok (.aload_n 1, 1) := by decide +kernel
theorem dX1_prepare_83 : decode cX1_prepare 83 = .ok (.aload_n 1, 1) := by decide +kernel
theorem dX1_prepare_84 : decode cX1_prepare 84 = .ok (.iload_n 2, 1) := by decide +kernel
theorem dX1_prepare_85 : decode cX1_prepare 85 = .ok (.invokevirtual 69, 3) := by decide +kernel
theorem dX1_prepare_88 : decode cX1_prepare 88 = .ok (.invokevirtual 72, 3) := by decide +kernel
theorem dX1_prepare_91 : decode cX1_prepare 91 = .ok (.lastore, 1) := by decide +kernel
theorem dX1_prepare_92 : decode cX1_prepare 92 = .ok (.iconst 0, 1) := by decide +kernel
theorem dX1_prepare_93 : decode cX1_prepare 93 = .ok (.istore_n 3, 1) := by decide +kernel
theorem dX1_prepare_94 : decode cX1_prepare 94 = .ok (.iload_n 3, 1) := by decide +kernel
theorem dX1_prepare_95 : decode cX1_prepare 95 = .ok (.bipush 96, 2) := by decide +kernel
theorem dX1_prepare_97 : decode cX1_prepare 97 = .ok (.if_icmp .ge 23, 3) := by decide +kernel
theorem dX1_prepare_100 : decode cX1_prepare 100 = .ok (.aload_n 0, 1) := by decide +kernel
theorem dX1_prepare_101 : decode cX1_prepare 101 = .ok (.getfield 27, 3) := by decide +kernel
theorem dX1_prepare_104 : decode cX1_prepare 104 = .ok (.iload_n 2, 1) := by decide +kernel
theorem dX1_prepare_105 : decode cX1_prepare 105 = .ok (.aaload, 1) := by decide +kernel
theorem dX1_prepare_106 : decode cX1_prepare 106 = .ok (.iload_n 3, 1) := by decide +kernel
theorem dX1_prepare_107 : decode cX1_prepare 107 = .ok (.aload_n 1, 1) := by decide +kernel
theorem dX1_prepare_108 : decode cX1_prepare 108 = .ok (.iload_n 3, 1) := by decide +kernel
theorem dX1_prepare_109 : decode cX1_prepare 109 = .ok (.iload_n 2, 1) := by decide +kernel
theorem dX1_prepare_110 : decode cX1_prepare 110 = .ok (.invokevirtual 76, 3) := by decide +kernel
theorem dX1_prepare_113 : decode cX1_prepare 113 = .ok (.iastore, 1) := by decide +kernel
theorem dX1_prepare_114 : decode cX1_prepare 114 = .ok (.iinc 3 1, 3) := by decide +kernel
theorem dX1_prepare_117 : decode cX1_prepare 117 = .ok (.goto (-23), 3) := by decide +kernel
theorem dX1_prepare_120 : decode cX1_prepare 120 = .ok (.aload_n 0, 1) := by decide +kernel
theorem dX1_prepare_121 : decode cX1_prepare 121 = .ok (.getfield 30, 3) := by decide +kernel
theorem dX1_prepare_124 : decode cX1_prepare 124 = .ok (.iload_n 2, 1) := by decide +kernel
theorem dX1_prepare_125 : decode cX1_prepare 125 = .ok (.aload_n 0, 1) := by decide +kernel
theorem dX1_prepare_126 : decode cX1_prepare 126 = .ok (.iload_n 2, 1) := by decide +kernel
theorem dX1_prepare_127 : decode cX1_prepare 127 = .ok (.invokevirtual 79, 3) := by decide +kernel
theorem dX1_prepare_130 : decode cX1_prepare 130 = .ok (.iastore, 1) := by decide +kernel
theorem dX1_prepare_131 : decode cX1_prepare 131 = .ok (.iinc 2 (-1), 3) := by decide +kernel
theorem dX1_prepare_134 : decode cX1_prepare 134 = .ok (.goto (-61), 3) := by decide +kernel
theorem dX1_prepare_137 : decode cX1_prepare 137 = .ok (.return_, 1) := by decide +kernel
theorem dX1_boundSaved_0 : decode cX1_boundSaved 0 = .ok (.aload_n 0, 1) := by decide +kernel
theorem dX1_boundSaved_1 : decode cX1_boundSaved 1 = .ok (.getfield 30, 3) := by decide +kernel
theorem dX1_boundSaved_4 : decode cX1_boundSaved 4 = .ok (.iload_n 1, 1) := by decide +kernel
theorem dX1_boundSaved_5 : decode cX1_boundSaved 5 = .ok (.iconst 1, 1) := by decide +kernel
theorem dX1_boundSaved_6 : decode cX1_boundSaved 6 = .ok (.iadd, 1) := by decide +kernel
theorem dX1_boundSaved_7 : decode cX1_boundSaved 7 = .ok (.iaload, 1) := by decide +kernel
theorem dX1_boundSaved_8 : decode cX1_boundSaved 8 = .ok (.istore_n 2, 1) := by decide +kernel
theorem dX1_boundSaved_9 : decode cX1_boundSaved 9 = .ok (.iconst 0, 1) := by decide +kernel
theorem dX1_boundSaved_10 : decode cX1_boundSaved 10 = .ok (.istore_n 3, 1) := by decide +kernel
theorem dX1_boundSaved_11 : decode cX1_boundSaved 11 = .ok (.iload_n 3, 1) := by decide +kernel
theorem dX1_boundSaved_12 : decode cX1_boundSaved 12 = .ok (.bipush 96, 2) := by decide +kernel
theorem dX1_boundSaved_14 : decode cX1_boundSaved 14 = .ok (.if_icmp .ge 61, 3) := by decide +kernel
theorem dX1_boundSaved_17 : decode cX1_boundSaved 17 = .ok (.iconst 2, 1) := by decide +kernel
theorem dX1_boundSaved_18 : decode cX1_boundSaved 18 = .ok (.istore 4, 2) := by decide +kernel
theorem dX1_boundSaved_20 : decode cX1_boundSaved 20 = .ok (.iload 4, 2) := by decide +kernel
theorem dX1_boundSaved_22 : decode cX1_boundSaved 22 = .ok (.aload_n 0, 1) := by decide +kernel
theorem dX1_boundSaved_23 : decode cX1_boundSaved 23 = .ok (.getfield 27, 3) := by decide +kernel
theorem dX1_boundSaved_26 : decode cX1_boundSaved 26 = .ok (.iload_n 1, 1) := by decide +kernel
theorem dX1_boundSaved_27 : decode cX1_boundSaved 27 = .ok (.aaload, 1) := by decide +kernel
theorem dX1_boundSaved_28 : decode cX1_boundSaved 28 = .ok (.iload_n 3, 1) := by decide +kernel
theorem dX1_boundSaved_29 : decode cX1_boundSaved 29 = .ok (.iaload, 1) := by decide +kernel
theorem dX1_boundSaved_30 : decode cX1_boundSaved 30 = .ok (.if_icmp .gt 39, 3) := by decide +kernel
theorem dX1_boundSaved_33 : decode cX1_boundSaved 33 = .ok (.iload_n 1, 1) := by decide +kernel
theorem dX1_boundSaved_34 : decode cX1_boundSaved 34 = .ok (.iload 4, 2) := by decide +kernel
theorem dX1_boundSaved_36 : decode cX1_boundSaved 36 = .ok (.iadd, 1) := by decide +kernel
theorem dX1_boundSaved_37 : decode cX1_boundSaved 37 = .ok (.aload_n 0, 1) := by decide +kernel
theorem dX1_boundSaved_38 : decode cX1_boundSaved 38 = .ok (.getfield 58, 3) := by decide +kernel
theorem dX1_boundSaved_41 : decode cX1_boundSaved 41 = .ok (.if_icmp .gt 28, 3) := by decide +kernel
theorem dX1_boundSaved_44 : decode cX1_boundSaved 44 = .ok (.iload_n 2, 1) := by decide +kernel
theorem dX1_boundSaved_45 : decode cX1_boundSaved 45 = .ok (.iload 4, 2) := by decide +kernel
theorem dX1_boundSaved_47 : decode cX1_boundSaved 47 = .ok (.iconst 1, 1) := by decide +kernel
theorem dX1_boundSaved_48 : decode cX1_boundSaved 48 = .ok (.isub, 1) := by decide +kernel
theorem dX1_boundSaved_49 : decode cX1_boundSaved 49 = .ok (.aload_n 0, 1) := by decide +kernel
theorem dX1_boundSaved_50 : decode cX1_boundSaved 50 = .ok (.getfield 30, 3) := by decide +kernel
theorem dX1_boundSaved_53 : decode cX1_boundSaved 53 = .ok (.iload_n 1, 1) := by decide +kernel
theorem dX1_boundSaved_54 : decode cX1_boundSaved 54 = .ok (.iload 4, 2) := by decide +kernel
theorem dX1_boundSaved_56 : decode cX1_boundSaved 56 = .ok (.iadd, 1) := by decide +kernel
theorem dX1_boundSaved_57 : decode cX1_boundSaved 57 = .ok (.iaload, 1) := by decide +kernel
theorem dX1_boundSaved_58 : decode cX1_boundSaved 58 = .ok (.iadd, 1) := by decide +kernel
theorem dX1_boundSaved_59 : decode cX1_boundSaved 59 = .ok (.invokestatic 55, 3) := by decide +kernel
theorem dX1_boundSaved_62 : decode cX1_boundSaved 62 = .ok (.istore_n 2, 1) := by decide +kernel
theorem dX1_boundSaved_63 : decode cX1_boundSaved 63 = .ok (.iinc 4 1, 3) := by decide +kernel
theorem dX1_boundSaved_66 : decode cX1_boundSaved 66 = .ok (.goto (-46), 3) := by decide +kernel
theorem dX1_boundSaved_69 : decode cX1_boundSaved 69 = .ok (.iinc 3 1, 3) := by decide +kernel
theorem dX1_boundSaved_72 : decode cX1_boundSaved 72 = .ok (.goto (-61), 3) := by decide +kernel
theorem dX1_boundSaved_75 : decode cX1_boundSaved 75 = .ok (.iload_n 2, 1) := by decide +kernel
theorem dX1_boundSaved_76 : decode cX1_boundSaved 76 = .ok (.ireturn, 1) := by decide +kernel
theorem dX1_choose_0 : decode cX1_choose 0 = .ok (.aload_n 0, 1) := by decide +kernel
theorem dX1_choose_1 : decode cX1_choose 1 = .ok (.iconst 0, 1) := by decide +kernel
theorem dX1_choose_2 : decode cX1_choose 2 = .ok (.putfield 40, 3) := by decide +kernel
theorem dX1_choose_5 : decode cX1_choose 5 = .ok (.aload_n 0, 1) := by decide +kernel
theorem dX1_choose_6 : decode cX1_choose 6 = .ok (.lconst 0, 1) := by decide +kernel
theorem dX1_choose_7 : decode cX1_choose 7 = .ok (.putfield 82, 3) := by decide +kernel
theorem dX1_choose_10 : decode cX1_choose 10 = .ok (.aload_n 0, 1) := by decide +kernel
theorem dX1_choose_11 : decode cX1_choose 11 = .ok (.iconst 0, 1) := by decide +kernel
theorem dX1_choose_12 : decode cX1_choose 12 = .ok (.iconst 0, 1) := by decide +kernel
theorem dX1_choose_13 : decode cX1_choose 13 = .ok (.lload_n 1, 1) := by decide +kernel
theorem dX1_choose_14 : decode cX1_choose 14 = .ok (.invokevirtual 86, 3) := by decide +kernel
theorem dX1_choose_17 : decode cX1_choose 17 = .ok (.ifCond .ne 13, 3) := by decide +kernel
theorem dX1_choose_20 : decode cX1_choose 20 = .ok (.aload_n 0, 1) := by decide +kernel
theorem dX1_choose_21 : decode cX1_choose 21 = .ok (.iconst (-1), 1) := by decide +kernel
theorem dX1_choose_22 : decode cX1_choose 22 = .ok (.putfield 40, 3) := by decide +kernel
theorem dX1_choose_25 : decode cX1_choose 25 = .ok (.aload_n 0, 1) := by decide +kernel
theorem dX1_choose_26 : decode cX1_choose 26 = .ok (.getfield 40, 3) := by decide +kernel
theorem dX1_choose_29 : decode cX1_choose 29 = .ok (.ireturn, 1) := by decide +kernel
theorem dX1_choose_30 : decode cX1_choose 30 = .ok (.aload_n 0, 1) := by decide +kernel
theorem dX1_choose_31 : decode cX1_choose 31 = .ok (.getfield 30, 3) := by decide +kernel
theorem dX1_choose_34 : decode cX1_choose 34 = .ok (.iconst 0, 1) := by decide +kernel
theorem dX1_choose_35 : decode cX1_choose 35 = .ok (.iaload, 1) := by decide +kernel
theorem dX1_choose_36 : decode cX1_choose 36 = .ok (.istore_n 3, 1) := by decide +kernel
theorem dX1_choose_37 : decode cX1_choose 37 = .ok (.iload_n 3, 1) := by decide +kernel
theorem dX1_choose_38 : decode cX1_choose 38 = .ok (.ifCond .le 20, 3) := by decide +kernel
theorem dX1_choose_41 : decode cX1_choose 41 = .ok (.aload_n 0, 1) := by decide +kernel
theorem dX1_choose_42 : decode cX1_choose 42 = .ok (.iconst 0, 1) := by decide +kernel
theorem dX1_choose_43 : decode cX1_choose 43 = .ok (.iconst 0, 1) := by decide +kernel
theorem dX1_choose_44 : decode cX1_choose 44 = .ok (.lload_n 1, 1) := by decide +kernel
theorem dX1_choose_45 : decode cX1_choose 45 = .ok (.iload_n 3, 1) := by decide +kernel
theorem dX1_choose_46 : decode cX1_choose 46 = .ok (.invokevirtual 90, 3) := by decide +kernel
theorem dX1_choose_49 : decode cX1_choose 49 = .ok (.ifCond .ne 9, 3) := by decide +kernel
theorem dX1_choose_52 : decode cX1_choose 52 = .ok (.iinc 3 (-1), 3) := by decide +kernel
theorem dX1_choose_55 : decode cX1_choose 55 = .ok (.goto (-18), 3) := by decide +kernel
theorem dX1_choose_58 : decode cX1_choose 58 = .ok (.iconst 0, 1) := by decide +kernel
theorem dX1_choose_59 : decode cX1_choose 59 = .ok (.istore 4, 2) := by decide +kernel
theorem dX1_choose_61 : decode cX1_choose 61 = .ok (.iconst 0, 1) := by decide +kernel
theorem dX1_choose_62 : decode cX1_choose 62 = .ok (.istore 5, 2) := by decide +kernel
theorem dX1_choose_64 : decode cX1_choose 64 = .ok (.iload 5, 2) := by decide +kernel
theorem dX1_choose_66 : decode cX1_choose 66 = .ok (.bipush 8, 2) := by decide +kernel
theorem dX1_choose_68 : decode cX1_choose 68 = .ok (.if_icmp .ge 47, 3) := by decide +kernel
theorem dX1_choose_71 : decode cX1_choose 71 = .ok (.iload 4, 2) := by decide +kernel
theorem dX1_choose_73 : decode cX1_choose 73 = .ok (.aload_n 0, 1) := by decide +kernel
theorem dX1_choose_74 : decode cX1_choose 74 = .ok (.getfield 58, 3) := by decide +kernel
theorem dX1_choose_77 : decode cX1_choose 77 = .ok (.if_icmp .ge 38, 3) := by decide +kernel
theorem dX1_choose_80 : decode cX1_choose 80 = .ok (.aload_n 0, 1) := by decide +kernel
theorem dX1_choose_81 : decode cX1_choose 81 = .ok (.iload 4, 2) := by decide +kernel
theorem dX1_choose_83 : decode cX1_choose 83 = .ok (.lload_n 1, 1) := by decide +kernel
theorem dX1_choose_84 : decode cX1_choose 84 = .ok (.aload_n 0, 1) := by decide +kernel
theorem dX1_choose_85 : decode cX1_choose 85 = .ok (.getfield 82, 3) := by decide +kernel
theorem dX1_choose_88 : decode cX1_choose 88 = .ok (.lor, 1) := by decide +kernel
theorem dX1_choose_89 : decode cX1_choose 89 = .ok (.iload_n 3, 1) := by decide +kernel
theorem dX1_choose_90 : decode cX1_choose 90 = .ok (.invokevirtual 94, 3) := by decide +kernel
theorem dX1_choose_93 : decode cX1_choose 93 = .ok (.istore 6, 2) := by decide +kernel
theorem dX1_choose_95 : decode cX1_choose 95 = .ok (.iload_n 3, 1) := by decide +kernel
theorem dX1_choose_96 : decode cX1_choose 96 = .ok (.iload 6, 2) := by decide +kernel
theorem dX1_choose_98 : decode cX1_choose 98 = .ok (.iconst 1, 1) := by decide +kernel
theorem dX1_choose_99 : decode cX1_choose 99 = .ok (.isub, 1) := by decide +kernel
theorem dX1_choose_100 : decode cX1_choose 100 = .ok (.isub, 1) := by decide +kernel
theorem dX1_choose_101 : decode cX1_choose 101 = .ok (.istore_n 3, 1) := by decide +kernel
theorem dX1_choose_102 : decode cX1_choose 102 = .ok (.iload 4, 2) := by decide +kernel
theorem dX1_choose_104 : decode cX1_choose 104 = .ok (.iload 6, 2) := by decide +kernel
theorem dX1_choose_106 : decode cX1_choose 106 = .ok (.iadd, 1) := by decide +kernel
theorem dX1_choose_107 : decode cX1_choose 107 = .ok (.istore 4, 2) := by decide +kernel
theorem dX1_choose_109 : decode cX1_choose 109 = .ok (.iinc 5 1, 3) := by decide +kernel
theorem dX1_choose_112 : decode cX1_choose 112 = .ok (.goto (-48), 3) := by decide +kernel
theorem dX1_choose_115 : decode cX1_choose 115 = .ok (.aload_n 0, 1) := by decide +kernel
theorem dX1_choose_116 : decode cX1_choose 116 = .ok (.getfield 40, 3) := by decide +kernel
theorem dX1_choose_119 : decode cX1_choose 119 = .ok (.ireturn, 1) := by decide +kernel
theorem dX1_chooseCut_0 : decode cX1_chooseCut 0 = .ok (.aload_n 0, 1) := by decide +kernel
theorem dX1_chooseCut_1 : decode cX1_chooseCut 1 = .ok (.getfield 58, 3) := by decide +kernel
theorem dX1_chooseCut_4 : decode cX1_chooseCut 4 = .ok (.iload_n 1, 1) := by decide +kernel
theorem dX1_chooseCut_5 : decode cX1_chooseCut 5 = .ok (.isub, 1) := by decide +kernel
theorem dX1_chooseCut_6 : decode cX1_chooseCut 6 = .ok (.istore 5, 2) := by decide +kernel
theorem dX1_chooseCut_8 : decode cX1_chooseCut 8 = .ok (.iload 5, 2) := by decide +kernel
theorem dX1_chooseCut_10 : decode cX1_chooseCut 10 = .ok (.iconst 1, 1) := by decide +kernel
theorem dX1_chooseCut_11 : decode cX1_chooseCut 11 = .ok (.if_icmp .lt 122, 3) := by decide +kernel
theorem dX1_chooseCut_14 : decode cX1_chooseCut 14 = .ok (.iconst 0, 1) := by decide +kernel
theorem dX1_chooseCut_15 : decode cX1_chooseCut 15 = .ok (.istore 6, 2) := by decide +kernel
theorem dX1_chooseCut_17 : decode cX1_chooseCut 17 = .ok (.iload 6, 2) := by decide +kernel
theorem dX1_chooseCut_19 : decode cX1_chooseCut 19 = .ok (.bipush 96, 2) := by decide +kernel
theorem dX1_chooseCut_21 : decode cX1_chooseCut 21 = .ok (.if_icmp .ge 106, 3) := by decide +kernel
theorem dX1_chooseCut_24 : decode cX1_chooseCut 24 = .ok (.aload_n 0, 1) := by decide +kernel
theorem dX1_chooseCut_25 : decode cX1_chooseCut 25 = .ok (.iload_n 1, 1) := by decide +kernel
theorem dX1_chooseCut_26 : decode cX1_chooseCut 26 = .ok (.iload 6, 2) := by decide +kernel
theorem dX1_chooseCut_28 : decode cX1_chooseCut 28 = .ok (.iload 5, 2) := by decide +kernel
theorem dX1_chooseCut_30 : decode cX1_chooseCut 30 = .ok (.lload_n 2, 1) := by decide +kernel
theorem dX1_chooseCut_31 : decode cX1_chooseCut 31 = .ok (.invokevirtual 98, 3) := by decide +kernel
theorem dX1_chooseCut_34 : decode cX1_chooseCut 34 = .ok (.lstore 7, 2) := by decide +kernel
theorem dX1_chooseCut_36 : decode cX1_chooseCut 36 = .ok (.lload 7, 2) := by decide +kernel
theorem dX1_chooseCut_38 : decode cX1_chooseCut 38 = .ok (.lconst 0, 1) := by decide +kernel
theorem dX1_chooseCut_39 : decode cX1_chooseCut 39 = .ok (.lcmp, 1) := by decide +kernel
theorem dX1_chooseCut_40 : decode cX1_chooseCut 40 = .ok (.ifCond .eq 81, 3) := by decide +kernel
theorem dX1_chooseCut_43 : decode cX1_chooseCut 43 = .ok (.aload_n 0, 1) := by decide +kernel
theorem dX1_chooseCut_44 : decode cX1_chooseCut 44 = .ok (.getfield 40, 3) := by decide +kernel
theorem dX1_chooseCut_47 : decode cX1_chooseCut 47 = .ok (.bipush 8, 2) := by decide +kernel
theorem dX1_chooseCut_49 : decode cX1_chooseCut 49 = .ok (.if_icmp .ge 72, 3) := by decide +kernel
theorem dX1_chooseCut_52 : decode cX1_chooseCut 52 = .ok (.aload_n 0, 1) := by decide +kernel
theorem dX1_chooseCut_53 : decode cX1_chooseCut 53 = .ok (.iload_n 1, 1) := by decide +kernel
theorem dX1_chooseCut_54 : decode cX1_chooseCut 54 = .ok (.iload 5, 2) := by decide +kernel
theorem dX1_chooseCut_56 : decode cX1_chooseCut 56 = .ok (.iadd, 1) := by decide +kernel
theorem dX1_chooseCut_57 : decode cX1_chooseCut 57 = .ok (.iconst 0, 1) := by decide +kernel
theorem dX1_chooseCut_58 : decode cX1_chooseCut 58 = .ok (.lload_n 2, 1) := by decide +kernel
theorem dX1_chooseCut_59 : decode cX1_chooseCut 59 = .ok (.lload 7, 2) := by decide +kernel
theorem dX1_chooseCut_61 : decode cX1_chooseCut 61 = .ok (.lor, 1) := by decide +kernel
theorem dX1_chooseCut_62 : decode cX1_chooseCut 62 = .ok (.iload 4, 2) := by decide +kernel
theorem dX1_chooseCut_64 : decode cX1_chooseCut 64 = .ok (.iload 5, 2) := by decide +kernel
theorem dX1_chooseCut_66 : decode cX1_chooseCut 66 = .ok (.isub, 1) := by decide +kernel
theorem dX1_chooseCut_67 : decode cX1_chooseCut 67 = .ok (.iconst 1, 1) := by decide +kernel
theorem dX1_chooseCut_68 : decode cX1_chooseCut 68 = .ok (.iadd, 1) := by decide +kernel
theorem dX1_chooseCut_69 : decode cX1_chooseCut 69 = .ok (.invokevirtual 90, 3) := by decide +kernel
theorem dX1_chooseCut_72 : decode cX1_chooseCut 72 = .ok (.ifCond .eq 49, 3) := by decide +kernel
theorem dX1_chooseCut_75 : decode cX1_chooseCut 75 = .ok (.aload_n 0, 1) := by decide +kernel
theorem dX1_chooseCut_76 : decode cX1_chooseCut 76 = .ok (.getfield 34, 3) := by decide +kernel
theorem dX1_chooseCut_79 : decode cX1_chooseCut 79 = .ok (.aload_n 0, 1) := by decide +kernel
theorem dX1_chooseCut_80 : decode cX1_chooseCut 80 = .ok (.getfield 40, 3) := by decide +kernel
theorem dX1_chooseCut_83 : decode cX1_chooseCut 83 = .ok (.iload 6, 2) := by decide +kernel
theorem dX1_chooseCut_85 : decode cX1_chooseCut 85 = .ok (.iastore, 1) := by decide +kernel
theorem dX1_chooseCut_86 : decode cX1_chooseCut 86 = .ok (.aload_n 0, 1) := by decide +kernel
theorem dX1_chooseCut_87 : decode cX1_chooseCut 87 = .ok (.getfield 37, 3) := by decide +kernel
theorem dX1_chooseCut_90 : decode cX1_chooseCut 90 = .ok (.aload_n 0, 1) := by decide +kernel
theorem dX1_chooseCut_91 : decode cX1_chooseCut 91 = .ok (.getfield 40, 3) := by decide +kernel
theorem dX1_chooseCut_94 : decode cX1_chooseCut 94 = .ok (.iload 5, 2) := by decide +kernel
theorem dX1_chooseCut_96 : decode cX1_chooseCut 96 = .ok (.iastore, 1) := by decide +kernel
theorem dX1_chooseCut_97 : decode cX1_chooseCut 97 = .ok (.aload_n 0, 1) := by decide +kernel
theorem dX1_chooseCut_98 : decode cX1_chooseCut 98 = .ok (.dup, 1) := by decide +kernel
theorem dX1_chooseCut_99 : decode cX1_chooseCut 99 = .ok (.getfield 40, 3) := by decide +kernel
theorem dX1_chooseCut_102 : decode cX1_chooseCut 102 = .ok (.iconst 1, 1) := by decide +kernel
theorem dX1_chooseCut_103 : decode cX1_chooseCut 103 = .ok (.iadd, 1) := by decide +kernel
theorem dX1_chooseCut_104 : decode cX1_chooseCut 104 = .ok (.putfield 40, 3) := by decide +kernel
theorem dX1_chooseCut_107 : decode cX1_chooseCut 107 = .ok (.aload_n 0, 1) := by decide +kernel
theorem dX1_chooseCut_108 : decode cX1_chooseCut 108 = .ok (.dup, 1) := by decide +kernel
theorem dX1_chooseCut_109 : decode cX1_chooseCut 109 = .ok (.getfield 82, 3) := by decide +kernel
theorem dX1_chooseCut_112 : decode cX1_chooseCut 112 = .ok (.lload 7, 2) := by decide +kernel
theorem dX1_chooseCut_114 : decode cX1_chooseCut 114 = .ok (.lor, 1) := by decide +kernel
theorem dX1_chooseCut_115 : decode cX1_chooseCut 115 = .ok (.putfield 82, 3) := by decide +kernel
theorem dX1_chooseCut_118 : decode cX1_chooseCut 118 = .ok (.iload 5, 2) := by decide +kernel
theorem dX1_chooseCut_120 : decode cX1_chooseCut 120 = .ok (.ireturn, 1) := by decide +kernel
theorem dX1_chooseCut_121 : decode cX1_chooseCut 121 = .ok (.iinc 6 1, 3) := by decide +kernel
theorem dX1_chooseCut_124 : decode cX1_chooseCut 124 = .ok (.goto (-107), 3) := by decide +kernel
theorem dX1_chooseCut_127 : decode cX1_chooseCut 127 = .ok (.iinc 5 (-1), 3) := by decide +kernel
theorem dX1_chooseCut_130 : decode cX1_chooseCut 130 = .ok (.goto (-122), 3) := by decide +kernel
theorem dX1_chooseCut_133 : decode cX1_chooseCut 133 = .ok (.iconst 0, 1) := by decide +kernel
theorem dX1_chooseCut_134 : decode cX1_chooseCut 134 = .ok (.ireturn, 1) := by decide +kernel
theorem dX1_freeStrip_0 : decode cX1_freeStrip 0 = .ok (.iload_n 1, 1) := by decide +kernel
theorem dX1_freeStrip_1 : decode cX1_freeStrip 1 = .ok (.ifCond .lt 33, 3) := by decide +kernel
theorem dX1_freeStrip_4 : decode cX1_freeStrip 4 = .ok (.iload_n 1, 1) := by decide +kernel
theorem dX1_freeStrip_5 : decode cX1_freeStrip 5 = .ok (.bipush 8, 2) := by decide +kernel
theorem dX1_freeStrip_7 : decode cX1_freeStrip 7 = .ok (.if_icmp .ge 27, 3) := by decide +kernel
theorem dX1_freeStrip_10 : decode cX1_freeStrip 10 = .ok (.iload_n 2, 1) := by decide +kernel
theorem dX1_freeStrip_11 : decode cX1_freeStrip 11 = .ok (.ifCond .lt 23, 3) := by decide +kernel
theorem dX1_freeStrip_14 : decode cX1_freeStrip 14 = .ok (.iload_n 2, 1) := by decide +kernel
theorem dX1_freeStrip_15 : decode cX1_freeStrip 15 = .ok (.iload_n 3, 1) := by decide +kernel
theorem dX1_freeStrip_16 : decode cX1_freeStrip 16 = .ok (.iadd, 1) := by decide +kernel
theorem dX1_freeStrip_17 : decode cX1_freeStrip 17 = .ok (.bipush 96, 2) := by decide +kernel
theorem dX1_freeStrip_19 : decode cX1_freeStrip 19 = .ok (.if_icmp .gt 15, 3) := by decide +kernel
theorem dX1_freeStrip_22 : decode cX1_freeStrip 22 = .ok (.aload_n 0, 1) := by decide +kernel
theorem dX1_freeStrip_23 : decode cX1_freeStrip 23 = .ok (.getfield 27, 3) := by decide +kernel
theorem dX1_freeStrip_26 : decode cX1_freeStrip 26 = .ok (.iload_n 1, 1) := by decide +kernel
theorem dX1_freeStrip_27 : decode cX1_freeStrip 27 = .ok (.aaload, 1) := by decide +kernel
theorem dX1_freeStrip_28 : decode cX1_freeStrip 28 = .ok (.iload_n 2, 1) := by decide +kernel
theorem dX1_freeStrip_29 : decode cX1_freeStrip 29 = .ok (.iaload, 1) := by decide +kernel
theorem dX1_freeStrip_30 : decode cX1_freeStrip 30 = .ok (.iload_n 3, 1) := by decide +kernel
theorem dX1_freeStrip_31 : decode cX1_freeStrip 31 = .ok (.if_icmp .ge 5, 3) := by decide +kernel
theorem dX1_freeStrip_34 : decode cX1_freeStrip 34 = .ok (.lconst 0, 1) := by decide +kernel
theorem dX1_freeStrip_35 : decode cX1_freeStrip 35 = .ok (.lreturn, 1) := by decide +kernel
theorem dX1_freeStrip_36 : decode cX1_freeStrip 36 = .ok (.lconst 0, 1) := by decide +kernel
theorem dX1_freeStrip_37 : decode cX1_freeStrip 37 = .ok (.lstore 6, 2) := by decide +kernel
theorem dX1_freeStrip_39 : decode cX1_freeStrip 39 = .ok (.iconst 0, 1) := by decide +kernel
theorem dX1_freeStrip_40 : decode cX1_freeStrip 40 = .ok (.istore 8, 2) := by decide +kernel
theorem dX1_freeStrip_42 : decode cX1_freeStrip 42 = .ok (.iload 8, 2) := by decide +kernel
theorem dX1_freeStrip_44 : decode cX1_freeStrip 44 = .ok (.iload_n 3, 1) := by decide +kernel
theorem dX1_freeStrip_45 : decode cX1_freeStrip 45 = .ok (.if_icmp .ge 23, 3) := by decide +kernel
theorem dX1_freeStrip_48 : decode cX1_freeStrip 48 = .ok (.lload 6, 2) := by decide +kernel
theorem dX1_freeStrip_50 : decode cX1_freeStrip 50 = .ok (.aload_n 0, 1) := by decide +kernel
theorem dX1_freeStrip_51 : decode cX1_freeStrip 51 = .ok (.getfield 22, 3) := by decide +kernel
theorem dX1_freeStrip_54 : decode cX1_freeStrip 54 = .ok (.iload_n 2, 1) := by decide +kernel
theorem dX1_freeStrip_55 : decode cX1_freeStrip 55 = .ok (.iload 8, 2) := by decide +kernel
theorem dX1_freeStrip_57 : decode cX1_freeStrip 57 = .ok (.iadd, 1) := by decide +kernel
theorem dX1_freeStrip_58 : decode cX1_freeStrip 58 = .ok (.laload, 1) := by decide +kernel
theorem dX1_freeStrip_59 : decode cX1_freeStrip 59 = .ok (.lor, 1) := by decide +kernel
theorem dX1_freeStrip_60 : decode cX1_freeStrip 60 = .ok (.lstore 6, 2) := by decide +kernel
theorem dX1_freeStrip_62 : decode cX1_freeStrip 62 = .ok (.iinc 8 1, 3) := by decide +kernel
theorem dX1_freeStrip_65 : decode cX1_freeStrip 65 = .ok (.goto (-23), 3) := by decide +kernel
theorem dX1_freeStrip_68 : decode cX1_freeStrip 68 = .ok (.lload 6, 2) := by decide +kernel
theorem dX1_freeStrip_70 : decode cX1_freeStrip 70 = .ok (.lload 4, 2) := by decide +kernel
theorem dX1_freeStrip_72 : decode cX1_freeStrip 72 = .ok (.land, 1) := by decide +kernel
theorem dX1_freeStrip_73 : decode cX1_freeStrip 73 = .ok (.lconst 0, 1) := by decide +kernel
theorem dX1_freeStrip_74 : decode cX1_freeStrip 74 = .ok (.lcmp, 1) := by decide +kernel
theorem dX1_freeStrip_75 : decode cX1_freeStrip 75 = .ok (.ifCond .ne 8, 3) := by decide +kernel
theorem dX1_freeStrip_78 : decode cX1_freeStrip 78 = .ok (.lload 6, 2) := by decide +kernel
theorem dX1_freeStrip_80 : decode cX1_freeStrip 80 = .ok (.goto 4, 3) := by decide +kernel
theorem dX1_freeStrip_83 : decode cX1_freeStrip 83 = .ok (.lconst 0, 1) := by decide +kernel
theorem dX1_freeStrip_84 : decode cX1_freeStrip 84 = .ok (.lreturn, 1) := by decide +kernel
theorem dX1_canSave_0 : decode cX1_canSave 0 = .ok (.aload_n 0, 1) := by decide +kernel
theorem dX1_canSave_1 : decode cX1_canSave 1 = .ok (.iload_n 1, 1) := by decide +kernel
theorem dX1_canSave_2 : decode cX1_canSave 2 = .ok (.iload_n 2, 1) := by decide +kernel
theorem dX1_canSave_3 : decode cX1_canSave 3 = .ok (.lload_n 3, 1) := by decide +kernel
theorem dX1_canSave_4 : decode cX1_canSave 4 = .ok (.invokevirtual 86, 3) := by decide +kernel
theorem dX1_canSave_7 : decode cX1_canSave 7 = .ok (.ifCond .ne 5, 3) := by decide +kernel
theorem dX1_canSave_10 : decode cX1_canSave 10 = .ok (.iconst 0, 1) := by decide +kernel
theorem dX1_canSave_11 : decode cX1_canSave 11 = .ok (.ireturn, 1) := by decide +kernel
theorem dX1_canSave_12 : decode cX1_canSave 12 = .ok (.iload_n 2, 1) := by decide +kernel
theorem dX1_canSave_13 : decode cX1_canSave 13 = .ok (.istore 6, 2) := by decide +kernel
theorem dX1_canSave_15 : decode cX1_canSave 15 = .ok (.iload_n 1, 1) := by decide +kernel
theorem dX1_canSave_16 : decode cX1_canSave 16 = .ok (.istore 7, 2) := by decide +kernel
theorem dX1_canSave_18 : decode cX1_canSave 18 = .ok (.iload 5, 2) := by decide +kernel
theorem dX1_canSave_20 : decode cX1_canSave 20 = .ok (.ifCond .le 55, 3) := by decide +kernel
theorem dX1_canSave_23 : decode cX1_canSave 23 = .ok (.iload 7, 2) := by decide +kernel
theorem dX1_canSave_25 : decode cX1_canSave 25 = .ok (.aload_n 0, 1) := by decide +kernel
theorem dX1_canSave_26 : decode cX1_canSave 26 = .ok (.getfield 58, 3) := by decide +kernel
theorem dX1_canSave_29 : decode cX1_canSave 29 = .ok (.if_icmp .ge 46, 3) := by decide +kernel
theorem dX1_canSave_32 : decode cX1_canSave 32 = .ok (.aload_n 0, 1) := by decide +kernel
theorem dX1_canSave_33 : decode cX1_canSave 33 = .ok (.getfield 30, 3) := by decide +kernel
theorem dX1_canSave_36 : decode cX1_canSave 36 = .ok (.iload 7, 2) := by decide +kernel
theorem dX1_canSave_38 : decode cX1_canSave 38 = .ok (.iaload, 1) := by decide +kernel
theorem dX1_canSave_39 : decode cX1_canSave 39 = .ok (.iload 5, 2) := by decide +kernel
theorem dX1_canSave_41 : decode cX1_canSave 41 = .ok (.if_icmp .lt 34, 3) := by decide +kernel
theorem dX1_canSave_44 : decode cX1_canSave 44 = .ok (.aload_n 0, 1) := by decide +kernel
theorem dX1_canSave_45 : decode cX1_canSave 45 = .ok (.iload 7, 2) := by decide +kernel
theorem dX1_canSave_47 : decode cX1_canSave 47 = .ok (.iload 6, 2) := by decide +kernel
theorem dX1_canSave_49 : decode cX1_canSave 49 = .ok (.lload_n 3, 1) := by decide +kernel
theorem dX1_canSave_50 : decode cX1_canSave 50 = .ok (.iload 5, 2) := by decide +kernel
theorem dX1_canSave_52 : decode cX1_canSave 52 = .ok (.invokevirtual 102, 3) := by decide +kernel
theorem dX1_canSave_55 : decode cX1_canSave 55 = .ok (.ifCond .eq 5, 3) := by decide +kernel
theorem dX1_canSave_58 : decode cX1_canSave 58 = .ok (.iconst 1, 1) := by decide +kernel
theorem dX1_canSave_59 : decode cX1_canSave 59 = .ok (.ireturn, 1) := by decide +kernel
theorem dX1_canSave_60 : decode cX1_canSave 60 = .ok (.iload 6, 2) := by decide +kernel
theorem dX1_canSave_62 : decode cX1_canSave 62 = .ok (.iconst 1, 1) := by decide +kernel
theorem dX1_canSave_63 : decode cX1_canSave 63 = .ok (.iload 7, 2) := by decide +kernel
theorem dX1_canSave_65 : decode cX1_canSave 65 = .ok (.ishl, 1) := by decide +kernel
theorem dX1_canSave_66 : decode cX1_canSave 66 = .ok (.ior, 1) := by decide +kernel
theorem dX1_canSave_67 : decode cX1_canSave 67 = .ok (.istore 6, 2) := by decide +kernel
theorem dX1_canSave_69 : decode cX1_canSave 69 = .ok (.iinc 7 1, 3) := by decide +kernel
theorem dX1_canSave_72 : decode cX1_canSave 72 = .ok (.goto (-54), 3) := by decide +kernel
theorem dX1_canSave_75 : decode cX1_canSave 75 = .ok (.iload 5, 2) := by decide +kernel
theorem dX1_canSave_77 : decode cX1_canSave 77 = .ok (.ifCond .gt 7, 3) := by decide +kernel
theorem dX1_canSave_80 : decode cX1_canSave 80 = .ok (.iconst 1, 1) := by decide +kernel
theorem dX1_canSave_81 : decode cX1_canSave 81 = .ok (.goto 4, 3) := by decide +kernel
theorem dX1_canSave_84 : decode cX1_canSave 84 = .ok (.iconst 0, 1) := by decide +kernel
theorem dX1_canSave_85 : decode cX1_canSave 85 = .ok (.ireturn, 1) := by decide +kernel
theorem dX1_canSaveAt_0 : decode cX1_canSaveAt 0 = .ok (.iload_n 1, 1) := by decide +kernel
theorem dX1_canSaveAt_1 : decode cX1_canSaveAt 1 = .ok (.ifCond .lt 11, 3) := by decide +kernel
theorem dX1_canSaveAt_4 : decode cX1_canSaveAt 4 = .ok (.iload_n 1, 1) := by decide +kernel
theorem dX1_canSaveAt_5 : decode cX1_canSaveAt 5 = .ok (.aload_n 0, 1) := by decide +kernel
theorem dX1_canSaveAt_6 : decode cX1_canSaveAt 6 = .ok (.getfield 58, 3) := by decide +kernel
theorem dX1_canSaveAt_9 : decode cX1_canSaveAt 9 = .ok (.if_icmp .lt 5, 3) := by decide +kernel
theorem dX1_canSaveAt_12 : decode cX1_canSaveAt 12 = .ok (.iconst 0, 1) := by decide +kernel
theorem dX1_canSaveAt_13 : decode cX1_canSaveAt 13 = .ok (.ireturn, 1) := by decide +kernel
theorem dX1_canSaveAt_14 : decode cX1_canSaveAt 14 = .ok (.iconst 0, 1) := by decide +kernel
theorem dX1_canSaveAt_15 : decode cX1_canSaveAt 15 = .ok (.istore 6, 2) := by decide +kernel
theorem dX1_canSaveAt_17 : decode cX1_canSaveAt 17 = .ok (.iload 6, 2) := by decide +kernel
theorem dX1_canSaveAt_19 : decode cX1_canSaveAt 19 = .ok (.bipush 96, 2) := by decide +kernel
theorem dX1_canSaveAt_21 : decode cX1_canSaveAt 21 = .ok (.if_icmp .ge 76, 3) := by decide +kernel
theorem dX1_canSaveAt_24 : decode cX1_canSaveAt 24 = .ok (.aload_n 0, 1) := by decide +kernel
theorem dX1_canSaveAt_25 : decode cX1_canSaveAt 25 = .ok (.getfield 27, 3) := by decide +kernel
theorem dX1_canSaveAt_28 : decode cX1_canSaveAt 28 = .ok (.iload_n 1, 1) := by decide +kernel
theorem dX1_canSaveAt_29 : decode cX1_canSaveAt 29 = .ok (.aaload, 1) := by decide +kernel
theorem dX1_canSaveAt_30 : decode cX1_canSaveAt 30 = .ok (.iload 6, 2) := by decide +kernel
theorem dX1_canSaveAt_32 : decode cX1_canSaveAt 32 = .ok (.iaload, 1) := by decide +kernel
theorem dX1_canSaveAt_33 : decode cX1_canSaveAt 33 = .ok (.istore 7, 2) := by decide +kernel
theorem dX1_canSaveAt_35 : decode cX1_canSaveAt 35 = .ok (.iload 7, 2) := by decide +kernel
theorem dX1_canSaveAt_37 : decode cX1_canSaveAt 37 = .ok (.iconst 2, 1) := by decide +kernel
theorem dX1_canSaveAt_38 : decode cX1_canSaveAt 38 = .ok (.if_icmp .lt 53, 3) := by decide +kernel
theorem dX1_canSaveAt_41 : decode cX1_canSaveAt 41 = .ok (.aload_n 0, 1) := by decide +kernel
theorem dX1_canSaveAt_42 : decode cX1_canSaveAt 42 = .ok (.iload_n 1, 1) := by decide +kernel
theorem dX1_canSaveAt_43 : decode cX1_canSaveAt 43 = .ok (.iload 6, 2) := by decide +kernel
theorem dX1_canSaveAt_45 : decode cX1_canSaveAt 45 = .ok (.iload 7, 2) := by decide +kernel
theorem dX1_canSaveAt_47 : decode cX1_canSaveAt 47 = .ok (.lload_n 3, 1) := by decide +kernel
theorem dX1_canSaveAt_48 : decode cX1_canSaveAt 48 = .ok (.invokevirtual 98, 3) := by decide +kernel
theorem dX1_canSaveAt_51 : decode cX1_canSaveAt 51 = .ok (.lstore 8, 2) := by decide +kernel
theorem dX1_canSaveAt_53 : decode cX1_canSaveAt 53 = .ok (.lload 8, 2) := by decide +kernel
theorem dX1_canSaveAt_55 : decode cX1_canSaveAt 55 = .ok (.lconst 0, 1) := by decide +kernel
theorem dX1_canSaveAt_56 : decode cX1_canSaveAt 56 = .ok (.lcmp, 1) := by decide +kernel
theorem dX1_canSaveAt_57 : decode cX1_canSaveAt 57 = .ok (.ifCond .eq 28, 3) := by decide +kernel
theorem dX1_canSaveAt_60 : decode cX1_canSaveAt 60 = .ok (.aload_n 0, 1) := by decide +kernel
theorem dX1_canSaveAt_61 : decode cX1_canSaveAt 61 = .ok (.iload_n 1, 1) := by decide +kernel
theorem dX1_canSaveAt_62 : decode cX1_canSaveAt 62 = .ok (.iload 7, 2) := by decide +kernel
theorem dX1_canSaveAt_64 : decode cX1_canSaveAt 64 = .ok (.iadd, 1) := by decide +kernel
theorem dX1_canSaveAt_65 : decode cX1_canSaveAt 65 = .ok (.iload_n 2, 1) := by decide +kernel
theorem dX1_canSaveAt_66 : decode cX1_canSaveAt 66 = .ok (.lload_n 3, 1) := by decide +kernel
theorem dX1_canSaveAt_67 : decode cX1_canSaveAt 67 = .ok (.lload 8, 2) := by decide +kernel
theorem dX1_canSaveAt_69 : decode cX1_canSaveAt 69 = .ok (.lor, 1) := by decide +kernel
theorem dX1_canSaveAt_70 : decode cX1_canSaveAt 70 = .ok (.iload 5, 2) := by decide +kernel
theorem dX1_canSaveAt_72 : decode cX1_canSaveAt 72 = .ok (.iload 7, 2) := by decide +kernel
theorem dX1_canSaveAt_74 : decode cX1_canSaveAt 74 = .ok (.isub, 1) := by decide +kernel
theorem dX1_canSaveAt_75 : decode cX1_canSaveAt 75 = .ok (.iconst 1, 1) := by decide +kernel
theorem dX1_canSaveAt_76 : decode cX1_canSaveAt 76 = .ok (.iadd, 1) := by decide +kernel
theorem dX1_canSaveAt_77 : decode cX1_canSaveAt 77 = .ok (.invokevirtual 90, 3) := by decide +kernel
theorem dX1_canSaveAt_80 : decode cX1_canSaveAt 80 = .ok (.ifCond .eq 5, 3) := by decide +kernel
theorem dX1_canSaveAt_83 : decode cX1_canSaveAt 83 = .ok (.iconst 1, 1) := by decide +kernel
theorem dX1_canSaveAt_84 : decode cX1_canSaveAt 84 = .ok (.ireturn, 1) := by decide +kernel
theorem dX1_canSaveAt_85 : decode cX1_canSaveAt 85 = .ok (.iinc 7 (-1), 3) := by decide +kernel
theorem dX1_canSaveAt_88 : decode cX1_canSaveAt 88 = .ok (.goto (-53), 3) := by decide +kernel
theorem dX1_canSaveAt_91 : decode cX1_canSaveAt 91 = .ok (.iinc 6 1, 3) := by decide +kernel
theorem dX1_canSaveAt_94 : decode cX1_canSaveAt 94 = .ok (.goto (-77), 3) := by decide +kernel
theorem dX1_canSaveAt_97 : decode cX1_canSaveAt 97 = .ok (.iconst 0, 1) := by decide +kernel
theorem dX1_canSaveAt_98 : decode cX1_canSaveAt 98 = .ok (.ireturn, 1) := by decide +kernel
theorem dX1_canSpell_0 : decode cX1_canSpell 0 = .ok (.aload_n 0, 1) := by decide +kernel
theorem dX1_canSpell_1 : decode cX1_canSpell 1 = .ok (.getfield 12, 3) := by decide +kernel
theorem dX1_canSpell_4 : decode cX1_canSpell 4 = .ok (.invokevirtual 105, 3) := by decide +kernel
theorem dX1_canSpell_7 : decode cX1_canSpell 7 = .ok (.iconst 0, 1) := by decide +kernel
theorem dX1_canSpell_8 : decode cX1_canSpell 8 = .ok (.istore 5, 2) := by decide +kernel
theorem dX1_canSpell_10 : decode cX1_canSpell 10 = .ok (.iload 5, 2) := by decide +kernel
theorem dX1_canSpell_12 : decode cX1_canSpell 12 = .ok (.aload_n 0, 1) := by decide +kernel
theorem dX1_canSpell_13 : decode cX1_canSpell 13 = .ok (.getfield 58, 3) := by decide +kernel
theorem dX1_canSpell_16 : decode cX1_canSpell 16 = .ok (.if_icmp .ge 61, 3) := by decide +kernel
theorem dX1_canSpell_19 : decode cX1_canSpell 19 = .ok (.iload 5, 2) := by decide +kernel
theorem dX1_canSpell_21 : decode cX1_canSpell 21 = .ok (.iload_n 1, 1) := by decide +kernel
theorem dX1_canSpell_22 : decode cX1_canSpell 22 = .ok (.if_icmp .ge 12, 3) := by decide +kernel
theorem dX1_canSpell_25 : decode cX1_canSpell 25 = .ok (.iload_n 2, 1) := by decide +kernel
theorem dX1_canSpell_26 : decode cX1_canSpell 26 = .ok (.iconst 1, 1) := by decide +kernel
theorem dX1_canSpell_27 : decode cX1_canSpell 27 = .ok (.iload 5, 2) := by decide +kernel
theorem dX1_canSpell_29 : decode cX1_canSpell 29 = .ok (.ishl, 1) := by decide +kernel
theorem dX1_canSpell_30 : decode cX1_canSpell 30 = .ok (.iand, 1) := by decide +kernel
theorem dX1_canSpell_31 : decode cX1_canSpell 31 = .ok (.ifCond .eq 7, 3) := by decide +kernel
theorem dX1_canSpell_34 : decode cX1_canSpell 34 = .ok (.iconst 1, 1) := by decide +kernel
theorem dX1_canSpell_35 : decode cX1_canSpell 35 = .ok (.goto 4, 3) := by decide +kernel
theorem dX1_canSpell_38 : decode cX1_canSpell 38 = .ok (.iconst 0, 1) := by decide +kernel
theorem dX1_canSpell_39 : decode cX1_canSpell 39 = .ok (.istore 6, 2) := by decide +kernel
theorem dX1_canSpell_41 : decode cX1_canSpell 41 = .ok (.iload 6, 2) := by decide +kernel
theorem dX1_canSpell_43 : decode cX1_canSpell 43 = .ok (.ifCond .eq 28, 3) := by decide +kernel
theorem dX1_canSpell_46 : decode cX1_canSpell 46 = .ok (.aload_n 0, 1) := by decide +kernel
theorem dX1_canSpell_47 : decode cX1_canSpell 47 = .ok (.getfield 12, 3) := by decide +kernel
theorem dX1_canSpell_50 : decode cX1_canSpell 50 = .ok (.aload_n 0, 1) := by decide +kernel
theorem dX1_canSpell_51 : decode cX1_canSpell 51 = .ok (.getfield 18, 3) := by decide +kernel
theorem dX1_canSpell_54 : decode cX1_canSpell 54 = .ok (.iload 5, 2) := by decide +kernel
theorem dX1_canSpell_56 : decode cX1_canSpell 56 = .ok (.laload, 1) := by decide +kernel
theorem dX1_canSpell_57 : decode cX1_canSpell 57 = .ok (.lload_n 3, 1) := by decide +kernel
theorem dX1_canSpell_58 : decode cX1_canSpell 58 = .ok (.ldc2_w 108, 3) := by decide +kernel
theorem dX1_canSpell_61 : decode cX1_canSpell 61 = .ok (.lxor, 1) := by decide +kernel
theorem dX1_canSpell_62 : decode cX1_canSpell 62 = .ok (.land, 1) := by decide +kernel
theorem dX1_canSpell_63 : decode cX1_canSpell 63 = .ok (.invokevirtual 110, 3) := by decide +kernel
theorem dX1_canSpell_66 : decode cX1_canSpell 66 = .ok (.ifCond .ne 5, 3) := by decide +kernel
theorem dX1_canSpell_69 : decode cX1_canSpell 69 = .ok (.iconst 0, 1) := by decide +kernel
theorem dX1_canSpell_70 : decode cX1_canSpell 70 = .ok (.ireturn, 1) := by decide +kernel
theorem dX1_canSpell_71 : decode cX1_canSpell 71 = .ok (.iinc 5 1, 3) := by decide +kernel
theorem dX1_canSpell_74 : decode cX1_canSpell 74 = .ok (.goto (-64), 3) := by decide +kernel
theorem dX1_canSpell_77 : decode cX1_canSpell 77 = .ok (.iconst 1, 1) := by decide +kernel
theorem dX1_canSpell_78 : decode cX1_canSpell 78 = .ok (.ireturn, 1) := by decide +kernel
theorem dX2_init_0 : decode cX2_init 0 = .ok (.aload_n 0, 1) := by decide +kernel
theorem dX2_init_1 : decode cX2_init 1 = .ok (.invokespecial 3, 3) := by decide +kernel
theorem dX2_init_4 : decode cX2_init 4 = .ok (.aload_n 0, 1) := by decide +kernel
theorem dX2_init_5 : decode cX2_init 5 = .ok (.new 9, 3) := by decide +kernel
theorem dX2_init_8 : decode cX2_init 8 = .ok (.dup, 1) := by decide +kernel
theorem dX2_init_9 : decode cX2_init 9 = .ok (.invokespecial 11, 3) := by decide +kernel
theorem dX2_init_12 : decode cX2_init 12 = .ok (.putfield 12, 3) := by decide +kernel
theorem dX2_init_15 : decode cX2_init 15 = .ok (.aload_n 0, 1) := by decide +kernel
theorem dX2_init_16 : decode cX2_init 16 = .ok (.sipush 400, 3) := by decide +kernel
theorem dX2_init_19 : decode cX2_init 19 = .ok (.newarray .byte, 2) := by decide +kernel
theorem dX2_init_21 : decode cX2_init 21 = .ok (.putfield 18, 3) := by decide +kernel
theorem dX2_init_24 : decode cX2_init 24 = .ok (.aload_n 0, 1) := by decide +kernel
theorem dX2_init_25 : decode cX2_init 25 = .ok (.iconst (-1), 1) := by decide +kernel
theorem dX2_init_26 : decode cX2_init 26 = .ok (.putfield 22, 3) := by decide +kernel
theorem dX2_init_29 : decode cX2_init 29 = .ok (.return_, 1) := by decide +kernel
theorem dX2_read_0 : decode cX2_read 0 = .ok (.aload_n 0, 1) := by decide +kernel
theorem dX2_read_1 : decode cX2_read 1 = .ok (.iconst 0, 1) := by decide +kernel
theorem dX2_read_2 : decode cX2_read 2 = .ok (.iload_n 2, 1) := by decide +kernel
theorem dX2_read_3 : decode cX2_read 3 = .ok (.sipush 400, 3) := by decide +kernel
theorem dX2_read_6 : decode cX2_read 6 = .ok (.aload_n 1, 1) := by decide +kernel
theorem dX2_read_7 : decode cX2_read 7 = .ok (.arraylength, 1) := by decide +kernel
theorem dX2_read_8 : decode cX2_read 8 = .ok (.invokestatic 26, 3) := by decide +kernel
theorem dX2_read_11 : decode cX2_read 11 = .ok (.invokestatic 26, 3) := by decide +kernel
theorem dX2_read_14 : decode cX2_read 14 = .ok (.invokestatic 32, 3) := by decide +kernel
theorem dX2_read_17 : decode cX2_read 17 = .ok (.putfield 35, 3) := by decide +kernel
theorem dX2_read_20 : decode cX2_read 20 = .ok (.aload_n 1, 1) := by decide +kernel
theorem dX2_read_21 : decode cX2_read 21 = .ok (.iconst 0, 1) := by decide +kernel
theorem dX2_read_22 : decode cX2_read 22 = .ok (.aload_n 0, 1) := by decide +kernel
theorem dX2_read_23 : decode cX2_read 23 = .ok (.getfield 18, 3) := by decide +kernel
theorem dX2_read_26 : decode cX2_read 26 = .ok (.iconst 0, 1) := by decide +kernel
theorem dX2_read_27 : decode cX2_read 27 = .ok (.aload_n 0, 1) := by decide +kernel
theorem dX2_read_28 : decode cX2_read 28 = .ok (.getfield 35, 3) := by decide +kernel
theorem dX2_read_31 : decode cX2_read 31 = .ok (.invokestatic 38, 3) := by decide +kernel
theorem dX2_read_34 : decode cX2_read 34 = .ok (.aload_n 0, 1) := by decide +kernel
theorem dX2_read_35 : decode cX2_read 35 = .ok (.iconst 0, 1) := by decide +kernel
theorem dX2_read_36 : decode cX2_read 36 = .ok (.putfield 44, 3) := by decide +kernel
theorem dX2_read_39 : decode cX2_read 39 = .ok (.aload_n 0, 1) := by decide +kernel
theorem dX2_read_40 : decode cX2_read 40 = .ok (.iconst 0, 1) := by decide +kernel
theorem dX2_read_41 : decode cX2_read 41 = .ok (.putfield 47, 3) := by decide +kernel
theorem dX2_read_44 : decode cX2_read 44 = .ok (.aload_n 0, 1) := by decide +kernel
theorem dX2_read_45 : decode cX2_read 45 = .ok (.iconst (-1), 1) := by decide +kernel
theorem dX2_read_46 : decode cX2_read 46 = .ok (.putfield 22, 3) := by decide +kernel
theorem dX2_read_49 : decode cX2_read 49 = .ok (.aload_n 0, 1) := by decide +kernel
theorem dX2_read_50 : decode cX2_read 50 = .ok (.iconst 0, 1) := by decide +kernel
theorem dX2_read_51 : decode cX2_read 51 = .ok (.putfield 50, 3) := by decide +kernel
theorem dX2_read_54 : decode cX2_read 54 = .ok (.aload_n 0, 1) := by decide +kernel
theorem dX2_read_55 : decode cX2_read 55 = .ok (.iconst 0, 1) := by decide +kernel
theorem dX2_read_56 : decode cX2_read 56 = .ok (.putfield 54, 3) := by decide +kernel
theorem dX2_read_59 : decode cX2_read 59 = .ok (.aload_n 0, 1) := by decide +kernel
theorem dX2_read_60 : decode cX2_read 60 = .ok (.iconst 0, 1) := by decide +kernel
theorem dX2_read_61 : decode cX2_read 61 = .ok (.putfield 57, 3) := by decide +kernel
theorem dX2_read_64 : decode cX2_read 64 = .ok (.aload_n 0, 1) := by decide +kernel
theorem dX2_read_65 : decode cX2_read 65 = .ok (.iconst 0, 1) := by decide +kernel
theorem dX2_read_66 : decode cX2_read 66 = .ok (.putfield 60, 3) := by decide +kernel
theorem dX2_read_69 : decode cX2_read 69 = .ok (.aload_n 0, 1) := by decide +kernel
theorem dX2_read_70 : decode cX2_read 70 = .ok (.invokevirtual 63, 3) := by decide +kernel
theorem dX2_read_73 : decode cX2_read 73 = .ok (.iconst 0, 1) := by decide +kernel
theorem dX2_read_74 : decode cX2_read 74 = .ok (.istore_n 3, 1) := by decide +kernel
theorem dX2_read_75 : decode cX2_read 75 = .ok (.iload_n 3, 1) := by decide +kernel
theorem dX2_read_76 : decode cX2_read 76 = .ok (.iconst 4, 1) := by decide +kernel
theorem dX2_read_77 : decode cX2_read 77 = .ok (.if_icmp .gt 27, 3) := by decide +kernel
theorem dX2_read_80 : decode cX2_read 80 = .ok (.aload_n 0, 1) := by decide +kernel
theorem dX2_read_81 : decode cX2_read 81 = .ok (.getfield 47, 3) := by decide +kernel
theorem dX2_read_84 : decode cX2_read 84 = .ok (.ifCond .ne 20, 3) := by decide +kernel
theorem dX2_read_87 : decode cX2_read 87 = .ok (.aload_n 0, 1) := by decide +kernel
theorem dX2_read_88 : decode cX2_read 88 = .ok (.invokevirtual 66, 3) := by decide +kernel
theorem dX2_read_91 : decode cX2_read 91 = .ok (.ifCond .eq 13, 3) := by decide +kernel
theorem dX2_read_94 : decode cX2_read 94 = .ok (.aload_n 0, 1) := by decide +kernel
theorem dX2_read_95 : decode cX2_read 95 = .ok (.invokevirtual 70, 3) := by decide +kernel
theorem dX2_read_98 : decode cX2_read 98 = .ok (.iinc 3 1, 3) := by decide +kernel
theorem dX2_read_101 : decode cX2_read 101 = .ok (.goto (-26), 3) := by decide +kernel
theorem dX2_read_104 : decode cX2_read 104 = .ok (.aload_n 0, 1) := by decide +kernel
theorem dX2_read_105 : decode cX2_read 105 = .ok (.getfield 47, 3) := by decide +kernel
theorem dX2_read_108 : decode cX2_read 108 = .ok (.ireturn, 1) := by decide +kernel
theorem dX2_readPage_0 : decode cX2_readPage 0 = .ok (.aload_n 0, 1) := by decide +kernel
theorem dX2_readPage_1 : decode cX2_readPage 1 = .ok (.invokevirtual 73, 3) := by decide +kernel
theorem dX2_readPage_4 : decode cX2_readPage 4 = .ok (.aload_n 0, 1) := by decide +kernel
theorem dX2_readPage_5 : decode cX2_readPage 5 = .ok (.getfield 44, 3) := by decide +kernel
theorem dX2_readPage_8 : decode cX2_readPage 8 = .ok (.istore_n 1, 1) := by decide +kernel
theorem dX2_readPage_9 : decode cX2_readPage 9 = .ok (.aload_n 0, 1) := by decide +kernel
theorem dX2_readPage_10 : decode cX2_readPage 10 = .ok (.invokevirtual 76, 3) := by decide +kernel
theorem dX2_readPage_13 : decode cX2_readPage 13 = .ok (.aload_n 0, 1) := by decide +kernel
theorem dX2_readPage_14 : decode cX2_readPage 14 = .ok (.iload_n 1, 1) := by decide +kernel
theorem dX2_readPage_15 : decode cX2_readPage 15 = .ok (.ldc 79, 2) := by decide +kernel
theorem dX2_readPage_17 : decode cX2_readPage 17 = .ok (.invokevirtual 81, 3) := by decide +kernel
theorem dX2_readPage_20 : decode cX2_readPage 20 = .ok (.ifCond .ne 10, 3) := by decide +kernel
theorem dX2_readPage_23 : decode cX2_readPage 23 = .ok (.aload_n 0, 1) := by decide +kernel
theorem dX2_readPage_24 : decode cX2_readPage 24 = .ok (.bipush (-2), 2) := by decide +kernel
theorem dX2_readPage_26 : decode cX2_readPage 26 = .ok (.iload_n 1, 1) := by decide +kernel
theorem dX2_readPage_27 : decode cX2_readPage 27 = .ok (.invokevirtual 85, 3) := by decide +kernel
theorem dX2_readPage_30 : decode cX2_readPage 30 = .ok (.aload_n 0, 1) := by decide +kernel
theorem dX2_readPage_31 : decode cX2_readPage 31 = .ok (.bipush 8, 2) := by decide +kernel
theorem dX2_readPage_33 : decode cX2_readPage 33 = .ok (.invokevirtual 89, 3) := by decide +kernel
theorem dX2_readPage_36 : decode cX2_readPage 36 = .ok (.istore_n 2, 1) := by decide +kernel
theorem dX2_readPage_37 : decode cX2_readPage 37 = .ok (.aload_n 0, 1) := by decide +kernel
theorem dX2_readPage_38 : decode cX2_readPage 38 = .ok (.bipush 6, 2) := by decide +kernel
theorem dX2_readPage_40 : decode cX2_readPage 40 = .ok (.invokevirtual 89, 3) := by decide +kernel
theorem dX2_readPage_43 : decode cX2_readPage 43 = .ok (.istore_n 3, 1) := by decide +kernel
theorem dX2_readPage_44 : decode cX2_readPage 44 = .ok (.aload_n 0, 1) := by decide +kernel
theorem dX2_readPage_45 : decode cX2_readPage 45 = .ok (.invokevirtual 93, 3) := by decide +kernel
theorem dX2_readPage_48 : decode cX2_readPage 48 = .ok (.aload_n 0, 1) := by decide +kernel
theorem dX2_readPage_49 : decode cX2_readPage 49 = .ok (.getfield 47, 3) := by decide +kernel
theorem dX2_readPage_52 : decode cX2_readPage 52 = .ok (.ifCond .ne 12, 3) := by decide +kernel
theorem dX2_readPage_55 : decode cX2_readPage 55 = .ok (.aload_n 0, 1) := by decide +kernel
theorem dX2_readPage_56 : decode cX2_readPage 56 = .ok (.getfield 12, 3) := by decide +kernel
theorem dX2_readPage_59 : decode cX2_readPage 59 = .ok (.iload_n 2, 1) := by decide +kernel
theorem dX2_readPage_60 : decode cX2_readPage 60 = .ok (.iload_n 3, 1) := by decide +kernel
theorem dX2_readPage_61 : decode cX2_readPage 61 = .ok (.invokevirtual 96, 3) := by decide +kernel
theorem dX2_readPage_64 : decode cX2_readPage 64 = .ok (.return_, 1) := by decide +kernel
theorem dX2_readStatement_0 : decode cX2_readStatement 0 = .ok (.aload_n 0, 1) := by decide +kernel
theorem dX2_readStatement_1 : decode cX2_readStatement 1 = .ok (.getfield 44, 3) := by decide +kernel
theorem dX2_readStatement_4 : decode cX2_readStatement 4 = .ok (.istore_n 1, 1) := by decide +kernel
theorem dX2_readStatement_5 : decode cX2_readStatement 5 = .ok (.aload_n 0, 1) := by decide +kernel
theorem dX2_readStatement_6 : decode cX2_readStatement 6 = .ok (.invokevirtual 76, 3) := by decide +kernel
theorem dX2_readStatement_9 : decode cX2_readStatement 9 = .ok (.aload_n 0, 1) := by decide +kernel
theorem dX2_readStatement_10 : decode cX2_readStatement 10 = .ok (.iload_n 1, 1) := by decide +kernel
theorem dX2_readStatement_11 : decode cX2_readStatement 11 = .ok (.ldc 99, 2) := by decide +kernel
theorem dX2_readStatement_13 : decode cX2_readStatement 13 = .ok (.invokevirtual 81, 3) := by decide +kernel
theorem dX2_readStatement_16 : decode cX2_readStatement 16 = .ok (.ifCond .eq 23, 3) := by decide +kernel
theorem dX2_readStatement_19 : decode cX2_readStatement 19 = .ok (.aload_n 0, 1) := by decide +kernel
theorem dX2_readStatement_20 : decode cX2_readStatement 20 = .ok (.getfield 50, 3) := by decide +kernel
theorem dX2_readStatement_23 : decode cX2_readStatement 23 = .ok (.ifCond .ne 16, 3) := by decide +kernel
theorem dX2_readStatement_26 : decode cX2_readStatement 26 = .ok (.aload_n 0, 1) := by decide +kernel
theorem dX2_readStatement_27 : decode cX2_readStatement 27 = .ok (.iconst 1, 1) := by decide +kernel
theorem dX2_readStatement_28 : decode cX2_readStatement 28 = .ok (.putfield 50, 3) := by decide +kernel
theorem dX2_readStatement_31 : decode cX2_readStatement 31 = .ok (.aload_n 0, 1) := by decide +kernel
theorem dX2_readStatement_32 : decode cX2_readStatement 32 = .ok (.iconst 0, 1) := by decide +kernel
theorem dX2_readStatement_33 : decode cX2_readStatement 33 = .ok (.invokevirtual 101, 3) := by decide +kernel
theorem dX2_readStatement_36 : decode cX2_readStatement 36 = .ok (.goto 107, 3) := by decide +kernel
theorem dX2_readStatement_39 : decode cX2_readStatement 39 = .ok (.aload_n 0, 1) := by decide +kernel
theorem dX2_readStatement_40 : decode cX2_readStatement 40 = .ok (.iload_n 1, 1) := by decide +kernel
theorem dX2_readStatement_41 : decode cX2_readStatement 41 = .ok (.ldc 105, 2) := by decide +kernel
theorem dX2_readStatement_43 : decode cX2_readStatement 43 = .ok (.invokevirtual 81, 3) := by decide +kernel
theorem dX2_readStatement_46 : decode cX2_readStatement 46 = .ok (.ifCond .eq 23, 3) := by decide +kernel
theorem dX2_readStatement_49 : decode cX2_readStatement 49 = .ok (.aload_n 0, 1) := by decide +kernel
theorem dX2_readStatement_50 : decode cX2_readStatement 50 = .ok (.getfield 54, 3) := by decide +kernel
theorem dX2_readStatement_53 : decode cX2_readStatement 53 = .ok (.ifCond .ne 16, 3) := by decide +kernel
theorem dX2_readStatement_56 : decode cX2_readStatement 56 = .ok (.aload_n 0, 1) := by decide +kernel
theorem dX2_readStatement_57 : decode cX2_readStatement 57 = .ok (.iconst 1, 1) := by decide +kernel
theorem dX2_readStatement_58 : decode cX2_readStatement 58 = .ok (.putfield 54, 3) := by decide +kernel
theorem dX2_readStatement_61 : decode cX2_readStatement 61 = .ok (.aload_n 0, 1) := by decide +kernel
theorem dX2_readStatement_62 : decode cX2_readStatement 62 = .ok (.iconst 1, 1) := by decide +kernel
theorem dX2_readStatement_63 : decode cX2_readStatement 63 = .ok (.invokevirtual 101, 3) := by decide +kernel
theorem dX2_readStatement_66 : decode cX2_readStatement 66 = .ok (.goto 77, 3) := by decide +kernel
theorem dX2_readStatement_69 : decode cX2_readStatement 69 = .ok (.aload_n 0, 1) := by decide +kernel
theorem dX2_readStatement_70 : decode cX2_readStatement 70 = .ok (.iload_n 1, 1) := by decide +kernel
theorem dX2_readStatement_71 : decode cX2_readStatement 71 = .ok (.ldc 107, 2) := by decide +kernel
theorem dX2_readStatement_73 : decode cX2_readStatement 73 = .ok (.invokevirtual 81, 3) := by decide +kernel
theorem dX2_readStatement_76 : decode cX2_readStatement 76 = .ok (.ifCond .eq 22, 3) := by decide +kernel
theorem dX2_readStatement_79 : decode cX2_readStatement 79 = .ok (.aload_n 0, 1) := by decide +kernel
theorem dX2_readStatement_80 : decode cX2_readStatement 80 = .ok (.getfield 57, 3) := by decide +kernel
theorem dX2_readStatement_83 : decode cX2_readStatement 83 = .ok (.ifCond .ne 15, 3) := by decide +kernel
theorem dX2_readStatement_86 : decode cX2_readStatement 86 = .ok (.aload_n 0, 1) := by decide +kernel
theorem dX2_readStatement_87 : decode cX2_readStatement 87 = .ok (.iconst 1, 1) := by decide +kernel
theorem dX2_readStatement_88 : decode cX2_readStatement 88 = .ok (.putfield 57, 3) := by decide +kernel
theorem dX2_readStatement_91 : decode cX2_readStatement 91 = .ok (.aload_n 0, 1) := by decide +kernel
theorem dX2_readStatement_92 : decode cX2_readStatement 92 = .ok (.invokevirtual 109, 3) := by decide +kernel
theorem dX2_readStatement_95 : decode cX2_readStatement 95 = .ok (.goto 48, 3) := by decide +kernel
theorem dX2_readStatement_98 : decode cX2_readStatement 98 = .ok (.aload_n 0, 1) := by decide +kernel
theorem dX2_readStatement_99 : decode cX2_readStatement 99 = .ok (.iload_n 1, 1) := by decide +kernel
theorem dX2_readStatement_100 : decode cX2_readStatement 100 = .ok (.ldc 112, 2) := by decide +kernel
theorem dX2_readStatement_102 : decode cX2_readStatement 102 = .ok (.invokevirtual 81, 3) := by decide +kernel
theorem dX2_readStatement_105 : decode cX2_readStatement 105 = .ok (.ifCond .eq 31, 3) := by decide +kernel
theorem dX2_readStatement_108 : decode cX2_readStatement 108 = .ok (.aload_n 0, 1) := by decide +kernel
theorem dX2_readStatement_109 : decode cX2_readStatement 109 = .ok (.getfield 60, 3) := by decide +kernel
theorem dX2_readStatement_112 : decode cX2_readStatement 112 = .ok (.ifCond .ne 24, 3) := by decide +kernel
theorem dX2_readStatement_115 : decode cX2_readStatement 115 = .ok (.aload_n 0, 1) := by decide +kernel
theorem dX2_readStatement_116 : decode cX2_readStatement 116 = .ok (.iconst 1, 1) := by decide +kernel
theorem dX2_readStatement_117 : decode cX2_readStatement 117 = .ok (.putfield 60, 3) := by decide +kernel
theorem dX2_readStatement_120 : decode cX2_readStatement 120 = .ok (.aload_n 0, 1) := by decide +kernel
theorem dX2_readStatement_121 : decode cX2_readStatement 121 = .ok (.getfield 12, 3) := by decide +kernel
theorem dX2_readStatement_124 : decode cX2_readStatement 124 = .ok (.aload_n 0, 1) := by decide +kernel
theorem dX2_readStatement_125 : decode cX2_readStatement 125 = .ok (.bipush 9, 2) := by decide +kernel
theorem dX2_readStatement_127 : decode cX2_readStatement 127 = .ok (.invokevirtual 89, 3) := by decide +kernel
theorem dX2_readStatement_130 : decode cX2_readStatement 130 = .ok (.putfield 114, 3) := by decide +kernel
theorem dX2_readStatement_133 : decode cX2_readStatement 133 = .ok (.goto 10, 3) := by decide +kernel
theorem dX2_readStatement_136 : decode cX2_readStatement 136 = .ok (.aload_n 0, 1) := by decide +kernel
theorem dX2_readStatement_137 : decode cX2_readStatement 137 = .ok (.bipush (-2), 2) := by decide +kernel
theorem dX2_readStatement_139 : decode cX2_readStatement 139 = .ok (.iload_n 1, 1) := by decide +kernel
theorem dX2_readStatement_140 : decode cX2_readStatement 140 = .ok (.invokevirtual 85, 3) := by decide +kernel
theorem dX2_readStatement_143 : decode cX2_readStatement 143 = .ok (.aload_n 0, 1) := by decide +kernel
theorem dX2_readStatement_144 : decode cX2_readStatement 144 = .ok (.invokevirtual 93, 3) := by decide +kernel
theorem dX2_readStatement_147 : decode cX2_readStatement 147 = .ok (.return_, 1) := by decide +kernel
theorem dX2_readLines_0 : decode cX2_readLines 0 = .ok (.iconst 0, 1) := by decide +kernel
theorem dX2_readLines_1 : decode cX2_readLines 1 = .ok (.istore_n 2, 1) := by decide +kernel
theorem dX2_readLines_2 : decode cX2_readLines 2 = .ok (.iload_n 2, 1) := by decide +kernel
theorem dX2_readLines_3 : decode cX2_readLines 3 = .ok (.aload_n 0, 1) := by decide +kernel
theorem dX2_readLines_4 : decode cX2_readLines 4 = .ok (.getfield 12, 3) := by decide +kernel
theorem dX2_readLines_7 : decode cX2_readLines 7 = .ok (.getfield 117, 3) := by decide +kernel
theorem dX2_readLines_10 : decode cX2_readLines 10 = .ok (.if_icmp .ge 22, 3) := by decide +kernel
theorem dX2_readLines_13 : decode cX2_readLines 13 = .ok (.aload_n 0, 1) := by decide +kernel
theorem dX2_readLines_14 : decode cX2_readLines 14 = .ok (.iload_n 1, 1) := by decide +kernel
theorem dX2_readLines_15 : decode cX2_readLines 15 = .ok (.bipush 48, 2) := by decide +kernel
theorem dX2_readLines_17 : decode cX2_readLines 17 = .ok (.imul, 1) := by decide +kernel
theorem dX2_readLines_18 : decode cX2_readLines 18 = .ok (.iload_n 2, 1) := by decide +kernel
theorem dX2_readLines_19 : decode cX2_readLines 19 = .ok (.bipush 8, 2) := by decide +kernel
theorem dX2_readLines_21 : decode cX2_readLines 21 = .ok (.imul, 1) := by decide +kernel
theorem dX2_readLines_22 : decode cX2_readLines 22 = .ok (.iadd, 1) := by decide +kernel
theorem dX2_readLines_23 : decode cX2_readLines 23 = .ok (.invokevirtual 120, 3) := by decide +kernel
theorem dX2_readLines_26 : decode cX2_readLines 26 = .ok (.iinc 2 1, 3) := by decide +kernel
theorem dX2_readLines_29 : decode cX2_readLines 29 = .ok (.goto (-27), 3) := by decide +kernel
theorem dX2_readLines_32 : decode cX2_readLines 32 = .ok (.return_, 1) := by decide +kernel
theorem dX2_readLine_0 : decode cX2_readLine 0 = .ok (.aload_n 0, 1) := by decide +kernel
theorem dX2_readLine_1 : decode cX2_readLine 1 = .ok (.invokevirtual 73, 3) := by decide +kernel
theorem dX2_readLine_4 : decode cX2_readLine 4 = .ok (.aload_n 0, 1) := by decide +kernel
theorem dX2_readLine_5 : decode cX2_readLine 5 = .ok (.getfield 44, 3) := by decide +kernel
theorem dX2_readLine_8 : decode cX2_readLine 8 = .ok (.istore_n 2, 1) := by decide +kernel
theorem dX2_readLine_9 : decode cX2_readLine 9 = .ok (.aload_n 0, 1) := by decide +kernel
theorem dX2_readLine_10 : decode cX2_readLine 10 = .ok (.getfield 44, 3) := by decide +kernel
theorem dX2_readLine_13 : decode cX2_readLine 13 = .ok (.aload_n 0, 1) := by decide +kernel
theorem dX2_readLine_14 : decode cX2_readLine 14 = .ok (.getfield 35, 3) := by decide +kernel
theorem dX2_readLine_17 : decode cX2_readLine 17 = .ok (.if_icmp .ge 45, 3) := by decide +kernel
theorem dX2_readLine_20 : decode cX2_readLine 20 = .ok (.aload_n 0, 1) := by decide +kernel
theorem dX2_readLine_21 : decode cX2_readLine 21 = .ok (.getfield 18, 3) := by decide +kernel
theorem dX2_readLine_24 : decode cX2_readLine 24 = .ok (.aload_n 0, 1) := by decide +kernel
theorem dX2_readLine_25 : decode cX2_readLine 25 = .ok (.getfield 44, 3) := by decide +kernel
theorem dX2_readLine_28 : decode cX2_readLine 28 = .ok (.baload, 1) := by decide +kernel
theorem dX2_readLine_29 : decode cX2_readLine 29 = .ok (.invokestatic 123, 3) := by decide +kernel
theorem dX2_readLine_32 : decode cX2_readLine 32 = .ok (.ifCond .ne 17, 3) := by decide +kernel
theorem dX2_readLine_35 : decode cX2_readLine 35 = .ok (.aload_n 0, 1) := by decide +kernel
theorem dX2_readLine_36 : decode cX2_readLine 36 = .ok (.getfield 18, 3) := by decide +kernel
theorem dX2_readLine_39 : decode cX2_readLine 39 = .ok (.aload_n 0, 1) := by decide +kernel
theorem dX2_readLine_40 : decode cX2_readLine 40 = .ok (.getfield 44, 3) := by decide +kernel
theorem dX2_readLine_43 : decode cX2_readLine 43 = .ok (.baload, 1) := by decide +kernel
theorem dX2_readLine_44 : decode cX2_readLine 44 = .ok (.bipush 45, 2) := by decide +kernel
theorem dX2_readLine_46 : decode cX2_readLine 46 = .ok (.if_icmp .ne 16, 3) := by decide +kernel
theorem dX2_readLine_49 : decode cX2_readLine 49 = .ok (.aload_n 0, 1) := by decide +kernel
theorem dX2_readLine_50 : decode cX2_readLine 50 = .ok (.dup, 1) := by decide +kernel
theorem dX2_readLine_51 : decode cX2_readLine 51 = .ok (.getfield 44, 3) := by decide +kernel
theorem dX2_readLine_54 : decode cX2_readLine 54 = .ok (.iconst 1, 1) := by decide +kernel
theorem dX2_readLine_55 : decode cX2_readLine 55 = .ok (.iadd, 1) := by decide +kernel
theorem dX2_readLine_56 : decode cX2_readLine 56 = .ok (.putfield 44, 3) := by decide +kernel
theorem dX2_readLine_59 : decode cX2_readLine 59 = .ok (.goto (-50), 3) := by decide +kernel
theorem dX2_readLine_62 : decode cX2_readLine 62 = .ok (.aload_n 0, 1) := by decide +kernel
theorem dX2_readLine_63 : decode cX2_readLine 63 = .ok (.getfield 44, 3) := by decide +kernel
theorem dX2_readLine_66 : decode cX2_readLine 66 = .ok (.iload_n 2, 1) := by decide +kernel
theorem dX2_readLine_67 : decode cX2_readLine 67 = .ok (.if_icmp .ne 13, 3) := by decide +kernel
theorem dX2_readLine_70 : decode cX2_readLine 70 = .ok (.aload_n 0, 1) := by decide +kernel
theorem dX2_readLine_71 : decode cX2_readLine 71 = .ok (.bipush (-2), 2) := by decide +kernel
theorem dX2_readLine_73 : decode cX2_readLine 73 = .ok (.iload_n 2, 1) := by decide +kernel
theorem dX2_readLine_74 : decode cX2_readLine 74 = .ok (.invokevirtual 85, 3) := by decide +kernel
theorem dX2_readLine_77 : decode cX2_readLine 77 = .ok (.goto 26, 3) := by decide +kernel
theorem dX2_readLine_80 : decode cX2_readLine 80 = .ok (.aload_n 0, 1) := by decide +kernel
theorem dX2_readLine_81 : decode cX2_readLine 81 = .ok (.getfield 44, 3) := by decide +kernel
theorem dX2_readLine_84 : decode cX2_readLine 84 = .ok (.iload_n 2, 1) := by decide +kernel
theorem dX2_readLine_85 : decode cX2_readLine 85 = .ok (.isub, 1) := by decide +kernel
theorem dX2_readLine_86 : decode cX2_readLine 86 = .ok (.aload_n 0, 1) := by decide +kernel
theorem dX2_readLine_87 : decode cX2_readLine 87 = .ok (.getfield 12, 3) := by decide +kernel
theorem dX2_readLine_90 : decode cX2_readLine 90 = .ok (.getfield 127, 3) := by decide +kernel
theorem dX2_readLine_93 : decode cX2_readLine 93 = .ok (.if_icmp .eq 10, 3) := by decide +kernel
theorem dX2_readLine_96 : decode cX2_readLine 96 = .ok (.aload_n 0, 1) := by decide +kernel
theorem dX2_readLine_97 : decode cX2_readLine 97 = .ok (.bipush (-4), 2) := by decide +kernel
theorem dX2_readLine_99 : decode cX2_readLine 99 = .ok (.iload_n 2, 1) := by decide +kernel
theorem dX2_readLine_100 : decode cX2_readLine 100 = .ok (.invokevirtual 85, 3) := by decide +kernel
theorem dX2_readLine_103 : decode cX2_readLine 103 = .ok (.aload_n 0, 1) := by decide +kernel
theorem dX2_readLine_104 : decode cX2_readLine 104 = .ok (.getfield 47, 3) := by decide +kernel
theorem dX2_readLine_107 : decode cX2_readLine 107 = .ok (.ifCond .eq 4, 3) := by decide +kernel
theorem dX2_readLine_110 : decode cX2_readLine 110 = .ok (.return_, 1) := by decide +kernel
theorem dX2_readLine_111 : decode cX2_readLine 111 = .ok (.iconst 0, 1) := by decide +kernel
theorem dX2_readLine_112 : decode cX2_readLine 112 = .ok (.istore_n 3, 1) := by decide +kernel
theorem dX2_readLine_113 : decode cX2_readLine 113 = .ok (.iload_n 3, 1) := by decide +kernel
theorem dX2_readLine_114 : decode cX2_readLine 114 = .ok (.aload_n 0, 1) := by decide +kernel
theorem dX2_readLine_115 : decode cX2_readLine 115 = .ok (.getfield 12, 3) := by decide +kernel
theorem dX2_readLine_118 : decode cX2_readLine 118 = .ok (.getfield 127, 3) := by decide +kernel
theorem dX2_readLine_121 : decode cX2_readLine 121 = .ok (.if_icmp .ge 67, 3) := by decide +kernel
theorem dX2_readLine_124 : decode cX2_readLine 124 = .ok (.iload_n 1, 1) := by decide +kernel
theorem dX2_readLine_125 : decode cX2_readLine 125 = .ok (.iload_n 3, 1) := by decide +kernel
theorem dX2_readLine_126 : decode cX2_readLine 126 = .ok (.iadd, 1) := by decide +kernel
theorem dX2_readLine_127 : decode cX2_readLine 127 = .ok (.bipush 96, 2) := by decide +kernel
theorem dX2_readLine_129 : decode cX2_readLine 129 = .ok (.if_icmp .ge 53, 3) := by decide +kernel
theorem dX2_readLine_132 : decode cX2_readLine 132 = .ok (.iload_n 2, 1) := by decide +kernel
theorem dX2_readLine_133 : decode cX2_readLine 133 = .ok (.iload_n 3, 1) := by decide +kernel
theorem dX2_readLine_134 : decode cX2_readLine 134 = .ok (.iadd, 1) := by decide +kernel
theorem dX2_readLine_135 : decode cX2_readLine 135 = .ok (.aload_n 0, 1) := by decide +kernel
theorem dX2_readLine_136 : decode cX2_readLine 136 = .ok (.getfield 35, 3) := by decide +kernel
theorem dX2_readLine_139 : decode cX2_readLine 139 = .ok (.if_icmp .ge 43, 3) := by decide +kernel
theorem dX2_readLine_142 : decode cX2_readLine 142 = .ok (.aload_n 0, 1) := by decide +kernel
theorem dX2_readLine_143 : decode cX2_readLine 143 = .ok (.getfield 12, 3) := by decide +kernel
theorem dX2_readLine_146 : decode cX2_readLine 146 = .ok (.getfield 130, 3) := by decide +kernel
theorem dX2_readLine_149 : decode cX2_readLine 149 = .ok (.iload_n 1, 1) := by decide +kernel
theorem dX2_readLine_150 : decode cX2_readLine 150 = .ok (.iload_n 3, 1) := by decide +kernel
theorem dX2_readLine_151 : decode cX2_readLine 151 = .ok (.iadd, 1) := by decide +kernel
theorem dX2_readLine_152 : decode cX2_readLine 152 = .ok (.aload_n 0, 1) := by decide +kernel
theorem dX2_readLine_153 : decode cX2_readLine 153 = .ok (.getfield 18, 3) := by decide +kernel
theorem dX2_readLine_156 : decode cX2_readLine 156 = .ok (.iload_n 2, 1) := by decide +kernel
theorem dX2_readLine_157 : decode cX2_readLine 157 = .ok (.iload_n 3, 1) := by decide +kernel
theorem dX2_readLine_158 : decode cX2_readLine 158 = .ok (.iadd, 1) := by decide +kernel
theorem dX2_readLine_159 : decode cX2_readLine 159 = .ok (.baload, 1) := by decide +kernel
theorem dX2_readLine_160 : decode cX2_readLine 160 = .ok (.invokestatic 123, 3) := by decide +kernel
theorem dX2_readLine_163 : decode cX2_readLine 163 = .ok (.ifCond .eq 17, 3) := by decide +kernel
theorem dX2_readLine_166 : decode cX2_readLine 166 = .ok (.aload_n 0, 1) := by decide +kernel
theorem dX2_readLine_167 : decode cX2_readLine 167 = .ok (.getfield 18, 3) := by decide +kernel
theorem dX2_readLine_170 : decode cX2_readLine 170 = .ok (.iload_n 2, 1) := by decide +kernel
theorem dX2_readLine_171 : decode cX2_readLine 171 = .ok (.iload_n 3, 1) := by decide +kernel
theorem dX2_readLine_172 : decode cX2_readLine 172 = .ok (.iadd, 1) := by decide +kernel
theorem dX2_readLine_173 : decode cX2_readLine 173 = .ok (.baload, 1) := by decide +kernel
theorem dX2_readLine_174 : decode cX2_readLine 174 = .ok (.bipush 97, 2) := by decide +kernel
theorem dX2_readLine_176 : decode cX2_readLine 176 = .ok (.isub, 1) := by decide +kernel
theorem dX2_readLine_177 : decode cX2_readLine 177 = .ok (.goto 4, 3) := by decide +kernel
theorem dX2_readLine_180 : decode cX2_readLine 180 = .ok (.iconst (-1), 1) := by decide +kernel
theorem dX2_readLine_181 : decode cX2_readLine 181 = .ok (.iastore, 1) := by decide +kernel
theorem dX2_readLine_182 : decode cX2_readLine 182 = .ok (.iinc 3 1, 3) := by decide +kernel
theorem dX2_readLine_185 : decode cX2_readLine 185 = .ok (.goto (-72), 3) := by decide +kernel
theorem dX2_readLine_188 : decode cX2_readLine 188 = .ok (.return_, 1) := by decide +kernel
theorem dX2_readSizes_0 : decode cX2_readSizes 0 = .ok (.iconst 0, 1) := by decide +kernel
theorem dX2_readSizes_1 : decode cX2_readSizes 1 = .ok (.istore_n 1, 1) := by decide +kernel
theorem dX2_readSizes_2 : decode cX2_readSizes 2 = .ok (.iload_n 1, 1) := by decide +kernel
theorem dX2_readSizes_3 : decode cX2_readSizes 3 = .ok (.iconst 1, 1) := by decide +kernel
theorem dX2_readSizes_4 : decode cX2_readSizes 4 = .ok (.if_icmp .gt 54, 3) := by decide +kernel
theorem dX2_readSizes_7 : decode cX2_readSizes 7 = .ok (.iconst 0, 1) := by decide +kernel
theorem dX2_readSizes_8 : decode cX2_readSizes 8 = .ok (.istore_n 2, 1) := by decide +kernel
theorem dX2_readSizes_9 : decode cX2_readSizes 9 = .ok (.iload_n 2, 1) := by decide +kernel
theorem dX2_readSizes_10 : decode cX2_readSizes 10 = .ok (.aload_n 0, 1) := by decide +kernel
theorem dX2_readSizes_11 : decode cX2_readSizes 11 = .ok (.getfield 12, 3) := by decide +kernel
theorem dX2_readSizes_14 : decode cX2_readSizes 14 = .ok (.getfield 117, 3) := by decide +kernel
theorem dX2_readSizes_17 : decode cX2_readSizes 17 = .ok (.if_icmp .ge 35, 3) := by decide +kernel
theorem dX2_readSizes_20 : decode cX2_readSizes 20 = .ok (.iload_n 2, 1) := by decide +kernel
theorem dX2_readSizes_21 : decode cX2_readSizes 21 = .ok (.bipush 6, 2) := by decide +kernel
theorem dX2_readSizes_23 : decode cX2_readSizes 23 = .ok (.if_icmp .ge 29, 3) := by decide +kernel
theorem dX2_readSizes_26 : decode cX2_readSizes 26 = .ok (.aload_n 0, 1) := by decide +kernel
theorem dX2_readSizes_27 : decode cX2_readSizes 27 = .ok (.getfield 12, 3) := by decide +kernel
theorem dX2_readSizes_30 : decode cX2_readSizes 30 = .ok (.getfield 134, 3) := by decide +kernel
theorem dX2_readSizes_33 : decode cX2_readSizes 33 = .ok (.iload_n 1, 1) := by decide +kernel
theorem dX2_readSizes_34 : decode cX2_readSizes 34 = .ok (.bipush 6, 2) := by decide +kernel
theorem dX2_readSizes_36 : decode cX2_readSizes 36 = .ok (.imul, 1) := by decide +kernel
theorem dX2_readSizes_37 : decode cX2_readSizes 37 = .ok (.iload_n 2, 1) := by decide +kernel
theorem dX2_readSizes_38 : decode cX2_readSizes 38 = .ok (.iadd, 1) := by decide +kernel
theorem dX2_readSizes_39 : decode cX2_readSizes 39 = .ok (.aload_n 0, 1) := by decide +kernel
theorem dX2_readSizes_40 : decode cX2_readSizes 40 = .ok (.bipush 9, 2) := by decide +kernel
theorem dX2_readSizes_42 : decode cX2_readSizes 42 = .ok (.invokevirtual 89, 3) := by decide +kernel
theorem dX2_readSizes_45 : decode cX2_readSizes 45 = .ok (.iastore, 1) := by decide +kernel
theorem dX2_readSizes_46 : decode cX2_readSizes 46 = .ok (.iinc 2 1, 3) := by decide +kernel
theorem dX2_readSizes_49 : decode cX2_readSizes 49 = .ok (.goto (-40), 3) := by decide +kernel
theorem dX2_readSizes_52 : decode cX2_readSizes 52 = .ok (.iinc 1 1, 3) := by decide +kernel
theorem dX2_readSizes_55 : decode cX2_readSizes 55 = .ok (.goto (-53), 3) := by decide +kernel
theorem dX2_readSizes_58 : decode cX2_readSizes 58 = .ok (.return_, 1) := by decide +kernel
theorem dX2_readNumber_0 : decode cX2_readNumber 0 = .ok (.aload_n 0, 1) := by decide +kernel
theorem dX2_readNumber_1 : decode cX2_readNumber 1 = .ok (.invokevirtual 73, 3) := by decide +kernel
theorem dX2_readNumber_4 : decode cX2_readNumber 4 = .ok (.aload_n 0, 1) := by decide +kernel
theorem dX2_readNumber_5 : decode cX2_readNumber 5 = .ok (.getfield 44, 3) := by decide +kernel
theorem dX2_readNumber_8 : decode cX2_readNumber 8 = .ok (.istore_n 2, 1) := by decide +kernel
theorem dX2_readNumber_9 : decode cX2_readNumber 9 = .ok (.iconst 0, 1) := by decide +kernel
theorem dX2_readNumber_10 : decode cX2_readNumber 10 = .ok (.istore_n 3, 1) := by decide +kernel
theorem dX2_readNumber_11 : decode cX2_readNumber 11 = .ok (.aload_n 0, 1) := by decide +kernel
theorem dX2_readNumber_12 : decode cX2_readNumber 12 = .ok (.getfield 44, 3) := by decide +kernel
theorem dX2_readNumber_15 : decode cX2_readNumber 15 = .ok (.aload_n 0, 1) := by decide +kernel
theorem dX2_readNumber_16 : decode cX2_readNumber 16 = .ok (.getfield 35, 3) := by decide +kernel
theorem dX2_readNumber_19 : decode cX2_readNumber 19 = .ok (.if_icmp .ge 68, 3) := by decide +kernel
theorem dX2_readNumber_22 : decode cX2_readNumber 22 = .ok (.aload_n 0, 1) := by decide +kernel
theorem dX2_readNumber_23 : decode cX2_readNumber 23 = .ok (.getfield 18, 3) := by decide +kernel
theorem dX2_readNumber_26 : decode cX2_readNumber 26 = .ok (.aload_n 0, 1) := by decide +kernel
theorem dX2_readNumber_27 : decode cX2_readNumber 27 = .ok (.getfield 44, 3) := by decide +kernel
theorem dX2_readNumber_30 : decode cX2_readNumber 30 = .ok (.baload, 1) := by decide +kernel
theorem dX2_readNumber_31 : decode cX2_readNumber 31 = .ok (.bipush 48, 2) := by decide +kernel
theorem dX2_readNumber_33 : decode cX2_readNumber 33 = .ok (.if_icmp .lt 54, 3) := by decide +kernel
theorem dX2_readNumber_36 : decode cX2_readNumber 36 = .ok (.aload_n 0, 1) := by decide +kernel
theorem dX2_readNumber_37 : decode cX2_readNumber 37 = .ok (.getfield 18, 3) := by decide +kernel
theorem dX2_readNumber_40 : decode cX2_readNumber 40 = .ok (.aload_n 0, 1) := by decide +kernel
theorem dX2_readNumber_41 : decode cX2_readNumber 41 = .ok (.getfield 44, 3) := by decide +kernel
theorem dX2_readNumber_44 : decode cX2_readNumber 44 = .ok (.baload, 1) := by decide +kernel
theorem dX2_readNumber_45 : decode cX2_readNumber 45 = .ok (.bipush 57, 2) := by decide +kernel
theorem dX2_readNumber_47 : decode cX2_readNumber 47 = .ok (.if_icmp .gt 40, 3) := by decide +kernel
theorem dX2_readNumber_50 : decode cX2_readNumber 50 = .ok (.sipush 1000, 3) := by decide +kernel
theorem dX2_readNumber_53 : decode cX2_readNumber 53 = .ok (.iload_n 3, 1) := by decide +kernel
theorem dX2_readNumber_54 : decode cX2_readNumber 54 = .ok (.bipush 10, 2) := by decide +kernel
theorem dX2_readNumber_56 : decode cX2_readNumber 56 = .ok (.imul, 1) := by decide +kernel
theorem dX2_readNumber_57 : decode cX2_readNumber 57 = .ok (.aload_n 0, 1) := by decide +kernel
theorem dX2_readNumber_58 : decode cX2_readNumber 58 = .ok (.getfield 18, 3) := by decide +kernel
theorem dX2_readNumber_61 : decode cX2_readNumber 61 = .ok (.aload_n 0, 1) := by decide +kernel
theorem dX2_readNumber_62 : decode cX2_readNumber 62 = .ok (.getfield 44, 3) := by decide +kernel
theorem dX2_readNumber_65 : decode cX2_readNumber 65 = .ok (.baload, 1) := by decide +kernel
theorem dX2_readNumber_66 : decode cX2_readNumber 66 = .ok (.iadd, 1) := by decide +kernel
theorem dX2_readNumber_67 : decode cX2_readNumber 67 = .ok (.bipush 48, 2) := by decide +kernel
theorem dX2_readNumber_69 : decode cX2_readNumber 69 = .ok (.isub, 1) := by decide +kernel
theorem dX2_readNumber_70 : decode cX2_readNumber 70 = .ok (.invokestatic 26, 3) := by decide +kernel
theorem dX2_readNumber_73 : decode cX2_readNumber 73 = .ok (.istore_n 3, 1) := by decide +kernel
theorem dX2_readNumber_74 : decode cX2_readNumber 74 = .ok (.aload_n 0, 1) := by decide +kernel
theorem dX2_readNumber_75 : decode cX2_readNumber 75 = .ok (.dup, 1) := by decide +kernel
theorem dX2_readNumber_76 : decode cX2_readNumber 76 = .ok (.getfield 44, 3) := by decide +kernel
theorem dX2_readNumber_79 : decode cX2_readNumber 79 = .ok (.iconst 1, 1) := by decide +kernel
theorem dX2_readNumber_80 : decode cX2_readNumber 80 = .ok (.iadd, 1) := by decide +kernel
theorem dX2_readNumber_81 : decode cX2_readNumber 81 = .ok (.putfield 44, 3) := by decide +kernel
theorem dX2_readNumber_84 : decode cX2_readNumber 84 = .ok (.goto (-73), 3) := by decide +kernel
theorem dX2_readNumber_87 : decode cX2_readNumber 87 = .ok (.aload_n 0, 1) := by decide +kernel
theorem dX2_readNumber_88 : decode cX2_readNumber 88 = .ok (.getfield 44, 3) := by decide +kernel
theorem dX2_readNumber_91 : decode cX2_readNumber 91 = .ok (.iload_n 2, 1) := by decide +kernel
theorem dX2_readNumber_92 : decode cX2_readNumber 92 = .ok (.if_icmp .ne 13, 3) := by decide +kernel
theorem dX2_readNumber_95 : decode cX2_readNumber 95 = .ok (.aload_n 0, 1) := by decide +kernel
theorem dX2_readNumber_96 : decode cX2_readNumber 96 = .ok (.bipush (-2), 2) := by decide +kernel
theorem dX2_readNumber_98 : decode cX2_readNumber 98 = .ok (.iload_n 2, 1) := by decide +kernel
theorem dX2_readNumber_99 : decode cX2_readNumber 99 = .ok (.invokevirtual 85, 3) := by decide +kernel
theorem dX2_readNumber_102 : decode cX2_readNumber 102 = .ok (.goto 20, 3) := by decide +kernel
theorem dX2_readNumber_105 : decode cX2_readNumber 105 = .ok (.iload_n 3, 1) := by decide +kernel
theorem dX2_readNumber_106 : decode cX2_readNumber 106 = .ok (.iconst 1, 1) := by decide +kernel
theorem dX2_readNumber_107 : decode cX2_readNumber 107 = .ok (.if_icmp .lt 8, 3) := by decide +kernel
theorem dX2_readNumber_110 : decode cX2_readNumber 110 = .ok (.iload_n 3, 1) := by decide +kernel
theorem dX2_readNumber_111 : decode cX2_readNumber 111 = .ok (.iload_n 1, 1) := by decide +kernel
theorem dX2_readNumber_112 : decode cX2_readNumber 112 = .ok (.if_icmp .le 10, 3) := by decide +kernel
theorem dX2_readNumber_115 : decode cX2_readNumber 115 = .ok (.aload_n 0, 1) := by decide +kernel
theorem dX2_readNumber_116 : decode cX2_readNumber 116 = .ok (.bipush (-3), 2) := by decide +kernel
theorem dX2_readNumber_118 : decode cX2_readNumber 118 = .ok (.iload_n 2, 1) := by decide +kernel
theorem dX2_readNumber_119 : decode cX2_readNumber 119 = .ok (.invokevirtual 85, 3) := by decide +kernel
theorem dX2_readNumber_122 : decode cX2_readNumber 122 = .ok (.iload_n 3, 1) := by decide +kernel
theorem dX2_readNumber_123 : decode cX2_readNumber 123 = .ok (.ireturn, 1) := by decide +kernel
theorem dX2_readSemicolon_0 : decode cX2_readSemicolon 0 = .ok (.aload_n 0, 1) := by decide +kernel
theorem dX2_readSemicolon_1 : decode cX2_readSemicolon 1 = .ok (.invokevirtual 73, 3) := by decide +kernel
theorem dX2_readSemicolon_4 : decode cX2_readSemicolon 4 = .ok (.aload_n 0, 1) := by decide +kernel
theorem dX2_readSemicolon_5 : decode cX2_readSemicolon 5 = .ok (.getfield 44, 3) := by decide +kernel
theorem dX2_readSemicolon_8 : decode cX2_readSemicolon 8 = .ok (.aload_n 0, 1) := by decide +kernel
theorem dX2_readSemicolon_9 : decode cX2_readSemicolon 9 = .ok (.getfield 35, 3) := by decide +kernel
theorem dX2_readSemicolon_12 : decode cX2_readSemicolon 12 = .ok (.if_icmp .ge 30, 3) := by decide +kernel
theorem dX2_readSemicolon_15 : decode cX2_readSemicolon 15 = .ok (.aload_n 0, 1) := by decide +kernel
theorem dX2_readSemicolon_16 : decode cX2_readSemicolon 16 = .ok (.getfield 18, 3) := by decide +kernel
theorem dX2_readSemicolon_19 : decode cX2_readSemicolon 19 = .ok (.aload_n 0, 1) := by decide +kernel
theorem dX2_readSemicolon_20 : decode cX2_readSemicolon 20 = .ok (.getfield 44, 3) := by decide +kernel
theorem dX2_readSemicolon_23 : decode cX2_readSemicolon 23 = .ok (.baload, 1) := by decide +kernel
theorem dX2_readSemicolon_24 : decode cX2_readSemicolon 24 = .ok (.bipush 59, 2) := by decide +kernel
theorem dX2_readSemicolon_26 : decode cX2_readSemicolon 26 = .ok (.if_icmp .ne 16, 3) := by decide +kernel
theorem dX2_readSemicolon_29 : decode cX2_readSemicolon 29 = .ok (.aload_n 0, 1) := by decide +kernel
theorem dX2_readSemicolon_30 : decode cX2_readSemicolon 30 = .ok (.dup, 1) := by decide +kernel
theorem dX2_readSemicolon_31 : decode cX2_readSemicolon 31 = .ok (.getfield 44, 3) := by decide +kernel
theorem dX2_readSemicolon_34 : decode cX2_readSemicolon 34 = .ok (.iconst 1, 1) := by decide +kernel
theorem dX2_readSemicolon_35 : decode cX2_readSemicolon 35 = .ok (.iadd, 1) := by decide +kernel
theorem dX2_readSemicolon_36 : decode cX2_readSemicolon 36 = .ok (.putfield 44, 3) := by decide +kernel
theorem dX2_readSemicolon_39 : decode cX2_readSemicolon 39 = .ok (.goto 13, 3) := by decide +kernel
theorem dX2_readSemicolon_42 : decode cX2_readSemicolon 42 = .ok (.aload_n 0, 1) := by decide +kernel
theorem dX2_readSemicolon_43 : decode cX2_readSemicolon 43 = .ok (.bipush (-2), 2) := by decide +kernel
theorem dX2_readSemicolon_45 : decode cX2_readSemicolon 45 = .ok (.aload_n 0, 1) := by decide +kernel
theorem dX2_readSemicolon_46 : decode cX2_readSemicolon 46 = .ok (.getfield 44, 3) := by decide +kernel
theorem dX2_readSemicolon_49 : decode cX2_readSemicolon 49 = .ok (.invokevirtual 85, 3) := by decide +kernel
theorem dX2_readSemicolon_52 : decode cX2_readSemicolon 52 = .ok (.return_, 1) := by decide +kernel
theorem dX2_skipSpaces_0 : decode cX2_skipSpaces 0 = .ok (.aload_n 0, 1) := by decide +kernel
theorem dX2_skipSpaces_1 : decode cX2_skipSpaces 1 = .ok (.getfield 44, 3) := by decide +kernel
theorem dX2_skipSpaces_4 : decode cX2_skipSpaces 4 = .ok (.aload_n 0, 1) := by decide +kernel
theorem dX2_skipSpaces_5 : decode cX2_skipSpaces 5 = .ok (.getfield 35, 3) := by decide +kernel
theorem dX2_skipSpaces_8 : decode cX2_skipSpaces 8 = .ok (.if_icmp .ge 30, 3) := by decide +kernel
theorem dX2_skipSpaces_11 : decode cX2_skipSpaces 11 = .ok (.aload_n 0, 1) := by decide +kernel
theorem dX2_skipSpaces_12 : decode cX2_skipSpaces 12 = .ok (.getfield 18, 3) := by decide +kernel
theorem dX2_skipSpaces_15 : decode cX2_skipSpaces 15 = .ok (.aload_n 0, 1) := by decide +kernel
theorem dX2_skipSpaces_16 : decode cX2_skipSpaces 16 = .ok (.getfield 44, 3) := by decide +kernel
theorem dX2_skipSpaces_19 : decode cX2_skipSpaces 19 = .ok (.baload, 1) := by decide +kernel
theorem dX2_skipSpaces_20 : decode cX2_skipSpaces 20 = .ok (.bipush 32, 2) := by decide +kernel
theorem dX2_skipSpaces_22 : decode cX2_skipSpaces 22 = .ok (.if_icmp .ne 16, 3) := by decide +kernel
theorem dX2_skipSpaces_25 : decode cX2_skipSpaces 25 = .ok (.aload_n 0, 1) := by decide +kernel
theorem dX2_skipSpaces_26 : decode cX2_skipSpaces 26 = .ok (.dup, 1) := by decide +kernel
theorem dX2_skipSpaces_27 : decode cX2_skipSpaces 27 = .ok (.getfield 44, 3) := by decide +kernel
theorem dX2_skipSpaces_30 : decode cX2_skipSpaces 30 = .ok (.iconst 1, 1) := by decide +kernel
theorem dX2_skipSpaces_31 : decode cX2_skipSpaces 31 = .ok (.iadd, 1) := by decide +kernel
theorem dX2_skipSpaces_32 : decode cX2_skipSpaces 32 = .ok (.putfield 44, 3) := by decide +kernel
theorem dX2_skipSpaces_35 : decode cX2_skipSpaces 35 = .ok (.goto (-35), 3) := by decide +kernel
theorem dX2_skipSpaces_38 : decode cX2_skipSpaces 38 = .ok (.return_, 1) := by decide +kernel
theorem dX2_hasMore_0 : decode cX2_hasMore 0 = .ok (.aload_n 0, 1) := by decide +kernel
theorem dX2_hasMore_1 : decode cX2_hasMore 1 = .ok (.invokevirtual 73, 3) := by decide +kernel
theorem dX2_hasMore_4 : decode cX2_hasMore 4 = .ok (.aload_n 0, 1) := by decide +kernel
theorem dX2_hasMore_5 : decode cX2_hasMore 5 = .ok (.getfield 44, 3) := by decide +kernel
theorem dX2_hasMore_8 : decode cX2_hasMore 8 = .ok (.aload_n 0, 1) := by decide +kernel
theorem dX2_hasMore_9 : decode cX2_hasMore 9 = .ok (.getfield 35, 3) := by decide +kernel
theorem dX2_hasMore_12 : decode cX2_hasMore 12 = .ok (.if_icmp .ge 7, 3) := by decide +kernel
theorem dX2_hasMore_15 : decode cX2_hasMore 15 = .ok (.iconst 1, 1) := by decide +kernel
theorem dX2_hasMore_16 : decode cX2_hasMore 16 = .ok (.goto 4, 3) := by decide +kernel
theorem dX2_hasMore_19 : decode cX2_hasMore 19 = .ok (.iconst 0, 1) := by decide +kernel
theorem dX2_hasMore_20 : decode cX2_hasMore 20 = .ok (.ireturn, 1) := by decide +kernel
theorem dX2_skipWord_0 : decode cX2_skipWord 0 = .ok (.aload_n 0, 1) := by decide +kernel
theorem dX2_skipWord_1 : decode cX2_skipWord 1 = .ok (.getfield 44, 3) := by decide +kernel
theorem dX2_skipWord_4 : decode cX2_skipWord 4 = .ok (.aload_n 0, 1) := by decide +kernel
theorem dX2_skipWord_5 : decode cX2_skipWord 5 = .ok (.getfield 35, 3) := by decide +kernel
theorem dX2_skipWord_8 : decode cX2_skipWord 8 = .ok (.if_icmp .ge 31, 3) := by decide +kernel
theorem dX2_skipWord_11 : decode cX2_skipWord 11 = .ok (.aload_n 0, 1) := by decide +kernel
theorem dX2_skipWord_12 : decode cX2_skipWord 12 = .ok (.getfield 18, 3) := by decide +kernel
theorem dX2_skipWord_15 : decode cX2_skipWord 15 = .ok (.aload_n 0, 1) := by decide +kernel
theorem dX2_skipWord_16 : decode cX2_skipWord 16 = .ok (.getfield 44, 3) := by decide +kernel
theorem dX2_skipWord_19 : decode cX2_skipWord 19 = .ok (.baload, 1) := by decide +kernel
theorem dX2_skipWord_20 : decode cX2_skipWord 20 = .ok (.invokestatic 123, 3) := by decide +kernel
theorem dX2_skipWord_23 : decode cX2_skipWord 23 = .ok (.ifCond .eq 16, 3) := by decide +kernel
theorem dX2_skipWord_26 : decode cX2_skipWord 26 = .ok (.aload_n 0, 1) := by decide +kernel
theorem dX2_skipWord_27 : decode cX2_skipWord 27 = .ok (.dup, 1) := by decide +kernel
theorem dX2_skipWord_28 : decode cX2_skipWord 28 = .ok (.getfield 44, 3) := by decide +kernel
theorem dX2_skipWord_31 : decode cX2_skipWord 31 = .ok (.iconst 1, 1) := by decide +kernel
theorem dX2_skipWord_32 : decode cX2_skipWord 32 = .ok (.iadd, 1) := by decide +kernel
theorem dX2_skipWord_33 : decode cX2_skipWord 33 = .ok (.putfield 44, 3) := by decide +kernel
theorem dX2_skipWord_36 : decode cX2_skipWord 36 = .ok (.goto (-36), 3) := by decide +kernel
theorem dX2_skipWord_39 : decode cX2_skipWord 39 = .ok (.return_, 1) := by decide +kernel
theorem dX2_isWord_0 : decode cX2_isWord 0 = .ok (.iload_n 1, 1) := by decide +kernel
theorem dX2_isWord_1 : decode cX2_isWord 1 = .ok (.ifCond .lt 16, 3) := by decide +kernel
theorem dX2_isWord_4 : decode cX2_isWord 4 = .ok (.aload_n 0, 1) := by decide +kernel
theorem dX2_isWord_5 : decode cX2_isWord 5 = .ok (.getfield 44, 3) := by decide +kernel
theorem dX2_isWord_8 : decode cX2_isWord 8 = .ok (.iload_n 1, 1) := by decide +kernel
theorem dX2_isWord_9 : decode cX2_isWord 9 = .ok (.isub, 1) := by decide +kernel
theorem dX2_isWord_10 : decode cX2_isWord 10 = .ok (.aload_n 2, 1) := by decide +kernel
theorem dX2_isWord_11 : decode cX2_isWord 11 = .ok (.invokevirtual 136, 3) := by decide +kernel
theorem dX2_isWord_14 : decode cX2_isWord 14 = .ok (.if_icmp .eq 5, 3) := by decide +kernel
theorem dX2_isWord_17 : decode cX2_isWord 17 = .ok (.iconst 0, 1) := by decide +kernel
theorem dX2_isWord_18 : decode cX2_isWord 18 = .ok (.ireturn, 1) := by decide +kernel
theorem dX2_isWord_19 : decode cX2_isWord 19 = .ok (.iconst 0, 1) := by decide +kernel
theorem dX2_isWord_20 : decode cX2_isWord 20 = .ok (.istore_n 3, 1) := by decide +kernel
theorem dX2_isWord_21 : decode cX2_isWord 21 = .ok (.iload_n 3, 1) := by decide +kernel
theorem dX2_isWord_22 : decode cX2_isWord 22 = .ok (.aload_n 2, 1) := by decide +kernel
theorem dX2_isWord_23 : decode cX2_isWord 23 = .ok (.invokevirtual 136, 3) := by decide +kernel
theorem dX2_isWord_26 : decode cX2_isWord 26 = .ok (.if_icmp .ge 37, 3) := by decide +kernel
theorem dX2_isWord_29 : decode cX2_isWord 29 = .ok (.iload_n 1, 1) := by decide +kernel
theorem dX2_isWord_30 : decode cX2_isWord 30 = .ok (.iload_n 3, 1) := by decide +kernel
theorem dX2_isWord_31 : decode cX2_isWord 31 = .ok (.iadd, 1) := by decide +kernel
theorem dX2_isWord_32 : decode cX2_isWord 32 = .ok (.aload_n 0, 1) := by decide +kernel
theorem dX2_isWord_33 : decode cX2_isWord 33 = .ok (.getfield 35, 3) := by decide +kernel
theorem dX2_isWord_36 : decode cX2_isWord 36 = .ok (.if_icmp .ge 27, 3) := by decide +kernel
theorem dX2_isWord_39 : decode cX2_isWord 39 = .ok (.aload_n 0, 1) := by decide +kernel
theorem dX2_isWord_40 : decode cX2_isWord 40 = .ok (.getfield 18, 3) := by decide +kernel
theorem dX2_isWord_43 : decode cX2_isWord 43 = .ok (.iload_n 1, 1) := by decide +kernel
theorem dX2_isWord_44 : decode cX2_isWord 44 = .ok (.iload_n 3, 1) := by decide +kernel
theorem dX2_isWord_45 : decode cX2_isWord 45 = .ok (.iadd, 1) := by decide +kernel
theorem dX2_isWord_46 : decode cX2_isWord 46 = .ok (.baload, 1) := by decide +kernel
theorem dX2_isWord_47 : decode cX2_isWord 47 = .ok (.aload_n 2, 1) := by decide +kernel
theorem dX2_isWord_48 : decode cX2_isWord 48 = .ok (.iload_n 3, 1) := by decide +kernel
theorem dX2_isWord_49 : decode cX2_isWord 49 = .ok (.invokevirtual 141, 3) := by decide +kernel
theorem dX2_isWord_52 : decode cX2_isWord 52 = .ok (.if_icmp .eq 5, 3) := by decide +kernel
theorem dX2_isWord_55 : decode cX2_isWord 55 = .ok (.iconst 0, 1) := by decide +kernel
theorem dX2_isWord_56 : decode cX2_isWord 56 = .ok (.ireturn, 1) := by decide +kernel
theorem dX2_isWord_57 : decode cX2_isWord 57 = .ok (.iinc 3 1, 3) := by decide +kernel
theorem dX2_isWord_60 : decode cX2_isWord 60 = .ok (.goto (-39), 3) := by decide +kernel
theorem dX2_isWord_63 : decode cX2_isWord 63 = .ok (.iconst 1, 1) := by decide +kernel
theorem dX2_isWord_64 : decode cX2_isWord 64 = .ok (.ireturn, 1) := by decide +kernel
theorem dX2_fail_0 : decode cX2_fail 0 = .ok (.aload_n 0, 1) := by decide +kernel
theorem dX2_fail_1 : decode cX2_fail 1 = .ok (.getfield 47, 3) := by decide +kernel
theorem dX2_fail_4 : decode cX2_fail 4 = .ok (.ifCond .ne 13, 3) := by decide +kernel
theorem dX2_fail_7 : decode cX2_fail 7 = .ok (.aload_n 0, 1) := by decide +kernel
theorem dX2_fail_8 : decode cX2_fail 8 = .ok (.iload_n 1, 1) := by decide +kernel
theorem dX2_fail_9 : decode cX2_fail 9 = .ok (.putfield 47, 3) := by decide +kernel
theorem dX2_fail_12 : decode cX2_fail 12 = .ok (.aload_n 0, 1) := by decide +kernel
theorem dX2_fail_13 : decode cX2_fail 13 = .ok (.iload_n 2, 1) := by decide +kernel
theorem dX2_fail_14 : decode cX2_fail 14 = .ok (.putfield 22, 3) := by decide +kernel
theorem dX2_fail_17 : decode cX2_fail 17 = .ok (.return_, 1) := by decide +kernel
theorem dX3_init_0 : decode cX3_init 0 = .ok (.aload_n 0, 1) := by decide +kernel
theorem dX3_init_1 : decode cX3_init 1 = .ok (.invokespecial 3, 3) := by decide +kernel
theorem dX3_init_4 : decode cX3_init 4 = .ok (.aload_n 0, 1) := by decide +kernel
theorem dX3_init_5 : decode cX3_init 5 = .ok (.bipush 96, 2) := by decide +kernel
theorem dX3_init_7 : decode cX3_init 7 = .ok (.newarray .int, 2) := by decide +kernel
theorem dX3_init_9 : decode cX3_init 9 = .ok (.putfield 9, 3) := by decide +kernel
theorem dX3_init_12 : decode cX3_init 12 = .ok (.aload_n 0, 1) := by decide +kernel
theorem dX3_init_13 : decode cX3_init 13 = .ok (.bipush 12, 2) := by decide +kernel
theorem dX3_init_15 : decode cX3_init 15 = .ok (.newarray .int, 2) := by decide +kernel
theorem dX3_init_17 : decode cX3_init 17 = .ok (.putfield 15, 3) := by decide +kernel
theorem dX3_init_20 : decode cX3_init 20 = .ok (.aload_n 0, 1) := by decide +kernel
theorem dX3_init_21 : decode cX3_init 21 = .ok (.bipush 24, 2) := by decide +kernel
theorem dX3_init_23 : decode cX3_init 23 = .ok (.newarray .int, 2) := by decide +kernel
theorem dX3_init_25 : decode cX3_init 25 = .ok (.putfield 18, 3) := by decide +kernel
theorem dX3_init_28 : decode cX3_init 28 = .ok (.aload_n 0, 1) := by decide +kernel
theorem dX3_init_29 : decode cX3_init 29 = .ok (.iconst 1, 1) := by decide +kernel
theorem dX3_init_30 : decode cX3_init 30 = .ok (.iconst 1, 1) := by decide +kernel
theorem dX3_init_31 : decode cX3_init 31 = .ok (.invokevirtual 21, 3) := by decide +kernel
theorem dX3_init_34 : decode cX3_init 34 = .ok (.return_, 1) := by decide +kernel
theorem dX3_startAnew_0 : decode cX3_startAnew 0 = .ok (.aload_n 0, 1) := by decide +kernel
theorem dX3_startAnew_1 : decode cX3_startAnew 1 = .ok (.iload_n 1, 1) := by decide +kernel
theorem dX3_startAnew_2 : decode cX3_startAnew 2 = .ok (.putfield 25, 3) := by decide +kernel
theorem dX3_startAnew_5 : decode cX3_startAnew 5 = .ok (.aload_n 0, 1) := by decide +kernel
theorem dX3_startAnew_6 : decode cX3_startAnew 6 = .ok (.iload_n 2, 1) := by decide +kernel
theorem dX3_startAnew_7 : decode cX3_startAnew 7 = .ok (.putfield 29, 3) := by decide +kernel
theorem dX3_startAnew_10 : decode cX3_startAnew 10 = .ok (.aload_n 0, 1) := by decide +kernel
theorem dX3_startAnew_11 : decode cX3_startAnew 11 = .ok (.iconst 1, 1) := by decide +kernel
theorem dX3_startAnew_12 : decode cX3_startAnew 12 = .ok (.putfield 32, 3) := by decide +kernel
theorem dX3_startAnew_15 : decode cX3_startAnew 15 = .ok (.aload_n 0, 1) := by decide +kernel
theorem dX3_startAnew_16 : decode cX3_startAnew 16 = .ok (.getfield 9, 3) := by decide +kernel
theorem dX3_startAnew_19 : decode cX3_startAnew 19 = .ok (.iconst (-1), 1) := by decide +kernel
theorem dX3_startAnew_20 : decode cX3_startAnew 20 = .ok (.invokestatic 35, 3) := by decide +kernel
theorem dX3_startAnew_23 : decode cX3_startAnew 23 = .ok (.aload_n 0, 1) := by decide +kernel
theorem dX3_startAnew_24 : decode cX3_startAnew 24 = .ok (.getfield 15, 3) := by decide +kernel
theorem dX3_startAnew_27 : decode cX3_startAnew 27 = .ok (.iconst 1, 1) := by decide +kernel
theorem dX3_startAnew_28 : decode cX3_startAnew 28 = .ok (.invokestatic 35, 3) := by decide +kernel
theorem dX3_startAnew_31 : decode cX3_startAnew 31 = .ok (.aload_n 0, 1) := by decide +kernel
theorem dX3_startAnew_32 : decode cX3_startAnew 32 = .ok (.lconst 0, 1) := by decide +kernel
theorem dX3_startAnew_33 : decode cX3_startAnew 33 = .ok (.putfield 41, 3) := by decide +kernel
theorem dX3_startAnew_36 : decode cX3_startAnew 36 = .ok (.aload_n 0, 1) := by decide +kernel
theorem dX3_startAnew_37 : decode cX3_startAnew 37 = .ok (.iconst 0, 1) := by decide +kernel
theorem dX3_startAnew_38 : decode cX3_startAnew 38 = .ok (.putfield 45, 3) := by decide +kernel
theorem dX3_startAnew_41 : decode cX3_startAnew 41 = .ok (.aload_n 0, 1) := by decide +kernel
theorem dX3_startAnew_42 : decode cX3_startAnew 42 = .ok (.iconst 0, 1) := by decide +kernel
theorem dX3_startAnew_43 : decode cX3_startAnew 43 = .ok (.putfield 48, 3) := by decide +kernel
theorem dX3_startAnew_46 : decode cX3_startAnew 46 = .ok (.aload_n 0, 1) := by decide +kernel
theorem dX3_startAnew_47 : decode cX3_startAnew 47 = .ok (.iconst 0, 1) := by decide +kernel
theorem dX3_startAnew_48 : decode cX3_startAnew 48 = .ok (.putfield 51, 3) := by decide +kernel
theorem dX3_startAnew_51 : decode cX3_startAnew 51 = .ok (.return_, 1) := by decide +kernel
theorem dX3_copyFrom_0 : decode cX3_copyFrom 0 = .ok (.aload_n 0, 1) := by decide +kernel
theorem dX3_copyFrom_1 : decode cX3_copyFrom 1 = .ok (.aload_n 1, 1) := by decide +kernel
theorem dX3_copyFrom_2 : decode cX3_copyFrom 2 = .ok (.getfield 25, 3) := by decide +kernel
theorem dX3_copyFrom_5 : decode cX3_copyFrom 5 = .ok (.putfield 25, 3) := by decide +kernel
theorem dX3_copyFrom_8 : decode cX3_copyFrom 8 = .ok (.aload_n 0, 1) := by decide +kernel
theorem dX3_copyFrom_9 : decode cX3_copyFrom 9 = .ok (.aload_n 1, 1) := by decide +kernel
theorem dX3_copyFrom_10 : decode cX3_copyFrom 10 = .ok (.getfield 29, 3) := by decide +kernel
theorem dX3_copyFrom_13 : decode cX3_copyFrom 13 = .ok (.putfield 29, 3) := by decide +kernel
theorem dX3_copyFrom_16 : decode cX3_copyFrom 16 = .ok (.aload_n 0, 1) := by decide +kernel
theorem dX3_copyFrom_17 : decode cX3_copyFrom 17 = .ok (.aload_n 1, 1) := by decide +kernel
theorem dX3_copyFrom_18 : decode cX3_copyFrom 18 = .ok (.getfield 32, 3) := by decide +kernel
theorem dX3_copyFrom_21 : decode cX3_copyFrom 21 = .ok (.putfield 32, 3) := by decide +kernel
theorem dX3_copyFrom_24 : decode cX3_copyFrom 24 = .ok (.aload_n 1, 1) := by decide +kernel
theorem dX3_copyFrom_25 : decode cX3_copyFrom 25 = .ok (.getfield 9, 3) := by decide +kernel
theorem dX3_copyFrom_28 : decode cX3_copyFrom 28 = .ok (.iconst 0, 1) := by decide +kernel
theorem dX3_copyFrom_29 : decode cX3_copyFrom 29 = .ok (.aload_n 0, 1) := by decide +kernel
theorem dX3_copyFrom_30 : decode cX3_copyFrom 30 = .ok (.getfield 9, 3) := by decide +kernel
theorem dX3_copyFrom_33 : decode cX3_copyFrom 33 = .ok (.iconst 0, 1) := by decide +kernel
theorem dX3_copyFrom_34 : decode cX3_copyFrom 34 = .ok (.bipush 96, 2) := by decide +kernel
theorem dX3_copyFrom_36 : decode cX3_copyFrom 36 = .ok (.invokestatic 54, 3) := by decide +kernel
theorem dX3_copyFrom_39 : decode cX3_copyFrom 39 = .ok (.aload_n 1, 1) := by decide +kernel
theorem dX3_copyFrom_40 : decode cX3_copyFrom 40 = .ok (.getfield 15, 3) := by decide +kernel
theorem dX3_copyFrom_43 : decode cX3_copyFrom 43 = .ok (.iconst 0, 1) := by decide +kernel
theorem dX3_copyFrom_44 : decode cX3_copyFrom 44 = .ok (.aload_n 0, 1) := by decide +kernel
theorem dX3_copyFrom_45 : decode cX3_copyFrom 45 = .ok (.getfield 15, 3) := by decide +kernel
theorem dX3_copyFrom_48 : decode cX3_copyFrom 48 = .ok (.iconst 0, 1) := by decide +kernel
theorem dX3_copyFrom_49 : decode cX3_copyFrom 49 = .ok (.bipush 12, 2) := by decide +kernel
theorem dX3_copyFrom_51 : decode cX3_copyFrom 51 = .ok (.invokestatic 54, 3) := by decide +kernel
theorem dX3_copyFrom_54 : decode cX3_copyFrom 54 = .ok (.aload_n 0, 1) := by decide +kernel
theorem dX3_copyFrom_55 : decode cX3_copyFrom 55 = .ok (.aload_n 1, 1) := by decide +kernel
theorem dX3_copyFrom_56 : decode cX3_copyFrom 56 = .ok (.getfield 41, 3) := by decide +kernel
theorem dX3_copyFrom_59 : decode cX3_copyFrom 59 = .ok (.putfield 41, 3) := by decide +kernel
theorem dX3_copyFrom_62 : decode cX3_copyFrom 62 = .ok (.aload_n 1, 1) := by decide +kernel
theorem dX3_copyFrom_63 : decode cX3_copyFrom 63 = .ok (.getfield 18, 3) := by decide +kernel
theorem dX3_copyFrom_66 : decode cX3_copyFrom 66 = .ok (.iconst 0, 1) := by decide +kernel
theorem dX3_copyFrom_67 : decode cX3_copyFrom 67 = .ok (.aload_n 0, 1) := by decide +kernel
theorem dX3_copyFrom_68 : decode cX3_copyFrom 68 = .ok (.getfield 18, 3) := by decide +kernel
theorem dX3_copyFrom_71 : decode cX3_copyFrom 71 = .ok (.iconst 0, 1) := by decide +kernel
theorem dX3_copyFrom_72 : decode cX3_copyFrom 72 = .ok (.bipush 24, 2) := by decide +kernel
theorem dX3_copyFrom_74 : decode cX3_copyFrom 74 = .ok (.invokestatic 54, 3) := by decide +kernel
theorem dX3_copyFrom_77 : decode cX3_copyFrom 77 = .ok (.aload_n 0, 1) := by decide +kernel
theorem dX3_copyFrom_78 : decode cX3_copyFrom 78 = .ok (.aload_n 1, 1) := by decide +kernel
theorem dX3_copyFrom_79 : decode cX3_copyFrom 79 = .ok (.getfield 45, 3) := by decide +kernel
theorem dX3_copyFrom_82 : decode cX3_copyFrom 82 = .ok (.putfield 45, 3) := by decide +kernel
theorem dX3_copyFrom_85 : decode cX3_copyFrom 85 = .ok (.aload_n 0, 1) := by decide +kernel
theorem dX3_copyFrom_86 : decode cX3_copyFrom 86 = .ok (.aload_n 1, 1) := by decide +kernel
theorem dX3_copyFrom_87 : decode cX3_copyFrom 87 = .ok (.getfield 48, 3) := by decide +kernel
theorem dX3_copyFrom_90 : decode cX3_copyFrom 90 = .ok (.putfield 48, 3) := by decide +kernel
theorem dX3_copyFrom_93 : decode cX3_copyFrom 93 = .ok (.aload_n 0, 1) := by decide +kernel
theorem dX3_copyFrom_94 : decode cX3_copyFrom 94 = .ok (.aload_n 1, 1) := by decide +kernel
theorem dX3_copyFrom_95 : decode cX3_copyFrom 95 = .ok (.getfield 51, 3) := by decide +kernel
theorem dX3_copyFrom_98 : decode cX3_copyFrom 98 = .ok (.putfield 51, 3) := by decide +kernel
theorem dX3_copyFrom_101 : decode cX3_copyFrom 101 = .ok (.return_, 1) := by decide +kernel
theorem dX3_countCells_0 : decode cX3_countCells 0 = .ok (.aload_n 0, 1) := by decide +kernel
theorem dX3_countCells_1 : decode cX3_countCells 1 = .ok (.getfield 25, 3) := by decide +kernel
theorem dX3_countCells_4 : decode cX3_countCells 4 = .ok (.aload_n 0, 1) := by decide +kernel
theorem dX3_countCells_5 : decode cX3_countCells 5 = .ok (.getfield 29, 3) := by decide +kernel
theorem dX3_countCells_8 : decode cX3_countCells 8 = .ok (.imul, 1) := by decide +kernel
theorem dX3_countCells_9 : decode cX3_countCells 9 = .ok (.ireturn, 1) := by decide +kernel
theorem dX3_hasPlace_0 : decode cX3_hasPlace 0 = .ok (.iload_n 1, 1) := by decide +kernel
theorem dX3_hasPlace_1 : decode cX3_hasPlace 1 = .ok (.ifCond .eq 8, 3) := by decide +kernel
theorem dX3_hasPlace_4 : decode cX3_hasPlace 4 = .ok (.iload_n 1, 1) := by decide +kernel
theorem dX3_hasPlace_5 : decode cX3_hasPlace 5 = .ok (.iconst 1, 1) := by decide +kernel
theorem dX3_hasPlace_6 : decode cX3_hasPlace 6 = .ok (.if_icmp .ne 19, 3) := by decide +kernel
theorem dX3_hasPlace_9 : decode cX3_hasPlace 9 = .ok (.iload_n 2, 1) := by decide +kernel
theorem dX3_hasPlace_10 : decode cX3_hasPlace 10 = .ok (.ifCond .lt 15, 3) := by decide +kernel
theorem dX3_hasPlace_13 : decode cX3_hasPlace 13 = .ok (.iload_n 2, 1) := by decide +kernel
theorem dX3_hasPlace_14 : decode cX3_hasPlace 14 = .ok (.aload_n 0, 1) := by decide +kernel
theorem dX3_hasPlace_15 : decode cX3_hasPlace 15 = .ok (.invokevirtual 60, 3) := by decide +kernel
theorem dX3_hasPlace_18 : decode cX3_hasPlace 18 = .ok (.if_icmp .ge 7, 3) := by decide +kernel
theorem dX3_hasPlace_21 : decode cX3_hasPlace 21 = .ok (.iconst 1, 1) := by decide +kernel
theorem dX3_hasPlace_22 : decode cX3_hasPlace 22 = .ok (.goto 4, 3) := by decide +kernel
theorem dX3_hasPlace_25 : decode cX3_hasPlace 25 = .ok (.iconst 0, 1) := by decide +kernel
theorem dX3_hasPlace_26 : decode cX3_hasPlace 26 = .ok (.ireturn, 1) := by decide +kernel
theorem dX3_hasSpot_0 : decode cX3_hasSpot 0 = .ok (.iload_n 1, 1) := by decide +kernel
theorem dX3_hasSpot_1 : decode cX3_hasSpot 1 = .ok (.ifCond .lt 35, 3) := by decide +kernel
theorem dX3_hasSpot_4 : decode cX3_hasSpot 4 = .ok (.iload_n 1, 1) := by decide +kernel
theorem dX3_hasSpot_5 : decode cX3_hasSpot 5 = .ok (.bipush 96, 2) := by decide +kernel
theorem dX3_hasSpot_7 : decode cX3_hasSpot 7 = .ok (.if_icmp .ge 29, 3) := by decide +kernel
theorem dX3_hasSpot_10 : decode cX3_hasSpot 10 = .ok (.iload_n 1, 1) := by decide +kernel
theorem dX3_hasSpot_11 : decode cX3_hasSpot 11 = .ok (.invokestatic 64, 3) := by decide +kernel
theorem dX3_hasSpot_14 : decode cX3_hasSpot 14 = .ok (.aload_n 0, 1) := by decide +kernel
theorem dX3_hasSpot_15 : decode cX3_hasSpot 15 = .ok (.getfield 29, 3) := by decide +kernel
theorem dX3_hasSpot_18 : decode cX3_hasSpot 18 = .ok (.if_icmp .ge 18, 3) := by decide +kernel
theorem dX3_hasSpot_21 : decode cX3_hasSpot 21 = .ok (.iload_n 1, 1) := by decide +kernel
theorem dX3_hasSpot_22 : decode cX3_hasSpot 22 = .ok (.invokestatic 68, 3) := by decide +kernel
theorem dX3_hasSpot_25 : decode cX3_hasSpot 25 = .ok (.aload_n 0, 1) := by decide +kernel
theorem dX3_hasSpot_26 : decode cX3_hasSpot 26 = .ok (.getfield 25, 3) := by decide +kernel
theorem dX3_hasSpot_29 : decode cX3_hasSpot 29 = .ok (.if_icmp .ge 7, 3) := by decide +kernel
theorem dX3_hasSpot_32 : decode cX3_hasSpot 32 = .ok (.iconst 1, 1) := by decide +kernel
theorem dX3_hasSpot_33 : decode cX3_hasSpot 33 = .ok (.goto 4, 3) := by decide +kernel
theorem dX3_hasSpot_36 : decode cX3_hasSpot 36 = .ok (.iconst 0, 1) := by decide +kernel
theorem dX3_hasSpot_37 : decode cX3_hasSpot 37 = .ok (.ireturn, 1) := by decide +kernel
theorem dX3_spotOf_0 : decode cX3_spotOf 0 = .ok (.aload_n 0, 1) := by decide +kernel
theorem dX3_spotOf_1 : decode cX3_spotOf 1 = .ok (.getfield 25, 3) := by decide +kernel
theorem dX3_spotOf_4 : decode cX3_spotOf 4 = .ok (.ifCond .le 12, 3) := by decide +kernel
theorem dX3_spotOf_7 : decode cX3_spotOf 7 = .ok (.iload_n 2, 1) := by decide +kernel
theorem dX3_spotOf_8 : decode cX3_spotOf 8 = .ok (.aload_n 0, 1) := by decide +kernel
theorem dX3_spotOf_9 : decode cX3_spotOf 9 = .ok (.getfield 25, 3) := by decide +kernel
theorem dX3_spotOf_12 : decode cX3_spotOf 12 = .ok (.idiv, 1) := by decide +kernel
theorem dX3_spotOf_13 : decode cX3_spotOf 13 = .ok (.goto 4, 3) := by decide +kernel
theorem dX3_spotOf_16 : decode cX3_spotOf 16 = .ok (.iconst 0, 1) := by decide +kernel
theorem dX3_spotOf_17 : decode cX3_spotOf 17 = .ok (.istore_n 3, 1) := by decide +kernel
theorem dX3_spotOf_18 : decode cX3_spotOf 18 = .ok (.iload_n 1, 1) := by decide +kernel
theorem dX3_spotOf_19 : decode cX3_spotOf 19 = .ok (.bipush 48, 2) := by decide +kernel
theorem dX3_spotOf_21 : decode cX3_spotOf 21 = .ok (.imul, 1) := by decide +kernel
theorem dX3_spotOf_22 : decode cX3_spotOf 22 = .ok (.iload_n 3, 1) := by decide +kernel
theorem dX3_spotOf_23 : decode cX3_spotOf 23 = .ok (.bipush 8, 2) := by decide +kernel
theorem dX3_spotOf_25 : decode cX3_spotOf 25 = .ok (.imul, 1) := by decide +kernel
theorem dX3_spotOf_26 : decode cX3_spotOf 26 = .ok (.iadd, 1) := by decide +kernel
theorem dX3_spotOf_27 : decode cX3_spotOf 27 = .ok (.iload_n 2, 1) := by decide +kernel
theorem dX3_spotOf_28 : decode cX3_spotOf 28 = .ok (.iadd, 1) := by decide +kernel
theorem dX3_spotOf_29 : decode cX3_spotOf 29 = .ok (.iload_n 3, 1) := by decide +kernel
theorem dX3_spotOf_30 : decode cX3_spotOf 30 = .ok (.aload_n 0, 1) := by decide +kernel
theorem dX3_spotOf_31 : decode cX3_spotOf 31 = .ok (.getfield 25, 3) := by decide +kernel
theorem dX3_spotOf_34 : decode cX3_spotOf 34 = .ok (.imul, 1) := by decide +kernel
theorem dX3_spotOf_35 : decode cX3_spotOf 35 = .ok (.isub, 1) := by decide +kernel
theorem dX3_spotOf_36 : decode cX3_spotOf 36 = .ok (.ireturn, 1) := by decide +kernel
theorem dX3_placeOf_0 : decode cX3_placeOf 0 = .ok (.iload_n 1, 1) := by decide +kernel
theorem dX3_placeOf_1 : decode cX3_placeOf 1 = .ok (.invokestatic 64, 3) := by decide +kernel
theorem dX3_placeOf_4 : decode cX3_placeOf 4 = .ok (.aload_n 0, 1) := by decide +kernel
theorem dX3_placeOf_5 : decode cX3_placeOf 5 = .ok (.getfield 25, 3) := by decide +kernel
theorem dX3_placeOf_8 : decode cX3_placeOf 8 = .ok (.imul, 1) := by decide +kernel
theorem dX3_placeOf_9 : decode cX3_placeOf 9 = .ok (.iload_n 1, 1) := by decide +kernel
theorem dX3_placeOf_10 : decode cX3_placeOf 10 = .ok (.invokestatic 68, 3) := by decide +kernel
theorem dX3_placeOf_13 : decode cX3_placeOf 13 = .ok (.iadd, 1) := by decide +kernel
theorem dX3_placeOf_14 : decode cX3_placeOf 14 = .ok (.ireturn, 1) := by decide +kernel
theorem dX3_spotBehind_0 : decode cX3_spotBehind 0 = .ok (.iload_n 1, 1) := by decide +kernel
theorem dX3_spotBehind_1 : decode cX3_spotBehind 1 = .ok (.invokestatic 71, 3) := by decide +kernel
theorem dX3_spotBehind_4 : decode cX3_spotBehind 4 = .ok (.ifCond .ne 10, 3) := by decide +kernel
theorem dX3_spotBehind_7 : decode cX3_spotBehind 7 = .ok (.iload_n 1, 1) := by decide +kernel
theorem dX3_spotBehind_8 : decode cX3_spotBehind 8 = .ok (.bipush 48, 2) := by decide +kernel
theorem dX3_spotBehind_10 : decode cX3_spotBehind 10 = .ok (.iadd, 1) := by decide +kernel
theorem dX3_spotBehind_11 : decode cX3_spotBehind 11 = .ok (.goto 7, 3) := by decide +kernel
theorem dX3_spotBehind_14 : decode cX3_spotBehind 14 = .ok (.iload_n 1, 1) := by decide +kernel
theorem dX3_spotBehind_15 : decode cX3_spotBehind 15 = .ok (.bipush 48, 2) := by decide +kernel
theorem dX3_spotBehind_17 : decode cX3_spotBehind 17 = .ok (.isub, 1) := by decide +kernel
theorem dX3_spotBehind_18 : decode cX3_spotBehind 18 = .ok (.istore_n 2, 1) := by decide +kernel
theorem dX3_spotBehind_19 : decode cX3_spotBehind 19 = .ok (.iload_n 2, 1) := by decide +kernel
theorem dX3_spotBehind_20 : decode cX3_spotBehind 20 = .ok (.iload_n 1, 1) := by decide +kernel
theorem dX3_spotBehind_21 : decode cX3_spotBehind 21 = .ok (.invokestatic 68, 3) := by decide +kernel
theorem dX3_spotBehind_24 : decode cX3_spotBehind 24 = .ok (.isub, 1) := by decide +kernel
theorem dX3_spotBehind_25 : decode cX3_spotBehind 25 = .ok (.aload_n 0, 1) := by decide +kernel
theorem dX3_spotBehind_26 : decode cX3_spotBehind 26 = .ok (.getfield 25, 3) := by decide +kernel
theorem dX3_spotBehind_29 : decode cX3_spotBehind 29 = .ok (.iadd, 1) := by decide +kernel
theorem dX3_spotBehind_30 : decode cX3_spotBehind 30 = .ok (.iconst 1, 1) := by decide +kernel
theorem dX3_spotBehind_31 : decode cX3_spotBehind 31 = .ok (.isub, 1) := by decide +kernel
theorem dX3_spotBehind_32 : decode cX3_spotBehind 32 = .ok (.iload_n 1, 1) := by decide +kernel
theorem dX3_spotBehind_33 : decode cX3_spotBehind 33 = .ok (.invokestatic 68, 3) := by decide +kernel
theorem dX3_spotBehind_36 : decode cX3_spotBehind 36 = .ok (.isub, 1) := by decide +kernel
theorem dX3_spotBehind_37 : decode cX3_spotBehind 37 = .ok (.ireturn, 1) := by decide +kernel
theorem dX3_cellOf_0 : decode cX3_cellOf 0 = .ok (.iload_n 1, 1) := by decide +kernel
theorem dX3_cellOf_1 : decode cX3_cellOf 1 = .ok (.invokestatic 71, 3) := by decide +kernel
theorem dX3_cellOf_4 : decode cX3_cellOf 4 = .ok (.ifCond .ne 7, 3) := by decide +kernel
theorem dX3_cellOf_7 : decode cX3_cellOf 7 = .ok (.iload_n 1, 1) := by decide +kernel
theorem dX3_cellOf_8 : decode cX3_cellOf 8 = .ok (.goto 8, 3) := by decide +kernel
theorem dX3_cellOf_11 : decode cX3_cellOf 11 = .ok (.aload_n 0, 1) := by decide +kernel
theorem dX3_cellOf_12 : decode cX3_cellOf 12 = .ok (.iload_n 1, 1) := by decide +kernel
theorem dX3_cellOf_13 : decode cX3_cellOf 13 = .ok (.invokevirtual 74, 3) := by decide +kernel
theorem dX3_cellOf_16 : decode cX3_cellOf 16 = .ok (.ireturn, 1) := by decide +kernel
theorem dX3_letterAt_0 : decode cX3_letterAt 0 = .ok (.aload_n 0, 1) := by decide +kernel
theorem dX3_letterAt_1 : decode cX3_letterAt 1 = .ok (.iload_n 1, 1) := by decide +kernel
theorem dX3_letterAt_2 : decode cX3_letterAt 2 = .ok (.invokevirtual 77, 3) := by decide +kernel
theorem dX3_letterAt_5 : decode cX3_letterAt 5 = .ok (.ifCond .eq 12, 3) := by decide +kernel
theorem dX3_letterAt_8 : decode cX3_letterAt 8 = .ok (.aload_n 0, 1) := by decide +kernel
theorem dX3_letterAt_9 : decode cX3_letterAt 9 = .ok (.getfield 9, 3) := by decide +kernel
theorem dX3_letterAt_12 : decode cX3_letterAt 12 = .ok (.iload_n 1, 1) := by decide +kernel
theorem dX3_letterAt_13 : decode cX3_letterAt 13 = .ok (.iaload, 1) := by decide +kernel
theorem dX3_letterAt_14 : decode cX3_letterAt 14 = .ok (.goto 4, 3) := by decide +kernel
theorem dX3_letterAt_17 : decode cX3_letterAt 17 = .ok (.iconst (-1), 1) := by decide +kernel
theorem dX3_letterAt_18 : decode cX3_letterAt 18 = .ok (.ireturn, 1) := by decide +kernel
theorem dX3_sizeAt_0 : decode cX3_sizeAt 0 = .ok (.aload_n 0, 1) := by decide +kernel
theorem dX3_sizeAt_1 : decode cX3_sizeAt 1 = .ok (.iload_n 1, 1) := by decide +kernel
theorem dX3_sizeAt_2 : decode cX3_sizeAt 2 = .ok (.invokevirtual 77, 3) := by decide +kernel
theorem dX3_sizeAt_5 : decode cX3_sizeAt 5 = .ok (.ifCond .eq 15, 3) := by decide +kernel
theorem dX3_sizeAt_8 : decode cX3_sizeAt 8 = .ok (.aload_n 0, 1) := by decide +kernel
theorem dX3_sizeAt_9 : decode cX3_sizeAt 9 = .ok (.getfield 15, 3) := by decide +kernel
theorem dX3_sizeAt_12 : decode cX3_sizeAt 12 = .ok (.iload_n 1, 1) := by decide +kernel
theorem dX3_sizeAt_13 : decode cX3_sizeAt 13 = .ok (.bipush 8, 2) := by decide +kernel
theorem dX3_sizeAt_15 : decode cX3_sizeAt 15 = .ok (.idiv, 1) := by decide +kernel
theorem dX3_sizeAt_16 : decode cX3_sizeAt 16 = .ok (.iaload, 1) := by decide +kernel
theorem dX3_sizeAt_17 : decode cX3_sizeAt 17 = .ok (.goto 4, 3) := by decide +kernel
theorem dX3_sizeAt_20 : decode cX3_sizeAt 20 = .ok (.iconst 1, 1) := by decide +kernel
theorem dX3_sizeAt_21 : decode cX3_sizeAt 21 = .ok (.ireturn, 1) := by decide +kernel
theorem dX3_isThere_0 : decode cX3_isThere 0 = .ok (.aload_n 0, 1) := by decide +kernel
theorem dX3_isThere_1 : decode cX3_isThere 1 = .ok (.getfield 41, 3) := by decide +kernel
theorem dX3_isThere_4 : decode cX3_isThere 4 = .ok (.lconst 1, 1) := by decide +kernel
theorem dX3_isThere_5 : decode cX3_isThere 5 = .ok (.iload_n 1, 1) := by decide +kernel
theorem dX3_isThere_6 : decode cX3_isThere 6 = .ok (.lshl, 1) := by decide +kernel
theorem dX3_isThere_7 : decode cX3_isThere 7 = .ok (.land, 1) := by decide +kernel
theorem dX3_isThere_8 : decode cX3_isThere 8 = .ok (.lconst 0, 1) := by decide +kernel
theorem dX3_isThere_9 : decode cX3_isThere 9 = .ok (.lcmp, 1) := by decide +kernel
theorem dX3_isThere_10 : decode cX3_isThere 10 = .ok (.ifCond .ne 7, 3) := by decide +kernel
theorem dX3_isThere_13 : decode cX3_isThere 13 = .ok (.iconst 1, 1) := by decide +kernel
theorem dX3_isThere_14 : decode cX3_isThere 14 = .ok (.goto 4, 3) := by decide +kernel
theorem dX3_isThere_17 : decode cX3_isThere 17 = .ok (.iconst 0, 1) := by decide +kernel
theorem dX3_isThere_18 : decode cX3_isThere 18 = .ok (.ireturn, 1) := by decide +kernel
theorem dX3_canUse_0 : decode cX3_canUse 0 = .ok (.aload_n 0, 1) := by decide +kernel
theorem dX3_canUse_1 : decode cX3_canUse 1 = .ok (.iload_n 1, 1) := by decide +kernel
theorem dX3_canUse_2 : decode cX3_canUse 2 = .ok (.invokevirtual 81, 3) := by decide +kernel
theorem dX3_canUse_5 : decode cX3_canUse 5 = .ok (.iconst (-1), 1) := by decide +kernel
theorem dX3_canUse_6 : decode cX3_canUse 6 = .ok (.if_icmp .eq 31, 3) := by decide +kernel
theorem dX3_canUse_9 : decode cX3_canUse 9 = .ok (.aload_n 0, 1) := by decide +kernel
theorem dX3_canUse_10 : decode cX3_canUse 10 = .ok (.aload_n 0, 1) := by decide +kernel
theorem dX3_canUse_11 : decode cX3_canUse 11 = .ok (.iload_n 1, 1) := by decide +kernel
theorem dX3_canUse_12 : decode cX3_canUse 12 = .ok (.invokevirtual 84, 3) := by decide +kernel
theorem dX3_canUse_15 : decode cX3_canUse 15 = .ok (.invokevirtual 87, 3) := by decide +kernel
theorem dX3_canUse_18 : decode cX3_canUse 18 = .ok (.ifCond .eq 19, 3) := by decide +kernel
theorem dX3_canUse_21 : decode cX3_canUse 21 = .ok (.aload_n 0, 1) := by decide +kernel
theorem dX3_canUse_22 : decode cX3_canUse 22 = .ok (.iload_n 1, 1) := by decide +kernel
theorem dX3_canUse_23 : decode cX3_canUse 23 = .ok (.invokevirtual 90, 3) := by decide +kernel
theorem dX3_canUse_26 : decode cX3_canUse 26 = .ok (.aload_n 0, 1) := by decide +kernel
theorem dX3_canUse_27 : decode cX3_canUse 27 = .ok (.getfield 32, 3) := by decide +kernel
theorem dX3_canUse_30 : decode cX3_canUse 30 = .ok (.if_icmp .lt 7, 3) := by decide +kernel
theorem dX3_canUse_33 : decode cX3_canUse 33 = .ok (.iconst 1, 1) := by decide +kernel
theorem dX3_canUse_34 : decode cX3_canUse 34 = .ok (.goto 4, 3) := by decide +kernel
theorem dX3_canUse_37 : decode cX3_canUse 37 = .ok (.iconst 0, 1) := by decide +kernel
theorem dX3_canUse_38 : decode cX3_canUse 38 = .ok (.ireturn, 1) := by decide +kernel
theorem dX3_countThere_0 : decode cX3_countThere 0 = .ok (.aload_n 0, 1) := by decide +kernel
theorem dX3_countThere_1 : decode cX3_countThere 1 = .ok (.invokevirtual 60, 3) := by decide +kernel
theorem dX3_countThere_4 : decode cX3_countThere 4 = .ok (.aload_n 0, 1) := by decide +kernel
theorem dX3_countThere_5 : decode cX3_countThere 5 = .ok (.getfield 41, 3) := by decide +kernel
theorem dX3_countThere_8 : decode cX3_countThere 8 = .ok (.invokestatic 93, 3) := by decide +kernel
theorem dX3_countThere_11 : decode cX3_countThere 11 = .ok (.isub, 1) := by decide +kernel
theorem dX3_countThere_12 : decode cX3_countThere 12 = .ok (.ireturn, 1) := by decide +kernel
theorem dX3_countUsable_0 : decode cX3_countUsable 0 = .ok (.iconst 0, 1) := by decide +kernel
theorem dX3_countUsable_1 : decode cX3_countUsable 1 = .ok (.istore_n 1, 1) := by decide +kernel
theorem dX3_countUsable_2 : decode cX3_countUsable 2 = .ok (.iconst 0, 1) := by decide +kernel
theorem dX3_countUsable_3 : decode cX3_countUsable 3 = .ok (.istore_n 2, 1) := by decide +kernel
theorem dX3_countUsable_4 : decode cX3_countUsable 4 = .ok (.iload_n 2, 1) := by decide +kernel
theorem dX3_countUsable_5 : decode cX3_countUsable 5 = .ok (.bipush 96, 2) := by decide +kernel
theorem dX3_countUsable_7 : decode cX3_countUsable 7 = .ok (.if_icmp .ge 20, 3) := by decide +kernel
theorem dX3_countUsable_10 : decode cX3_countUsable 10 = .ok (.aload_n 0, 1) := by decide +kernel
theorem dX3_countUsable_11 : decode cX3_countUsable 11 = .ok (.iload_n 2, 1) := by decide +kernel
theorem dX3_countUsable_12 : decode cX3_countUsable 12 = .ok (.invokevirtual 99, 3) := by decide +kernel
theorem dX3_countUsable_15 : decode cX3_countUsable 15 = .ok (.ifCond .eq 6, 3) := by decide +kernel
theorem dX3_countUsable_18 : decode cX3_countUsable 18 = .ok (.iinc 1 1, 3) := by decide +kernel
theorem dX3_countUsable_21 : decode cX3_countUsable 21 = .ok (.iinc 2 1, 3) := by decide +kernel
theorem dX3_countUsable_24 : decode cX3_countUsable 24 = .ok (.goto (-20), 3) := by decide +kernel
theorem dX3_countUsable_27 : decode cX3_countUsable 27 = .ok (.iload_n 1, 1) := by decide +kernel
theorem dX3_countUsable_28 : decode cX3_countUsable 28 = .ok (.ireturn, 1) := by decide +kernel
theorem dX3_countUsableOf_0 : decode cX3_countUsableOf 0 = .ok (.iconst 0, 1) := by decide +kernel
theorem dX3_countUsableOf_1 : decode cX3_countUsableOf 1 = .ok (.istore_n 2, 1) := by decide +kernel
theorem dX3_countUsableOf_2 : decode cX3_countUsableOf 2 = .ok (.iconst 0, 1) := by decide +kernel
theorem dX3_countUsableOf_3 : decode cX3_countUsableOf 3 = .ok (.istore_n 3, 1) := by decide +kernel
theorem dX3_countUsableOf_4 : decode cX3_countUsableOf 4 = .ok (.iload_n 3, 1) := by decide +kernel
theorem dX3_countUsableOf_5 : decode cX3_countUsableOf 5 = .ok (.bipush 96, 2) := by decide +kernel
theorem dX3_countUsableOf_7 : decode cX3_countUsableOf 7 = .ok (.if_icmp .ge 29, 3) := by decide +kernel
theorem dX3_countUsableOf_10 : decode cX3_countUsableOf 10 = .ok (.aload_n 0, 1) := by decide +kernel
theorem dX3_countUsableOf_11 : decode cX3_countUsableOf 11 = .ok (.iload_n 3, 1) := by decide +kernel
theorem dX3_countUsableOf_12 : decode cX3_countUsableOf 12 = .ok (.invokevirtual 81, 3) := by decide +kernel
theorem dX3_countUsableOf_15 : decode cX3_countUsableOf 15 = .ok (.iload_n 1, 1) := by decide +kernel
theorem dX3_countUsableOf_16 : decode cX3_countUsableOf 16 = .ok (.if_icmp .ne 14, 3) := by decide +kernel
theorem dX3_countUsableOf_19 : decode cX3_countUsableOf 19 = .ok (.aload_n 0, 1) := by decide +kernel
theorem dX3_countUsableOf_20 : decode cX3_countUsableOf 20 = .ok (.iload_n 3, 1) := by decide +kernel
theorem dX3_countUsableOf_21 : decode cX3_countUsableOf 21 = .ok (.invokevirtual 99, 3) := by decide +kernel
theorem dX3_countUsableOf_24 : decode cX3_countUsableOf 24 = .ok (.ifCond .eq 6, 3) := by decide +kernel
theorem dX3_countUsableOf_27 : decode cX3_countUsableOf 27 = .ok (.iinc 2 1, 3) := by decide +kernel
theorem dX3_countUsableOf_30 : decode cX3_countUsableOf 30 = .ok (.iinc 3 1, 3) := by decide +kernel
theorem dX3_countUsableOf_33 : decode cX3_countUsableOf 33 = .ok (.goto (-29), 3) := by decide +kernel
theorem dX3_countUsableOf_36 : decode cX3_countUsableOf 36 = .ok (.iload_n 2, 1) := by decide +kernel
theorem dX3_countUsableOf_37 : decode cX3_countUsableOf 37 = .ok (.ireturn, 1) := by decide +kernel
theorem dX3_cellsWith_0 : decode cX3_cellsWith 0 = .ok (.lconst 0, 1) := by decide +kernel
theorem dX3_cellsWith_1 : decode cX3_cellsWith 1 = .ok (.lstore_n 2, 1) := by decide +kernel
theorem dX3_cellsWith_2 : decode cX3_cellsWith 2 = .ok (.iconst 0, 1) := by decide +kernel
theorem dX3_cellsWith_3 : decode cX3_cellsWith 3 = .ok (.istore 4, 2) := by decide +kernel
theorem dX3_cellsWith_5 : decode cX3_cellsWith 5 = .ok (.iload 4, 2) := by decide +kernel
theorem dX3_cellsWith_7 : decode cX3_cellsWith 7 = .ok (.bipush 96, 2) := by decide +kernel
theorem dX3_cellsWith_9 : decode cX3_cellsWith 9 = .ok (.if_icmp .ge 39, 3) := by decide +kernel
theorem dX3_cellsWith_12 : decode cX3_cellsWith 12 = .ok (.aload_n 0, 1) := by decide +kernel
theorem dX3_cellsWith_13 : decode cX3_cellsWith 13 = .ok (.iload 4, 2) := by decide +kernel
theorem dX3_cellsWith_15 : decode cX3_cellsWith 15 = .ok (.invokevirtual 81, 3) := by decide +kernel
theorem dX3_cellsWith_18 : decode cX3_cellsWith 18 = .ok (.iload_n 1, 1) := by decide +kernel
theorem dX3_cellsWith_19 : decode cX3_cellsWith 19 = .ok (.if_icmp .ne 23, 3) := by decide +kernel
theorem dX3_cellsWith_22 : decode cX3_cellsWith 22 = .ok (.aload_n 0, 1) := by decide +kernel
theorem dX3_cellsWith_23 : decode cX3_cellsWith 23 = .ok (.iload 4, 2) := by decide +kernel
theorem dX3_cellsWith_25 : decode cX3_cellsWith 25 = .ok (.invokevirtual 99, 3) := by decide +kernel
theorem dX3_cellsWith_28 : decode cX3_cellsWith 28 = .ok (.ifCond .eq 14, 3) := by decide +kernel
theorem dX3_cellsWith_31 : decode cX3_cellsWith 31 = .ok (.lload_n 2, 1) := by decide +kernel
theorem dX3_cellsWith_32 : decode cX3_cellsWith 32 = .ok (.lconst 1, 1) := by decide +kernel
theorem dX3_cellsWith_33 : decode cX3_cellsWith 33 = .ok (.aload_n 0, 1) := by decide +kernel
theorem dX3_cellsWith_34 : decode cX3_cellsWith 34 = .ok (.iload 4, 2) := by decide +kernel
theorem dX3_cellsWith_36 : decode cX3_cellsWith 36 = .ok (.invokevirtual 84, 3) := by decide +kernel
theorem dX3_cellsWith_39 : decode cX3_cellsWith 39 = .ok (.lshl, 1) := by decide +kernel
theorem dX3_cellsWith_40 : decode cX3_cellsWith 40 = .ok (.lor, 1) := by decide +kernel
theorem dX3_cellsWith_41 : decode cX3_cellsWith 41 = .ok (.lstore_n 2, 1) := by decide +kernel
theorem dX3_cellsWith_42 : decode cX3_cellsWith 42 = .ok (.iinc 4 1, 3) := by decide +kernel
theorem dX3_cellsWith_45 : decode cX3_cellsWith 45 = .ok (.goto (-40), 3) := by decide +kernel
theorem dX3_cellsWith_48 : decode cX3_cellsWith 48 = .ok (.lload_n 2, 1) := by decide +kernel
theorem dX3_cellsWith_49 : decode cX3_cellsWith 49 = .ok (.lreturn, 1) := by decide +kernel
theorem dX3_hasMessageLetter_0 : decode cX3_hasMessageLetter 0 = .ok (.iload_n 1, 1) := by decide +kernel
theorem dX3_hasMessageLetter_1 : decode cX3_hasMessageLetter 1 = .ok (.ifCond .lt 21, 3) := by decide +kernel
theorem dX3_hasMessageLetter_4 : decode cX3_hasMessageLetter 4 = .ok (.iload_n 1, 1) := by decide +kernel
theorem dX3_hasMessageLetter_5 : decode cX3_hasMessageLetter 5 = .ok (.aload_n 0, 1) := by decide +kernel
theorem dX3_hasMessageLetter_6 : decode cX3_hasMessageLetter 6 = .ok (.getfield 45, 3) := by decide +kernel
theorem dX3_hasMessageLetter_9 : decode cX3_hasMessageLetter 9 = .ok (.if_icmp .ge 13, 3) := by decide +kernel
theorem dX3_hasMessageLetter_12 : decode cX3_hasMessageLetter 12 = .ok (.iload_n 1, 1) := by decide +kernel
theorem dX3_hasMessageLetter_13 : decode cX3_hasMessageLetter 13 = .ok (.bipush 24, 2) := by decide +kernel
theorem dX3_hasMessageLetter_15 : decode cX3_hasMessageLetter 15 = .ok (.if_icmp .ge 7, 3) := by decide +kernel
theorem dX3_hasMessageLetter_18 : decode cX3_hasMessageLetter 18 = .ok (.iconst 1, 1) := by decide +kernel
theorem dX3_hasMessageLetter_19 : decode cX3_hasMessageLetter 19 = .ok (.goto 4, 3) := by decide +kernel
theorem dX3_hasMessageLetter_22 : decode cX3_hasMessageLetter 22 = .ok (.iconst 0, 1) := by decide +kernel
theorem dX3_hasMessageLetter_23 : decode cX3_hasMessageLetter 23 = .ok (.ireturn, 1) := by decide +kernel
theorem dX3_messageAt_0 : decode cX3_messageAt 0 = .ok (.aload_n 0, 1) := by decide +kernel
theorem dX3_messageAt_1 : decode cX3_messageAt 1 = .ok (.iload_n 1, 1) := by decide +kernel
theorem dX3_messageAt_2 : decode cX3_messageAt 2 = .ok (.invokevirtual 102, 3) := by decide +kernel
theorem dX3_messageAt_5 : decode cX3_messageAt 5 = .ok (.ifCond .eq 12, 3) := by decide +kernel
theorem dX3_messageAt_8 : decode cX3_messageAt 8 = .ok (.aload_n 0, 1) := by decide +kernel
theorem dX3_messageAt_9 : decode cX3_messageAt 9 = .ok (.getfield 18, 3) := by decide +kernel
theorem dX3_messageAt_12 : decode cX3_messageAt 12 = .ok (.iload_n 1, 1) := by decide +kernel
theorem dX3_messageAt_13 : decode cX3_messageAt 13 = .ok (.iaload, 1) := by decide +kernel
theorem dX3_messageAt_14 : decode cX3_messageAt 14 = .ok (.goto 4, 3) := by decide +kernel
theorem dX3_messageAt_17 : decode cX3_messageAt 17 = .ok (.iconst (-1), 1) := by decide +kernel
theorem dX3_messageAt_18 : decode cX3_messageAt 18 = .ok (.ireturn, 1) := by decide +kernel
theorem dX3_countInMessage_0 : decode cX3_countInMessage 0 = .ok (.iconst 0, 1) := by decide +kernel
theorem dX3_countInMessage_1 : decode cX3_countInMessage 1 = .ok (.istore_n 2, 1) := by decide +kernel
theorem dX3_countInMessage_2 : decode cX3_countInMessage 2 = .ok (.iconst 0, 1) := by decide +kernel
theorem dX3_countInMessage_3 : decode cX3_countInMessage 3 = .ok (.istore_n 3, 1) := by decide +kernel
theorem dX3_countInMessage_4 : decode cX3_countInMessage 4 = .ok (.iload_n 3, 1) := by decide +kernel
theorem dX3_countInMessage_5 : decode cX3_countInMessage 5 = .ok (.aload_n 0, 1) := by decide +kernel
theorem dX3_countInMessage_6 : decode cX3_countInMessage 6 = .ok (.getfield 45, 3) := by decide +kernel
theorem dX3_countInMessage_9 : decode cX3_countInMessage 9 = .ok (.if_icmp .ge 21, 3) := by decide +kernel
theorem dX3_countInMessage_12 : decode cX3_countInMessage 12 = .ok (.aload_n 0, 1) := by decide +kernel
theorem dX3_countInMessage_13 : decode cX3_countInMessage 13 = .ok (.iload_n 3, 1) := by decide +kernel
theorem dX3_countInMessage_14 : decode cX3_countInMessage 14 = .ok (.invokevirtual 105, 3) := by decide +kernel
theorem dX3_countInMessage_17 : decode cX3_countInMessage 17 = .ok (.iload_n 1, 1) := by decide +kernel
theorem dX3_countInMessage_18 : decode cX3_countInMessage 18 = .ok (.if_icmp .ne 6, 3) := by decide +kernel
theorem dX3_countInMessage_21 : decode cX3_countInMessage 21 = .ok (.iinc 2 1, 3) := by decide +kernel
theorem dX3_countInMessage_24 : decode cX3_countInMessage 24 = .ok (.iinc 3 1, 3) := by decide +kernel
theorem dX3_countInMessage_27 : decode cX3_countInMessage 27 = .ok (.goto (-23), 3) := by decide +kernel
theorem dX3_countInMessage_30 : decode cX3_countInMessage 30 = .ok (.iload_n 2, 1) := by decide +kernel
theorem dX3_countInMessage_31 : decode cX3_countInMessage 31 = .ok (.ireturn, 1) := by decide +kernel
theorem dX3_isStrip_0 : decode cX3_isStrip 0 = .ok (.iload_n 1, 1) := by decide +kernel
theorem dX3_isStrip_1 : decode cX3_isStrip 1 = .ok (.invokestatic 68, 3) := by decide +kernel
theorem dX3_isStrip_4 : decode cX3_isStrip 4 = .ok (.iload_n 2, 1) := by decide +kernel
theorem dX3_isStrip_5 : decode cX3_isStrip 5 = .ok (.iadd, 1) := by decide +kernel
theorem dX3_isStrip_6 : decode cX3_isStrip 6 = .ok (.aload_n 0, 1) := by decide +kernel
theorem dX3_isStrip_7 : decode cX3_isStrip 7 = .ok (.getfield 25, 3) := by decide +kernel
theorem dX3_isStrip_10 : decode cX3_isStrip 10 = .ok (.if_icmp .le 5, 3) := by decide +kernel
theorem dX3_isStrip_13 : decode cX3_isStrip 13 = .ok (.iconst 0, 1) := by decide +kernel
theorem dX3_isStrip_14 : decode cX3_isStrip 14 = .ok (.ireturn, 1) := by decide +kernel
theorem dX3_isStrip_15 : decode cX3_isStrip 15 = .ok (.iconst 0, 1) := by decide +kernel
theorem dX3_isStrip_16 : decode cX3_isStrip 16 = .ok (.istore_n 3, 1) := by decide +kernel
theorem dX3_isStrip_17 : decode cX3_isStrip 17 = .ok (.iload_n 3, 1) := by decide +kernel
theorem dX3_isStrip_18 : decode cX3_isStrip 18 = .ok (.iload_n 2, 1) := by decide +kernel
theorem dX3_isStrip_19 : decode cX3_isStrip 19 = .ok (.if_icmp .ge 21, 3) := by decide +kernel
theorem dX3_isStrip_22 : decode cX3_isStrip 22 = .ok (.aload_n 0, 1) := by decide +kernel
theorem dX3_isStrip_23 : decode cX3_isStrip 23 = .ok (.iload_n 1, 1) := by decide +kernel
theorem dX3_isStrip_24 : decode cX3_isStrip 24 = .ok (.iload_n 3, 1) := by decide +kernel
theorem dX3_isStrip_25 : decode cX3_isStrip 25 = .ok (.iadd, 1) := by decide +kernel
theorem dX3_isStrip_26 : decode cX3_isStrip 26 = .ok (.invokevirtual 99, 3) := by decide +kernel
theorem dX3_isStrip_29 : decode cX3_isStrip 29 = .ok (.ifCond .ne 5, 3) := by decide +kernel
theorem dX3_isStrip_32 : decode cX3_isStrip 32 = .ok (.iconst 0, 1) := by decide +kernel
theorem dX3_isStrip_33 : decode cX3_isStrip 33 = .ok (.ireturn, 1) := by decide +kernel
theorem dX3_isStrip_34 : decode cX3_isStrip 34 = .ok (.iinc 3 1, 3) := by decide +kernel
theorem dX3_isStrip_37 : decode cX3_isStrip 37 = .ok (.goto (-20), 3) := by decide +kernel
theorem dX3_isStrip_40 : decode cX3_isStrip 40 = .ok (.iconst 1, 1) := by decide +kernel
theorem dX3_isStrip_41 : decode cX3_isStrip 41 = .ok (.ireturn, 1) := by decide +kernel
theorem dX3_cellsOfStrip_0 : decode cX3_cellsOfStrip 0 = .ok (.lconst 0, 1) := by decide +kernel
theorem dX3_cellsOfStrip_1 : decode cX3_cellsOfStrip 1 = .ok (.lstore_n 3, 1) := by decide +kernel
theorem dX3_cellsOfStrip_2 : decode cX3_cellsOfStrip 2 = .ok (.iconst 0, 1) := by decide +kernel
theorem dX3_cellsOfStrip_3 : decode cX3_cellsOfStrip 3 = .ok (.istore 5, 2) := by decide +kernel
theorem dX3_cellsOfStrip_5 : decode cX3_cellsOfStrip 5 = .ok (.iload 5, 2) := by decide +kernel
theorem dX3_cellsOfStrip_7 : decode cX3_cellsOfStrip 7 = .ok (.iload_n 2, 1) := by decide +kernel
theorem dX3_cellsOfStrip_8 : decode cX3_cellsOfStrip 8 = .ok (.if_icmp .ge 22, 3) := by decide +kernel
theorem dX3_cellsOfStrip_11 : decode cX3_cellsOfStrip 11 = .ok (.lload_n 3, 1) := by decide +kernel
theorem dX3_cellsOfStrip_12 : decode cX3_cellsOfStrip 12 = .ok (.lconst 1, 1) := by decide +kernel
theorem dX3_cellsOfStrip_13 : decode cX3_cellsOfStrip 13 = .ok (.aload_n 0, 1) := by decide +kernel
theorem dX3_cellsOfStrip_14 : decode cX3_cellsOfStrip 14 = .ok (.iload_n 1, 1) := by decide +kernel
theorem dX3_cellsOfStrip_15 : decode cX3_cellsOfStrip 15 = .ok (.iload 5, 2) := by decide +kernel
theorem dX3_cellsOfStrip_17 : decode cX3_cellsOfStrip 17 = .ok (.iadd, 1) := by decide +kernel
theorem dX3_cellsOfStrip_18 : decode cX3_cellsOfStrip 18 = .ok (.invokevirtual 84, 3) := by decide +kernel
theorem dX3_cellsOfStrip_21 : decode cX3_cellsOfStrip 21 = .ok (.lshl, 1) := by decide +kernel
theorem dX3_cellsOfStrip_22 : decode cX3_cellsOfStrip 22 = .ok (.lor, 1) := by decide +kernel
theorem dX3_cellsOfStrip_23 : decode cX3_cellsOfStrip 23 = .ok (.lstore_n 3, 1) := by decide +kernel
theorem dX3_cellsOfStrip_24 : decode cX3_cellsOfStrip 24 = .ok (.iinc 5 1, 3) := by decide +kernel
theorem dX3_cellsOfStrip_27 : decode cX3_cellsOfStrip 27 = .ok (.goto (-22), 3) := by decide +kernel
theorem dX3_cellsOfStrip_30 : decode cX3_cellsOfStrip 30 = .ok (.lload_n 3, 1) := by decide +kernel
theorem dX3_cellsOfStrip_31 : decode cX3_cellsOfStrip 31 = .ok (.lreturn, 1) := by decide +kernel
theorem dX3_lettersFrom_0 : decode cX3_lettersFrom 0 = .ok (.aload_n 0, 1) := by decide +kernel
theorem dX3_lettersFrom_1 : decode cX3_lettersFrom 1 = .ok (.getfield 25, 3) := by decide +kernel
theorem dX3_lettersFrom_4 : decode cX3_lettersFrom 4 = .ok (.iload_n 1, 1) := by decide +kernel
theorem dX3_lettersFrom_5 : decode cX3_lettersFrom 5 = .ok (.invokestatic 68, 3) := by decide +kernel
theorem dX3_lettersFrom_8 : decode cX3_lettersFrom 8 = .ok (.isub, 1) := by decide +kernel
theorem dX3_lettersFrom_9 : decode cX3_lettersFrom 9 = .ok (.istore_n 3, 1) := by decide +kernel
theorem dX3_lettersFrom_10 : decode cX3_lettersFrom 10 = .ok (.iconst 0, 1) := by decide +kernel
theorem dX3_lettersFrom_11 : decode cX3_lettersFrom 11 = .ok (.istore 4, 2) := by decide +kernel
theorem dX3_lettersFrom_13 : decode cX3_lettersFrom 13 = .ok (.iload 4, 2) := by decide +kernel
theorem dX3_lettersFrom_15 : decode cX3_lettersFrom 15 = .ok (.iload_n 3, 1) := by decide +kernel
theorem dX3_lettersFrom_16 : decode cX3_lettersFrom 16 = .ok (.if_icmp .ge 39, 3) := by decide +kernel
theorem dX3_lettersFrom_19 : decode cX3_lettersFrom 19 = .ok (.aload_n 0, 1) := by decide +kernel
theorem dX3_lettersFrom_20 : decode cX3_lettersFrom 20 = .ok (.iload_n 1, 1) := by decide +kernel
theorem dX3_lettersFrom_21 : decode cX3_lettersFrom 21 = .ok (.iload 4, 2) := by decide +kernel
theorem dX3_lettersFrom_23 : decode cX3_lettersFrom 23 = .ok (.iadd, 1) := by decide +kernel
theorem dX3_lettersFrom_24 : decode cX3_lettersFrom 24 = .ok (.invokevirtual 81, 3) := by decide +kernel
theorem dX3_lettersFrom_27 : decode cX3_lettersFrom 27 = .ok (.aload_n 0, 1) := by decide +kernel
theorem dX3_lettersFrom_28 : decode cX3_lettersFrom 28 = .ok (.iload_n 2, 1) := by decide +kernel
theorem dX3_lettersFrom_29 : decode cX3_lettersFrom 29 = .ok (.iload 4, 2) := by decide +kernel
theorem dX3_lettersFrom_31 : decode cX3_lettersFrom 31 = .ok (.iadd, 1) := by decide +kernel
theorem dX3_lettersFrom_32 : decode cX3_lettersFrom 32 = .ok (.invokevirtual 105, 3) := by decide +kernel
theorem dX3_lettersFrom_35 : decode cX3_lettersFrom 35 = .ok (.if_icmp .ne 20, 3) := by decide +kernel
theorem dX3_lettersFrom_38 : decode cX3_lettersFrom 38 = .ok (.aload_n 0, 1) := by decide +kernel
theorem dX3_lettersFrom_39 : decode cX3_lettersFrom 39 = .ok (.iload_n 1, 1) := by decide +kernel
theorem dX3_lettersFrom_40 : decode cX3_lettersFrom 40 = .ok (.iload 4, 2) := by decide +kernel
theorem dX3_lettersFrom_42 : decode cX3_lettersFrom 42 = .ok (.iadd, 1) := by decide +kernel
theorem dX3_lettersFrom_43 : decode cX3_lettersFrom 43 = .ok (.invokevirtual 99, 3) := by decide +kernel
theorem dX3_lettersFrom_46 : decode cX3_lettersFrom 46 = .ok (.ifCond .eq 9, 3) := by decide +kernel
theorem dX3_lettersFrom_49 : decode cX3_lettersFrom 49 = .ok (.iinc 4 1, 3) := by decide +kernel
theorem dX3_lettersFrom_52 : decode cX3_lettersFrom 52 = .ok (.goto (-39), 3) := by decide +kernel
theorem dX3_lettersFrom_55 : decode cX3_lettersFrom 55 = .ok (.iload 4, 2) := by decide +kernel
theorem dX3_lettersFrom_57 : decode cX3_lettersFrom 57 = .ok (.ireturn, 1) := by decide +kernel
theorem dX3_take_0 : decode cX3_take 0 = .ok (.aload_n 0, 1) := by decide +kernel
theorem dX3_take_1 : decode cX3_take 1 = .ok (.dup, 1) := by decide +kernel
theorem dX3_take_2 : decode cX3_take 2 = .ok (.getfield 41, 3) := by decide +kernel
theorem dX3_take_5 : decode cX3_take 5 = .ok (.lload_n 1, 1) := by decide +kernel
theorem dX3_take_6 : decode cX3_take 6 = .ok (.lor, 1) := by decide +kernel
theorem dX3_take_7 : decode cX3_take 7 = .ok (.putfield 41, 3) := by decide +kernel
theorem dX3_take_10 : decode cX3_take 10 = .ok (.aload_n 0, 1) := by decide +kernel
theorem dX3_take_11 : decode cX3_take 11 = .ok (.dup, 1) := by decide +kernel
theorem dX3_take_12 : decode cX3_take 12 = .ok (.getfield 48, 3) := by decide +kernel
theorem dX3_take_15 : decode cX3_take 15 = .ok (.iload_n 3, 1) := by decide +kernel
theorem dX3_take_16 : decode cX3_take 16 = .ok (.iadd, 1) := by decide +kernel
theorem dX3_take_17 : decode cX3_take 17 = .ok (.putfield 48, 3) := by decide +kernel
theorem dX3_take_20 : decode cX3_take 20 = .ok (.aload_n 0, 1) := by decide +kernel
theorem dX3_take_21 : decode cX3_take 21 = .ok (.dup, 1) := by decide +kernel
theorem dX3_take_22 : decode cX3_take 22 = .ok (.getfield 51, 3) := by decide +kernel
theorem dX3_take_25 : decode cX3_take 25 = .ok (.lload_n 1, 1) := by decide +kernel
theorem dX3_take_26 : decode cX3_take 26 = .ok (.invokestatic 93, 3) := by decide +kernel
theorem dX3_take_29 : decode cX3_take 29 = .ok (.iadd, 1) := by decide +kernel
theorem dX3_take_30 : decode cX3_take 30 = .ok (.putfield 51, 3) := by decide +kernel
theorem dX3_take_33 : decode cX3_take 33 = .ok (.return_, 1) := by decide +kernel
theorem dX4_init_0 : decode cX4_init 0 = .ok (.aload_n 0, 1) := by decide +kernel
theorem dX4_init_1 : decode cX4_init 1 = .ok (.invokespecial 3, 3) := by decide +kernel
theorem dX4_init_4 : decode cX4_init 4 = .ok (.aload_n 0, 1) := by decide +kernel
theorem dX4_init_5 : decode cX4_init 5 = .ok (.sipush 400, 3) := by decide +kernel
theorem dX4_init_8 : decode cX4_init 8 = .ok (.newarray .byte, 2) := by decide +kernel
theorem dX4_init_10 : decode cX4_init 10 = .ok (.putfield 9, 3) := by decide +kernel
theorem dX4_init_13 : decode cX4_init 13 = .ok (.aload_n 0, 1) := by decide +kernel
theorem dX4_init_14 : decode cX4_init 14 = .ok (.iconst 0, 1) := by decide +kernel
theorem dX4_init_15 : decode cX4_init 15 = .ok (.putfield 13, 3) := by decide +kernel
theorem dX4_init_18 : decode cX4_init 18 = .ok (.aload_n 0, 1) := by decide +kernel
theorem dX4_init_19 : decode cX4_init 19 = .ok (.iconst (-1), 1) := by decide +kernel
theorem dX4_init_20 : decode cX4_init 20 = .ok (.putfield 17, 3) := by decide +kernel
theorem dX4_init_23 : decode cX4_init 23 = .ok (.aload_n 0, 1) := by decide +kernel
theorem dX4_init_24 : decode cX4_init 24 = .ok (.new 20, 3) := by decide +kernel
theorem dX4_init_27 : decode cX4_init 27 = .ok (.dup, 1) := by decide +kernel
theorem dX4_init_28 : decode cX4_init 28 = .ok (.invokespecial 22, 3) := by decide +kernel
theorem dX4_init_31 : decode cX4_init 31 = .ok (.putfield 23, 3) := by decide +kernel
theorem dX4_init_34 : decode cX4_init 34 = .ok (.aload_n 0, 1) := by decide +kernel
theorem dX4_init_35 : decode cX4_init 35 = .ok (.bipush 8, 2) := by decide +kernel
theorem dX4_init_37 : decode cX4_init 37 = .ok (.anewarray 20, 3) := by decide +kernel
theorem dX4_init_40 : decode cX4_init 40 = .ok (.putfield 27, 3) := by decide +kernel
theorem dX4_init_43 : decode cX4_init 43 = .ok (.aload_n 0, 1) := by decide +kernel
theorem dX4_init_44 : decode cX4_init 44 = .ok (.iconst 0, 1) := by decide +kernel
theorem dX4_init_45 : decode cX4_init 45 = .ok (.putfield 31, 3) := by decide +kernel
theorem dX4_init_48 : decode cX4_init 48 = .ok (.aload_n 0, 1) := by decide +kernel
theorem dX4_init_49 : decode cX4_init 49 = .ok (.new 34, 3) := by decide +kernel
theorem dX4_init_52 : decode cX4_init 52 = .ok (.dup, 1) := by decide +kernel
theorem dX4_init_53 : decode cX4_init 53 = .ok (.invokespecial 36, 3) := by decide +kernel
theorem dX4_init_56 : decode cX4_init 56 = .ok (.putfield 37, 3) := by decide +kernel
theorem dX4_init_59 : decode cX4_init 59 = .ok (.aload_n 0, 1) := by decide +kernel
theorem dX4_init_60 : decode cX4_init 60 = .ok (.new 41, 3) := by decide +kernel
theorem dX4_init_63 : decode cX4_init 63 = .ok (.dup, 1) := by decide +kernel
theorem dX4_init_64 : decode cX4_init 64 = .ok (.invokespecial 43, 3) := by decide +kernel
theorem dX4_init_67 : decode cX4_init 67 = .ok (.putfield 44, 3) := by decide +kernel
theorem dX4_init_70 : decode cX4_init 70 = .ok (.aload_n 0, 1) := by decide +kernel
theorem dX4_init_71 : decode cX4_init 71 = .ok (.new 48, 3) := by decide +kernel
theorem dX4_init_74 : decode cX4_init 74 = .ok (.dup, 1) := by decide +kernel
theorem dX4_init_75 : decode cX4_init 75 = .ok (.invokespecial 50, 3) := by decide +kernel
theorem dX4_init_78 : decode cX4_init 78 = .ok (.putfield 51, 3) := by decide +kernel
theorem dX4_init_81 : decode cX4_init 81 = .ok (.aload_n 0, 1) := by decide +kernel
theorem dX4_init_82 : decode cX4_init 82 = .ok (.iconst 0, 1) := by decide +kernel
theorem dX4_init_83 : decode cX4_init 83 = .ok (.putfield 55, 3) := by decide +kernel
theorem dX4_init_86 : decode cX4_init 86 = .ok (.iconst 0, 1) := by decide +kernel
theorem dX4_init_87 : decode cX4_init 87 = .ok (.istore_n 1, 1) := by decide +kernel
theorem dX4_init_88 : decode cX4_init 88 = .ok (.iload_n 1, 1) := by decide +kernel
theorem dX4_init_89 : decode cX4_init 89 = .ok (.bipush 8, 2) := by decide +kernel
theorem dX4_init_91 : decode cX4_init 91 = .ok (.if_icmp .ge 22, 3) := by decide +kernel
theorem dX4_init_94 : decode cX4_init 94 = .ok (.aload_n 0, 1) := by decide +kernel
theorem dX4_init_95 : decode cX4_init 95 = .ok (.getfield 27, 3) := by decide +kernel
theorem dX4_init_98 : decode cX4_init 98 = .ok (.iload_n 1, 1) := by decide +kernel
theorem dX4_init_99 : decode cX4_init 99 = .ok (.new 20, 3) := by decide +kernel
theorem dX4_init_102 : decode cX4_init 102 = .ok (.dup, 1) := by decide +kernel
theorem dX4_init_103 : decode cX4_init 103 = .ok (.invokespecial 22, 3) := by decide +kernel
theorem dX4_init_106 : decode cX4_init 106 = .ok (.aastore, 1) := by decide +kernel
theorem dX4_init_107 : decode cX4_init 107 = .ok (.iinc 1 1, 3) := by decide +kernel
theorem dX4_init_110 : decode cX4_init 110 = .ok (.goto (-22), 3) := by decide +kernel
theorem dX4_init_113 : decode cX4_init 113 = .ok (.return_, 1) := by decide +kernel
theorem dX4_append_0 : decode cX4_append 0 = .ok (.aload_n 0, 1) := by decide +kernel
theorem dX4_append_1 : decode cX4_append 1 = .ok (.getfield 13, 3) := by decide +kernel
theorem dX4_append_4 : decode cX4_append 4 = .ok (.bipush 20, 2) := by decide +kernel
theorem dX4_append_6 : decode cX4_append 6 = .ok (.iadd, 1) := by decide +kernel
theorem dX4_append_7 : decode cX4_append 7 = .ok (.sipush 400, 3) := by decide +kernel
theorem dX4_append_10 : decode cX4_append 10 = .ok (.if_icmp .le 5, 3) := by decide +kernel
theorem dX4_append_13 : decode cX4_append 13 = .ok (.iconst (-1), 1) := by decide +kernel
theorem dX4_append_14 : decode cX4_append 14 = .ok (.ireturn, 1) := by decide +kernel
theorem dX4_append_15 : decode cX4_append 15 = .ok (.aload_n 0, 1) := by decide +kernel
theorem dX4_append_16 : decode cX4_append 16 = .ok (.iload_n 1, 1) := by decide +kernel
theorem dX4_append_17 : decode cX4_append 17 = .ok (.invokevirtual 59, 3) := by decide +kernel
theorem dX4_append_20 : decode cX4_append 20 = .ok (.aload_n 0, 1) := by decide +kernel
theorem dX4_append_21 : decode cX4_append 21 = .ok (.iload_n 2, 1) := by decide +kernel
theorem dX4_append_22 : decode cX4_append 22 = .ok (.invokevirtual 59, 3) := by decide +kernel
theorem dX4_append_25 : decode cX4_append 25 = .ok (.aload_n 0, 1) := by decide +kernel
theorem dX4_append_26 : decode cX4_append 26 = .ok (.iload_n 3, 1) := by decide +kernel
theorem dX4_append_27 : decode cX4_append 27 = .ok (.invokevirtual 59, 3) := by decide +kernel
theorem dX4_append_30 : decode cX4_append 30 = .ok (.aload_n 0, 1) := by decide +kernel
theorem dX4_append_31 : decode cX4_append 31 = .ok (.iload 4, 2) := by decide +kernel
theorem dX4_append_33 : decode cX4_append 33 = .ok (.invokevirtual 59, 3) := by decide +kernel
theorem dX4_append_36 : decode cX4_append 36 = .ok (.aload_n 0, 1) := by decide +kernel
theorem dX4_append_37 : decode cX4_append 37 = .ok (.iload 5, 2) := by decide +kernel
theorem dX4_append_39 : decode cX4_append 39 = .ok (.invokevirtual 59, 3) := by decide +kernel
theorem dX4_append_42 : decode cX4_append 42 = .ok (.aload_n 0, 1) := by decide +kernel
theorem dX4_append_43 : decode cX4_append 43 = .ok (.getfield 13, 3) := by decide +kernel
theorem dX4_append_46 : decode cX4_append 46 = .ok (.ireturn, 1) := by decide +kernel
theorem dX4_load_0 : decode cX4_load 0 = .ok (.iload_n 1, 1) := by decide +kernel
theorem dX4_load_1 : decode cX4_load 1 = .ok (.ifCond .lt 11, 3) := by decide +kernel
theorem dX4_load_4 : decode cX4_load 4 = .ok (.iload_n 1, 1) := by decide +kernel
theorem dX4_load_5 : decode cX4_load 5 = .ok (.aload_n 0, 1) := by decide +kernel
theorem dX4_load_6 : decode cX4_load 6 = .ok (.getfield 13, 3) := by decide +kernel
theorem dX4_load_9 : decode cX4_load 9 = .ok (.if_icmp .le 11, 3) := by decide +kernel
theorem dX4_load_12 : decode cX4_load 12 = .ok (.new 63, 3) := by decide +kernel
theorem dX4_load_15 : decode cX4_load 15 = .ok (.dup, 1) := by decide +kernel
theorem dX4_load_16 : decode cX4_load 16 = .ok (.invokespecial 65, 3) := by decide +kernel
theorem dX4_load_19 : decode cX4_load 19 = .ok (.athrow, 1) := by decide +kernel
theorem dX4_load_20 : decode cX4_load 20 = .ok (.aload_n 0, 1) := by decide +kernel
theorem dX4_load_21 : decode cX4_load 21 = .ok (.getfield 37, 3) := by decide +kernel
theorem dX4_load_24 : decode cX4_load 24 = .ok (.aload_n 0, 1) := by decide +kernel
theorem dX4_load_25 : decode cX4_load 25 = .ok (.getfield 9, 3) := by decide +kernel
theorem dX4_load_28 : decode cX4_load 28 = .ok (.iload_n 1, 1) := by decide +kernel
theorem dX4_load_29 : decode cX4_load 29 = .ok (.invokevirtual 66, 3) := by decide +kernel
theorem dX4_load_32 : decode cX4_load 32 = .ok (.istore_n 2, 1) := by decide +kernel
theorem dX4_load_33 : decode cX4_load 33 = .ok (.aload_n 0, 1) := by decide +kernel
theorem dX4_load_34 : decode cX4_load 34 = .ok (.iconst 0, 1) := by decide +kernel
theorem dX4_load_35 : decode cX4_load 35 = .ok (.putfield 13, 3) := by decide +kernel
theorem dX4_load_38 : decode cX4_load 38 = .ok (.aload_n 0, 1) := by decide +kernel
theorem dX4_load_39 : decode cX4_load 39 = .ok (.aload_n 0, 1) := by decide +kernel
theorem dX4_load_40 : decode cX4_load 40 = .ok (.getfield 37, 3) := by decide +kernel
theorem dX4_load_43 : decode cX4_load 43 = .ok (.getfield 70, 3) := by decide +kernel
theorem dX4_load_46 : decode cX4_load 46 = .ok (.putfield 17, 3) := by decide +kernel
theorem dX4_load_49 : decode cX4_load 49 = .ok (.iload_n 2, 1) := by decide +kernel
theorem dX4_load_50 : decode cX4_load 50 = .ok (.ifCond .ge 5, 3) := by decide +kernel
theorem dX4_load_53 : decode cX4_load 53 = .ok (.iload_n 2, 1) := by decide +kernel
theorem dX4_load_54 : decode cX4_load 54 = .ok (.ireturn, 1) := by decide +kernel
theorem dX4_load_55 : decode cX4_load 55 = .ok (.aload_n 0, 1) := by decide +kernel
theorem dX4_load_56 : decode cX4_load 56 = .ok (.invokevirtual 73, 3) := by decide +kernel
theorem dX4_load_59 : decode cX4_load 59 = .ok (.aload_n 0, 1) := by decide +kernel
theorem dX4_load_60 : decode cX4_load 60 = .ok (.getfield 23, 3) := by decide +kernel
theorem dX4_load_63 : decode cX4_load 63 = .ok (.aload_n 0, 1) := by decide +kernel
theorem dX4_load_64 : decode cX4_load 64 = .ok (.getfield 37, 3) := by decide +kernel
theorem dX4_load_67 : decode cX4_load 67 = .ok (.getfield 76, 3) := by decide +kernel
theorem dX4_load_70 : decode cX4_load 70 = .ok (.invokevirtual 79, 3) := by decide +kernel
theorem dX4_load_73 : decode cX4_load 73 = .ok (.aload_n 0, 1) := by decide +kernel
theorem dX4_load_74 : decode cX4_load 74 = .ok (.getfield 23, 3) := by decide +kernel
theorem dX4_load_77 : decode cX4_load 77 = .ok (.invokevirtual 83, 3) := by decide +kernel
theorem dX4_load_80 : decode cX4_load 80 = .ok (.ireturn, 1) := by decide +kernel
theorem dX4_errorOffset_0 : decode cX4_errorOffset 0 = .ok (.aload_n 0, 1) := by decide +kernel
theorem dX4_errorOffset_1 : decode cX4_errorOffset 1 = .ok (.getfield 17, 3) := by decide +kernel
theorem dX4_errorOffset_4 : decode cX4_errorOffset 4 = .ok (.ireturn, 1) := by decide +kernel
theorem dX4_state_0 : decode cX4_state 0 = .ok (.iload_n 1, 1) := by decide +kernel
theorem dX4_state_1 : decode cX4_state 1 = .ok (.tableswitch 111 0 7 #[47, 55, 63, 71, 79, 87, 95, 103], 47) := by decide +kernel
theorem dX4_state_48 : decode cX4_state 48 = .ok (.aload_n 0, 1) := by decide +kernel
theorem dX4_state_49 : decode cX4_state 49 = .ok (.getfield 23, 3) := by decide +kernel
theorem dX4_state_52 : decode cX4_state 52 = .ok (.getfield 87, 3) := by decide +kernel
theorem dX4_state_55 : decode cX4_state 55 = .ok (.ireturn, 1) := by decide +kernel
theorem dX4_state_56 : decode cX4_state 56 = .ok (.aload_n 0, 1) := by decide +kernel
theorem dX4_state_57 : decode cX4_state 57 = .ok (.getfield 23, 3) := by decide +kernel
theorem dX4_state_60 : decode cX4_state 60 = .ok (.getfield 90, 3) := by decide +kernel
theorem dX4_state_63 : decode cX4_state 63 = .ok (.ireturn, 1) := by decide +kernel
theorem dX4_state_64 : decode cX4_state 64 = .ok (.aload_n 0, 1) := by decide +kernel
theorem dX4_state_65 : decode cX4_state 65 = .ok (.getfield 23, 3) := by decide +kernel
theorem dX4_state_68 : decode cX4_state 68 = .ok (.getfield 93, 3) := by decide +kernel
theorem dX4_state_71 : decode cX4_state 71 = .ok (.ireturn, 1) := by decide +kernel
theorem dX4_state_72 : decode cX4_state 72 = .ok (.aload_n 0, 1) := by decide +kernel
theorem dX4_state_73 : decode cX4_state 73 = .ok (.getfield 23, 3) := by decide +kernel
theorem dX4_state_76 : decode cX4_state 76 = .ok (.invokevirtual 96, 3) := by decide +kernel
theorem dX4_state_79 : decode cX4_state 79 = .ok (.ireturn, 1) := by decide +kernel
theorem dX4_state_80 : decode cX4_state 80 = .ok (.aload_n 0, 1) := by decide +kernel
theorem dX4_state_81 : decode cX4_state 81 = .ok (.getfield 23, 3) := by decide +kernel
theorem dX4_state_84 : decode cX4_state 84 = .ok (.getfield 99, 3) := by decide +kernel
theorem dX4_state_87 : decode cX4_state 87 = .ok (.ireturn, 1) := by decide +kernel
theorem dX4_state_88 : decode cX4_state 88 = .ok (.aload_n 0, 1) := by decide +kernel
theorem dX4_state_89 : decode cX4_state 89 = .ok (.getfield 23, 3) := by decide +kernel
theorem dX4_state_92 : decode cX4_state 92 = .ok (.getfield 102, 3) := by decide +kernel
theorem dX4_state_95 : decode cX4_state 95 = .ok (.ireturn, 1) := by decide +kernel
theorem dX4_state_96 : decode cX4_state 96 = .ok (.aload_n 0, 1) := by decide +kernel
theorem dX4_state_97 : decode cX4_state 97 = .ok (.getfield 23, 3) := by decide +kernel
theorem dX4_state_100 : decode cX4_state 100 = .ok (.getfield 105, 3) := by decide +kernel
theorem dX4_state_103 : decode cX4_state 103 = .ok (.ireturn, 1) := by decide +kernel
theorem dX4_state_104 : decode cX4_state 104 = .ok (.aload_n 0, 1) := by decide +kernel
theorem dX4_state_105 : decode cX4_state 105 = .ok (.getfield 23, 3) := by decide +kernel
theorem dX4_state_108 : decode cX4_state 108 = .ok (.invokevirtual 108, 3) := by decide +kernel
theorem dX4_state_111 : decode cX4_state 111 = .ok (.ireturn, 1) := by decide +kernel
theorem dX4_state_112 : decode cX4_state 112 = .ok (.new 63, 3) := by decide +kernel
theorem dX4_state_115 : decode cX4_state 115 = .ok (.dup, 1) := by decide +kernel
theorem dX4_state_116 : decode cX4_state 116 = .ok (.invokespecial 65, 3) := by decide +kernel
theorem dX4_state_119 : decode cX4_state 119 = .ok (.athrow, 1) := by decide +kernel
theorem dX4_letter_0 : decode cX4_letter 0 = .ok (.aload_n 0, 1) := by decide +kernel
theorem dX4_letter_1 : decode cX4_letter 1 = .ok (.getfield 23, 3) := by decide +kernel
theorem dX4_letter_4 : decode cX4_letter 4 = .ok (.iload_n 1, 1) := by decide +kernel
theorem dX4_letter_5 : decode cX4_letter 5 = .ok (.iload_n 2, 1) := by decide +kernel
theorem dX4_letter_6 : decode cX4_letter 6 = .ok (.invokevirtual 111, 3) := by decide +kernel
theorem dX4_letter_9 : decode cX4_letter 9 = .ok (.ifCond .ne 11, 3) := by decide +kernel
theorem dX4_letter_12 : decode cX4_letter 12 = .ok (.new 115, 3) := by decide +kernel
theorem dX4_letter_15 : decode cX4_letter 15 = .ok (.dup, 1) := by decide +kernel
theorem dX4_letter_16 : decode cX4_letter 16 = .ok (.invokespecial 117, 3) := by decide +kernel
theorem dX4_letter_19 : decode cX4_letter 19 = .ok (.athrow, 1) := by decide +kernel
theorem dX4_letter_20 : decode cX4_letter 20 = .ok (.aload_n 0, 1) := by decide +kernel
theorem dX4_letter_21 : decode cX4_letter 21 = .ok (.aload_n 0, 1) := by decide +kernel
theorem dX4_letter_22 : decode cX4_letter 22 = .ok (.getfield 23, 3) := by decide +kernel
theorem dX4_letter_25 : decode cX4_letter 25 = .ok (.iload_n 1, 1) := by decide +kernel
theorem dX4_letter_26 : decode cX4_letter 26 = .ok (.iload_n 2, 1) := by decide +kernel
theorem dX4_letter_27 : decode cX4_letter 27 = .ok (.invokevirtual 118, 3) := by decide +kernel
theorem dX4_letter_30 : decode cX4_letter 30 = .ok (.invokevirtual 122, 3) := by decide +kernel
theorem dX4_letter_33 : decode cX4_letter 33 = .ok (.ireturn, 1) := by decide +kernel
theorem dX4_place_0 : decode cX4_place 0 = .ok (.aload_n 0, 1) := by decide +kernel
theorem dX4_place_1 : decode cX4_place 1 = .ok (.getfield 23, 3) := by decide +kernel
theorem dX4_place_4 : decode cX4_place 4 = .ok (.iload_n 1, 1) := by decide +kernel
theorem dX4_place_5 : decode cX4_place 5 = .ok (.iload_n 2, 1) := by decide +kernel
theorem dX4_place_6 : decode cX4_place 6 = .ok (.invokevirtual 111, 3) := by decide +kernel
theorem dX4_place_9 : decode cX4_place 9 = .ok (.ifCond .ne 11, 3) := by decide +kernel
theorem dX4_place_12 : decode cX4_place 12 = .ok (.new 115, 3) := by decide +kernel
theorem dX4_place_15 : decode cX4_place 15 = .ok (.dup, 1) := by decide +kernel
theorem dX4_place_16 : decode cX4_place 16 = .ok (.invokespecial 117, 3) := by decide +kernel
theorem dX4_place_19 : decode cX4_place 19 = .ok (.athrow, 1) := by decide +kernel
theorem dX4_place_20 : decode cX4_place 20 = .ok (.aload_n 0, 1) := by decide +kernel
theorem dX4_place_21 : decode cX4_place 21 = .ok (.getfield 23, 3) := by decide +kernel
theorem dX4_place_24 : decode cX4_place 24 = .ok (.iload_n 1, 1) := by decide +kernel
theorem dX4_place_25 : decode cX4_place 25 = .ok (.iload_n 2, 1) := by decide +kernel
theorem dX4_place_26 : decode cX4_place 26 = .ok (.invokevirtual 118, 3) := by decide +kernel
theorem dX4_place_29 : decode cX4_place 29 = .ok (.istore 4, 2) := by decide +kernel
theorem dX4_place_31 : decode cX4_place 31 = .ok (.iload_n 3, 1) := by decide +kernel
theorem dX4_place_32 : decode cX4_place 32 = .ok (.tableswitch 115 0 4 #[36, 53, 63, 80, 98], 36) := by decide +kernel
theorem dX4_place_68 : decode cX4_place 68 = .ok (.aload_n 0, 1) := by decide +kernel
theorem dX4_place_69 : decode cX4_place 69 = .ok (.getfield 23, 3) := by decide +kernel
theorem dX4_place_72 : decode cX4_place 72 = .ok (.aload_n 0, 1) := by decide +kernel
theorem dX4_place_73 : decode cX4_place 73 = .ok (.getfield 23, 3) := by decide +kernel
theorem dX4_place_76 : decode cX4_place 76 = .ok (.iload 4, 2) := by decide +kernel
theorem dX4_place_78 : decode cX4_place 78 = .ok (.invokevirtual 126, 3) := by decide +kernel
theorem dX4_place_81 : decode cX4_place 81 = .ok (.invokevirtual 129, 3) := by decide +kernel
theorem dX4_place_84 : decode cX4_place 84 = .ok (.ireturn, 1) := by decide +kernel
theorem dX4_place_85 : decode cX4_place 85 = .ok (.aload_n 0, 1) := by decide +kernel
theorem dX4_place_86 : decode cX4_place 86 = .ok (.getfield 23, 3) := by decide +kernel
theorem dX4_place_89 : decode cX4_place 89 = .ok (.iload 4, 2) := by decide +kernel
theorem dX4_place_91 : decode cX4_place 91 = .ok (.invokevirtual 132, 3) := by decide +kernel
theorem dX4_place_94 : decode cX4_place 94 = .ok (.ireturn, 1) := by decide +kernel
theorem dX4_place_95 : decode cX4_place 95 = .ok (.aload_n 0, 1) := by decide +kernel
theorem dX4_place_96 : decode cX4_place 96 = .ok (.getfield 23, 3) := by decide +kernel
theorem dX4_place_99 : decode cX4_place 99 = .ok (.aload_n 0, 1) := by decide +kernel
theorem dX4_place_100 : decode cX4_place 100 = .ok (.getfield 23, 3) := by decide +kernel
theorem dX4_place_103 : decode cX4_place 103 = .ok (.iload 4, 2) := by decide +kernel
theorem dX4_place_105 : decode cX4_place 105 = .ok (.invokevirtual 135, 3) := by decide +kernel
theorem dX4_place_108 : decode cX4_place 108 = .ok (.invokevirtual 129, 3) := by decide +kernel
theorem dX4_place_111 : decode cX4_place 111 = .ok (.ireturn, 1) := by decide +kernel
theorem dX4_place_112 : decode cX4_place 112 = .ok (.aload_n 0, 1) := by decide +kernel
theorem dX4_place_113 : decode cX4_place 113 = .ok (.getfield 23, 3) := by decide +kernel
theorem dX4_place_116 : decode cX4_place 116 = .ok (.iload 4, 2) := by decide +kernel
theorem dX4_place_118 : decode cX4_place 118 = .ok (.invokevirtual 138, 3) := by decide +kernel
theorem dX4_place_121 : decode cX4_place 121 = .ok (.ifCond .eq 7, 3) := by decide +kernel
theorem dX4_place_124 : decode cX4_place 124 = .ok (.iconst 1, 1) := by decide +kernel
theorem dX4_place_125 : decode cX4_place 125 = .ok (.goto 4, 3) := by decide +kernel
theorem dX4_place_128 : decode cX4_place 128 = .ok (.iconst 0, 1) := by decide +kernel
theorem dX4_place_129 : decode cX4_place 129 = .ok (.ireturn, 1) := by decide +kernel
theorem dX4_place_130 : decode cX4_place 130 = .ok (.aload_n 0, 1) := by decide +kernel
theorem dX4_place_131 : decode cX4_place 131 = .ok (.getfield 23, 3) := by decide +kernel
theorem dX4_place_134 : decode cX4_place 134 = .ok (.aload_n 0, 1) := by decide +kernel
theorem dX4_place_135 : decode cX4_place 135 = .ok (.getfield 23, 3) := by decide +kernel
theorem dX4_place_138 : decode cX4_place 138 = .ok (.iload 4, 2) := by decide +kernel
theorem dX4_place_140 : decode cX4_place 140 = .ok (.invokevirtual 142, 3) := by decide +kernel
theorem dX4_place_143 : decode cX4_place 143 = .ok (.invokevirtual 145, 3) := by decide +kernel
theorem dX4_place_146 : decode cX4_place 146 = .ok (.ireturn, 1) := by decide +kernel
theorem dX4_place_147 : decode cX4_place 147 = .ok (.new 63, 3) := by decide +kernel
theorem dX4_place_150 : decode cX4_place 150 = .ok (.dup, 1) := by decide +kernel
theorem dX4_place_151 : decode cX4_place 151 = .ok (.invokespecial 65, 3) := by decide +kernel
theorem dX4_place_154 : decode cX4_place 154 = .ok (.athrow, 1) := by decide +kernel
theorem dX4_stock_0 : decode cX4_stock 0 = .ok (.iload_n 1, 1) := by decide +kernel
theorem dX4_stock_1 : decode cX4_stock 1 = .ok (.ifCond .lt 9, 3) := by decide +kernel
theorem dX4_stock_4 : decode cX4_stock 4 = .ok (.iload_n 1, 1) := by decide +kernel
theorem dX4_stock_5 : decode cX4_stock 5 = .ok (.bipush 26, 2) := by decide +kernel
theorem dX4_stock_7 : decode cX4_stock 7 = .ok (.if_icmp .lt 11, 3) := by decide +kernel
theorem dX4_stock_10 : decode cX4_stock 10 = .ok (.new 63, 3) := by decide +kernel
theorem dX4_stock_13 : decode cX4_stock 13 = .ok (.dup, 1) := by decide +kernel
theorem dX4_stock_14 : decode cX4_stock 14 = .ok (.invokespecial 65, 3) := by decide +kernel
theorem dX4_stock_17 : decode cX4_stock 17 = .ok (.athrow, 1) := by decide +kernel
theorem dX4_stock_18 : decode cX4_stock 18 = .ok (.iload_n 2, 1) := by decide +kernel
theorem dX4_stock_19 : decode cX4_stock 19 = .ok (.tableswitch 55 0 2 #[25, 34, 46], 25) := by decide +kernel
theorem dX4_stock_44 : decode cX4_stock 44 = .ok (.aload_n 0, 1) := by decide +kernel
theorem dX4_stock_45 : decode cX4_stock 45 = .ok (.getfield 23, 3) := by decide +kernel
theorem dX4_stock_48 : decode cX4_stock 48 = .ok (.iload_n 1, 1) := by decide +kernel
theorem dX4_stock_49 : decode cX4_stock 49 = .ok (.invokevirtual 148, 3) := by decide +kernel
theorem dX4_stock_52 : decode cX4_stock 52 = .ok (.ireturn, 1) := by decide +kernel
theorem dX4_stock_53 : decode cX4_stock 53 = .ok (.aload_n 0, 1) := by decide +kernel
theorem dX4_stock_54 : decode cX4_stock 54 = .ok (.getfield 23, 3) := by decide +kernel
theorem dX4_stock_57 : decode cX4_stock 57 = .ok (.iload_n 1, 1) := by decide +kernel
theorem dX4_stock_58 : decode cX4_stock 58 = .ok (.invokevirtual 151, 3) := by decide +kernel
theorem dX4_stock_61 : decode cX4_stock 61 = .ok (.invokestatic 155, 3) := by decide +kernel
theorem dX4_stock_64 : decode cX4_stock 64 = .ok (.ireturn, 1) := by decide +kernel
theorem dX4_stock_65 : decode cX4_stock 65 = .ok (.aload_n 0, 1) := by decide +kernel
theorem dX4_stock_66 : decode cX4_stock 66 = .ok (.getfield 23, 3) := by decide +kernel
theorem dX4_stock_69 : decode cX4_stock 69 = .ok (.iload_n 1, 1) := by decide +kernel
theorem dX4_stock_70 : decode cX4_stock 70 = .ok (.invokevirtual 145, 3) := by decide +kernel
theorem dX4_stock_73 : decode cX4_stock 73 = .ok (.ireturn, 1) := by decide +kernel
theorem dX4_stock_74 : decode cX4_stock 74 = .ok (.new 63, 3) := by decide +kernel
theorem dX4_stock_77 : decode cX4_stock 77 = .ok (.dup, 1) := by decide +kernel
theorem dX4_stock_78 : decode cX4_stock 78 = .ok (.invokespecial 65, 3) := by decide +kernel
theorem dX4_stock_81 : decode cX4_stock 81 = .ok (.athrow, 1) := by decide +kernel
theorem dX4_message_0 : decode cX4_message 0 = .ok (.aload_n 0, 1) := by decide +kernel
theorem dX4_message_1 : decode cX4_message 1 = .ok (.getfield 23, 3) := by decide +kernel
theorem dX4_message_4 : decode cX4_message 4 = .ok (.iload_n 1, 1) := by decide +kernel
theorem dX4_message_5 : decode cX4_message 5 = .ok (.invokevirtual 161, 3) := by decide +kernel
theorem dX4_message_8 : decode cX4_message 8 = .ok (.ifCond .ne 11, 3) := by decide +kernel
theorem dX4_message_11 : decode cX4_message 11 = .ok (.new 164, 3) := by decide +kernel
theorem dX4_message_14 : decode cX4_message 14 = .ok (.dup, 1) := by decide +kernel
theorem dX4_message_15 : decode cX4_message 15 = .ok (.invokespecial 166, 3) := by decide +kernel
theorem dX4_message_18 : decode cX4_message 18 = .ok (.athrow, 1) := by decide +kernel
theorem dX4_message_19 : decode cX4_message 19 = .ok (.aload_n 0, 1) := by decide +kernel
theorem dX4_message_20 : decode cX4_message 20 = .ok (.getfield 23, 3) := by decide +kernel
theorem dX4_message_23 : decode cX4_message 23 = .ok (.iload_n 1, 1) := by decide +kernel
theorem dX4_message_24 : decode cX4_message 24 = .ok (.invokevirtual 167, 3) := by decide +kernel
theorem dX4_message_27 : decode cX4_message 27 = .ok (.ireturn, 1) := by decide +kernel
theorem dX4_missing_0 : decode cX4_missing 0 = .ok (.iconst 0, 1) := by decide +kernel
theorem dX4_missing_1 : decode cX4_missing 1 = .ok (.istore_n 1, 1) := by decide +kernel
theorem dX4_missing_2 : decode cX4_missing 2 = .ok (.aload_n 0, 1) := by decide +kernel
theorem dX4_missing_3 : decode cX4_missing 3 = .ok (.getfield 44, 3) := by decide +kernel
theorem dX4_missing_6 : decode cX4_missing 6 = .ok (.invokevirtual 170, 3) := by decide +kernel
theorem dX4_missing_9 : decode cX4_missing 9 = .ok (.iconst 0, 1) := by decide +kernel
theorem dX4_missing_10 : decode cX4_missing 10 = .ok (.istore_n 2, 1) := by decide +kernel
theorem dX4_missing_11 : decode cX4_missing 11 = .ok (.iload_n 2, 1) := by decide +kernel
theorem dX4_missing_12 : decode cX4_missing 12 = .ok (.aload_n 0, 1) := by decide +kernel
theorem dX4_missing_13 : decode cX4_missing 13 = .ok (.getfield 23, 3) := by decide +kernel
theorem dX4_missing_16 : decode cX4_missing 16 = .ok (.getfield 99, 3) := by decide +kernel
theorem dX4_missing_19 : decode cX4_missing 19 = .ok (.if_icmp .ge 37, 3) := by decide +kernel
theorem dX4_missing_22 : decode cX4_missing 22 = .ok (.aload_n 0, 1) := by decide +kernel
theorem dX4_missing_23 : decode cX4_missing 23 = .ok (.getfield 44, 3) := by decide +kernel
theorem dX4_missing_26 : decode cX4_missing 26 = .ok (.aload_n 0, 1) := by decide +kernel
theorem dX4_missing_27 : decode cX4_missing 27 = .ok (.getfield 23, 3) := by decide +kernel
theorem dX4_missing_30 : decode cX4_missing 30 = .ok (.aload_n 0, 1) := by decide +kernel
theorem dX4_missing_31 : decode cX4_missing 31 = .ok (.getfield 23, 3) := by decide +kernel
theorem dX4_missing_34 : decode cX4_missing 34 = .ok (.iload_n 2, 1) := by decide +kernel
theorem dX4_missing_35 : decode cX4_missing 35 = .ok (.invokevirtual 167, 3) := by decide +kernel
theorem dX4_missing_38 : decode cX4_missing 38 = .ok (.invokevirtual 151, 3) := by decide +kernel
theorem dX4_missing_41 : decode cX4_missing 41 = .ok (.invokevirtual 173, 3) := by decide +kernel
theorem dX4_missing_44 : decode cX4_missing 44 = .ok (.ifCond .ne 6, 3) := by decide +kernel
theorem dX4_missing_47 : decode cX4_missing 47 = .ok (.iinc 1 1, 3) := by decide +kernel
theorem dX4_missing_50 : decode cX4_missing 50 = .ok (.iinc 2 1, 3) := by decide +kernel
theorem dX4_missing_53 : decode cX4_missing 53 = .ok (.goto (-42), 3) := by decide +kernel
theorem dX4_missing_56 : decode cX4_missing 56 = .ok (.iload_n 1, 1) := by decide +kernel
theorem dX4_missing_57 : decode cX4_missing 57 = .ok (.ireturn, 1) := by decide +kernel
theorem dX4_cutOf_0 : decode cX4_cutOf 0 = .ok (.iload_n 1, 1) := by decide +kernel
theorem dX4_cutOf_1 : decode cX4_cutOf 1 = .ok (.ifCond .lt 11, 3) := by decide +kernel
theorem dX4_cutOf_4 : decode cX4_cutOf 4 = .ok (.iload_n 1, 1) := by decide +kernel
theorem dX4_cutOf_5 : decode cX4_cutOf 5 = .ok (.aload_n 0, 1) := by decide +kernel
theorem dX4_cutOf_6 : decode cX4_cutOf 6 = .ok (.invokevirtual 177, 3) := by decide +kernel
theorem dX4_cutOf_9 : decode cX4_cutOf 9 = .ok (.if_icmp .lt 11, 3) := by decide +kernel
theorem dX4_cutOf_12 : decode cX4_cutOf 12 = .ok (.new 164, 3) := by decide +kernel
theorem dX4_cutOf_15 : decode cX4_cutOf 15 = .ok (.dup, 1) := by decide +kernel
theorem dX4_cutOf_16 : decode cX4_cutOf 16 = .ok (.invokespecial 166, 3) := by decide +kernel
theorem dX4_cutOf_19 : decode cX4_cutOf 19 = .ok (.athrow, 1) := by decide +kernel
theorem dX4_cutOf_20 : decode cX4_cutOf 20 = .ok (.iload_n 2, 1) := by decide +kernel
theorem dX4_cutOf_21 : decode cX4_cutOf 21 = .ok (.tableswitch 74 0 3 #[31, 40, 52, 68], 31) := by decide +kernel
theorem dX4_cutOf_52 : decode cX4_cutOf 52 = .ok (.aload_n 0, 1) := by decide +kernel
theorem dX4_cutOf_53 : decode cX4_cutOf 53 = .ok (.getfield 51, 3) := by decide +kernel
theorem dX4_cutOf_56 : decode cX4_cutOf 56 = .ok (.iload_n 1, 1) := by decide +kernel
theorem dX4_cutOf_57 : decode cX4_cutOf 57 = .ok (.invokevirtual 180, 3) := by decide +kernel
theorem dX4_cutOf_60 : decode cX4_cutOf 60 = .ok (.ireturn, 1) := by decide +kernel
theorem dX4_cutOf_61 : decode cX4_cutOf 61 = .ok (.aload_n 0, 1) := by decide +kernel
theorem dX4_cutOf_62 : decode cX4_cutOf 62 = .ok (.getfield 51, 3) := by decide +kernel
theorem dX4_cutOf_65 : decode cX4_cutOf 65 = .ok (.iload_n 1, 1) := by decide +kernel
theorem dX4_cutOf_66 : decode cX4_cutOf 66 = .ok (.invokevirtual 183, 3) := by decide +kernel
theorem dX4_cutOf_69 : decode cX4_cutOf 69 = .ok (.invokestatic 186, 3) := by decide +kernel
theorem dX4_cutOf_72 : decode cX4_cutOf 72 = .ok (.ireturn, 1) := by decide +kernel
theorem dX4_cutOf_73 : decode cX4_cutOf 73 = .ok (.aload_n 0, 1) := by decide +kernel
theorem dX4_cutOf_74 : decode cX4_cutOf 74 = .ok (.getfield 23, 3) := by decide +kernel
theorem dX4_cutOf_77 : decode cX4_cutOf 77 = .ok (.aload_n 0, 1) := by decide +kernel
theorem dX4_cutOf_78 : decode cX4_cutOf 78 = .ok (.getfield 51, 3) := by decide +kernel
theorem dX4_cutOf_81 : decode cX4_cutOf 81 = .ok (.iload_n 1, 1) := by decide +kernel
theorem dX4_cutOf_82 : decode cX4_cutOf 82 = .ok (.invokevirtual 183, 3) := by decide +kernel
theorem dX4_cutOf_85 : decode cX4_cutOf 85 = .ok (.invokevirtual 129, 3) := by decide +kernel
theorem dX4_cutOf_88 : decode cX4_cutOf 88 = .ok (.ireturn, 1) := by decide +kernel
theorem dX4_cutOf_89 : decode cX4_cutOf 89 = .ok (.aload_n 0, 1) := by decide +kernel
theorem dX4_cutOf_90 : decode cX4_cutOf 90 = .ok (.iload_n 1, 1) := by decide +kernel
theorem dX4_cutOf_91 : decode cX4_cutOf 91 = .ok (.invokevirtual 189, 3) := by decide +kernel
theorem dX4_cutOf_94 : decode cX4_cutOf 94 = .ok (.ireturn, 1) := by decide +kernel
theorem dX4_cutOf_95 : decode cX4_cutOf 95 = .ok (.new 63, 3) := by decide +kernel
theorem dX4_cutOf_98 : decode cX4_cutOf 98 = .ok (.dup, 1) := by decide +kernel
theorem dX4_cutOf_99 : decode cX4_cutOf 99 = .ok (.invokespecial 65, 3) := by decide +kernel
theorem dX4_cutOf_102 : decode cX4_cutOf 102 = .ok (.athrow, 1) := by decide +kernel
theorem dX4_longest_0 : decode cX4_longest 0 = .ok (.aload_n 0, 1) := by decide +kernel
theorem dX4_longest_1 : decode cX4_longest 1 = .ok (.getfield 23, 3) := by decide +kernel
theorem dX4_longest_4 : decode cX4_longest 4 = .ok (.iload_n 1, 1) := by decide +kernel
theorem dX4_longest_5 : decode cX4_longest 5 = .ok (.invokevirtual 161, 3) := by decide +kernel
theorem dX4_longest_8 : decode cX4_longest 8 = .ok (.ifCond .ne 11, 3) := by decide +kernel
theorem dX4_longest_11 : decode cX4_longest 11 = .ok (.new 164, 3) := by decide +kernel
theorem dX4_longest_14 : decode cX4_longest 14 = .ok (.dup, 1) := by decide +kernel
theorem dX4_longest_15 : decode cX4_longest 15 = .ok (.invokespecial 166, 3) := by decide +kernel
theorem dX4_longest_18 : decode cX4_longest 18 = .ok (.athrow, 1) := by decide +kernel
theorem dX4_longest_19 : decode cX4_longest 19 = .ok (.iconst 0, 1) := by decide +kernel
theorem dX4_longest_20 : decode cX4_longest 20 = .ok (.istore_n 2, 1) := by decide +kernel
theorem dX4_longest_21 : decode cX4_longest 21 = .ok (.iconst 0, 1) := by decide +kernel
theorem dX4_longest_22 : decode cX4_longest 22 = .ok (.istore_n 3, 1) := by decide +kernel
theorem dX4_longest_23 : decode cX4_longest 23 = .ok (.iload_n 3, 1) := by decide +kernel
theorem dX4_longest_24 : decode cX4_longest 24 = .ok (.bipush 96, 2) := by decide +kernel
theorem dX4_longest_26 : decode cX4_longest 26 = .ok (.if_icmp .ge 23, 3) := by decide +kernel
theorem dX4_longest_29 : decode cX4_longest 29 = .ok (.iload_n 2, 1) := by decide +kernel
theorem dX4_longest_30 : decode cX4_longest 30 = .ok (.aload_n 0, 1) := by decide +kernel
theorem dX4_longest_31 : decode cX4_longest 31 = .ok (.getfield 23, 3) := by decide +kernel
theorem dX4_longest_34 : decode cX4_longest 34 = .ok (.iload_n 3, 1) := by decide +kernel
theorem dX4_longest_35 : decode cX4_longest 35 = .ok (.iload_n 1, 1) := by decide +kernel
theorem dX4_longest_36 : decode cX4_longest 36 = .ok (.invokevirtual 207, 3) := by decide +kernel
theorem dX4_longest_39 : decode cX4_longest 39 = .ok (.invokestatic 210, 3) := by decide +kernel
theorem dX4_longest_42 : decode cX4_longest 42 = .ok (.istore_n 2, 1) := by decide +kernel
theorem dX4_longest_43 : decode cX4_longest 43 = .ok (.iinc 3 1, 3) := by decide +kernel
theorem dX4_longest_46 : decode cX4_longest 46 = .ok (.goto (-23), 3) := by decide +kernel
theorem dX4_longest_49 : decode cX4_longest 49 = .ok (.iload_n 2, 1) := by decide +kernel
theorem dX4_longest_50 : decode cX4_longest 50 = .ok (.ireturn, 1) := by decide +kernel
theorem dX4_clashes_0 : decode cX4_clashes 0 = .ok (.iconst 0, 1) := by decide +kernel
theorem dX4_clashes_1 : decode cX4_clashes 1 = .ok (.istore_n 1, 1) := by decide +kernel
theorem dX4_clashes_2 : decode cX4_clashes 2 = .ok (.iconst 0, 1) := by decide +kernel
theorem dX4_clashes_3 : decode cX4_clashes 3 = .ok (.istore_n 2, 1) := by decide +kernel
theorem dX4_clashes_4 : decode cX4_clashes 4 = .ok (.iload_n 2, 1) := by decide +kernel
theorem dX4_clashes_5 : decode cX4_clashes 5 = .ok (.bipush 48, 2) := by decide +kernel
theorem dX4_clashes_7 : decode cX4_clashes 7 = .ok (.if_icmp .ge 35, 3) := by decide +kernel
theorem dX4_clashes_10 : decode cX4_clashes 10 = .ok (.aload_n 0, 1) := by decide +kernel
theorem dX4_clashes_11 : decode cX4_clashes 11 = .ok (.iload_n 2, 1) := by decide +kernel
theorem dX4_clashes_12 : decode cX4_clashes 12 = .ok (.invokevirtual 213, 3) := by decide +kernel
theorem dX4_clashes_15 : decode cX4_clashes 15 = .ok (.ifCond .eq 21, 3) := by decide +kernel
theorem dX4_clashes_18 : decode cX4_clashes 18 = .ok (.aload_n 0, 1) := by decide +kernel
theorem dX4_clashes_19 : decode cX4_clashes 19 = .ok (.aload_n 0, 1) := by decide +kernel
theorem dX4_clashes_20 : decode cX4_clashes 20 = .ok (.getfield 23, 3) := by decide +kernel
theorem dX4_clashes_23 : decode cX4_clashes 23 = .ok (.iload_n 2, 1) := by decide +kernel
theorem dX4_clashes_24 : decode cX4_clashes 24 = .ok (.invokevirtual 135, 3) := by decide +kernel
theorem dX4_clashes_27 : decode cX4_clashes 27 = .ok (.invokevirtual 213, 3) := by decide +kernel
theorem dX4_clashes_30 : decode cX4_clashes 30 = .ok (.ifCond .eq 6, 3) := by decide +kernel
theorem dX4_clashes_33 : decode cX4_clashes 33 = .ok (.iinc 1 1, 3) := by decide +kernel
theorem dX4_clashes_36 : decode cX4_clashes 36 = .ok (.iinc 2 1, 3) := by decide +kernel
theorem dX4_clashes_39 : decode cX4_clashes 39 = .ok (.goto (-35), 3) := by decide +kernel
theorem dX4_clashes_42 : decode cX4_clashes 42 = .ok (.iload_n 1, 1) := by decide +kernel
theorem dX4_clashes_43 : decode cX4_clashes 43 = .ok (.ireturn, 1) := by decide +kernel
theorem dX4_tell_0 : decode cX4_tell 0 = .ok (.iload_n 1, 1) := by decide +kernel
theorem dX4_tell_1 : decode cX4_tell 1 = .ok (.iconst 1, 1) := by decide +kernel
theorem dX4_tell_2 : decode cX4_tell 2 = .ok (.if_icmp .lt 25, 3) := by decide +kernel
theorem dX4_tell_5 : decode cX4_tell 5 = .ok (.iload_n 1, 1) := by decide +kernel
theorem dX4_tell_6 : decode cX4_tell 6 = .ok (.bipush 24, 2) := by decide +kernel
theorem dX4_tell_8 : decode cX4_tell 8 = .ok (.if_icmp .gt 19, 3) := by decide +kernel
theorem dX4_tell_11 : decode cX4_tell 11 = .ok (.iload_n 1, 1) := by decide +kernel
theorem dX4_tell_12 : decode cX4_tell 12 = .ok (.aload_n 0, 1) := by decide +kernel
theorem dX4_tell_13 : decode cX4_tell 13 = .ok (.getfield 13, 3) := by decide +kernel
theorem dX4_tell_16 : decode cX4_tell 16 = .ok (.if_icmp .gt 11, 3) := by decide +kernel
theorem dX4_tell_19 : decode cX4_tell 19 = .ok (.aload_n 0, 1) := by decide +kernel
theorem dX4_tell_20 : decode cX4_tell 20 = .ok (.iload_n 1, 1) := by decide +kernel
theorem dX4_tell_21 : decode cX4_tell 21 = .ok (.invokevirtual 216, 3) := by decide +kernel
theorem dX4_tell_24 : decode cX4_tell 24 = .ok (.ifCond .ne 11, 3) := by decide +kernel
theorem dX4_tell_27 : decode cX4_tell 27 = .ok (.new 63, 3) := by decide +kernel
theorem dX4_tell_30 : decode cX4_tell 30 = .ok (.dup, 1) := by decide +kernel
theorem dX4_tell_31 : decode cX4_tell 31 = .ok (.invokespecial 65, 3) := by decide +kernel
theorem dX4_tell_34 : decode cX4_tell 34 = .ok (.athrow, 1) := by decide +kernel
theorem dX4_tell_35 : decode cX4_tell 35 = .ok (.aload_n 0, 1) := by decide +kernel
theorem dX4_tell_36 : decode cX4_tell 36 = .ok (.invokevirtual 73, 3) := by decide +kernel
theorem dX4_tell_39 : decode cX4_tell 39 = .ok (.iconst 0, 1) := by decide +kernel
theorem dX4_tell_40 : decode cX4_tell 40 = .ok (.istore_n 2, 1) := by decide +kernel
theorem dX4_tell_41 : decode cX4_tell 41 = .ok (.iload_n 2, 1) := by decide +kernel
theorem dX4_tell_42 : decode cX4_tell 42 = .ok (.iload_n 1, 1) := by decide +kernel
theorem dX4_tell_43 : decode cX4_tell 43 = .ok (.if_icmp .ge 27, 3) := by decide +kernel
theorem dX4_tell_46 : decode cX4_tell 46 = .ok (.aload_n 0, 1) := by decide +kernel
theorem dX4_tell_47 : decode cX4_tell 47 = .ok (.getfield 23, 3) := by decide +kernel
theorem dX4_tell_50 : decode cX4_tell 50 = .ok (.getfield 219, 3) := by decide +kernel
theorem dX4_tell_53 : decode cX4_tell 53 = .ok (.iload_n 2, 1) := by decide +kernel
theorem dX4_tell_54 : decode cX4_tell 54 = .ok (.aload_n 0, 1) := by decide +kernel
theorem dX4_tell_55 : decode cX4_tell 55 = .ok (.getfield 9, 3) := by decide +kernel
theorem dX4_tell_58 : decode cX4_tell 58 = .ok (.iload_n 2, 1) := by decide +kernel
theorem dX4_tell_59 : decode cX4_tell 59 = .ok (.baload, 1) := by decide +kernel
theorem dX4_tell_60 : decode cX4_tell 60 = .ok (.bipush 97, 2) := by decide +kernel
theorem dX4_tell_62 : decode cX4_tell 62 = .ok (.isub, 1) := by decide +kernel
theorem dX4_tell_63 : decode cX4_tell 63 = .ok (.iastore, 1) := by decide +kernel
theorem dX4_tell_64 : decode cX4_tell 64 = .ok (.iinc 2 1, 3) := by decide +kernel
theorem dX4_tell_67 : decode cX4_tell 67 = .ok (.goto (-26), 3) := by decide +kernel
theorem dX4_tell_70 : decode cX4_tell 70 = .ok (.aload_n 0, 1) := by decide +kernel
theorem dX4_tell_71 : decode cX4_tell 71 = .ok (.getfield 23, 3) := by decide +kernel
theorem dX4_tell_74 : decode cX4_tell 74 = .ok (.iload_n 1, 1) := by decide +kernel
theorem dX4_tell_75 : decode cX4_tell 75 = .ok (.putfield 99, 3) := by decide +kernel
theorem dX4_tell_78 : decode cX4_tell 78 = .ok (.aload_n 0, 1) := by decide +kernel
theorem dX4_tell_79 : decode cX4_tell 79 = .ok (.iconst 0, 1) := by decide +kernel
theorem dX4_tell_80 : decode cX4_tell 80 = .ok (.putfield 13, 3) := by decide +kernel
theorem dX4_tell_83 : decode cX4_tell 83 = .ok (.aload_n 0, 1) := by decide +kernel
theorem dX4_tell_84 : decode cX4_tell 84 = .ok (.invokevirtual 223, 3) := by decide +kernel
theorem dX4_tell_87 : decode cX4_tell 87 = .ok (.ireturn, 1) := by decide +kernel
theorem dX4_cut_0 : decode cX4_cut 0 = .ok (.aload_n 0, 1) := by decide +kernel
theorem dX4_cut_1 : decode cX4_cut 1 = .ok (.invokevirtual 177, 3) := by decide +kernel
theorem dX4_cut_4 : decode cX4_cut 4 = .ok (.istore_n 1, 1) := by decide +kernel
theorem dX4_cut_5 : decode cX4_cut 5 = .ok (.iload_n 1, 1) := by decide +kernel
theorem dX4_cut_6 : decode cX4_cut 6 = .ok (.ifCond .gt 11, 3) := by decide +kernel
theorem dX4_cut_9 : decode cX4_cut 9 = .ok (.new 226, 3) := by decide +kernel
theorem dX4_cut_12 : decode cX4_cut 12 = .ok (.dup, 1) := by decide +kernel
theorem dX4_cut_13 : decode cX4_cut 13 = .ok (.invokespecial 228, 3) := by decide +kernel
theorem dX4_cut_16 : decode cX4_cut 16 = .ok (.athrow, 1) := by decide +kernel
theorem dX4_cut_17 : decode cX4_cut 17 = .ok (.aload_n 0, 1) := by decide +kernel
theorem dX4_cut_18 : decode cX4_cut 18 = .ok (.invokevirtual 73, 3) := by decide +kernel
theorem dX4_cut_21 : decode cX4_cut 21 = .ok (.aload_n 0, 1) := by decide +kernel
theorem dX4_cut_22 : decode cX4_cut 22 = .ok (.getfield 23, 3) := by decide +kernel
theorem dX4_cut_25 : decode cX4_cut 25 = .ok (.aload_n 0, 1) := by decide +kernel
theorem dX4_cut_26 : decode cX4_cut 26 = .ok (.getfield 51, 3) := by decide +kernel
theorem dX4_cut_29 : decode cX4_cut 29 = .ok (.getfield 203, 3) := by decide +kernel
theorem dX4_cut_32 : decode cX4_cut 32 = .ok (.iload_n 1, 1) := by decide +kernel
theorem dX4_cut_33 : decode cX4_cut 33 = .ok (.invokevirtual 229, 3) := by decide +kernel
theorem dX4_cut_36 : decode cX4_cut 36 = .ok (.iload_n 1, 1) := by decide +kernel
theorem dX4_cut_37 : decode cX4_cut 37 = .ok (.ireturn, 1) := by decide +kernel
theorem dX4_snip_0 : decode cX4_snip 0 = .ok (.aload_n 0, 1) := by decide +kernel
theorem dX4_snip_1 : decode cX4_snip 1 = .ok (.getfield 23, 3) := by decide +kernel
theorem dX4_snip_4 : decode cX4_snip 4 = .ok (.iload_n 1, 1) := by decide +kernel
theorem dX4_snip_5 : decode cX4_snip 5 = .ok (.iload_n 2, 1) := by decide +kernel
theorem dX4_snip_6 : decode cX4_snip 6 = .ok (.invokevirtual 111, 3) := by decide +kernel
theorem dX4_snip_9 : decode cX4_snip 9 = .ok (.ifCond .ne 11, 3) := by decide +kernel
theorem dX4_snip_12 : decode cX4_snip 12 = .ok (.new 115, 3) := by decide +kernel
theorem dX4_snip_15 : decode cX4_snip 15 = .ok (.dup, 1) := by decide +kernel
theorem dX4_snip_16 : decode cX4_snip 16 = .ok (.invokespecial 117, 3) := by decide +kernel
theorem dX4_snip_19 : decode cX4_snip 19 = .ok (.athrow, 1) := by decide +kernel
theorem dX4_snip_20 : decode cX4_snip 20 = .ok (.iload_n 3, 1) := by decide +kernel
theorem dX4_snip_21 : decode cX4_snip 21 = .ok (.iconst 1, 1) := by decide +kernel
theorem dX4_snip_22 : decode cX4_snip 22 = .ok (.if_icmp .lt 9, 3) := by decide +kernel
theorem dX4_snip_25 : decode cX4_snip 25 = .ok (.iload_n 3, 1) := by decide +kernel
theorem dX4_snip_26 : decode cX4_snip 26 = .ok (.bipush 8, 2) := by decide +kernel
theorem dX4_snip_28 : decode cX4_snip 28 = .ok (.if_icmp .le 11, 3) := by decide +kernel
theorem dX4_snip_31 : decode cX4_snip 31 = .ok (.new 63, 3) := by decide +kernel
theorem dX4_snip_34 : decode cX4_snip 34 = .ok (.dup, 1) := by decide +kernel
theorem dX4_snip_35 : decode cX4_snip 35 = .ok (.invokespecial 65, 3) := by decide +kernel
theorem dX4_snip_38 : decode cX4_snip 38 = .ok (.athrow, 1) := by decide +kernel
theorem dX4_snip_39 : decode cX4_snip 39 = .ok (.aload_n 0, 1) := by decide +kernel
theorem dX4_snip_40 : decode cX4_snip 40 = .ok (.getfield 23, 3) := by decide +kernel
theorem dX4_snip_43 : decode cX4_snip 43 = .ok (.iload_n 1, 1) := by decide +kernel
theorem dX4_snip_44 : decode cX4_snip 44 = .ok (.iload_n 2, 1) := by decide +kernel
theorem dX4_snip_45 : decode cX4_snip 45 = .ok (.invokevirtual 118, 3) := by decide +kernel
theorem dX4_snip_48 : decode cX4_snip 48 = .ok (.istore 4, 2) := by decide +kernel
theorem dX4_snip_50 : decode cX4_snip 50 = .ok (.aload_n 0, 1) := by decide +kernel
theorem dX4_snip_51 : decode cX4_snip 51 = .ok (.getfield 23, 3) := by decide +kernel
theorem dX4_snip_54 : decode cX4_snip 54 = .ok (.iload 4, 2) := by decide +kernel
theorem dX4_snip_56 : decode cX4_snip 56 = .ok (.iload_n 3, 1) := by decide +kernel
theorem dX4_snip_57 : decode cX4_snip 57 = .ok (.invokevirtual 233, 3) := by decide +kernel
theorem dX4_snip_60 : decode cX4_snip 60 = .ok (.ifCond .ne 11, 3) := by decide +kernel
theorem dX4_snip_63 : decode cX4_snip 63 = .ok (.new 226, 3) := by decide +kernel
theorem dX4_snip_66 : decode cX4_snip 66 = .ok (.dup, 1) := by decide +kernel
theorem dX4_snip_67 : decode cX4_snip 67 = .ok (.invokespecial 228, 3) := by decide +kernel
theorem dX4_snip_70 : decode cX4_snip 70 = .ok (.athrow, 1) := by decide +kernel
theorem dX4_snip_71 : decode cX4_snip 71 = .ok (.aload_n 0, 1) := by decide +kernel
theorem dX4_snip_72 : decode cX4_snip 72 = .ok (.invokevirtual 73, 3) := by decide +kernel
theorem dX4_snip_75 : decode cX4_snip 75 = .ok (.aload_n 0, 1) := by decide +kernel
theorem dX4_snip_76 : decode cX4_snip 76 = .ok (.getfield 23, 3) := by decide +kernel
theorem dX4_snip_79 : decode cX4_snip 79 = .ok (.aload_n 0, 1) := by decide +kernel
theorem dX4_snip_80 : decode cX4_snip 80 = .ok (.getfield 23, 3) := by decide +kernel
theorem dX4_snip_83 : decode cX4_snip 83 = .ok (.iload 4, 2) := by decide +kernel
theorem dX4_snip_85 : decode cX4_snip 85 = .ok (.iload_n 3, 1) := by decide +kernel
theorem dX4_snip_86 : decode cX4_snip 86 = .ok (.invokevirtual 236, 3) := by decide +kernel
theorem dX4_snip_89 : decode cX4_snip 89 = .ok (.iconst 1, 1) := by decide +kernel
theorem dX4_snip_90 : decode cX4_snip 90 = .ok (.invokevirtual 229, 3) := by decide +kernel
theorem dX4_snip_93 : decode cX4_snip 93 = .ok (.aload_n 0, 1) := by decide +kernel
theorem dX4_snip_94 : decode cX4_snip 94 = .ok (.getfield 23, 3) := by decide +kernel
theorem dX4_snip_97 : decode cX4_snip 97 = .ok (.invokevirtual 96, 3) := by decide +kernel
theorem dX4_snip_100 : decode cX4_snip 100 = .ok (.ireturn, 1) := by decide +kernel
theorem dX4_least_0 : decode cX4_least 0 = .ok (.iload_n 1, 1) := by decide +kernel
theorem dX4_least_1 : decode cX4_least 1 = .ok (.iconst 1, 1) := by decide +kernel
theorem dX4_least_2 : decode cX4_least 2 = .ok (.if_icmp .lt 9, 3) := by decide +kernel
theorem dX4_least_5 : decode cX4_least 5 = .ok (.iload_n 1, 1) := by decide +kernel
theorem dX4_least_6 : decode cX4_least 6 = .ok (.bipush 9, 2) := by decide +kernel
theorem dX4_least_8 : decode cX4_least 8 = .ok (.if_icmp .le 11, 3) := by decide +kernel
theorem dX4_least_11 : decode cX4_least 11 = .ok (.new 63, 3) := by decide +kernel
theorem dX4_least_14 : decode cX4_least 14 = .ok (.dup, 1) := by decide +kernel
theorem dX4_least_15 : decode cX4_least 15 = .ok (.invokespecial 65, 3) := by decide +kernel
theorem dX4_least_18 : decode cX4_least 18 = .ok (.athrow, 1) := by decide +kernel
theorem dX4_least_19 : decode cX4_least 19 = .ok (.aload_n 0, 1) := by decide +kernel
theorem dX4_least_20 : decode cX4_least 20 = .ok (.invokevirtual 73, 3) := by decide +kernel
theorem dX4_least_23 : decode cX4_least 23 = .ok (.aload_n 0, 1) := by decide +kernel
theorem dX4_least_24 : decode cX4_least 24 = .ok (.getfield 23, 3) := by decide +kernel
theorem dX4_least_27 : decode cX4_least 27 = .ok (.getfield 93, 3) := by decide +kernel
theorem dX4_least_30 : decode cX4_least 30 = .ok (.istore_n 2, 1) := by decide +kernel
theorem dX4_least_31 : decode cX4_least 31 = .ok (.aload_n 0, 1) := by decide +kernel
theorem dX4_least_32 : decode cX4_least 32 = .ok (.getfield 23, 3) := by decide +kernel
theorem dX4_least_35 : decode cX4_least 35 = .ok (.iload_n 1, 1) := by decide +kernel
theorem dX4_least_36 : decode cX4_least 36 = .ok (.putfield 93, 3) := by decide +kernel
theorem dX4_least_39 : decode cX4_least 39 = .ok (.iload_n 2, 1) := by decide +kernel
theorem dX4_least_40 : decode cX4_least 40 = .ok (.ireturn, 1) := by decide +kernel
theorem dX4_mend_0 : decode cX4_mend 0 = .ok (.iload_n 1, 1) := by decide +kernel
theorem dX4_mend_1 : decode cX4_mend 1 = .ok (.ifCond .lt 14, 3) := by decide +kernel
theorem dX4_mend_4 : decode cX4_mend 4 = .ok (.iload_n 1, 1) := by decide +kernel
theorem dX4_mend_5 : decode cX4_mend 5 = .ok (.aload_n 0, 1) := by decide +kernel
theorem dX4_mend_6 : decode cX4_mend 6 = .ok (.getfield 23, 3) := by decide +kernel
theorem dX4_mend_9 : decode cX4_mend 9 = .ok (.invokevirtual 83, 3) := by decide +kernel
theorem dX4_mend_12 : decode cX4_mend 12 = .ok (.if_icmp .lt 11, 3) := by decide +kernel
theorem dX4_mend_15 : decode cX4_mend 15 = .ok (.new 115, 3) := by decide +kernel
theorem dX4_mend_18 : decode cX4_mend 18 = .ok (.dup, 1) := by decide +kernel
theorem dX4_mend_19 : decode cX4_mend 19 = .ok (.invokespecial 117, 3) := by decide +kernel
theorem dX4_mend_22 : decode cX4_mend 22 = .ok (.athrow, 1) := by decide +kernel
theorem dX4_mend_23 : decode cX4_mend 23 = .ok (.aload_n 0, 1) := by decide +kernel
theorem dX4_mend_24 : decode cX4_mend 24 = .ok (.getfield 23, 3) := by decide +kernel
theorem dX4_mend_27 : decode cX4_mend 27 = .ok (.iconst 0, 1) := by decide +kernel
theorem dX4_mend_28 : decode cX4_mend 28 = .ok (.iload_n 1, 1) := by decide +kernel
theorem dX4_mend_29 : decode cX4_mend 29 = .ok (.invokevirtual 118, 3) := by decide +kernel
theorem dX4_mend_32 : decode cX4_mend 32 = .ok (.istore_n 2, 1) := by decide +kernel
theorem dX4_mend_33 : decode cX4_mend 33 = .ok (.aload_n 0, 1) := by decide +kernel
theorem dX4_mend_34 : decode cX4_mend 34 = .ok (.getfield 23, 3) := by decide +kernel
theorem dX4_mend_37 : decode cX4_mend 37 = .ok (.iload_n 2, 1) := by decide +kernel
theorem dX4_mend_38 : decode cX4_mend 38 = .ok (.invokevirtual 240, 3) := by decide +kernel
theorem dX4_mend_41 : decode cX4_mend 41 = .ok (.ifCond .eq 11, 3) := by decide +kernel
theorem dX4_mend_44 : decode cX4_mend 44 = .ok (.new 226, 3) := by decide +kernel
theorem dX4_mend_47 : decode cX4_mend 47 = .ok (.dup, 1) := by decide +kernel
theorem dX4_mend_48 : decode cX4_mend 48 = .ok (.invokespecial 228, 3) := by decide +kernel
theorem dX4_mend_51 : decode cX4_mend 51 = .ok (.athrow, 1) := by decide +kernel
theorem dX4_mend_52 : decode cX4_mend 52 = .ok (.aload_n 0, 1) := by decide +kernel
theorem dX4_mend_53 : decode cX4_mend 53 = .ok (.invokevirtual 73, 3) := by decide +kernel
theorem dX4_mend_56 : decode cX4_mend 56 = .ok (.aload_n 0, 1) := by decide +kernel
theorem dX4_mend_57 : decode cX4_mend 57 = .ok (.getfield 23, 3) := by decide +kernel
theorem dX4_mend_60 : decode cX4_mend 60 = .ok (.dup, 1) := by decide +kernel
theorem dX4_mend_61 : decode cX4_mend 61 = .ok (.getfield 243, 3) := by decide +kernel
theorem dX4_mend_64 : decode cX4_mend 64 = .ok (.lconst 1, 1) := by decide +kernel
theorem dX4_mend_65 : decode cX4_mend 65 = .ok (.iload_n 2, 1) := by decide +kernel
theorem dX4_mend_66 : decode cX4_mend 66 = .ok (.lshl, 1) := by decide +kernel
theorem dX4_mend_67 : decode cX4_mend 67 = .ok (.ldc2_w 246, 3) := by decide +kernel
theorem dX4_mend_70 : decode cX4_mend 70 = .ok (.lxor, 1) := by decide +kernel
theorem dX4_mend_71 : decode cX4_mend 71 = .ok (.land, 1) := by decide +kernel
theorem dX4_mend_72 : decode cX4_mend 72 = .ok (.putfield 243, 3) := by decide +kernel
theorem dX4_mend_75 : decode cX4_mend 75 = .ok (.aload_n 0, 1) := by decide +kernel
theorem dX4_mend_76 : decode cX4_mend 76 = .ok (.getfield 23, 3) := by decide +kernel
theorem dX4_mend_79 : decode cX4_mend 79 = .ok (.invokevirtual 96, 3) := by decide +kernel
theorem dX4_mend_82 : decode cX4_mend 82 = .ok (.ireturn, 1) := by decide +kernel
theorem dX4_undo_0 : decode cX4_undo 0 = .ok (.aload_n 0, 1) := by decide +kernel
theorem dX4_undo_1 : decode cX4_undo 1 = .ok (.getfield 31, 3) := by decide +kernel
theorem dX4_undo_4 : decode cX4_undo 4 = .ok (.ifCond .le 12, 3) := by decide +kernel
theorem dX4_undo_7 : decode cX4_undo 7 = .ok (.aload_n 0, 1) := by decide +kernel
theorem dX4_undo_8 : decode cX4_undo 8 = .ok (.getfield 31, 3) := by decide +kernel
theorem dX4_undo_11 : decode cX4_undo 11 = .ok (.bipush 8, 2) := by decide +kernel
theorem dX4_undo_13 : decode cX4_undo 13 = .ok (.if_icmp .le 5, 3) := by decide +kernel
theorem dX4_undo_16 : decode cX4_undo 16 = .ok (.iconst (-1), 1) := by decide +kernel
theorem dX4_undo_17 : decode cX4_undo 17 = .ok (.ireturn, 1) := by decide +kernel
theorem dX4_undo_18 : decode cX4_undo 18 = .ok (.aload_n 0, 1) := by decide +kernel
theorem dX4_undo_19 : decode cX4_undo 19 = .ok (.dup, 1) := by decide +kernel
theorem dX4_undo_20 : decode cX4_undo 20 = .ok (.getfield 31, 3) := by decide +kernel
theorem dX4_undo_23 : decode cX4_undo 23 = .ok (.iconst 1, 1) := by decide +kernel
theorem dX4_undo_24 : decode cX4_undo 24 = .ok (.isub, 1) := by decide +kernel
theorem dX4_undo_25 : decode cX4_undo 25 = .ok (.putfield 31, 3) := by decide +kernel
theorem dX4_undo_28 : decode cX4_undo 28 = .ok (.aload_n 0, 1) := by decide +kernel
theorem dX4_undo_29 : decode cX4_undo 29 = .ok (.getfield 27, 3) := by decide +kernel
theorem dX4_undo_32 : decode cX4_undo 32 = .ok (.aload_n 0, 1) := by decide +kernel
theorem dX4_undo_33 : decode cX4_undo 33 = .ok (.getfield 31, 3) := by decide +kernel
theorem dX4_undo_36 : decode cX4_undo 36 = .ok (.aaload, 1) := by decide +kernel
theorem dX4_undo_37 : decode cX4_undo 37 = .ok (.astore_n 1, 1) := by decide +kernel
theorem dX4_undo_38 : decode cX4_undo 38 = .ok (.aload_n 1, 1) := by decide +kernel
theorem dX4_undo_39 : decode cX4_undo 39 = .ok (.ifnull 11, 3) := by decide +kernel
theorem dX4_undo_42 : decode cX4_undo 42 = .ok (.aload_n 0, 1) := by decide +kernel
theorem dX4_undo_43 : decode cX4_undo 43 = .ok (.getfield 23, 3) := by decide +kernel
theorem dX4_undo_46 : decode cX4_undo 46 = .ok (.aload_n 1, 1) := by decide +kernel
theorem dX4_undo_47 : decode cX4_undo 47 = .ok (.invokevirtual 79, 3) := by decide +kernel
theorem dX4_undo_50 : decode cX4_undo 50 = .ok (.aload_n 0, 1) := by decide +kernel
theorem dX4_undo_51 : decode cX4_undo 51 = .ok (.iconst 0, 1) := by decide +kernel
theorem dX4_undo_52 : decode cX4_undo 52 = .ok (.putfield 55, 3) := by decide +kernel
theorem dX4_undo_55 : decode cX4_undo 55 = .ok (.aload_n 0, 1) := by decide +kernel
theorem dX4_undo_56 : decode cX4_undo 56 = .ok (.getfield 31, 3) := by decide +kernel
theorem dX4_undo_59 : decode cX4_undo 59 = .ok (.ireturn, 1) := by decide +kernel
theorem dX4_checksum_0 : decode cX4_checksum 0 = .ok (.lconst 0, 1) := by decide +kernel
theorem dX4_checksum_1 : decode cX4_checksum 1 = .ok (.lstore_n 1, 1) := by decide +kernel
theorem dX4_checksum_2 : decode cX4_checksum 2 = .ok (.iconst 0, 1) := by decide +kernel
theorem dX4_checksum_3 : decode cX4_checksum 3 = .ok (.istore_n 3, 1) := by decide +kernel
theorem dX4_checksum_4 : decode cX4_checksum 4 = .ok (.iload_n 3, 1) := by decide +kernel
theorem dX4_checksum_5 : decode cX4_checksum 5 = .ok (.bipush 7, 2) := by decide +kernel
theorem dX4_checksum_7 : decode cX4_checksum 7 = .ok (.if_icmp .gt 22, 3) := by decide +kernel
theorem dX4_checksum_10 : decode cX4_checksum 10 = .ok (.ldc2_w 248, 3) := by decide +kernel
theorem dX4_checksum_13 : decode cX4_checksum 13 = .ok (.lload_n 1, 1) := by decide +kernel
theorem dX4_checksum_14 : decode cX4_checksum 14 = .ok (.lmul, 1) := by decide +kernel
theorem dX4_checksum_15 : decode cX4_checksum 15 = .ok (.aload_n 0, 1) := by decide +kernel
theorem dX4_checksum_16 : decode cX4_checksum 16 = .ok (.iload_n 3, 1) := by decide +kernel
theorem dX4_checksum_17 : decode cX4_checksum 17 = .ok (.invokevirtual 250, 3) := by decide +kernel
theorem dX4_checksum_20 : decode cX4_checksum 20 = .ok (.i2l, 1) := by decide +kernel
theorem dX4_checksum_21 : decode cX4_checksum 21 = .ok (.ladd, 1) := by decide +kernel
theorem dX4_checksum_22 : decode cX4_checksum 22 = .ok (.lstore_n 1, 1) := by decide +kernel
theorem dX4_checksum_23 : decode cX4_checksum 23 = .ok (.iinc 3 1, 3) := by decide +kernel
theorem dX4_checksum_26 : decode cX4_checksum 26 = .ok (.goto (-22), 3) := by decide +kernel
theorem dX4_checksum_29 : decode cX4_checksum 29 = .ok (.iconst 0, 1) := by decide +kernel
theorem dX4_checksum_30 : decode cX4_checksum 30 = .ok (.istore_n 3, 1) := by decide +kernel
theorem dX4_checksum_31 : decode cX4_checksum 31 = .ok (.iload_n 3, 1) := by decide +kernel
theorem dX4_checksum_32 : decode cX4_checksum 32 = .ok (.bipush 96, 2) := by decide +kernel
theorem dX4_checksum_34 : decode cX4_checksum 34 = .ok (.if_icmp .ge 49, 3) := by decide +kernel
theorem dX4_checksum_37 : decode cX4_checksum 37 = .ok (.aload_n 0, 1) := by decide +kernel
theorem dX4_checksum_38 : decode cX4_checksum 38 = .ok (.getfield 23, 3) := by decide +kernel
theorem dX4_checksum_41 : decode cX4_checksum 41 = .ok (.iload_n 3, 1) := by decide +kernel
theorem dX4_checksum_42 : decode cX4_checksum 42 = .ok (.invokevirtual 253, 3) := by decide +kernel
theorem dX4_checksum_45 : decode cX4_checksum 45 = .ok (.ifCond .eq 32, 3) := by decide +kernel
theorem dX4_checksum_48 : decode cX4_checksum 48 = .ok (.ldc2_w 248, 3) := by decide +kernel
theorem dX4_checksum_51 : decode cX4_checksum 51 = .ok (.lload_n 1, 1) := by decide +kernel
theorem dX4_checksum_52 : decode cX4_checksum 52 = .ok (.lmul, 1) := by decide +kernel
theorem dX4_checksum_53 : decode cX4_checksum 53 = .ok (.aload_n 0, 1) := by decide +kernel
theorem dX4_checksum_54 : decode cX4_checksum 54 = .ok (.iload_n 3, 1) := by decide +kernel
theorem dX4_checksum_55 : decode cX4_checksum 55 = .ok (.invokevirtual 122, 3) := by decide +kernel
theorem dX4_checksum_58 : decode cX4_checksum 58 = .ok (.i2l, 1) := by decide +kernel
theorem dX4_checksum_59 : decode cX4_checksum 59 = .ok (.ladd, 1) := by decide +kernel
theorem dX4_checksum_60 : decode cX4_checksum 60 = .ok (.lstore_n 1, 1) := by decide +kernel
theorem dX4_checksum_61 : decode cX4_checksum 61 = .ok (.ldc2_w 248, 3) := by decide +kernel
theorem dX4_checksum_64 : decode cX4_checksum 64 = .ok (.lload_n 1, 1) := by decide +kernel
theorem dX4_checksum_65 : decode cX4_checksum 65 = .ok (.lmul, 1) := by decide +kernel
theorem dX4_checksum_66 : decode cX4_checksum 66 = .ok (.aload_n 0, 1) := by decide +kernel
theorem dX4_checksum_67 : decode cX4_checksum 67 = .ok (.getfield 23, 3) := by decide +kernel
theorem dX4_checksum_70 : decode cX4_checksum 70 = .ok (.iload_n 3, 1) := by decide +kernel
theorem dX4_checksum_71 : decode cX4_checksum 71 = .ok (.invokevirtual 132, 3) := by decide +kernel
theorem dX4_checksum_74 : decode cX4_checksum 74 = .ok (.i2l, 1) := by decide +kernel
theorem dX4_checksum_75 : decode cX4_checksum 75 = .ok (.ladd, 1) := by decide +kernel
theorem dX4_checksum_76 : decode cX4_checksum 76 = .ok (.lstore_n 1, 1) := by decide +kernel
theorem dX4_checksum_77 : decode cX4_checksum 77 = .ok (.iinc 3 1, 3) := by decide +kernel
theorem dX4_checksum_80 : decode cX4_checksum 80 = .ok (.goto (-49), 3) := by decide +kernel
theorem dX4_checksum_83 : decode cX4_checksum 83 = .ok (.iconst 0, 1) := by decide +kernel
theorem dX4_checksum_84 : decode cX4_checksum 84 = .ok (.istore_n 3, 1) := by decide +kernel
theorem dX4_checksum_85 : decode cX4_checksum 85 = .ok (.iload_n 3, 1) := by decide +kernel
theorem dX4_checksum_86 : decode cX4_checksum 86 = .ok (.aload_n 0, 1) := by decide +kernel
theorem dX4_checksum_87 : decode cX4_checksum 87 = .ok (.getfield 23, 3) := by decide +kernel
theorem dX4_checksum_90 : decode cX4_checksum 90 = .ok (.getfield 99, 3) := by decide +kernel
theorem dX4_checksum_93 : decode cX4_checksum 93 = .ok (.if_icmp .ge 25, 3) := by decide +kernel
theorem dX4_checksum_96 : decode cX4_checksum 96 = .ok (.ldc2_w 248, 3) := by decide +kernel
theorem dX4_checksum_99 : decode cX4_checksum 99 = .ok (.lload_n 1, 1) := by decide +kernel
theorem dX4_checksum_100 : decode cX4_checksum 100 = .ok (.lmul, 1) := by decide +kernel
theorem dX4_checksum_101 : decode cX4_checksum 101 = .ok (.aload_n 0, 1) := by decide +kernel
theorem dX4_checksum_102 : decode cX4_checksum 102 = .ok (.getfield 23, 3) := by decide +kernel
theorem dX4_checksum_105 : decode cX4_checksum 105 = .ok (.iload_n 3, 1) := by decide +kernel
theorem dX4_checksum_106 : decode cX4_checksum 106 = .ok (.invokevirtual 167, 3) := by decide +kernel
theorem dX4_checksum_109 : decode cX4_checksum 109 = .ok (.i2l, 1) := by decide +kernel
theorem dX4_checksum_110 : decode cX4_checksum 110 = .ok (.ladd, 1) := by decide +kernel
theorem dX4_checksum_111 : decode cX4_checksum 111 = .ok (.lstore_n 1, 1) := by decide +kernel
theorem dX4_checksum_112 : decode cX4_checksum 112 = .ok (.iinc 3 1, 3) := by decide +kernel
theorem dX4_checksum_115 : decode cX4_checksum 115 = .ok (.goto (-30), 3) := by decide +kernel
theorem dX4_checksum_118 : decode cX4_checksum 118 = .ok (.ldc2_w 248, 3) := by decide +kernel
theorem dX4_checksum_121 : decode cX4_checksum 121 = .ok (.lload_n 1, 1) := by decide +kernel
theorem dX4_checksum_122 : decode cX4_checksum 122 = .ok (.lmul, 1) := by decide +kernel
theorem dX4_checksum_123 : decode cX4_checksum 123 = .ok (.aload_n 0, 1) := by decide +kernel
theorem dX4_checksum_124 : decode cX4_checksum 124 = .ok (.invokevirtual 223, 3) := by decide +kernel
theorem dX4_checksum_127 : decode cX4_checksum 127 = .ok (.i2l, 1) := by decide +kernel
theorem dX4_checksum_128 : decode cX4_checksum 128 = .ok (.ladd, 1) := by decide +kernel
theorem dX4_checksum_129 : decode cX4_checksum 129 = .ok (.lstore_n 1, 1) := by decide +kernel
theorem dX4_checksum_130 : decode cX4_checksum 130 = .ok (.ldc2_w 248, 3) := by decide +kernel
theorem dX4_checksum_133 : decode cX4_checksum 133 = .ok (.lload_n 1, 1) := by decide +kernel
theorem dX4_checksum_134 : decode cX4_checksum 134 = .ok (.lmul, 1) := by decide +kernel
theorem dX4_checksum_135 : decode cX4_checksum 135 = .ok (.aload_n 0, 1) := by decide +kernel
theorem dX4_checksum_136 : decode cX4_checksum 136 = .ok (.invokevirtual 177, 3) := by decide +kernel
theorem dX4_checksum_139 : decode cX4_checksum 139 = .ok (.i2l, 1) := by decide +kernel
theorem dX4_checksum_140 : decode cX4_checksum 140 = .ok (.ladd, 1) := by decide +kernel
theorem dX4_checksum_141 : decode cX4_checksum 141 = .ok (.lstore_n 1, 1) := by decide +kernel
theorem dX4_checksum_142 : decode cX4_checksum 142 = .ok (.ldc2_w 248, 3) := by decide +kernel
theorem dX4_checksum_145 : decode cX4_checksum 145 = .ok (.lload_n 1, 1) := by decide +kernel
theorem dX4_checksum_146 : decode cX4_checksum 146 = .ok (.lmul, 1) := by decide +kernel
theorem dX4_checksum_147 : decode cX4_checksum 147 = .ok (.aload_n 0, 1) := by decide +kernel
theorem dX4_checksum_148 : decode cX4_checksum 148 = .ok (.invokevirtual 256, 3) := by decide +kernel
theorem dX4_checksum_151 : decode cX4_checksum 151 = .ok (.i2l, 1) := by decide +kernel
theorem dX4_checksum_152 : decode cX4_checksum 152 = .ok (.ladd, 1) := by decide +kernel
theorem dX4_checksum_153 : decode cX4_checksum 153 = .ok (.lreturn, 1) := by decide +kernel
theorem dX4_putWord_0 : decode cX4_putWord 0 = .ok (.bipush 24, 2) := by decide +kernel
theorem dX4_putWord_2 : decode cX4_putWord 2 = .ok (.istore_n 2, 1) := by decide +kernel
theorem dX4_putWord_3 : decode cX4_putWord 3 = .ok (.iload_n 2, 1) := by decide +kernel
theorem dX4_putWord_4 : decode cX4_putWord 4 = .ok (.ifCond .lt 49, 3) := by decide +kernel
theorem dX4_putWord_7 : decode cX4_putWord 7 = .ok (.aload_n 0, 1) := by decide +kernel
theorem dX4_putWord_8 : decode cX4_putWord 8 = .ok (.getfield 13, 3) := by decide +kernel
theorem dX4_putWord_11 : decode cX4_putWord 11 = .ok (.ifCond .lt 36, 3) := by decide +kernel
theorem dX4_putWord_14 : decode cX4_putWord 14 = .ok (.aload_n 0, 1) := by decide +kernel
theorem dX4_putWord_15 : decode cX4_putWord 15 = .ok (.getfield 13, 3) := by decide +kernel
theorem dX4_putWord_18 : decode cX4_putWord 18 = .ok (.sipush 400, 3) := by decide +kernel
theorem dX4_putWord_21 : decode cX4_putWord 21 = .ok (.if_icmp .ge 26, 3) := by decide +kernel
theorem dX4_putWord_24 : decode cX4_putWord 24 = .ok (.aload_n 0, 1) := by decide +kernel
theorem dX4_putWord_25 : decode cX4_putWord 25 = .ok (.getfield 9, 3) := by decide +kernel
theorem dX4_putWord_28 : decode cX4_putWord 28 = .ok (.aload_n 0, 1) := by decide +kernel
theorem dX4_putWord_29 : decode cX4_putWord 29 = .ok (.getfield 13, 3) := by decide +kernel
theorem dX4_putWord_32 : decode cX4_putWord 32 = .ok (.iload_n 1, 1) := by decide +kernel
theorem dX4_putWord_33 : decode cX4_putWord 33 = .ok (.iload_n 2, 1) := by decide +kernel
theorem dX4_putWord_34 : decode cX4_putWord 34 = .ok (.ishr, 1) := by decide +kernel
theorem dX4_putWord_35 : decode cX4_putWord 35 = .ok (.i2b, 1) := by decide +kernel
theorem dX4_putWord_36 : decode cX4_putWord 36 = .ok (.bastore, 1) := by decide +kernel
theorem dX4_putWord_37 : decode cX4_putWord 37 = .ok (.aload_n 0, 1) := by decide +kernel
theorem dX4_putWord_38 : decode cX4_putWord 38 = .ok (.dup, 1) := by decide +kernel
theorem dX4_putWord_39 : decode cX4_putWord 39 = .ok (.getfield 13, 3) := by decide +kernel
theorem dX4_putWord_42 : decode cX4_putWord 42 = .ok (.iconst 1, 1) := by decide +kernel
theorem dX4_putWord_43 : decode cX4_putWord 43 = .ok (.iadd, 1) := by decide +kernel
theorem dX4_putWord_44 : decode cX4_putWord 44 = .ok (.putfield 13, 3) := by decide +kernel
theorem dX4_putWord_47 : decode cX4_putWord 47 = .ok (.iinc 2 (-8), 3) := by decide +kernel
theorem dX4_putWord_50 : decode cX4_putWord 50 = .ok (.goto (-47), 3) := by decide +kernel
theorem dX4_putWord_53 : decode cX4_putWord 53 = .ok (.return_, 1) := by decide +kernel
theorem dX4_startsWithLetters_0 : decode cX4_startsWithLetters 0 = .ok (.iconst 0, 1) := by decide +kernel
theorem dX4_startsWithLetters_1 : decode cX4_startsWithLetters 1 = .ok (.istore_n 2, 1) := by decide +kernel
theorem dX4_startsWithLetters_2 : decode cX4_startsWithLetters 2 = .ok (.iload_n 2, 1) := by decide +kernel
theorem dX4_startsWithLetters_3 : decode cX4_startsWithLetters 3 = .ok (.iload_n 1, 1) := by decide +kernel
theorem dX4_startsWithLetters_4 : decode cX4_startsWithLetters 4 = .ok (.if_icmp .ge 30, 3) := by decide +kernel
theorem dX4_startsWithLetters_7 : decode cX4_startsWithLetters 7 = .ok (.iload_n 2, 1) := by decide +kernel
theorem dX4_startsWithLetters_8 : decode cX4_startsWithLetters 8 = .ok (.sipush 400, 3) := by decide +kernel
theorem dX4_startsWithLetters_11 : decode cX4_startsWithLetters 11 = .ok (.if_icmp .ge 23, 3) := by decide +kernel
theorem dX4_startsWithLetters_14 : decode cX4_startsWithLetters 14 = .ok (.aload_n 0, 1) := by decide +kernel
theorem dX4_startsWithLetters_15 : decode cX4_startsWithLetters 15 = .ok (.getfield 9, 3) := by decide +kernel
theorem dX4_startsWithLetters_18 : decode cX4_startsWithLetters 18 = .ok (.iload_n 2, 1) := by decide +kernel
theorem dX4_startsWithLetters_19 : decode cX4_startsWithLetters 19 = .ok (.baload, 1) := by decide +kernel
theorem dX4_startsWithLetters_20 : decode cX4_startsWithLetters 20 = .ok (.invokestatic 259, 3) := by decide +kernel
theorem dX4_startsWithLetters_23 : decode cX4_startsWithLetters 23 = .ok (.ifCond .ne 5, 3) := by decide +kernel
theorem dX4_startsWithLetters_26 : decode cX4_startsWithLetters 26 = .ok (.iconst 0, 1) := by decide +kernel
theorem dX4_startsWithLetters_27 : decode cX4_startsWithLetters 27 = .ok (.ireturn, 1) := by decide +kernel
theorem dX4_startsWithLetters_28 : decode cX4_startsWithLetters 28 = .ok (.iinc 2 1, 3) := by decide +kernel
theorem dX4_startsWithLetters_31 : decode cX4_startsWithLetters 31 = .ok (.goto (-29), 3) := by decide +kernel
theorem dX4_startsWithLetters_34 : decode cX4_startsWithLetters 34 = .ok (.iconst 1, 1) := by decide +kernel
theorem dX4_startsWithLetters_35 : decode cX4_startsWithLetters 35 = .ok (.ireturn, 1) := by decide +kernel
theorem dX4_remember_0 : decode cX4_remember 0 = .ok (.aload_n 0, 1) := by decide +kernel
theorem dX4_remember_1 : decode cX4_remember 1 = .ok (.iconst 0, 1) := by decide +kernel
theorem dX4_remember_2 : decode cX4_remember 2 = .ok (.putfield 55, 3) := by decide +kernel
theorem dX4_remember_5 : decode cX4_remember 5 = .ok (.aload_n 0, 1) := by decide +kernel
theorem dX4_remember_6 : decode cX4_remember 6 = .ok (.getfield 31, 3) := by decide +kernel
theorem dX4_remember_9 : decode cX4_remember 9 = .ok (.bipush 8, 2) := by decide +kernel
theorem dX4_remember_11 : decode cX4_remember 11 = .ok (.if_icmp .lt 7, 3) := by decide +kernel
theorem dX4_remember_14 : decode cX4_remember 14 = .ok (.aload_n 0, 1) := by decide +kernel
theorem dX4_remember_15 : decode cX4_remember 15 = .ok (.invokevirtual 262, 3) := by decide +kernel
theorem dX4_remember_18 : decode cX4_remember 18 = .ok (.aload_n 0, 1) := by decide +kernel
theorem dX4_remember_19 : decode cX4_remember 19 = .ok (.getfield 31, 3) := by decide +kernel
theorem dX4_remember_22 : decode cX4_remember 22 = .ok (.ifCond .lt 24, 3) := by decide +kernel
theorem dX4_remember_25 : decode cX4_remember 25 = .ok (.aload_n 0, 1) := by decide +kernel
theorem dX4_remember_26 : decode cX4_remember 26 = .ok (.getfield 31, 3) := by decide +kernel
theorem dX4_remember_29 : decode cX4_remember 29 = .ok (.bipush 8, 2) := by decide +kernel
theorem dX4_remember_31 : decode cX4_remember 31 = .ok (.if_icmp .ge 15, 3) := by decide +kernel
theorem dX4_remember_34 : decode cX4_remember 34 = .ok (.aload_n 0, 1) := by decide +kernel
theorem dX4_remember_35 : decode cX4_remember 35 = .ok (.getfield 27, 3) := by decide +kernel
theorem dX4_remember_38 : decode cX4_remember 38 = .ok (.aload_n 0, 1) := by decide +kernel
theorem dX4_remember_39 : decode cX4_remember 39 = .ok (.getfield 31, 3) := by decide +kernel
theorem dX4_remember_42 : decode cX4_remember 42 = .ok (.aaload, 1) := by decide +kernel
theorem dX4_remember_43 : decode cX4_remember 43 = .ok (.goto 4, 3) := by decide +kernel
theorem dX4_remember_46 : decode cX4_remember 46 = .ok (.aconst_null, 1) := by decide +kernel
theorem dX4_remember_47 : decode cX4_remember 47 = .ok (.astore_n 1, 1) := by decide +kernel
theorem dX4_remember_48 : decode cX4_remember 48 = .ok (.aload_n 1, 1) := by decide +kernel
theorem dX4_remember_49 : decode cX4_remember 49 = .ok (.ifnull 21, 3) := by decide +kernel
theorem dX4_remember_52 : decode cX4_remember 52 = .ok (.aload_n 1, 1) := by decide +kernel
theorem dX4_remember_53 : decode cX4_remember 53 = .ok (.aload_n 0, 1) := by decide +kernel
theorem dX4_remember_54 : decode cX4_remember 54 = .ok (.getfield 23, 3) := by decide +kernel
theorem dX4_remember_57 : decode cX4_remember 57 = .ok (.invokevirtual 79, 3) := by decide +kernel
theorem dX4_remember_60 : decode cX4_remember 60 = .ok (.aload_n 0, 1) := by decide +kernel
theorem dX4_remember_61 : decode cX4_remember 61 = .ok (.dup, 1) := by decide +kernel
theorem dX4_remember_62 : decode cX4_remember 62 = .ok (.getfield 31, 3) := by decide +kernel
theorem dX4_remember_65 : decode cX4_remember 65 = .ok (.iconst 1, 1) := by decide +kernel
theorem dX4_remember_66 : decode cX4_remember 66 = .ok (.iadd, 1) := by decide +kernel
theorem dX4_remember_67 : decode cX4_remember 67 = .ok (.putfield 31, 3) := by decide +kernel
theorem dX4_remember_70 : decode cX4_remember 70 = .ok (.return_, 1) := by decide +kernel
theorem dX4_makeOldestFinal_0 : decode cX4_makeOldestFinal 0 = .ok (.aload_n 0, 1) := by decide +kernel
theorem dX4_makeOldestFinal_1 : decode cX4_makeOldestFinal 1 = .ok (.getfield 27, 3) := by decide +kernel
theorem dX4_makeOldestFinal_4 : decode cX4_makeOldestFinal 4 = .ok (.iconst 0, 1) := by decide +kernel
theorem dX4_makeOldestFinal_5 : decode cX4_makeOldestFinal 5 = .ok (.aaload, 1) := by decide +kernel
theorem dX4_makeOldestFinal_6 : decode cX4_makeOldestFinal 6 = .ok (.astore_n 1, 1) := by decide +kernel
theorem dX4_makeOldestFinal_7 : decode cX4_makeOldestFinal 7 = .ok (.iconst 1, 1) := by decide +kernel
theorem dX4_makeOldestFinal_8 : decode cX4_makeOldestFinal 8 = .ok (.istore_n 2, 1) := by decide +kernel
theorem dX4_makeOldestFinal_9 : decode cX4_makeOldestFinal 9 = .ok (.iload_n 2, 1) := by decide +kernel
theorem dX4_makeOldestFinal_10 : decode cX4_makeOldestFinal 10 = .ok (.bipush 8, 2) := by decide +kernel
theorem dX4_makeOldestFinal_12 : decode cX4_makeOldestFinal 12 = .ok (.if_icmp .ge 23, 3) := by decide +kernel
theorem dX4_makeOldestFinal_15 : decode cX4_makeOldestFinal 15 = .ok (.aload_n 0, 1) := by decide +kernel
theorem dX4_makeOldestFinal_16 : decode cX4_makeOldestFinal 16 = .ok (.getfield 27, 3) := by decide +kernel
theorem dX4_makeOldestFinal_19 : decode cX4_makeOldestFinal 19 = .ok (.iload_n 2, 1) := by decide +kernel
theorem dX4_makeOldestFinal_20 : decode cX4_makeOldestFinal 20 = .ok (.iconst 1, 1) := by decide +kernel
theorem dX4_makeOldestFinal_21 : decode cX4_makeOldestFinal 21 = .ok (.isub, 1) := by decide +kernel
theorem dX4_makeOldestFinal_22 : decode cX4_makeOldestFinal 22 = .ok (.aload_n 0, 1) := by decide +kernel
theorem dX4_makeOldestFinal_23 : decode cX4_makeOldestFinal 23 = .ok (.getfield 27, 3) := by decide +kernel
theorem dX4_makeOldestFinal_26 : decode cX4_makeOldestFinal 26 = .ok (.iload_n 2, 1) := by decide +kernel
theorem dX4_makeOldestFinal_27 : decode cX4_makeOldestFinal 27 = .ok (.aaload, 1) := by decide +kernel
theorem dX4_makeOldestFinal_28 : decode cX4_makeOldestFinal 28 = .ok (.aastore, 1) := by decide +kernel
theorem dX4_makeOldestFinal_29 : decode cX4_makeOldestFinal 29 = .ok (.iinc 2 1, 3) := by decide +kernel
theorem dX4_makeOldestFinal_32 : decode cX4_makeOldestFinal 32 = .ok (.goto (-23), 3) := by decide +kernel
theorem dX4_makeOldestFinal_35 : decode cX4_makeOldestFinal 35 = .ok (.aload_n 0, 1) := by decide +kernel
theorem dX4_makeOldestFinal_36 : decode cX4_makeOldestFinal 36 = .ok (.getfield 27, 3) := by decide +kernel
theorem dX4_makeOldestFinal_39 : decode cX4_makeOldestFinal 39 = .ok (.bipush 7, 2) := by decide +kernel
theorem dX4_makeOldestFinal_41 : decode cX4_makeOldestFinal 41 = .ok (.aload_n 1, 1) := by decide +kernel
theorem dX4_makeOldestFinal_42 : decode cX4_makeOldestFinal 42 = .ok (.aastore, 1) := by decide +kernel
theorem dX4_makeOldestFinal_43 : decode cX4_makeOldestFinal 43 = .ok (.aload_n 0, 1) := by decide +kernel
theorem dX4_makeOldestFinal_44 : decode cX4_makeOldestFinal 44 = .ok (.bipush 7, 2) := by decide +kernel
theorem dX4_makeOldestFinal_46 : decode cX4_makeOldestFinal 46 = .ok (.putfield 31, 3) := by decide +kernel
theorem dX4_makeOldestFinal_49 : decode cX4_makeOldestFinal 49 = .ok (.return_, 1) := by decide +kernel
theorem dX4_letterOrGone_0 : decode cX4_letterOrGone 0 = .ok (.aload_n 0, 1) := by decide +kernel
theorem dX4_letterOrGone_1 : decode cX4_letterOrGone 1 = .ok (.getfield 23, 3) := by decide +kernel
theorem dX4_letterOrGone_4 : decode cX4_letterOrGone 4 = .ok (.aload_n 0, 1) := by decide +kernel
theorem dX4_letterOrGone_5 : decode cX4_letterOrGone 5 = .ok (.getfield 23, 3) := by decide +kernel
theorem dX4_letterOrGone_8 : decode cX4_letterOrGone 8 = .ok (.iload_n 1, 1) := by decide +kernel
theorem dX4_letterOrGone_9 : decode cX4_letterOrGone 9 = .ok (.invokevirtual 126, 3) := by decide +kernel
theorem dX4_letterOrGone_12 : decode cX4_letterOrGone 12 = .ok (.invokevirtual 240, 3) := by decide +kernel
theorem dX4_letterOrGone_15 : decode cX4_letterOrGone 15 = .ok (.ifCond .eq 14, 3) := by decide +kernel
theorem dX4_letterOrGone_18 : decode cX4_letterOrGone 18 = .ok (.aload_n 0, 1) := by decide +kernel
theorem dX4_letterOrGone_19 : decode cX4_letterOrGone 19 = .ok (.getfield 23, 3) := by decide +kernel
theorem dX4_letterOrGone_22 : decode cX4_letterOrGone 22 = .ok (.iload_n 1, 1) := by decide +kernel
theorem dX4_letterOrGone_23 : decode cX4_letterOrGone 23 = .ok (.invokevirtual 142, 3) := by decide +kernel
theorem dX4_letterOrGone_26 : decode cX4_letterOrGone 26 = .ok (.goto 5, 3) := by decide +kernel
theorem dX4_letterOrGone_29 : decode cX4_letterOrGone 29 = .ok (.bipush (-2), 2) := by decide +kernel
theorem dX4_letterOrGone_31 : decode cX4_letterOrGone 31 = .ok (.ireturn, 1) := by decide +kernel
theorem dX4_isUsedByMessage_0 : decode cX4_isUsedByMessage 0 = .ok (.aload_n 0, 1) := by decide +kernel
theorem dX4_isUsedByMessage_1 : decode cX4_isUsedByMessage 1 = .ok (.getfield 23, 3) := by decide +kernel
theorem dX4_isUsedByMessage_4 : decode cX4_isUsedByMessage 4 = .ok (.iload_n 1, 1) := by decide +kernel
theorem dX4_isUsedByMessage_5 : decode cX4_isUsedByMessage 5 = .ok (.invokevirtual 138, 3) := by decide +kernel
theorem dX4_isUsedByMessage_8 : decode cX4_isUsedByMessage 8 = .ok (.ifCond .eq 25, 3) := by decide +kernel
theorem dX4_isUsedByMessage_11 : decode cX4_isUsedByMessage 11 = .ok (.aload_n 0, 1) := by decide +kernel
theorem dX4_isUsedByMessage_12 : decode cX4_isUsedByMessage 12 = .ok (.getfield 23, 3) := by decide +kernel
theorem dX4_isUsedByMessage_15 : decode cX4_isUsedByMessage 15 = .ok (.aload_n 0, 1) := by decide +kernel
theorem dX4_isUsedByMessage_16 : decode cX4_isUsedByMessage 16 = .ok (.getfield 23, 3) := by decide +kernel
theorem dX4_isUsedByMessage_19 : decode cX4_isUsedByMessage 19 = .ok (.iload_n 1, 1) := by decide +kernel
theorem dX4_isUsedByMessage_20 : decode cX4_isUsedByMessage 20 = .ok (.invokevirtual 142, 3) := by decide +kernel
theorem dX4_isUsedByMessage_23 : decode cX4_isUsedByMessage 23 = .ok (.invokevirtual 145, 3) := by decide +kernel
theorem dX4_isUsedByMessage_26 : decode cX4_isUsedByMessage 26 = .ok (.ifCond .le 7, 3) := by decide +kernel
theorem dX4_isUsedByMessage_29 : decode cX4_isUsedByMessage 29 = .ok (.iconst 1, 1) := by decide +kernel
theorem dX4_isUsedByMessage_30 : decode cX4_isUsedByMessage 30 = .ok (.goto 4, 3) := by decide +kernel
theorem dX4_isUsedByMessage_33 : decode cX4_isUsedByMessage 33 = .ok (.iconst 0, 1) := by decide +kernel
theorem dX4_isUsedByMessage_34 : decode cX4_isUsedByMessage 34 = .ok (.ireturn, 1) := by decide +kernel
theorem dX4_bestCuts_0 : decode cX4_bestCuts 0 = .ok (.aload_n 0, 1) := by decide +kernel
theorem dX4_bestCuts_1 : decode cX4_bestCuts 1 = .ok (.getfield 23, 3) := by decide +kernel
theorem dX4_bestCuts_4 : decode cX4_bestCuts 4 = .ok (.getfield 99, 3) := by decide +kernel
theorem dX4_bestCuts_7 : decode cX4_bestCuts 7 = .ok (.bipush 8, 2) := by decide +kernel
theorem dX4_bestCuts_9 : decode cX4_bestCuts 9 = .ok (.if_icmp .le 6, 3) := by decide +kernel
theorem dX4_bestCuts_12 : decode cX4_bestCuts 12 = .ok (.bipush (-2), 2) := by decide +kernel
theorem dX4_bestCuts_14 : decode cX4_bestCuts 14 = .ok (.ireturn, 1) := by decide +kernel
theorem dX4_bestCuts_15 : decode cX4_bestCuts 15 = .ok (.aload_n 0, 1) := by decide +kernel
theorem dX4_bestCuts_16 : decode cX4_bestCuts 16 = .ok (.getfield 55, 3) := by decide +kernel
theorem dX4_bestCuts_19 : decode cX4_bestCuts 19 = .ok (.ifCond .ne 28, 3) := by decide +kernel
theorem dX4_bestCuts_22 : decode cX4_bestCuts 22 = .ok (.aload_n 0, 1) := by decide +kernel
theorem dX4_bestCuts_23 : decode cX4_bestCuts 23 = .ok (.getfield 51, 3) := by decide +kernel
theorem dX4_bestCuts_26 : decode cX4_bestCuts 26 = .ok (.aload_n 0, 1) := by decide +kernel
theorem dX4_bestCuts_27 : decode cX4_bestCuts 27 = .ok (.getfield 23, 3) := by decide +kernel
theorem dX4_bestCuts_30 : decode cX4_bestCuts 30 = .ok (.invokevirtual 265, 3) := by decide +kernel
theorem dX4_bestCuts_33 : decode cX4_bestCuts 33 = .ok (.aload_n 0, 1) := by decide +kernel
theorem dX4_bestCuts_34 : decode cX4_bestCuts 34 = .ok (.getfield 51, 3) := by decide +kernel
theorem dX4_bestCuts_37 : decode cX4_bestCuts 37 = .ok (.lconst 0, 1) := by decide +kernel
theorem dX4_bestCuts_38 : decode cX4_bestCuts 38 = .ok (.invokevirtual 200, 3) := by decide +kernel
theorem dX4_bestCuts_41 : decode cX4_bestCuts 41 = .ok (.pop, 1) := by decide +kernel
theorem dX4_bestCuts_42 : decode cX4_bestCuts 42 = .ok (.aload_n 0, 1) := by decide +kernel
theorem dX4_bestCuts_43 : decode cX4_bestCuts 43 = .ok (.iconst 1, 1) := by decide +kernel
theorem dX4_bestCuts_44 : decode cX4_bestCuts 44 = .ok (.putfield 55, 3) := by decide +kernel
theorem dX4_bestCuts_47 : decode cX4_bestCuts 47 = .ok (.aload_n 0, 1) := by decide +kernel
theorem dX4_bestCuts_48 : decode cX4_bestCuts 48 = .ok (.getfield 51, 3) := by decide +kernel
theorem dX4_bestCuts_51 : decode cX4_bestCuts 51 = .ok (.getfield 268, 3) := by decide +kernel
theorem dX4_bestCuts_54 : decode cX4_bestCuts 54 = .ok (.ireturn, 1) := by decide +kernel
theorem dX4_sizeOfCut_0 : decode cX4_sizeOfCut 0 = .ok (.aload_n 0, 1) := by decide +kernel
theorem dX4_sizeOfCut_1 : decode cX4_sizeOfCut 1 = .ok (.getfield 23, 3) := by decide +kernel
theorem dX4_sizeOfCut_4 : decode cX4_sizeOfCut 4 = .ok (.aload_n 0, 1) := by decide +kernel
theorem dX4_sizeOfCut_5 : decode cX4_sizeOfCut 5 = .ok (.getfield 51, 3) := by decide +kernel
theorem dX4_sizeOfCut_8 : decode cX4_sizeOfCut 8 = .ok (.iload_n 1, 1) := by decide +kernel
theorem dX4_sizeOfCut_9 : decode cX4_sizeOfCut 9 = .ok (.invokevirtual 183, 3) := by decide +kernel
theorem dX4_sizeOfCut_12 : decode cX4_sizeOfCut 12 = .ok (.invokevirtual 132, 3) := by decide +kernel
theorem dX4_sizeOfCut_15 : decode cX4_sizeOfCut 15 = .ok (.ireturn, 1) := by decide +kernel
theorem dX4_sizesOfCut_0 : decode cX4_sizesOfCut 0 = .ok (.aload_n 0, 1) := by decide +kernel
theorem dX4_sizesOfCut_1 : decode cX4_sizesOfCut 1 = .ok (.getfield 51, 3) := by decide +kernel
theorem dX4_sizesOfCut_4 : decode cX4_sizesOfCut 4 = .ok (.iload_n 1, 1) := by decide +kernel
theorem dX4_sizesOfCut_5 : decode cX4_sizesOfCut 5 = .ok (.invokevirtual 180, 3) := by decide +kernel
theorem dX4_sizesOfCut_8 : decode cX4_sizesOfCut 8 = .ok (.aload_n 0, 1) := by decide +kernel
theorem dX4_sizesOfCut_9 : decode cX4_sizesOfCut 9 = .ok (.iload_n 1, 1) := by decide +kernel
theorem dX4_sizesOfCut_10 : decode cX4_sizesOfCut 10 = .ok (.invokevirtual 192, 3) := by decide +kernel
theorem dX4_sizesOfCut_13 : decode cX4_sizesOfCut 13 = .ok (.imul, 1) := by decide +kernel
theorem dX4_sizesOfCut_14 : decode cX4_sizesOfCut 14 = .ok (.ireturn, 1) := by decide +kernel
theorem dX4_isLetter_0 : decode cX4_isLetter 0 = .ok (.iload_n 0, 1) := by decide +kernel
theorem dX4_isLetter_1 : decode cX4_isLetter 1 = .ok (.bipush 97, 2) := by decide +kernel
theorem dX4_isLetter_3 : decode cX4_isLetter 3 = .ok (.if_icmp .lt 13, 3) := by decide +kernel
theorem dX4_isLetter_6 : decode cX4_isLetter 6 = .ok (.iload_n 0, 1) := by decide +kernel
theorem dX4_isLetter_7 : decode cX4_isLetter 7 = .ok (.bipush 122, 2) := by decide +kernel
theorem dX4_isLetter_9 : decode cX4_isLetter 9 = .ok (.if_icmp .gt 7, 3) := by decide +kernel
theorem dX4_isLetter_12 : decode cX4_isLetter 12 = .ok (.iconst 1, 1) := by decide +kernel
theorem dX4_isLetter_13 : decode cX4_isLetter 13 = .ok (.goto 4, 3) := by decide +kernel
theorem dX4_isLetter_16 : decode cX4_isLetter 16 = .ok (.iconst 0, 1) := by decide +kernel
theorem dX4_isLetter_17 : decode cX4_isLetter 17 = .ok (.ireturn, 1) := by decide +kernel
theorem dX4_sideOf_0 : decode cX4_sideOf 0 = .ok (.iload_n 0, 1) := by decide +kernel
theorem dX4_sideOf_1 : decode cX4_sideOf 1 = .ok (.bipush 48, 2) := by decide +kernel
theorem dX4_sideOf_3 : decode cX4_sideOf 3 = .ok (.if_icmp .ge 7, 3) := by decide +kernel
theorem dX4_sideOf_6 : decode cX4_sideOf 6 = .ok (.iconst 0, 1) := by decide +kernel
theorem dX4_sideOf_7 : decode cX4_sideOf 7 = .ok (.goto 4, 3) := by decide +kernel
theorem dX4_sideOf_10 : decode cX4_sideOf 10 = .ok (.iconst 1, 1) := by decide +kernel
theorem dX4_sideOf_11 : decode cX4_sideOf 11 = .ok (.ireturn, 1) := by decide +kernel
theorem dX4_rowOf_0 : decode cX4_rowOf 0 = .ok (.iload_n 0, 1) := by decide +kernel
theorem dX4_rowOf_1 : decode cX4_rowOf 1 = .ok (.bipush 48, 2) := by decide +kernel
theorem dX4_rowOf_3 : decode cX4_rowOf 3 = .ok (.irem, 1) := by decide +kernel
theorem dX4_rowOf_4 : decode cX4_rowOf 4 = .ok (.bipush 8, 2) := by decide +kernel
theorem dX4_rowOf_6 : decode cX4_rowOf 6 = .ok (.idiv, 1) := by decide +kernel
theorem dX4_rowOf_7 : decode cX4_rowOf 7 = .ok (.ireturn, 1) := by decide +kernel
theorem dX4_columnOf_0 : decode cX4_columnOf 0 = .ok (.iload_n 0, 1) := by decide +kernel
theorem dX4_columnOf_1 : decode cX4_columnOf 1 = .ok (.bipush 8, 2) := by decide +kernel
theorem dX4_columnOf_3 : decode cX4_columnOf 3 = .ok (.irem, 1) := by decide +kernel
theorem dX4_columnOf_4 : decode cX4_columnOf 4 = .ok (.ireturn, 1) := by decide +kernel
theorem dX5_init_0 : decode cX5_init 0 = .ok (.aload_n 0, 1) := by decide +kernel
theorem dX5_init_1 : decode cX5_init 1 = .ok (.invokespecial 1, 3) := by decide +kernel
theorem dX5_init_4 : decode cX5_init 4 = .ok (.aload_n 0, 1) := by decide +kernel
theorem dX5_init_5 : decode cX5_init 5 = .ok (.iload_n 1, 1) := by decide +kernel
theorem dX5_init_6 : decode cX5_init 6 = .ok (.putfield 7, 3) := by decide +kernel
theorem dX5_init_9 : decode cX5_init 9 = .ok (.return_, 1) := by decide +kernel
theorem dX5_below_0 : decode cX5_below 0 = .ok (.aload_n 0, 1) := by decide +kernel
theorem dX5_below_1 : decode cX5_below 1 = .ok (.ldc 13, 2) := by decide +kernel
theorem dX5_below_3 : decode cX5_below 3 = .ok (.aload_n 0, 1) := by decide +kernel
theorem dX5_below_4 : decode cX5_below 4 = .ok (.getfield 7, 3) := by decide +kernel
theorem dX5_below_7 : decode cX5_below 7 = .ok (.imul, 1) := by decide +kernel
theorem dX5_below_8 : decode cX5_below 8 = .ok (.sipush 12345, 3) := by decide +kernel
theorem dX5_below_11 : decode cX5_below 11 = .ok (.iadd, 1) := by decide +kernel
theorem dX5_below_12 : decode cX5_below 12 = .ok (.putfield 7, 3) := by decide +kernel
theorem dX5_below_15 : decode cX5_below 15 = .ok (.aload_n 0, 1) := by decide +kernel
theorem dX5_below_16 : decode cX5_below 16 = .ok (.getfield 7, 3) := by decide +kernel
theorem dX5_below_19 : decode cX5_below 19 = .ok (.bipush 16, 2) := by decide +kernel
theorem dX5_below_21 : decode cX5_below 21 = .ok (.iushr, 1) := by decide +kernel
theorem dX5_below_22 : decode cX5_below 22 = .ok (.iload_n 1, 1) := by decide +kernel
theorem dX5_below_23 : decode cX5_below 23 = .ok (.irem, 1) := by decide +kernel
theorem dX5_below_24 : decode cX5_below 24 = .ok (.ireturn, 1) := by decide +kernel
theorem dX6_init_0 : decode cX6_init 0 = .ok (.aload_n 0, 1) := by decide +kernel
theorem dX6_init_1 : decode cX6_init 1 = .ok (.invokespecial 1, 3) := by decide +kernel
theorem dX6_init_4 : decode cX6_init 4 = .ok (.aload_n 0, 1) := by decide +kernel
theorem dX6_init_5 : decode cX6_init 5 = .ok (.iconst 1, 1) := by decide +kernel
theorem dX6_init_6 : decode cX6_init 6 = .ok (.putfield 7, 3) := by decide +kernel
theorem dX6_init_9 : decode cX6_init 9 = .ok (.aload_n 0, 1) := by decide +kernel
theorem dX6_init_10 : decode cX6_init 10 = .ok (.iconst 1, 1) := by decide +kernel
theorem dX6_init_11 : decode cX6_init 11 = .ok (.putfield 13, 3) := by decide +kernel
theorem dX6_init_14 : decode cX6_init 14 = .ok (.aload_n 0, 1) := by decide +kernel
theorem dX6_init_15 : decode cX6_init 15 = .ok (.iconst 2, 1) := by decide +kernel
theorem dX6_init_16 : decode cX6_init 16 = .ok (.anewarray 16, 3) := by decide +kernel
theorem dX6_init_19 : decode cX6_init 19 = .ok (.dup, 1) := by decide +kernel
theorem dX6_init_20 : decode cX6_init 20 = .ok (.iconst 0, 1) := by decide +kernel
theorem dX6_init_21 : decode cX6_init 21 = .ok (.ldc 18, 2) := by decide +kernel
theorem dX6_init_23 : decode cX6_init 23 = .ok (.aastore, 1) := by decide +kernel
theorem dX6_init_24 : decode cX6_init 24 = .ok (.dup, 1) := by decide +kernel
theorem dX6_init_25 : decode cX6_init 25 = .ok (.iconst 1, 1) := by decide +kernel
theorem dX6_init_26 : decode cX6_init 26 = .ok (.ldc 18, 2) := by decide +kernel
theorem dX6_init_28 : decode cX6_init 28 = .ok (.aastore, 1) := by decide +kernel
theorem dX6_init_29 : decode cX6_init 29 = .ok (.putfield 20, 3) := by decide +kernel
theorem dX6_init_32 : decode cX6_init 32 = .ok (.aload_n 0, 1) := by decide +kernel
theorem dX6_init_33 : decode cX6_init 33 = .ok (.iconst 2, 1) := by decide +kernel
theorem dX6_init_34 : decode cX6_init 34 = .ok (.newarray .int, 2) := by decide +kernel
theorem dX6_init_36 : decode cX6_init 36 = .ok (.dup, 1) := by decide +kernel
theorem dX6_init_37 : decode cX6_init 37 = .ok (.iconst 0, 1) := by decide +kernel
theorem dX6_init_38 : decode cX6_init 38 = .ok (.iconst 1, 1) := by decide +kernel
theorem dX6_init_39 : decode cX6_init 39 = .ok (.iastore, 1) := by decide +kernel
theorem dX6_init_40 : decode cX6_init 40 = .ok (.dup, 1) := by decide +kernel
theorem dX6_init_41 : decode cX6_init 41 = .ok (.iconst 1, 1) := by decide +kernel
theorem dX6_init_42 : decode cX6_init 42 = .ok (.iconst 1, 1) := by decide +kernel
theorem dX6_init_43 : decode cX6_init 43 = .ok (.iastore, 1) := by decide +kernel
theorem dX6_init_44 : decode cX6_init 44 = .ok (.putfield 24, 3) := by decide +kernel
theorem dX6_init_47 : decode cX6_init 47 = .ok (.aload_n 0, 1) := by decide +kernel
theorem dX6_init_48 : decode cX6_init 48 = .ok (.iconst 1, 1) := by decide +kernel
theorem dX6_init_49 : decode cX6_init 49 = .ok (.putfield 28, 3) := by decide +kernel
theorem dX6_init_52 : decode cX6_init 52 = .ok (.aload_n 0, 1) := by decide +kernel
theorem dX6_init_53 : decode cX6_init 53 = .ok (.iconst 1, 1) := by decide +kernel
theorem dX6_init_54 : decode cX6_init 54 = .ok (.newarray .boolean, 2) := by decide +kernel
theorem dX6_init_56 : decode cX6_init 56 = .ok (.putfield 31, 3) := by decide +kernel
theorem dX6_init_59 : decode cX6_init 59 = .ok (.aload_n 0, 1) := by decide +kernel
theorem dX6_init_60 : decode cX6_init 60 = .ok (.ldc 35, 2) := by decide +kernel
theorem dX6_init_62 : decode cX6_init 62 = .ok (.putfield 37, 3) := by decide +kernel
theorem dX6_init_65 : decode cX6_init 65 = .ok (.aload_n 0, 1) := by decide +kernel
theorem dX6_init_66 : decode cX6_init 66 = .ok (.bipush 24, 2) := by decide +kernel
theorem dX6_init_68 : decode cX6_init 68 = .ok (.newarray .int, 2) := by decide +kernel
theorem dX6_init_70 : decode cX6_init 70 = .ok (.putfield 41, 3) := by decide +kernel
theorem dX6_init_73 : decode cX6_init 73 = .ok (.aload_n 0, 1) := by decide +kernel
theorem dX6_init_74 : decode cX6_init 74 = .ok (.bipush 24, 2) := by decide +kernel
theorem dX6_init_76 : decode cX6_init 76 = .ok (.newarray .int, 2) := by decide +kernel
theorem dX6_init_78 : decode cX6_init 78 = .ok (.putfield 44, 3) := by decide +kernel
theorem dX6_init_81 : decode cX6_init 81 = .ok (.return_, 1) := by decide +kernel
theorem dX6_copy_0 : decode cX6_copy 0 = .ok (.new 8, 3) := by decide +kernel
theorem dX6_copy_3 : decode cX6_copy 3 = .ok (.dup, 1) := by decide +kernel
theorem dX6_copy_4 : decode cX6_copy 4 = .ok (.invokespecial 47, 3) := by decide +kernel
theorem dX6_copy_7 : decode cX6_copy 7 = .ok (.astore_n 1, 1) := by decide +kernel
theorem dX6_copy_8 : decode cX6_copy 8 = .ok (.aload_n 1, 1) := by decide +kernel
theorem dX6_copy_9 : decode cX6_copy 9 = .ok (.aload_n 0, 1) := by decide +kernel
theorem dX6_copy_10 : decode cX6_copy 10 = .ok (.getfield 7, 3) := by decide +kernel
theorem dX6_copy_13 : decode cX6_copy 13 = .ok (.putfield 7, 3) := by decide +kernel
theorem dX6_copy_16 : decode cX6_copy 16 = .ok (.aload_n 1, 1) := by decide +kernel
theorem dX6_copy_17 : decode cX6_copy 17 = .ok (.aload_n 0, 1) := by decide +kernel
theorem dX6_copy_18 : decode cX6_copy 18 = .ok (.getfield 13, 3) := by decide +kernel
theorem dX6_copy_21 : decode cX6_copy 21 = .ok (.putfield 13, 3) := by decide +kernel
theorem dX6_copy_24 : decode cX6_copy 24 = .ok (.aload_n 1, 1) := by decide +kernel
theorem dX6_copy_25 : decode cX6_copy 25 = .ok (.aload_n 0, 1) := by decide +kernel
theorem dX6_copy_26 : decode cX6_copy 26 = .ok (.getfield 20, 3) := by decide +kernel
theorem dX6_copy_29 : decode cX6_copy 29 = .ok (.putfield 20, 3) := by decide +kernel
theorem dX6_copy_32 : decode cX6_copy 32 = .ok (.aload_n 1, 1) := by decide +kernel
theorem dX6_copy_33 : decode cX6_copy 33 = .ok (.aload_n 0, 1) := by decide +kernel
theorem dX6_copy_34 : decode cX6_copy 34 = .ok (.getfield 24, 3) := by decide +kernel
theorem dX6_copy_37 : decode cX6_copy 37 = .ok (.putfield 24, 3) := by decide +kernel
theorem dX6_copy_40 : decode cX6_copy 40 = .ok (.aload_n 1, 1) := by decide +kernel
theorem dX6_copy_41 : decode cX6_copy 41 = .ok (.aload_n 0, 1) := by decide +kernel
theorem dX6_copy_42 : decode cX6_copy 42 = .ok (.getfield 28, 3) := by decide +kernel
theorem dX6_copy_45 : decode cX6_copy 45 = .ok (.putfield 28, 3) := by decide +kernel
theorem dX6_copy_48 : decode cX6_copy 48 = .ok (.aload_n 1, 1) := by decide +kernel
theorem dX6_copy_49 : decode cX6_copy 49 = .ok (.aload_n 0, 1) := by decide +kernel
theorem dX6_copy_50 : decode cX6_copy 50 = .ok (.getfield 31, 3) := by decide +kernel
theorem dX6_copy_53 : decode cX6_copy 53 = .ok (.invokevirtual 48, 3) := by decide +kernel
theorem dX6_copy_56 : decode cX6_copy 56 = .ok (.checkcast 49, 3) := by decide +kernel
theorem dX6_copy_59 : decode cX6_copy 59 = .ok (.putfield 31, 3) := by decide +kernel
theorem dX6_copy_62 : decode cX6_copy 62 = .ok (.aload_n 1, 1) := by decide +kernel
theorem dX6_copy_63 : decode cX6_copy 63 = .ok (.aload_n 0, 1) := by decide +kernel
theorem dX6_copy_64 : decode cX6_copy 64 = .ok (.getfield 37, 3) := by decide +kernel
theorem dX6_copy_67 : decode cX6_copy 67 = .ok (.putfield 37, 3) := by decide +kernel
theorem dX6_copy_70 : decode cX6_copy 70 = .ok (.aload_n 1, 1) := by decide +kernel
theorem dX6_copy_71 : decode cX6_copy 71 = .ok (.aload_n 0, 1) := by decide +kernel
theorem dX6_copy_72 : decode cX6_copy 72 = .ok (.getfield 53, 3) := by decide +kernel
theorem dX6_copy_75 : decode cX6_copy 75 = .ok (.putfield 53, 3) := by decide +kernel
theorem dX6_copy_78 : decode cX6_copy 78 = .ok (.aload_n 1, 1) := by decide +kernel
theorem dX6_copy_79 : decode cX6_copy 79 = .ok (.aload_n 0, 1) := by decide +kernel
theorem dX6_copy_80 : decode cX6_copy 80 = .ok (.getfield 56, 3) := by decide +kernel
theorem dX6_copy_83 : decode cX6_copy 83 = .ok (.putfield 56, 3) := by decide +kernel
theorem dX6_copy_86 : decode cX6_copy 86 = .ok (.aload_n 1, 1) := by decide +kernel
theorem dX6_copy_87 : decode cX6_copy 87 = .ok (.areturn, 1) := by decide +kernel
theorem dX6_all_0 : decode cX6_all 0 = .ok (.aload_n 0, 1) := by decide +kernel
theorem dX6_all_1 : decode cX6_all 1 = .ok (.getfield 7, 3) := by decide +kernel
theorem dX6_all_4 : decode cX6_all 4 = .ok (.aload_n 0, 1) := by decide +kernel
theorem dX6_all_5 : decode cX6_all 5 = .ok (.getfield 13, 3) := by decide +kernel
theorem dX6_all_8 : decode cX6_all 8 = .ok (.imul, 1) := by decide +kernel
theorem dX6_all_9 : decode cX6_all 9 = .ok (.ireturn, 1) := by decide +kernel
theorem dX6_sign_0 : decode cX6_sign 0 = .ok (.aload_n 0, 1) := by decide +kernel
theorem dX6_sign_1 : decode cX6_sign 1 = .ok (.getfield 20, 3) := by decide +kernel
theorem dX6_sign_4 : decode cX6_sign 4 = .ok (.iload_n 1, 1) := by decide +kernel
theorem dX6_sign_5 : decode cX6_sign 5 = .ok (.aload_n 0, 1) := by decide +kernel
theorem dX6_sign_6 : decode cX6_sign 6 = .ok (.getfield 13, 3) := by decide +kernel
theorem dX6_sign_9 : decode cX6_sign 9 = .ok (.imul, 1) := by decide +kernel
theorem dX6_sign_10 : decode cX6_sign 10 = .ok (.iload_n 2, 1) := by decide +kernel
theorem dX6_sign_11 : decode cX6_sign 11 = .ok (.aload_n 0, 1) := by decide +kernel
theorem dX6_sign_12 : decode cX6_sign 12 = .ok (.getfield 7, 3) := by decide +kernel
theorem dX6_sign_15 : decode cX6_sign 15 = .ok (.idiv, 1) := by decide +kernel
theorem dX6_sign_16 : decode cX6_sign 16 = .ok (.iadd, 1) := by decide +kernel
theorem dX6_sign_17 : decode cX6_sign 17 = .ok (.aaload, 1) := by decide +kernel
theorem dX6_sign_18 : decode cX6_sign 18 = .ok (.iload_n 2, 1) := by decide +kernel
theorem dX6_sign_19 : decode cX6_sign 19 = .ok (.aload_n 0, 1) := by decide +kernel
theorem dX6_sign_20 : decode cX6_sign 20 = .ok (.getfield 7, 3) := by decide +kernel
theorem dX6_sign_23 : decode cX6_sign 23 = .ok (.irem, 1) := by decide +kernel
theorem dX6_sign_24 : decode cX6_sign 24 = .ok (.invokevirtual 59, 3) := by decide +kernel
theorem dX6_sign_27 : decode cX6_sign 27 = .ok (.ireturn, 1) := by decide +kernel
theorem dX6_size_0 : decode cX6_size 0 = .ok (.aload_n 0, 1) := by decide +kernel
theorem dX6_size_1 : decode cX6_size 1 = .ok (.getfield 24, 3) := by decide +kernel
theorem dX6_size_4 : decode cX6_size 4 = .ok (.iload_n 1, 1) := by decide +kernel
theorem dX6_size_5 : decode cX6_size 5 = .ok (.aload_n 0, 1) := by decide +kernel
theorem dX6_size_6 : decode cX6_size 6 = .ok (.getfield 13, 3) := by decide +kernel
theorem dX6_size_9 : decode cX6_size 9 = .ok (.imul, 1) := by decide +kernel
theorem dX6_size_10 : decode cX6_size 10 = .ok (.iload_n 2, 1) := by decide +kernel
theorem dX6_size_11 : decode cX6_size 11 = .ok (.aload_n 0, 1) := by decide +kernel
theorem dX6_size_12 : decode cX6_size 12 = .ok (.getfield 7, 3) := by decide +kernel
theorem dX6_size_15 : decode cX6_size 15 = .ok (.idiv, 1) := by decide +kernel
theorem dX6_size_16 : decode cX6_size 16 = .ok (.iadd, 1) := by decide +kernel
theorem dX6_size_17 : decode cX6_size 17 = .ok (.iaload, 1) := by decide +kernel
theorem dX6_size_18 : decode cX6_size 18 = .ok (.ireturn, 1) := by decide +kernel
theorem dX6_cell_0 : decode cX6_cell 0 = .ok (.iload_n 1, 1) := by decide +kernel
theorem dX6_cell_1 : decode cX6_cell 1 = .ok (.ifCond .ne 5, 3) := by decide +kernel
theorem dX6_cell_4 : decode cX6_cell 4 = .ok (.iload_n 2, 1) := by decide +kernel
theorem dX6_cell_5 : decode cX6_cell 5 = .ok (.ireturn, 1) := by decide +kernel
theorem dX6_cell_6 : decode cX6_cell 6 = .ok (.iload_n 2, 1) := by decide +kernel
theorem dX6_cell_7 : decode cX6_cell 7 = .ok (.aload_n 0, 1) := by decide +kernel
theorem dX6_cell_8 : decode cX6_cell 8 = .ok (.getfield 7, 3) := by decide +kernel
theorem dX6_cell_11 : decode cX6_cell 11 = .ok (.idiv, 1) := by decide +kernel
theorem dX6_cell_12 : decode cX6_cell 12 = .ok (.aload_n 0, 1) := by decide +kernel
theorem dX6_cell_13 : decode cX6_cell 13 = .ok (.getfield 7, 3) := by decide +kernel
theorem dX6_cell_16 : decode cX6_cell 16 = .ok (.imul, 1) := by decide +kernel
theorem dX6_cell_17 : decode cX6_cell 17 = .ok (.aload_n 0, 1) := by decide +kernel
theorem dX6_cell_18 : decode cX6_cell 18 = .ok (.getfield 7, 3) := by decide +kernel
theorem dX6_cell_21 : decode cX6_cell 21 = .ok (.iadd, 1) := by decide +kernel
theorem dX6_cell_22 : decode cX6_cell 22 = .ok (.iconst 1, 1) := by decide +kernel
theorem dX6_cell_23 : decode cX6_cell 23 = .ok (.isub, 1) := by decide +kernel
theorem dX6_cell_24 : decode cX6_cell 24 = .ok (.istore_n 3, 1) := by decide +kernel
theorem dX6_cell_25 : decode cX6_cell 25 = .ok (.iload_n 3, 1) := by decide +kernel
theorem dX6_cell_26 : decode cX6_cell 26 = .ok (.iload_n 2, 1) := by decide +kernel
theorem dX6_cell_27 : decode cX6_cell 27 = .ok (.aload_n 0, 1) := by decide +kernel
theorem dX6_cell_28 : decode cX6_cell 28 = .ok (.getfield 7, 3) := by decide +kernel
theorem dX6_cell_31 : decode cX6_cell 31 = .ok (.irem, 1) := by decide +kernel
theorem dX6_cell_32 : decode cX6_cell 32 = .ok (.isub, 1) := by decide +kernel
theorem dX6_cell_33 : decode cX6_cell 33 = .ok (.ireturn, 1) := by decide +kernel
theorem dX6_canUse_0 : decode cX6_canUse 0 = .ok (.aload_n 0, 1) := by decide +kernel
theorem dX6_canUse_1 : decode cX6_canUse 1 = .ok (.iload_n 1, 1) := by decide +kernel
theorem dX6_canUse_2 : decode cX6_canUse 2 = .ok (.iload_n 2, 1) := by decide +kernel
theorem dX6_canUse_3 : decode cX6_canUse 3 = .ok (.invokevirtual 63, 3) := by decide +kernel
theorem dX6_canUse_6 : decode cX6_canUse 6 = .ok (.bipush 45, 2) := by decide +kernel
theorem dX6_canUse_8 : decode cX6_canUse 8 = .ok (.if_icmp .eq 34, 3) := by decide +kernel
theorem dX6_canUse_11 : decode cX6_canUse 11 = .ok (.aload_n 0, 1) := by decide +kernel
theorem dX6_canUse_12 : decode cX6_canUse 12 = .ok (.getfield 31, 3) := by decide +kernel
theorem dX6_canUse_15 : decode cX6_canUse 15 = .ok (.aload_n 0, 1) := by decide +kernel
theorem dX6_canUse_16 : decode cX6_canUse 16 = .ok (.iload_n 1, 1) := by decide +kernel
theorem dX6_canUse_17 : decode cX6_canUse 17 = .ok (.iload_n 2, 1) := by decide +kernel
theorem dX6_canUse_18 : decode cX6_canUse 18 = .ok (.invokevirtual 67, 3) := by decide +kernel
theorem dX6_canUse_21 : decode cX6_canUse 21 = .ok (.baload, 1) := by decide +kernel
theorem dX6_canUse_22 : decode cX6_canUse 22 = .ok (.ifCond .ne 20, 3) := by decide +kernel
theorem dX6_canUse_25 : decode cX6_canUse 25 = .ok (.aload_n 0, 1) := by decide +kernel
theorem dX6_canUse_26 : decode cX6_canUse 26 = .ok (.iload_n 1, 1) := by decide +kernel
theorem dX6_canUse_27 : decode cX6_canUse 27 = .ok (.iload_n 2, 1) := by decide +kernel
theorem dX6_canUse_28 : decode cX6_canUse 28 = .ok (.invokevirtual 71, 3) := by decide +kernel
theorem dX6_canUse_31 : decode cX6_canUse 31 = .ok (.aload_n 0, 1) := by decide +kernel
theorem dX6_canUse_32 : decode cX6_canUse 32 = .ok (.getfield 28, 3) := by decide +kernel
theorem dX6_canUse_35 : decode cX6_canUse 35 = .ok (.if_icmp .lt 7, 3) := by decide +kernel
theorem dX6_canUse_38 : decode cX6_canUse 38 = .ok (.iconst 1, 1) := by decide +kernel
theorem dX6_canUse_39 : decode cX6_canUse 39 = .ok (.goto 4, 3) := by decide +kernel
theorem dX6_canUse_42 : decode cX6_canUse 42 = .ok (.iconst 0, 1) := by decide +kernel
theorem dX6_canUse_43 : decode cX6_canUse 43 = .ok (.ireturn, 1) := by decide +kernel
theorem dX6_has_0 : decode cX6_has 0 = .ok (.iconst 0, 1) := by decide +kernel
theorem dX6_has_1 : decode cX6_has 1 = .ok (.istore_n 3, 1) := by decide +kernel
theorem dX6_has_2 : decode cX6_has 2 = .ok (.iload_n 3, 1) := by decide +kernel
theorem dX6_has_3 : decode cX6_has 3 = .ok (.iconst 2, 1) := by decide +kernel
theorem dX6_has_4 : decode cX6_has 4 = .ok (.if_icmp .ge 40, 3) := by decide +kernel
theorem dX6_has_7 : decode cX6_has 7 = .ok (.aload_n 0, 1) := by decide +kernel
theorem dX6_has_8 : decode cX6_has 8 = .ok (.iload_n 3, 1) := by decide +kernel
theorem dX6_has_9 : decode cX6_has 9 = .ok (.iload_n 1, 1) := by decide +kernel
theorem dX6_has_10 : decode cX6_has 10 = .ok (.invokevirtual 67, 3) := by decide +kernel
theorem dX6_has_13 : decode cX6_has 13 = .ok (.istore 4, 2) := by decide +kernel
theorem dX6_has_15 : decode cX6_has 15 = .ok (.aload_n 0, 1) := by decide +kernel
theorem dX6_has_16 : decode cX6_has 16 = .ok (.iload_n 3, 1) := by decide +kernel
theorem dX6_has_17 : decode cX6_has 17 = .ok (.iload 4, 2) := by decide +kernel
theorem dX6_has_19 : decode cX6_has 19 = .ok (.invokevirtual 74, 3) := by decide +kernel
theorem dX6_has_22 : decode cX6_has 22 = .ok (.ifCond .eq 16, 3) := by decide +kernel
theorem dX6_has_25 : decode cX6_has 25 = .ok (.aload_n 0, 1) := by decide +kernel
theorem dX6_has_26 : decode cX6_has 26 = .ok (.iload_n 3, 1) := by decide +kernel
theorem dX6_has_27 : decode cX6_has 27 = .ok (.iload 4, 2) := by decide +kernel
theorem dX6_has_29 : decode cX6_has 29 = .ok (.invokevirtual 63, 3) := by decide +kernel
theorem dX6_has_32 : decode cX6_has 32 = .ok (.iload_n 2, 1) := by decide +kernel
theorem dX6_has_33 : decode cX6_has 33 = .ok (.if_icmp .ne 5, 3) := by decide +kernel
theorem dX6_has_36 : decode cX6_has 36 = .ok (.iconst 1, 1) := by decide +kernel
theorem dX6_has_37 : decode cX6_has 37 = .ok (.ireturn, 1) := by decide +kernel
theorem dX6_has_38 : decode cX6_has 38 = .ok (.iinc 3 1, 3) := by decide +kernel
theorem dX6_has_41 : decode cX6_has 41 = .ok (.goto (-39), 3) := by decide +kernel
theorem dX6_has_44 : decode cX6_has 44 = .ok (.iconst 0, 1) := by decide +kernel
theorem dX6_has_45 : decode cX6_has 45 = .ok (.ireturn, 1) := by decide +kernel
theorem dX6_letter_0 : decode cX6_letter 0 = .ok (.aload_n 0, 1) := by decide +kernel
theorem dX6_letter_1 : decode cX6_letter 1 = .ok (.getfield 31, 3) := by decide +kernel
theorem dX6_letter_4 : decode cX6_letter 4 = .ok (.aload_n 0, 1) := by decide +kernel
theorem dX6_letter_5 : decode cX6_letter 5 = .ok (.iload_n 1, 1) := by decide +kernel
theorem dX6_letter_6 : decode cX6_letter 6 = .ok (.iload_n 2, 1) := by decide +kernel
theorem dX6_letter_7 : decode cX6_letter 7 = .ok (.invokevirtual 67, 3) := by decide +kernel
theorem dX6_letter_10 : decode cX6_letter 10 = .ok (.baload, 1) := by decide +kernel
theorem dX6_letter_11 : decode cX6_letter 11 = .ok (.ifCond .eq 8, 3) := by decide +kernel
theorem dX6_letter_14 : decode cX6_letter 14 = .ok (.bipush (-2), 2) := by decide +kernel
theorem dX6_letter_16 : decode cX6_letter 16 = .ok (.goto 27, 3) := by decide +kernel
theorem dX6_letter_19 : decode cX6_letter 19 = .ok (.aload_n 0, 1) := by decide +kernel
theorem dX6_letter_20 : decode cX6_letter 20 = .ok (.iload_n 1, 1) := by decide +kernel
theorem dX6_letter_21 : decode cX6_letter 21 = .ok (.iload_n 2, 1) := by decide +kernel
theorem dX6_letter_22 : decode cX6_letter 22 = .ok (.invokevirtual 63, 3) := by decide +kernel
theorem dX6_letter_25 : decode cX6_letter 25 = .ok (.bipush 45, 2) := by decide +kernel
theorem dX6_letter_27 : decode cX6_letter 27 = .ok (.if_icmp .ne 7, 3) := by decide +kernel
theorem dX6_letter_30 : decode cX6_letter 30 = .ok (.iconst (-1), 1) := by decide +kernel
theorem dX6_letter_31 : decode cX6_letter 31 = .ok (.goto 12, 3) := by decide +kernel
theorem dX6_letter_34 : decode cX6_letter 34 = .ok (.aload_n 0, 1) := by decide +kernel
theorem dX6_letter_35 : decode cX6_letter 35 = .ok (.iload_n 1, 1) := by decide +kernel
theorem dX6_letter_36 : decode cX6_letter 36 = .ok (.iload_n 2, 1) := by decide +kernel
theorem dX6_letter_37 : decode cX6_letter 37 = .ok (.invokevirtual 63, 3) := by decide +kernel
theorem dX6_letter_40 : decode cX6_letter 40 = .ok (.bipush 97, 2) := by decide +kernel
theorem dX6_letter_42 : decode cX6_letter 42 = .ok (.isub, 1) := by decide +kernel
theorem dX6_letter_43 : decode cX6_letter 43 = .ok (.ireturn, 1) := by decide +kernel
theorem dX6_many_0 : decode cX6_many 0 = .ok (.iconst 0, 1) := by decide +kernel
theorem dX6_many_1 : decode cX6_many 1 = .ok (.istore_n 2, 1) := by decide +kernel
theorem dX6_many_2 : decode cX6_many 2 = .ok (.iconst 0, 1) := by decide +kernel
theorem dX6_many_3 : decode cX6_many 3 = .ok (.istore_n 3, 1) := by decide +kernel
theorem dX6_many_4 : decode cX6_many 4 = .ok (.iload_n 3, 1) := by decide +kernel
theorem dX6_many_5 : decode cX6_many 5 = .ok (.aload_n 0, 1) := by decide +kernel
theorem dX6_many_6 : decode cX6_many 6 = .ok (.getfield 37, 3) := by decide +kernel
theorem dX6_many_9 : decode cX6_many 9 = .ok (.invokevirtual 78, 3) := by decide +kernel
theorem dX6_many_12 : decode cX6_many 12 = .ok (.if_icmp .ge 24, 3) := by decide +kernel
theorem dX6_many_15 : decode cX6_many 15 = .ok (.aload_n 0, 1) := by decide +kernel
theorem dX6_many_16 : decode cX6_many 16 = .ok (.getfield 37, 3) := by decide +kernel
theorem dX6_many_19 : decode cX6_many 19 = .ok (.iload_n 3, 1) := by decide +kernel
theorem dX6_many_20 : decode cX6_many 20 = .ok (.invokevirtual 59, 3) := by decide +kernel
theorem dX6_many_23 : decode cX6_many 23 = .ok (.iload_n 1, 1) := by decide +kernel
theorem dX6_many_24 : decode cX6_many 24 = .ok (.if_icmp .ne 6, 3) := by decide +kernel
theorem dX6_many_27 : decode cX6_many 27 = .ok (.iinc 2 1, 3) := by decide +kernel
theorem dX6_many_30 : decode cX6_many 30 = .ok (.iinc 3 1, 3) := by decide +kernel
theorem dX6_many_33 : decode cX6_many 33 = .ok (.goto (-29), 3) := by decide +kernel
theorem dX6_many_36 : decode cX6_many 36 = .ok (.iload_n 2, 1) := by decide +kernel
theorem dX6_many_37 : decode cX6_many 37 = .ok (.ireturn, 1) := by decide +kernel
theorem dX6_missing_0 : decode cX6_missing 0 = .ok (.iconst 0, 1) := by decide +kernel
theorem dX6_missing_1 : decode cX6_missing 1 = .ok (.istore_n 1, 1) := by decide +kernel
theorem dX6_missing_2 : decode cX6_missing 2 = .ok (.iconst 0, 1) := by decide +kernel
theorem dX6_missing_3 : decode cX6_missing 3 = .ok (.istore_n 2, 1) := by decide +kernel
theorem dX6_missing_4 : decode cX6_missing 4 = .ok (.iload_n 2, 1) := by decide +kernel
theorem dX6_missing_5 : decode cX6_missing 5 = .ok (.iconst 1, 1) := by decide +kernel
theorem dX6_missing_6 : decode cX6_missing 6 = .ok (.aload_n 0, 1) := by decide +kernel
theorem dX6_missing_7 : decode cX6_missing 7 = .ok (.getfield 37, 3) := by decide +kernel
theorem dX6_missing_10 : decode cX6_missing 10 = .ok (.invokevirtual 78, 3) := by decide +kernel
theorem dX6_missing_13 : decode cX6_missing 13 = .ok (.ishl, 1) := by decide +kernel
theorem dX6_missing_14 : decode cX6_missing 14 = .ok (.if_icmp .ge 117, 3) := by decide +kernel
theorem dX6_missing_17 : decode cX6_missing 17 = .ok (.iconst 0, 1) := by decide +kernel
theorem dX6_missing_18 : decode cX6_missing 18 = .ok (.istore_n 3, 1) := by decide +kernel
theorem dX6_missing_19 : decode cX6_missing 19 = .ok (.iconst 0, 1) := by decide +kernel
theorem dX6_missing_20 : decode cX6_missing 20 = .ok (.istore 4, 2) := by decide +kernel
theorem dX6_missing_22 : decode cX6_missing 22 = .ok (.iload 4, 2) := by decide +kernel
theorem dX6_missing_24 : decode cX6_missing 24 = .ok (.aload_n 0, 1) := by decide +kernel
theorem dX6_missing_25 : decode cX6_missing 25 = .ok (.invokevirtual 82, 3) := by decide +kernel
theorem dX6_missing_28 : decode cX6_missing 28 = .ok (.if_icmp .ge 86, 3) := by decide +kernel
theorem dX6_missing_31 : decode cX6_missing 31 = .ok (.iconst 0, 1) := by decide +kernel
theorem dX6_missing_32 : decode cX6_missing 32 = .ok (.istore 5, 2) := by decide +kernel
theorem dX6_missing_34 : decode cX6_missing 34 = .ok (.iconst 0, 1) := by decide +kernel
theorem dX6_missing_35 : decode cX6_missing 35 = .ok (.istore 6, 2) := by decide +kernel
theorem dX6_missing_37 : decode cX6_missing 37 = .ok (.iload 6, 2) := by decide +kernel
theorem dX6_missing_39 : decode cX6_missing 39 = .ok (.aload_n 0, 1) := by decide +kernel
theorem dX6_missing_40 : decode cX6_missing 40 = .ok (.getfield 37, 3) := by decide +kernel
theorem dX6_missing_43 : decode cX6_missing 43 = .ok (.invokevirtual 78, 3) := by decide +kernel
theorem dX6_missing_46 : decode cX6_missing 46 = .ok (.if_icmp .ge 49, 3) := by decide +kernel
theorem dX6_missing_49 : decode cX6_missing 49 = .ok (.iload 5, 2) := by decide +kernel
theorem dX6_missing_51 : decode cX6_missing 51 = .ok (.ifCond .ne 44, 3) := by decide +kernel
theorem dX6_missing_54 : decode cX6_missing 54 = .ok (.iload_n 2, 1) := by decide +kernel
theorem dX6_missing_55 : decode cX6_missing 55 = .ok (.iload 6, 2) := by decide +kernel
theorem dX6_missing_57 : decode cX6_missing 57 = .ok (.ishr, 1) := by decide +kernel
theorem dX6_missing_58 : decode cX6_missing 58 = .ok (.iconst 1, 1) := by decide +kernel
theorem dX6_missing_59 : decode cX6_missing 59 = .ok (.iand, 1) := by decide +kernel
theorem dX6_missing_60 : decode cX6_missing 60 = .ok (.iconst 1, 1) := by decide +kernel
theorem dX6_missing_61 : decode cX6_missing 61 = .ok (.if_icmp .ne 25, 3) := by decide +kernel
theorem dX6_missing_64 : decode cX6_missing 64 = .ok (.aload_n 0, 1) := by decide +kernel
theorem dX6_missing_65 : decode cX6_missing 65 = .ok (.iload 4, 2) := by decide +kernel
theorem dX6_missing_67 : decode cX6_missing 67 = .ok (.aload_n 0, 1) := by decide +kernel
theorem dX6_missing_68 : decode cX6_missing 68 = .ok (.getfield 37, 3) := by decide +kernel
theorem dX6_missing_71 : decode cX6_missing 71 = .ok (.iload 6, 2) := by decide +kernel
theorem dX6_missing_73 : decode cX6_missing 73 = .ok (.invokevirtual 59, 3) := by decide +kernel
theorem dX6_missing_76 : decode cX6_missing 76 = .ok (.invokevirtual 85, 3) := by decide +kernel
theorem dX6_missing_79 : decode cX6_missing 79 = .ok (.ifCond .eq 7, 3) := by decide +kernel
theorem dX6_missing_82 : decode cX6_missing 82 = .ok (.iconst 1, 1) := by decide +kernel
theorem dX6_missing_83 : decode cX6_missing 83 = .ok (.goto 4, 3) := by decide +kernel
theorem dX6_missing_86 : decode cX6_missing 86 = .ok (.iconst 0, 1) := by decide +kernel
theorem dX6_missing_87 : decode cX6_missing 87 = .ok (.istore 5, 2) := by decide +kernel
theorem dX6_missing_89 : decode cX6_missing 89 = .ok (.iinc 6 1, 3) := by decide +kernel
theorem dX6_missing_92 : decode cX6_missing 92 = .ok (.goto (-55), 3) := by decide +kernel
theorem dX6_missing_95 : decode cX6_missing 95 = .ok (.iload_n 3, 1) := by decide +kernel
theorem dX6_missing_96 : decode cX6_missing 96 = .ok (.iload 5, 2) := by decide +kernel
theorem dX6_missing_98 : decode cX6_missing 98 = .ok (.ifCond .eq 7, 3) := by decide +kernel
theorem dX6_missing_101 : decode cX6_missing 101 = .ok (.iconst 1, 1) := by decide +kernel
theorem dX6_missing_102 : decode cX6_missing 102 = .ok (.goto 4, 3) := by decide +kernel
theorem dX6_missing_105 : decode cX6_missing 105 = .ok (.iconst 0, 1) := by decide +kernel
theorem dX6_missing_106 : decode cX6_missing 106 = .ok (.iadd, 1) := by decide +kernel
theorem dX6_missing_107 : decode cX6_missing 107 = .ok (.istore_n 3, 1) := by decide +kernel
theorem dX6_missing_108 : decode cX6_missing 108 = .ok (.iinc 4 1, 3) := by decide +kernel
theorem dX6_missing_111 : decode cX6_missing 111 = .ok (.goto (-89), 3) := by decide +kernel
theorem dX6_missing_114 : decode cX6_missing 114 = .ok (.iload_n 1, 1) := by decide +kernel
theorem dX6_missing_115 : decode cX6_missing 115 = .ok (.iload_n 2, 1) := by decide +kernel
theorem dX6_missing_116 : decode cX6_missing 116 = .ok (.invokestatic 89, 3) := by decide +kernel
theorem dX6_missing_119 : decode cX6_missing 119 = .ok (.iload_n 3, 1) := by decide +kernel
theorem dX6_missing_120 : decode cX6_missing 120 = .ok (.isub, 1) := by decide +kernel
theorem dX6_missing_121 : decode cX6_missing 121 = .ok (.invokestatic 95, 3) := by decide +kernel
theorem dX6_missing_124 : decode cX6_missing 124 = .ok (.istore_n 1, 1) := by decide +kernel
theorem dX6_missing_125 : decode cX6_missing 125 = .ok (.iinc 2 1, 3) := by decide +kernel
theorem dX6_missing_128 : decode cX6_missing 128 = .ok (.goto (-124), 3) := by decide +kernel
theorem dX6_missing_131 : decode cX6_missing 131 = .ok (.iload_n 1, 1) := by decide +kernel
theorem dX6_missing_132 : decode cX6_missing 132 = .ok (.ireturn, 1) := by decide +kernel
theorem dX6_isStrip_0 : decode cX6_isStrip 0 = .ok (.iload_n 2, 1) := by decide +kernel
theorem dX6_isStrip_1 : decode cX6_isStrip 1 = .ok (.aload_n 0, 1) := by decide +kernel
theorem dX6_isStrip_2 : decode cX6_isStrip 2 = .ok (.getfield 7, 3) := by decide +kernel
theorem dX6_isStrip_5 : decode cX6_isStrip 5 = .ok (.irem, 1) := by decide +kernel
theorem dX6_isStrip_6 : decode cX6_isStrip 6 = .ok (.iload_n 3, 1) := by decide +kernel
theorem dX6_isStrip_7 : decode cX6_isStrip 7 = .ok (.iadd, 1) := by decide +kernel
theorem dX6_isStrip_8 : decode cX6_isStrip 8 = .ok (.aload_n 0, 1) := by decide +kernel
theorem dX6_isStrip_9 : decode cX6_isStrip 9 = .ok (.getfield 7, 3) := by decide +kernel
theorem dX6_isStrip_12 : decode cX6_isStrip 12 = .ok (.if_icmp .le 5, 3) := by decide +kernel
theorem dX6_isStrip_15 : decode cX6_isStrip 15 = .ok (.iconst 0, 1) := by decide +kernel
theorem dX6_isStrip_16 : decode cX6_isStrip 16 = .ok (.ireturn, 1) := by decide +kernel
theorem dX6_isStrip_17 : decode cX6_isStrip 17 = .ok (.iconst 0, 1) := by decide +kernel
theorem dX6_isStrip_18 : decode cX6_isStrip 18 = .ok (.istore 4, 2) := by decide +kernel
theorem dX6_isStrip_20 : decode cX6_isStrip 20 = .ok (.iload 4, 2) := by decide +kernel
theorem dX6_isStrip_22 : decode cX6_isStrip 22 = .ok (.iload_n 3, 1) := by decide +kernel
theorem dX6_isStrip_23 : decode cX6_isStrip 23 = .ok (.if_icmp .ge 23, 3) := by decide +kernel
theorem dX6_isStrip_26 : decode cX6_isStrip 26 = .ok (.aload_n 0, 1) := by decide +kernel
theorem dX6_isStrip_27 : decode cX6_isStrip 27 = .ok (.iload_n 1, 1) := by decide +kernel
theorem dX6_isStrip_28 : decode cX6_isStrip 28 = .ok (.iload_n 2, 1) := by decide +kernel
theorem dX6_isStrip_29 : decode cX6_isStrip 29 = .ok (.iload 4, 2) := by decide +kernel
theorem dX6_isStrip_31 : decode cX6_isStrip 31 = .ok (.iadd, 1) := by decide +kernel
theorem dX6_isStrip_32 : decode cX6_isStrip 32 = .ok (.invokevirtual 74, 3) := by decide +kernel
theorem dX6_isStrip_35 : decode cX6_isStrip 35 = .ok (.ifCond .ne 5, 3) := by decide +kernel
theorem dX6_isStrip_38 : decode cX6_isStrip 38 = .ok (.iconst 0, 1) := by decide +kernel
theorem dX6_isStrip_39 : decode cX6_isStrip 39 = .ok (.ireturn, 1) := by decide +kernel
theorem dX6_isStrip_40 : decode cX6_isStrip 40 = .ok (.iinc 4 1, 3) := by decide +kernel
theorem dX6_isStrip_43 : decode cX6_isStrip 43 = .ok (.goto (-23), 3) := by decide +kernel
theorem dX6_isStrip_46 : decode cX6_isStrip 46 = .ok (.iconst 1, 1) := by decide +kernel
theorem dX6_isStrip_47 : decode cX6_isStrip 47 = .ok (.ireturn, 1) := by decide +kernel
theorem dX6_says_0 : decode cX6_says 0 = .ok (.iload 4, 2) := by decide +kernel
theorem dX6_says_2 : decode cX6_says 2 = .ok (.iload_n 3, 1) := by decide +kernel
theorem dX6_says_3 : decode cX6_says 3 = .ok (.iadd, 1) := by decide +kernel
theorem dX6_says_4 : decode cX6_says 4 = .ok (.aload_n 0, 1) := by decide +kernel
theorem dX6_says_5 : decode cX6_says 5 = .ok (.getfield 37, 3) := by decide +kernel
theorem dX6_says_8 : decode cX6_says 8 = .ok (.invokevirtual 78, 3) := by decide +kernel
theorem dX6_says_11 : decode cX6_says 11 = .ok (.if_icmp .gt 13, 3) := by decide +kernel
theorem dX6_says_14 : decode cX6_says 14 = .ok (.aload_n 0, 1) := by decide +kernel
theorem dX6_says_15 : decode cX6_says 15 = .ok (.iload_n 1, 1) := by decide +kernel
theorem dX6_says_16 : decode cX6_says 16 = .ok (.iload_n 2, 1) := by decide +kernel
theorem dX6_says_17 : decode cX6_says 17 = .ok (.iload_n 3, 1) := by decide +kernel
theorem dX6_says_18 : decode cX6_says 18 = .ok (.invokevirtual 100, 3) := by decide +kernel
theorem dX6_says_21 : decode cX6_says 21 = .ok (.ifCond .ne 5, 3) := by decide +kernel
theorem dX6_says_24 : decode cX6_says 24 = .ok (.iconst 0, 1) := by decide +kernel
theorem dX6_says_25 : decode cX6_says 25 = .ok (.ireturn, 1) := by decide +kernel
theorem dX6_says_26 : decode cX6_says 26 = .ok (.iconst 0, 1) := by decide +kernel
theorem dX6_says_27 : decode cX6_says 27 = .ok (.istore 5, 2) := by decide +kernel
theorem dX6_says_29 : decode cX6_says 29 = .ok (.iload 5, 2) := by decide +kernel
theorem dX6_says_31 : decode cX6_says 31 = .ok (.iload_n 3, 1) := by decide +kernel
theorem dX6_says_32 : decode cX6_says 32 = .ok (.if_icmp .ge 35, 3) := by decide +kernel
theorem dX6_says_35 : decode cX6_says 35 = .ok (.aload_n 0, 1) := by decide +kernel
theorem dX6_says_36 : decode cX6_says 36 = .ok (.iload_n 1, 1) := by decide +kernel
theorem dX6_says_37 : decode cX6_says 37 = .ok (.iload_n 2, 1) := by decide +kernel
theorem dX6_says_38 : decode cX6_says 38 = .ok (.iload 5, 2) := by decide +kernel
theorem dX6_says_40 : decode cX6_says 40 = .ok (.iadd, 1) := by decide +kernel
theorem dX6_says_41 : decode cX6_says 41 = .ok (.invokevirtual 63, 3) := by decide +kernel
theorem dX6_says_44 : decode cX6_says 44 = .ok (.aload_n 0, 1) := by decide +kernel
theorem dX6_says_45 : decode cX6_says 45 = .ok (.getfield 37, 3) := by decide +kernel
theorem dX6_says_48 : decode cX6_says 48 = .ok (.iload 4, 2) := by decide +kernel
theorem dX6_says_50 : decode cX6_says 50 = .ok (.iload 5, 2) := by decide +kernel
theorem dX6_says_52 : decode cX6_says 52 = .ok (.iadd, 1) := by decide +kernel
theorem dX6_says_53 : decode cX6_says 53 = .ok (.invokevirtual 59, 3) := by decide +kernel
theorem dX6_says_56 : decode cX6_says 56 = .ok (.if_icmp .eq 5, 3) := by decide +kernel
theorem dX6_says_59 : decode cX6_says 59 = .ok (.iconst 0, 1) := by decide +kernel
theorem dX6_says_60 : decode cX6_says 60 = .ok (.ireturn, 1) := by decide +kernel
theorem dX6_says_61 : decode cX6_says 61 = .ok (.iinc 5 1, 3) := by decide +kernel
theorem dX6_says_64 : decode cX6_says 64 = .ok (.goto (-35), 3) := by decide +kernel
theorem dX6_says_67 : decode cX6_says 67 = .ok (.iconst 1, 1) := by decide +kernel
theorem dX6_says_68 : decode cX6_says 68 = .ok (.ireturn, 1) := by decide +kernel
theorem dX6_isAhead_0 : decode cX6_isAhead 0 = .ok (.iload_n 1, 1) := by decide +kernel
theorem dX6_isAhead_1 : decode cX6_isAhead 1 = .ok (.aload_n 0, 1) := by decide +kernel
theorem dX6_isAhead_2 : decode cX6_isAhead 2 = .ok (.getfield 108, 3) := by decide +kernel
theorem dX6_isAhead_5 : decode cX6_isAhead 5 = .ok (.if_icmp .eq 17, 3) := by decide +kernel
theorem dX6_isAhead_8 : decode cX6_isAhead 8 = .ok (.iload_n 1, 1) := by decide +kernel
theorem dX6_isAhead_9 : decode cX6_isAhead 9 = .ok (.aload_n 0, 1) := by decide +kernel
theorem dX6_isAhead_10 : decode cX6_isAhead 10 = .ok (.getfield 108, 3) := by decide +kernel
theorem dX6_isAhead_13 : decode cX6_isAhead 13 = .ok (.if_icmp .ge 7, 3) := by decide +kernel
theorem dX6_isAhead_16 : decode cX6_isAhead 16 = .ok (.iconst 1, 1) := by decide +kernel
theorem dX6_isAhead_17 : decode cX6_isAhead 17 = .ok (.goto 4, 3) := by decide +kernel
theorem dX6_isAhead_20 : decode cX6_isAhead 20 = .ok (.iconst 0, 1) := by decide +kernel
theorem dX6_isAhead_21 : decode cX6_isAhead 21 = .ok (.ireturn, 1) := by decide +kernel
theorem dX6_isAhead_22 : decode cX6_isAhead 22 = .ok (.iconst 0, 1) := by decide +kernel
theorem dX6_isAhead_23 : decode cX6_isAhead 23 = .ok (.istore_n 2, 1) := by decide +kernel
theorem dX6_isAhead_24 : decode cX6_isAhead 24 = .ok (.iload_n 2, 1) := by decide +kernel
theorem dX6_isAhead_25 : decode cX6_isAhead 25 = .ok (.iload_n 1, 1) := by decide +kernel
theorem dX6_isAhead_26 : decode cX6_isAhead 26 = .ok (.if_icmp .ge 45, 3) := by decide +kernel
theorem dX6_isAhead_29 : decode cX6_isAhead 29 = .ok (.aload_n 0, 1) := by decide +kernel
theorem dX6_isAhead_30 : decode cX6_isAhead 30 = .ok (.getfield 41, 3) := by decide +kernel
theorem dX6_isAhead_33 : decode cX6_isAhead 33 = .ok (.iload_n 2, 1) := by decide +kernel
theorem dX6_isAhead_34 : decode cX6_isAhead 34 = .ok (.iaload, 1) := by decide +kernel
theorem dX6_isAhead_35 : decode cX6_isAhead 35 = .ok (.aload_n 0, 1) := by decide +kernel
theorem dX6_isAhead_36 : decode cX6_isAhead 36 = .ok (.getfield 44, 3) := by decide +kernel
theorem dX6_isAhead_39 : decode cX6_isAhead 39 = .ok (.iload_n 2, 1) := by decide +kernel
theorem dX6_isAhead_40 : decode cX6_isAhead 40 = .ok (.iaload, 1) := by decide +kernel
theorem dX6_isAhead_41 : decode cX6_isAhead 41 = .ok (.if_icmp .eq 24, 3) := by decide +kernel
theorem dX6_isAhead_44 : decode cX6_isAhead 44 = .ok (.aload_n 0, 1) := by decide +kernel
theorem dX6_isAhead_45 : decode cX6_isAhead 45 = .ok (.getfield 41, 3) := by decide +kernel
theorem dX6_isAhead_48 : decode cX6_isAhead 48 = .ok (.iload_n 2, 1) := by decide +kernel
theorem dX6_isAhead_49 : decode cX6_isAhead 49 = .ok (.iaload, 1) := by decide +kernel
theorem dX6_isAhead_50 : decode cX6_isAhead 50 = .ok (.aload_n 0, 1) := by decide +kernel
theorem dX6_isAhead_51 : decode cX6_isAhead 51 = .ok (.getfield 44, 3) := by decide +kernel
theorem dX6_isAhead_54 : decode cX6_isAhead 54 = .ok (.iload_n 2, 1) := by decide +kernel
theorem dX6_isAhead_55 : decode cX6_isAhead 55 = .ok (.iaload, 1) := by decide +kernel
theorem dX6_isAhead_56 : decode cX6_isAhead 56 = .ok (.if_icmp .ge 7, 3) := by decide +kernel
theorem dX6_isAhead_59 : decode cX6_isAhead 59 = .ok (.iconst 1, 1) := by decide +kernel
theorem dX6_isAhead_60 : decode cX6_isAhead 60 = .ok (.goto 4, 3) := by decide +kernel
theorem dX6_isAhead_63 : decode cX6_isAhead 63 = .ok (.iconst 0, 1) := by decide +kernel
theorem dX6_isAhead_64 : decode cX6_isAhead 64 = .ok (.ireturn, 1) := by decide +kernel
theorem dX6_isAhead_65 : decode cX6_isAhead 65 = .ok (.iinc 2 1, 3) := by decide +kernel
theorem dX6_isAhead_68 : decode cX6_isAhead 68 = .ok (.goto (-44), 3) := by decide +kernel
theorem dX6_isAhead_71 : decode cX6_isAhead 71 = .ok (.iconst 0, 1) := by decide +kernel
theorem dX6_isAhead_72 : decode cX6_isAhead 72 = .ok (.ireturn, 1) := by decide +kernel
theorem dX6_tries_0 : decode cX6_tries 0 = .ok (.iload_n 2, 1) := by decide +kernel
theorem dX6_tries_1 : decode cX6_tries 1 = .ok (.aload_n 0, 1) := by decide +kernel
theorem dX6_tries_2 : decode cX6_tries 2 = .ok (.getfield 108, 3) := by decide +kernel
theorem dX6_tries_5 : decode cX6_tries 5 = .ok (.if_icmp .le 4, 3) := by decide +kernel
theorem dX6_tries_8 : decode cX6_tries 8 = .ok (.return_, 1) := by decide +kernel
theorem dX6_tries_9 : decode cX6_tries 9 = .ok (.iload_n 1, 1) := by decide +kernel
theorem dX6_tries_10 : decode cX6_tries 10 = .ok (.aload_n 0, 1) := by decide +kernel
theorem dX6_tries_11 : decode cX6_tries 11 = .ok (.getfield 37, 3) := by decide +kernel
theorem dX6_tries_14 : decode cX6_tries 14 = .ok (.invokevirtual 78, 3) := by decide +kernel
theorem dX6_tries_17 : decode cX6_tries 17 = .ok (.if_icmp .ne 43, 3) := by decide +kernel
theorem dX6_tries_20 : decode cX6_tries 20 = .ok (.aload_n 0, 1) := by decide +kernel
theorem dX6_tries_21 : decode cX6_tries 21 = .ok (.iload_n 2, 1) := by decide +kernel
theorem dX6_tries_22 : decode cX6_tries 22 = .ok (.invokevirtual 111, 3) := by decide +kernel
theorem dX6_tries_25 : decode cX6_tries 25 = .ok (.ifCond .ne 4, 3) := by decide +kernel
theorem dX6_tries_28 : decode cX6_tries 28 = .ok (.return_, 1) := by decide +kernel
theorem dX6_tries_29 : decode cX6_tries 29 = .ok (.aload_n 0, 1) := by decide +kernel
theorem dX6_tries_30 : decode cX6_tries 30 = .ok (.iload_n 2, 1) := by decide +kernel
theorem dX6_tries_31 : decode cX6_tries 31 = .ok (.putfield 108, 3) := by decide +kernel
theorem dX6_tries_34 : decode cX6_tries 34 = .ok (.iconst 0, 1) := by decide +kernel
theorem dX6_tries_35 : decode cX6_tries 35 = .ok (.istore_n 3, 1) := by decide +kernel
theorem dX6_tries_36 : decode cX6_tries 36 = .ok (.iload_n 3, 1) := by decide +kernel
theorem dX6_tries_37 : decode cX6_tries 37 = .ok (.iload_n 2, 1) := by decide +kernel
theorem dX6_tries_38 : decode cX6_tries 38 = .ok (.if_icmp .ge 21, 3) := by decide +kernel
theorem dX6_tries_41 : decode cX6_tries 41 = .ok (.aload_n 0, 1) := by decide +kernel
theorem dX6_tries_42 : decode cX6_tries 42 = .ok (.getfield 44, 3) := by decide +kernel
theorem dX6_tries_45 : decode cX6_tries 45 = .ok (.iload_n 3, 1) := by decide +kernel
theorem dX6_tries_46 : decode cX6_tries 46 = .ok (.aload_n 0, 1) := by decide +kernel
theorem dX6_tries_47 : decode cX6_tries 47 = .ok (.getfield 41, 3) := by decide +kernel
theorem dX6_tries_50 : decode cX6_tries 50 = .ok (.iload_n 3, 1) := by decide +kernel
theorem dX6_tries_51 : decode cX6_tries 51 = .ok (.iaload, 1) := by decide +kernel
theorem dX6_tries_52 : decode cX6_tries 52 = .ok (.iastore, 1) := by decide +kernel
theorem dX6_tries_53 : decode cX6_tries 53 = .ok (.iinc 3 1, 3) := by decide +kernel
theorem dX6_tries_56 : decode cX6_tries 56 = .ok (.goto (-20), 3) := by decide +kernel
theorem dX6_tries_59 : decode cX6_tries 59 = .ok (.return_, 1) := by decide +kernel
theorem dX6_tries_60 : decode cX6_tries 60 = .ok (.iconst 1, 1) := by decide +kernel
theorem dX6_tries_61 : decode cX6_tries 61 = .ok (.istore_n 3, 1) := by decide +kernel
theorem dX6_tries_62 : decode cX6_tries 62 = .ok (.iload_n 3, 1) := by decide +kernel
theorem dX6_tries_63 : decode cX6_tries 63 = .ok (.ifCond .lt 155, 3) := by decide +kernel
theorem dX6_tries_66 : decode cX6_tries 66 = .ok (.iconst 0, 1) := by decide +kernel
theorem dX6_tries_67 : decode cX6_tries 67 = .ok (.istore 4, 2) := by decide +kernel
theorem dX6_tries_69 : decode cX6_tries 69 = .ok (.iload 4, 2) := by decide +kernel
theorem dX6_tries_71 : decode cX6_tries 71 = .ok (.aload_n 0, 1) := by decide +kernel
theorem dX6_tries_72 : decode cX6_tries 72 = .ok (.invokevirtual 82, 3) := by decide +kernel
theorem dX6_tries_75 : decode cX6_tries 75 = .ok (.if_icmp .ge 137, 3) := by decide +kernel
theorem dX6_tries_78 : decode cX6_tries 78 = .ok (.lconst 0, 1) := by decide +kernel
theorem dX6_tries_79 : decode cX6_tries 79 = .ok (.lstore 5, 2) := by decide +kernel
theorem dX6_tries_81 : decode cX6_tries 81 = .ok (.iconst 1, 1) := by decide +kernel
theorem dX6_tries_82 : decode cX6_tries 82 = .ok (.istore 7, 2) := by decide +kernel
theorem dX6_tries_84 : decode cX6_tries 84 = .ok (.iload 7, 2) := by decide +kernel
theorem dX6_tries_86 : decode cX6_tries 86 = .ok (.aload_n 0, 1) := by decide +kernel
theorem dX6_tries_87 : decode cX6_tries 87 = .ok (.getfield 7, 3) := by decide +kernel
theorem dX6_tries_90 : decode cX6_tries 90 = .ok (.if_icmp .gt 116, 3) := by decide +kernel
theorem dX6_tries_93 : decode cX6_tries 93 = .ok (.aload_n 0, 1) := by decide +kernel
theorem dX6_tries_94 : decode cX6_tries 94 = .ok (.iload_n 3, 1) := by decide +kernel
theorem dX6_tries_95 : decode cX6_tries 95 = .ok (.iload 4, 2) := by decide +kernel
theorem dX6_tries_97 : decode cX6_tries 97 = .ok (.iload 7, 2) := by decide +kernel
theorem dX6_tries_99 : decode cX6_tries 99 = .ok (.iload_n 1, 1) := by decide +kernel
theorem dX6_tries_100 : decode cX6_tries 100 = .ok (.invokevirtual 104, 3) := by decide +kernel
theorem dX6_tries_103 : decode cX6_tries 103 = .ok (.ifCond .eq 103, 3) := by decide +kernel
theorem dX6_tries_106 : decode cX6_tries 106 = .ok (.lload 5, 2) := by decide +kernel
theorem dX6_tries_108 : decode cX6_tries 108 = .ok (.lconst 1, 1) := by decide +kernel
theorem dX6_tries_109 : decode cX6_tries 109 = .ok (.aload_n 0, 1) := by decide +kernel
theorem dX6_tries_110 : decode cX6_tries 110 = .ok (.iload_n 3, 1) := by decide +kernel
theorem dX6_tries_111 : decode cX6_tries 111 = .ok (.iload 4, 2) := by decide +kernel
theorem dX6_tries_113 : decode cX6_tries 113 = .ok (.iload 7, 2) := by decide +kernel
theorem dX6_tries_115 : decode cX6_tries 115 = .ok (.iadd, 1) := by decide +kernel
theorem dX6_tries_116 : decode cX6_tries 116 = .ok (.iconst 1, 1) := by decide +kernel
theorem dX6_tries_117 : decode cX6_tries 117 = .ok (.isub, 1) := by decide +kernel
theorem dX6_tries_118 : decode cX6_tries 118 = .ok (.invokevirtual 67, 3) := by decide +kernel
theorem dX6_tries_121 : decode cX6_tries 121 = .ok (.lshl, 1) := by decide +kernel
theorem dX6_tries_122 : decode cX6_tries 122 = .ok (.lor, 1) := by decide +kernel
theorem dX6_tries_123 : decode cX6_tries 123 = .ok (.lstore 5, 2) := by decide +kernel
theorem dX6_tries_125 : decode cX6_tries 125 = .ok (.aload_n 0, 1) := by decide +kernel
theorem dX6_tries_126 : decode cX6_tries 126 = .ok (.getfield 115, 3) := by decide +kernel
theorem dX6_tries_129 : decode cX6_tries 129 = .ok (.lload 5, 2) := by decide +kernel
theorem dX6_tries_131 : decode cX6_tries 131 = .ok (.land, 1) := by decide +kernel
theorem dX6_tries_132 : decode cX6_tries 132 = .ok (.lconst 0, 1) := by decide +kernel
theorem dX6_tries_133 : decode cX6_tries 133 = .ok (.lcmp, 1) := by decide +kernel
theorem dX6_tries_134 : decode cX6_tries 134 = .ok (.ifCond .eq 6, 3) := by decide +kernel
theorem dX6_tries_137 : decode cX6_tries 137 = .ok (.goto 63, 3) := by decide +kernel
theorem dX6_tries_140 : decode cX6_tries 140 = .ok (.aload_n 0, 1) := by decide +kernel
theorem dX6_tries_141 : decode cX6_tries 141 = .ok (.getfield 41, 3) := by decide +kernel
theorem dX6_tries_144 : decode cX6_tries 144 = .ok (.iload_n 2, 1) := by decide +kernel
theorem dX6_tries_145 : decode cX6_tries 145 = .ok (.sipush 1000, 3) := by decide +kernel
theorem dX6_tries_148 : decode cX6_tries 148 = .ok (.bipush 9, 2) := by decide +kernel
theorem dX6_tries_150 : decode cX6_tries 150 = .ok (.iload 7, 2) := by decide +kernel
theorem dX6_tries_152 : decode cX6_tries 152 = .ok (.isub, 1) := by decide +kernel
theorem dX6_tries_153 : decode cX6_tries 153 = .ok (.imul, 1) := by decide +kernel
theorem dX6_tries_154 : decode cX6_tries 154 = .ok (.bipush 100, 2) := by decide +kernel
theorem dX6_tries_156 : decode cX6_tries 156 = .ok (.iload_n 3, 1) := by decide +kernel
theorem dX6_tries_157 : decode cX6_tries 157 = .ok (.imul, 1) := by decide +kernel
theorem dX6_tries_158 : decode cX6_tries 158 = .ok (.iadd, 1) := by decide +kernel
theorem dX6_tries_159 : decode cX6_tries 159 = .ok (.iload 4, 2) := by decide +kernel
theorem dX6_tries_161 : decode cX6_tries 161 = .ok (.iadd, 1) := by decide +kernel
theorem dX6_tries_162 : decode cX6_tries 162 = .ok (.iastore, 1) := by decide +kernel
theorem dX6_tries_163 : decode cX6_tries 163 = .ok (.aload_n 0, 1) := by decide +kernel
theorem dX6_tries_164 : decode cX6_tries 164 = .ok (.dup, 1) := by decide +kernel
theorem dX6_tries_165 : decode cX6_tries 165 = .ok (.getfield 115, 3) := by decide +kernel
theorem dX6_tries_168 : decode cX6_tries 168 = .ok (.lload 5, 2) := by decide +kernel
theorem dX6_tries_170 : decode cX6_tries 170 = .ok (.lor, 1) := by decide +kernel
theorem dX6_tries_171 : decode cX6_tries 171 = .ok (.putfield 115, 3) := by decide +kernel
theorem dX6_tries_174 : decode cX6_tries 174 = .ok (.aload_n 0, 1) := by decide +kernel
theorem dX6_tries_175 : decode cX6_tries 175 = .ok (.iload_n 1, 1) := by decide +kernel
theorem dX6_tries_176 : decode cX6_tries 176 = .ok (.iload 7, 2) := by decide +kernel
theorem dX6_tries_178 : decode cX6_tries 178 = .ok (.iadd, 1) := by decide +kernel
theorem dX6_tries_179 : decode cX6_tries 179 = .ok (.iload_n 2, 1) := by decide +kernel
theorem dX6_tries_180 : decode cX6_tries 180 = .ok (.iconst 1, 1) := by decide +kernel
theorem dX6_tries_181 : decode cX6_tries 181 = .ok (.iadd, 1) := by decide +kernel
theorem dX6_tries_182 : decode cX6_tries 182 = .ok (.invokevirtual 119, 3) := by decide +kernel
theorem dX6_tries_185 : decode cX6_tries 185 = .ok (.aload_n 0, 1) := by decide +kernel
theorem dX6_tries_186 : decode cX6_tries 186 = .ok (.dup, 1) := by decide +kernel
theorem dX6_tries_187 : decode cX6_tries 187 = .ok (.getfield 115, 3) := by decide +kernel
theorem dX6_tries_190 : decode cX6_tries 190 = .ok (.lload 5, 2) := by decide +kernel
theorem dX6_tries_192 : decode cX6_tries 192 = .ok (.ldc2_w 123, 3) := by decide +kernel
theorem dX6_tries_195 : decode cX6_tries 195 = .ok (.lxor, 1) := by decide +kernel
theorem dX6_tries_196 : decode cX6_tries 196 = .ok (.land, 1) := by decide +kernel
theorem dX6_tries_197 : decode cX6_tries 197 = .ok (.putfield 115, 3) := by decide +kernel
theorem dX6_tries_200 : decode cX6_tries 200 = .ok (.iinc 7 1, 3) := by decide +kernel
theorem dX6_tries_203 : decode cX6_tries 203 = .ok (.goto (-119), 3) := by decide +kernel
theorem dX6_tries_206 : decode cX6_tries 206 = .ok (.iinc 4 1, 3) := by decide +kernel
theorem dX6_tries_209 : decode cX6_tries 209 = .ok (.goto (-140), 3) := by decide +kernel
theorem dX6_tries_212 : decode cX6_tries 212 = .ok (.iinc 3 (-1), 3) := by decide +kernel
theorem dX6_tries_215 : decode cX6_tries 215 = .ok (.goto (-153), 3) := by decide +kernel
theorem dX6_tries_218 : decode cX6_tries 218 = .ok (.return_, 1) := by decide +kernel
theorem dX6_plan_0 : decode cX6_plan 0 = .ok (.aload_n 0, 1) := by decide +kernel
theorem dX6_plan_1 : decode cX6_plan 1 = .ok (.bipush 99, 2) := by decide +kernel
theorem dX6_plan_3 : decode cX6_plan 3 = .ok (.putfield 108, 3) := by decide +kernel
theorem dX6_plan_6 : decode cX6_plan 6 = .ok (.aload_n 0, 1) := by decide +kernel
theorem dX6_plan_7 : decode cX6_plan 7 = .ok (.lconst 0, 1) := by decide +kernel
theorem dX6_plan_8 : decode cX6_plan 8 = .ok (.putfield 115, 3) := by decide +kernel
theorem dX6_plan_11 : decode cX6_plan 11 = .ok (.aload_n 0, 1) := by decide +kernel
theorem dX6_plan_12 : decode cX6_plan 12 = .ok (.getfield 37, 3) := by decide +kernel
theorem dX6_plan_15 : decode cX6_plan 15 = .ok (.invokevirtual 78, 3) := by decide +kernel
theorem dX6_plan_18 : decode cX6_plan 18 = .ok (.bipush 8, 2) := by decide +kernel
theorem dX6_plan_20 : decode cX6_plan 20 = .ok (.if_icmp .le 6, 3) := by decide +kernel
theorem dX6_plan_23 : decode cX6_plan 23 = .ok (.bipush (-2), 2) := by decide +kernel
theorem dX6_plan_25 : decode cX6_plan 25 = .ok (.ireturn, 1) := by decide +kernel
theorem dX6_plan_26 : decode cX6_plan 26 = .ok (.aload_n 0, 1) := by decide +kernel
theorem dX6_plan_27 : decode cX6_plan 27 = .ok (.iconst 0, 1) := by decide +kernel
theorem dX6_plan_28 : decode cX6_plan 28 = .ok (.iconst 0, 1) := by decide +kernel
theorem dX6_plan_29 : decode cX6_plan 29 = .ok (.invokevirtual 119, 3) := by decide +kernel
theorem dX6_plan_32 : decode cX6_plan 32 = .ok (.aload_n 0, 1) := by decide +kernel
theorem dX6_plan_33 : decode cX6_plan 33 = .ok (.getfield 108, 3) := by decide +kernel
theorem dX6_plan_36 : decode cX6_plan 36 = .ok (.bipush 99, 2) := by decide +kernel
theorem dX6_plan_38 : decode cX6_plan 38 = .ok (.if_icmp .ne 7, 3) := by decide +kernel
theorem dX6_plan_41 : decode cX6_plan 41 = .ok (.iconst (-1), 1) := by decide +kernel
theorem dX6_plan_42 : decode cX6_plan 42 = .ok (.goto 7, 3) := by decide +kernel
theorem dX6_plan_45 : decode cX6_plan 45 = .ok (.aload_n 0, 1) := by decide +kernel
theorem dX6_plan_46 : decode cX6_plan 46 = .ok (.getfield 108, 3) := by decide +kernel
theorem dX6_plan_49 : decode cX6_plan 49 = .ok (.ireturn, 1) := by decide +kernel
theorem dX6_ofCut_0 : decode cX6_ofCut 0 = .ok (.bipush 9, 2) := by decide +kernel
theorem dX6_ofCut_2 : decode cX6_ofCut 2 = .ok (.aload_n 0, 1) := by decide +kernel
theorem dX6_ofCut_3 : decode cX6_ofCut 3 = .ok (.getfield 44, 3) := by decide +kernel
theorem dX6_ofCut_6 : decode cX6_ofCut 6 = .ok (.iload_n 1, 1) := by decide +kernel
theorem dX6_ofCut_7 : decode cX6_ofCut 7 = .ok (.iaload, 1) := by decide +kernel
theorem dX6_ofCut_8 : decode cX6_ofCut 8 = .ok (.sipush 1000, 3) := by decide +kernel
theorem dX6_ofCut_11 : decode cX6_ofCut 11 = .ok (.idiv, 1) := by decide +kernel
theorem dX6_ofCut_12 : decode cX6_ofCut 12 = .ok (.isub, 1) := by decide +kernel
theorem dX6_ofCut_13 : decode cX6_ofCut 13 = .ok (.istore_n 3, 1) := by decide +kernel
theorem dX6_ofCut_14 : decode cX6_ofCut 14 = .ok (.aload_n 0, 1) := by decide +kernel
theorem dX6_ofCut_15 : decode cX6_ofCut 15 = .ok (.getfield 44, 3) := by decide +kernel
theorem dX6_ofCut_18 : decode cX6_ofCut 18 = .ok (.iload_n 1, 1) := by decide +kernel
theorem dX6_ofCut_19 : decode cX6_ofCut 19 = .ok (.iaload, 1) := by decide +kernel
theorem dX6_ofCut_20 : decode cX6_ofCut 20 = .ok (.bipush 100, 2) := by decide +kernel
theorem dX6_ofCut_22 : decode cX6_ofCut 22 = .ok (.idiv, 1) := by decide +kernel
theorem dX6_ofCut_23 : decode cX6_ofCut 23 = .ok (.bipush 10, 2) := by decide +kernel
theorem dX6_ofCut_25 : decode cX6_ofCut 25 = .ok (.irem, 1) := by decide +kernel
theorem dX6_ofCut_26 : decode cX6_ofCut 26 = .ok (.istore 4, 2) := by decide +kernel
theorem dX6_ofCut_28 : decode cX6_ofCut 28 = .ok (.aload_n 0, 1) := by decide +kernel
theorem dX6_ofCut_29 : decode cX6_ofCut 29 = .ok (.getfield 44, 3) := by decide +kernel
theorem dX6_ofCut_32 : decode cX6_ofCut 32 = .ok (.iload_n 1, 1) := by decide +kernel
theorem dX6_ofCut_33 : decode cX6_ofCut 33 = .ok (.iaload, 1) := by decide +kernel
theorem dX6_ofCut_34 : decode cX6_ofCut 34 = .ok (.bipush 100, 2) := by decide +kernel
theorem dX6_ofCut_36 : decode cX6_ofCut 36 = .ok (.irem, 1) := by decide +kernel
theorem dX6_ofCut_37 : decode cX6_ofCut 37 = .ok (.istore 5, 2) := by decide +kernel
theorem dX6_ofCut_39 : decode cX6_ofCut 39 = .ok (.iload_n 2, 1) := by decide +kernel
theorem dX6_ofCut_40 : decode cX6_ofCut 40 = .ok (.ifCond .ne 7, 3) := by decide +kernel
theorem dX6_ofCut_43 : decode cX6_ofCut 43 = .ok (.iload_n 3, 1) := by decide +kernel
theorem dX6_ofCut_44 : decode cX6_ofCut 44 = .ok (.goto 33, 3) := by decide +kernel
theorem dX6_ofCut_47 : decode cX6_ofCut 47 = .ok (.iload_n 2, 1) := by decide +kernel
theorem dX6_ofCut_48 : decode cX6_ofCut 48 = .ok (.iconst 1, 1) := by decide +kernel
theorem dX6_ofCut_49 : decode cX6_ofCut 49 = .ok (.if_icmp .ne 8, 3) := by decide +kernel
theorem dX6_ofCut_52 : decode cX6_ofCut 52 = .ok (.iload 4, 2) := by decide +kernel
theorem dX6_ofCut_54 : decode cX6_ofCut 54 = .ok (.goto 23, 3) := by decide +kernel
theorem dX6_ofCut_57 : decode cX6_ofCut 57 = .ok (.iload_n 2, 1) := by decide +kernel
theorem dX6_ofCut_58 : decode cX6_ofCut 58 = .ok (.iconst 2, 1) := by decide +kernel
theorem dX6_ofCut_59 : decode cX6_ofCut 59 = .ok (.if_icmp .ne 8, 3) := by decide +kernel
theorem dX6_ofCut_62 : decode cX6_ofCut 62 = .ok (.iload 5, 2) := by decide +kernel
theorem dX6_ofCut_64 : decode cX6_ofCut 64 = .ok (.goto 13, 3) := by decide +kernel
theorem dX6_ofCut_67 : decode cX6_ofCut 67 = .ok (.iload_n 3, 1) := by decide +kernel
theorem dX6_ofCut_68 : decode cX6_ofCut 68 = .ok (.aload_n 0, 1) := by decide +kernel
theorem dX6_ofCut_69 : decode cX6_ofCut 69 = .ok (.iload 4, 2) := by decide +kernel
theorem dX6_ofCut_71 : decode cX6_ofCut 71 = .ok (.iload 5, 2) := by decide +kernel
theorem dX6_ofCut_73 : decode cX6_ofCut 73 = .ok (.invokevirtual 71, 3) := by decide +kernel
theorem dX6_ofCut_76 : decode cX6_ofCut 76 = .ok (.imul, 1) := by decide +kernel
theorem dX6_ofCut_77 : decode cX6_ofCut 77 = .ok (.ireturn, 1) := by decide +kernel
theorem dX6_cutsOff_0 : decode cX6_cutsOff 0 = .ok (.iconst 0, 1) := by decide +kernel
theorem dX6_cutsOff_1 : decode cX6_cutsOff 1 = .ok (.istore 4, 2) := by decide +kernel
theorem dX6_cutsOff_3 : decode cX6_cutsOff 3 = .ok (.iload 4, 2) := by decide +kernel
theorem dX6_cutsOff_5 : decode cX6_cutsOff 5 = .ok (.iload_n 3, 1) := by decide +kernel
theorem dX6_cutsOff_6 : decode cX6_cutsOff 6 = .ok (.if_icmp .ge 24, 3) := by decide +kernel
theorem dX6_cutsOff_9 : decode cX6_cutsOff 9 = .ok (.aload_n 0, 1) := by decide +kernel
theorem dX6_cutsOff_10 : decode cX6_cutsOff 10 = .ok (.getfield 31, 3) := by decide +kernel
theorem dX6_cutsOff_13 : decode cX6_cutsOff 13 = .ok (.aload_n 0, 1) := by decide +kernel
theorem dX6_cutsOff_14 : decode cX6_cutsOff 14 = .ok (.iload_n 1, 1) := by decide +kernel
theorem dX6_cutsOff_15 : decode cX6_cutsOff 15 = .ok (.iload_n 2, 1) := by decide +kernel
theorem dX6_cutsOff_16 : decode cX6_cutsOff 16 = .ok (.iload 4, 2) := by decide +kernel
theorem dX6_cutsOff_18 : decode cX6_cutsOff 18 = .ok (.iadd, 1) := by decide +kernel
theorem dX6_cutsOff_19 : decode cX6_cutsOff 19 = .ok (.invokevirtual 67, 3) := by decide +kernel
theorem dX6_cutsOff_22 : decode cX6_cutsOff 22 = .ok (.iconst 1, 1) := by decide +kernel
theorem dX6_cutsOff_23 : decode cX6_cutsOff 23 = .ok (.bastore, 1) := by decide +kernel
theorem dX6_cutsOff_24 : decode cX6_cutsOff 24 = .ok (.iinc 4 1, 3) := by decide +kernel
theorem dX6_cutsOff_27 : decode cX6_cutsOff 27 = .ok (.goto (-24), 3) := by decide +kernel
theorem dX6_cutsOff_30 : decode cX6_cutsOff 30 = .ok (.aload_n 0, 1) := by decide +kernel
theorem dX6_cutsOff_31 : decode cX6_cutsOff 31 = .ok (.dup, 1) := by decide +kernel
theorem dX6_cutsOff_32 : decode cX6_cutsOff 32 = .ok (.getfield 53, 3) := by decide +kernel
theorem dX6_cutsOff_35 : decode cX6_cutsOff 35 = .ok (.iconst 1, 1) := by decide +kernel
theorem dX6_cutsOff_36 : decode cX6_cutsOff 36 = .ok (.iadd, 1) := by decide +kernel
theorem dX6_cutsOff_37 : decode cX6_cutsOff 37 = .ok (.putfield 53, 3) := by decide +kernel
theorem dX6_cutsOff_40 : decode cX6_cutsOff 40 = .ok (.aload_n 0, 1) := by decide +kernel
theorem dX6_cutsOff_41 : decode cX6_cutsOff 41 = .ok (.dup, 1) := by decide +kernel
theorem dX6_cutsOff_42 : decode cX6_cutsOff 42 = .ok (.getfield 56, 3) := by decide +kernel
theorem dX6_cutsOff_45 : decode cX6_cutsOff 45 = .ok (.iload_n 3, 1) := by decide +kernel
theorem dX6_cutsOff_46 : decode cX6_cutsOff 46 = .ok (.iadd, 1) := by decide +kernel
theorem dX6_cutsOff_47 : decode cX6_cutsOff 47 = .ok (.putfield 56, 3) := by decide +kernel
theorem dX6_cutsOff_50 : decode cX6_cutsOff 50 = .ok (.return_, 1) := by decide +kernel
theorem dX6_cutsPlan_0 : decode cX6_cutsPlan 0 = .ok (.iconst 0, 1) := by decide +kernel
theorem dX6_cutsPlan_1 : decode cX6_cutsPlan 1 = .ok (.istore_n 2, 1) := by decide +kernel
theorem dX6_cutsPlan_2 : decode cX6_cutsPlan 2 = .ok (.iload_n 2, 1) := by decide +kernel
theorem dX6_cutsPlan_3 : decode cX6_cutsPlan 3 = .ok (.iload_n 1, 1) := by decide +kernel
theorem dX6_cutsPlan_4 : decode cX6_cutsPlan 4 = .ok (.if_icmp .ge 31, 3) := by decide +kernel
theorem dX6_cutsPlan_7 : decode cX6_cutsPlan 7 = .ok (.aload_n 0, 1) := by decide +kernel
theorem dX6_cutsPlan_8 : decode cX6_cutsPlan 8 = .ok (.aload_n 0, 1) := by decide +kernel
theorem dX6_cutsPlan_9 : decode cX6_cutsPlan 9 = .ok (.iload_n 2, 1) := by decide +kernel
theorem dX6_cutsPlan_10 : decode cX6_cutsPlan 10 = .ok (.iconst 1, 1) := by decide +kernel
theorem dX6_cutsPlan_11 : decode cX6_cutsPlan 11 = .ok (.invokevirtual 125, 3) := by decide +kernel
theorem dX6_cutsPlan_14 : decode cX6_cutsPlan 14 = .ok (.aload_n 0, 1) := by decide +kernel
theorem dX6_cutsPlan_15 : decode cX6_cutsPlan 15 = .ok (.iload_n 2, 1) := by decide +kernel
theorem dX6_cutsPlan_16 : decode cX6_cutsPlan 16 = .ok (.iconst 2, 1) := by decide +kernel
theorem dX6_cutsPlan_17 : decode cX6_cutsPlan 17 = .ok (.invokevirtual 125, 3) := by decide +kernel
theorem dX6_cutsPlan_20 : decode cX6_cutsPlan 20 = .ok (.aload_n 0, 1) := by decide +kernel
theorem dX6_cutsPlan_21 : decode cX6_cutsPlan 21 = .ok (.iload_n 2, 1) := by decide +kernel
theorem dX6_cutsPlan_22 : decode cX6_cutsPlan 22 = .ok (.iconst 0, 1) := by decide +kernel
theorem dX6_cutsPlan_23 : decode cX6_cutsPlan 23 = .ok (.invokevirtual 125, 3) := by decide +kernel
theorem dX6_cutsPlan_26 : decode cX6_cutsPlan 26 = .ok (.invokevirtual 128, 3) := by decide +kernel
theorem dX6_cutsPlan_29 : decode cX6_cutsPlan 29 = .ok (.iinc 2 1, 3) := by decide +kernel
theorem dX6_cutsPlan_32 : decode cX6_cutsPlan 32 = .ok (.goto (-30), 3) := by decide +kernel
theorem dX6_cutsPlan_35 : decode cX6_cutsPlan 35 = .ok (.return_, 1) := by decide +kernel
theorem dX6_there_0 : decode cX6_there 0 = .ok (.iconst 0, 1) := by decide +kernel
theorem dX6_there_1 : decode cX6_there 1 = .ok (.istore_n 1, 1) := by decide +kernel
theorem dX6_there_2 : decode cX6_there 2 = .ok (.aload_n 0, 1) := by decide +kernel
theorem dX6_there_3 : decode cX6_there 3 = .ok (.getfield 31, 3) := by decide +kernel
theorem dX6_there_6 : decode cX6_there 6 = .ok (.astore_n 2, 1) := by decide +kernel
theorem dX6_there_7 : decode cX6_there 7 = .ok (.aload_n 2, 1) := by decide +kernel
theorem dX6_there_8 : decode cX6_there 8 = .ok (.arraylength, 1) := by decide +kernel
theorem dX6_there_9 : decode cX6_there 9 = .ok (.istore_n 3, 1) := by decide +kernel
theorem dX6_there_10 : decode cX6_there 10 = .ok (.iconst 0, 1) := by decide +kernel
theorem dX6_there_11 : decode cX6_there 11 = .ok (.istore 4, 2) := by decide +kernel
theorem dX6_there_13 : decode cX6_there 13 = .ok (.iload 4, 2) := by decide +kernel
theorem dX6_there_15 : decode cX6_there 15 = .ok (.iload_n 3, 1) := by decide +kernel
theorem dX6_there_16 : decode cX6_there 16 = .ok (.if_icmp .ge 23, 3) := by decide +kernel
theorem dX6_there_19 : decode cX6_there 19 = .ok (.aload_n 2, 1) := by decide +kernel
theorem dX6_there_20 : decode cX6_there 20 = .ok (.iload 4, 2) := by decide +kernel
theorem dX6_there_22 : decode cX6_there 22 = .ok (.baload, 1) := by decide +kernel
theorem dX6_there_23 : decode cX6_there 23 = .ok (.istore 5, 2) := by decide +kernel
theorem dX6_there_25 : decode cX6_there 25 = .ok (.iload 5, 2) := by decide +kernel
theorem dX6_there_27 : decode cX6_there 27 = .ok (.ifCond .ne 6, 3) := by decide +kernel
theorem dX6_there_30 : decode cX6_there 30 = .ok (.iinc 1 1, 3) := by decide +kernel
theorem dX6_there_33 : decode cX6_there 33 = .ok (.iinc 4 1, 3) := by decide +kernel
theorem dX6_there_36 : decode cX6_there 36 = .ok (.goto (-23), 3) := by decide +kernel
theorem dX6_there_39 : decode cX6_there 39 = .ok (.iload_n 1, 1) := by decide +kernel
theorem dX6_there_40 : decode cX6_there 40 = .ok (.ireturn, 1) := by decide +kernel
theorem dX6_clashes_0 : decode cX6_clashes 0 = .ok (.iconst 0, 1) := by decide +kernel
theorem dX6_clashes_1 : decode cX6_clashes 1 = .ok (.istore_n 1, 1) := by decide +kernel
theorem dX6_clashes_2 : decode cX6_clashes 2 = .ok (.iconst 0, 1) := by decide +kernel
theorem dX6_clashes_3 : decode cX6_clashes 3 = .ok (.istore_n 2, 1) := by decide +kernel
theorem dX6_clashes_4 : decode cX6_clashes 4 = .ok (.iload_n 2, 1) := by decide +kernel
theorem dX6_clashes_5 : decode cX6_clashes 5 = .ok (.aload_n 0, 1) := by decide +kernel
theorem dX6_clashes_6 : decode cX6_clashes 6 = .ok (.invokevirtual 82, 3) := by decide +kernel
theorem dX6_clashes_9 : decode cX6_clashes 9 = .ok (.if_icmp .ge 76, 3) := by decide +kernel
theorem dX6_clashes_12 : decode cX6_clashes 12 = .ok (.iconst 1, 1) := by decide +kernel
theorem dX6_clashes_13 : decode cX6_clashes 13 = .ok (.istore_n 3, 1) := by decide +kernel
theorem dX6_clashes_14 : decode cX6_clashes 14 = .ok (.iconst 0, 1) := by decide +kernel
theorem dX6_clashes_15 : decode cX6_clashes 15 = .ok (.istore 4, 2) := by decide +kernel
theorem dX6_clashes_17 : decode cX6_clashes 17 = .ok (.iload 4, 2) := by decide +kernel
theorem dX6_clashes_19 : decode cX6_clashes 19 = .ok (.iconst 2, 1) := by decide +kernel
theorem dX6_clashes_20 : decode cX6_clashes 20 = .ok (.if_icmp .ge 52, 3) := by decide +kernel
theorem dX6_clashes_23 : decode cX6_clashes 23 = .ok (.aload_n 0, 1) := by decide +kernel
theorem dX6_clashes_24 : decode cX6_clashes 24 = .ok (.iload 4, 2) := by decide +kernel
theorem dX6_clashes_26 : decode cX6_clashes 26 = .ok (.iload_n 2, 1) := by decide +kernel
theorem dX6_clashes_27 : decode cX6_clashes 27 = .ok (.invokevirtual 67, 3) := by decide +kernel
theorem dX6_clashes_30 : decode cX6_clashes 30 = .ok (.istore 5, 2) := by decide +kernel
theorem dX6_clashes_32 : decode cX6_clashes 32 = .ok (.iload_n 3, 1) := by decide +kernel
theorem dX6_clashes_33 : decode cX6_clashes 33 = .ok (.aload_n 0, 1) := by decide +kernel
theorem dX6_clashes_34 : decode cX6_clashes 34 = .ok (.iload 4, 2) := by decide +kernel
theorem dX6_clashes_36 : decode cX6_clashes 36 = .ok (.iload 5, 2) := by decide +kernel
theorem dX6_clashes_38 : decode cX6_clashes 38 = .ok (.invokevirtual 74, 3) := by decide +kernel
theorem dX6_clashes_41 : decode cX6_clashes 41 = .ok (.ifCond .eq 22, 3) := by decide +kernel
theorem dX6_clashes_44 : decode cX6_clashes 44 = .ok (.aload_n 0, 1) := by decide +kernel
theorem dX6_clashes_45 : decode cX6_clashes 45 = .ok (.aload_n 0, 1) := by decide +kernel
theorem dX6_clashes_46 : decode cX6_clashes 46 = .ok (.iload 4, 2) := by decide +kernel
theorem dX6_clashes_48 : decode cX6_clashes 48 = .ok (.iload 5, 2) := by decide +kernel
theorem dX6_clashes_50 : decode cX6_clashes 50 = .ok (.invokevirtual 63, 3) := by decide +kernel
theorem dX6_clashes_53 : decode cX6_clashes 53 = .ok (.invokevirtual 132, 3) := by decide +kernel
theorem dX6_clashes_56 : decode cX6_clashes 56 = .ok (.ifCond .le 7, 3) := by decide +kernel
theorem dX6_clashes_59 : decode cX6_clashes 59 = .ok (.iconst 1, 1) := by decide +kernel
theorem dX6_clashes_60 : decode cX6_clashes 60 = .ok (.goto 4, 3) := by decide +kernel
theorem dX6_clashes_63 : decode cX6_clashes 63 = .ok (.iconst 0, 1) := by decide +kernel
theorem dX6_clashes_64 : decode cX6_clashes 64 = .ok (.iand, 1) := by decide +kernel
theorem dX6_clashes_65 : decode cX6_clashes 65 = .ok (.istore_n 3, 1) := by decide +kernel
theorem dX6_clashes_66 : decode cX6_clashes 66 = .ok (.iinc 4 1, 3) := by decide +kernel
theorem dX6_clashes_69 : decode cX6_clashes 69 = .ok (.goto (-52), 3) := by decide +kernel
theorem dX6_clashes_72 : decode cX6_clashes 72 = .ok (.iload_n 3, 1) := by decide +kernel
theorem dX6_clashes_73 : decode cX6_clashes 73 = .ok (.ifCond .eq 6, 3) := by decide +kernel
theorem dX6_clashes_76 : decode cX6_clashes 76 = .ok (.iinc 1 1, 3) := by decide +kernel
theorem dX6_clashes_79 : decode cX6_clashes 79 = .ok (.iinc 2 1, 3) := by decide +kernel
theorem dX6_clashes_82 : decode cX6_clashes 82 = .ok (.goto (-78), 3) := by decide +kernel
theorem dX6_clashes_85 : decode cX6_clashes 85 = .ok (.iload_n 1, 1) := by decide +kernel
theorem dX6_clashes_86 : decode cX6_clashes 86 = .ok (.ireturn, 1) := by decide +kernel
theorem dX6_told_0 : decode cX6_told 0 = .ok (.iconst 0, 1) := by decide +kernel
theorem dX6_told_1 : decode cX6_told 1 = .ok (.istore_n 2, 1) := by decide +kernel
theorem dX6_told_2 : decode cX6_told 2 = .ok (.iconst 0, 1) := by decide +kernel
theorem dX6_told_3 : decode cX6_told 3 = .ok (.istore_n 3, 1) := by decide +kernel
theorem dX6_told_4 : decode cX6_told 4 = .ok (.iload_n 3, 1) := by decide +kernel
theorem dX6_told_5 : decode cX6_told 5 = .ok (.iconst 2, 1) := by decide +kernel
theorem dX6_told_6 : decode cX6_told 6 = .ok (.if_icmp .ge 40, 3) := by decide +kernel
theorem dX6_told_9 : decode cX6_told 9 = .ok (.iconst 0, 1) := by decide +kernel
theorem dX6_told_10 : decode cX6_told 10 = .ok (.istore 4, 2) := by decide +kernel
theorem dX6_told_12 : decode cX6_told 12 = .ok (.iload 4, 2) := by decide +kernel
theorem dX6_told_14 : decode cX6_told 14 = .ok (.aload_n 0, 1) := by decide +kernel
theorem dX6_told_15 : decode cX6_told 15 = .ok (.invokevirtual 82, 3) := by decide +kernel
theorem dX6_told_18 : decode cX6_told 18 = .ok (.if_icmp .ge 22, 3) := by decide +kernel
theorem dX6_told_21 : decode cX6_told 21 = .ok (.aload_n 0, 1) := by decide +kernel
theorem dX6_told_22 : decode cX6_told 22 = .ok (.iload_n 3, 1) := by decide +kernel
theorem dX6_told_23 : decode cX6_told 23 = .ok (.iload 4, 2) := by decide +kernel
theorem dX6_told_25 : decode cX6_told 25 = .ok (.invokevirtual 74, 3) := by decide +kernel
theorem dX6_told_28 : decode cX6_told 28 = .ok (.ifCond .eq 6, 3) := by decide +kernel
theorem dX6_told_31 : decode cX6_told 31 = .ok (.iinc 2 1, 3) := by decide +kernel
theorem dX6_told_34 : decode cX6_told 34 = .ok (.iinc 4 1, 3) := by decide +kernel
theorem dX6_told_37 : decode cX6_told 37 = .ok (.goto (-25), 3) := by decide +kernel
theorem dX6_told_40 : decode cX6_told 40 = .ok (.iinc 3 1, 3) := by decide +kernel
theorem dX6_told_43 : decode cX6_told 43 = .ok (.goto (-39), 3) := by decide +kernel
theorem dX6_told_46 : decode cX6_told 46 = .ok (.iload_n 1, 1) := by decide +kernel
theorem dX6_told_47 : decode cX6_told 47 = .ok (.ifCond .ne 10, 3) := by decide +kernel
theorem dX6_told_50 : decode cX6_told 50 = .ok (.aload_n 0, 1) := by decide +kernel
theorem dX6_told_51 : decode cX6_told 51 = .ok (.getfield 7, 3) := by decide +kernel
theorem dX6_told_54 : decode cX6_told 54 = .ok (.goto 80, 3) := by decide +kernel
theorem dX6_told_57 : decode cX6_told 57 = .ok (.iload_n 1, 1) := by decide +kernel
theorem dX6_told_58 : decode cX6_told 58 = .ok (.iconst 1, 1) := by decide +kernel
theorem dX6_told_59 : decode cX6_told 59 = .ok (.if_icmp .ne 10, 3) := by decide +kernel
theorem dX6_told_62 : decode cX6_told 62 = .ok (.aload_n 0, 1) := by decide +kernel
theorem dX6_told_63 : decode cX6_told 63 = .ok (.getfield 13, 3) := by decide +kernel
theorem dX6_told_66 : decode cX6_told 66 = .ok (.goto 68, 3) := by decide +kernel
theorem dX6_told_69 : decode cX6_told 69 = .ok (.iload_n 1, 1) := by decide +kernel
theorem dX6_told_70 : decode cX6_told 70 = .ok (.iconst 2, 1) := by decide +kernel
theorem dX6_told_71 : decode cX6_told 71 = .ok (.if_icmp .ne 10, 3) := by decide +kernel
theorem dX6_told_74 : decode cX6_told 74 = .ok (.aload_n 0, 1) := by decide +kernel
theorem dX6_told_75 : decode cX6_told 75 = .ok (.getfield 28, 3) := by decide +kernel
theorem dX6_told_78 : decode cX6_told 78 = .ok (.goto 56, 3) := by decide +kernel
theorem dX6_told_81 : decode cX6_told 81 = .ok (.iload_n 1, 1) := by decide +kernel
theorem dX6_told_82 : decode cX6_told 82 = .ok (.iconst 3, 1) := by decide +kernel
theorem dX6_told_83 : decode cX6_told 83 = .ok (.if_icmp .ne 10, 3) := by decide +kernel
theorem dX6_told_86 : decode cX6_told 86 = .ok (.aload_n 0, 1) := by decide +kernel
theorem dX6_told_87 : decode cX6_told 87 = .ok (.invokevirtual 136, 3) := by decide +kernel
theorem dX6_told_90 : decode cX6_told 90 = .ok (.goto 44, 3) := by decide +kernel
theorem dX6_told_93 : decode cX6_told 93 = .ok (.iload_n 1, 1) := by decide +kernel
theorem dX6_told_94 : decode cX6_told 94 = .ok (.iconst 4, 1) := by decide +kernel
theorem dX6_told_95 : decode cX6_told 95 = .ok (.if_icmp .ne 13, 3) := by decide +kernel
theorem dX6_told_98 : decode cX6_told 98 = .ok (.aload_n 0, 1) := by decide +kernel
theorem dX6_told_99 : decode cX6_told 99 = .ok (.getfield 37, 3) := by decide +kernel
theorem dX6_told_102 : decode cX6_told 102 = .ok (.invokevirtual 78, 3) := by decide +kernel
theorem dX6_told_105 : decode cX6_told 105 = .ok (.goto 29, 3) := by decide +kernel
theorem dX6_told_108 : decode cX6_told 108 = .ok (.iload_n 1, 1) := by decide +kernel
theorem dX6_told_109 : decode cX6_told 109 = .ok (.iconst 5, 1) := by decide +kernel
theorem dX6_told_110 : decode cX6_told 110 = .ok (.if_icmp .ne 10, 3) := by decide +kernel
theorem dX6_told_113 : decode cX6_told 113 = .ok (.aload_n 0, 1) := by decide +kernel
theorem dX6_told_114 : decode cX6_told 114 = .ok (.getfield 53, 3) := by decide +kernel
theorem dX6_told_117 : decode cX6_told 117 = .ok (.goto 17, 3) := by decide +kernel
theorem dX6_told_120 : decode cX6_told 120 = .ok (.iload_n 1, 1) := by decide +kernel
theorem dX6_told_121 : decode cX6_told 121 = .ok (.bipush 6, 2) := by decide +kernel
theorem dX6_told_123 : decode cX6_told 123 = .ok (.if_icmp .ne 10, 3) := by decide +kernel
theorem dX6_told_126 : decode cX6_told 126 = .ok (.aload_n 0, 1) := by decide +kernel
theorem dX6_told_127 : decode cX6_told 127 = .ok (.getfield 56, 3) := by decide +kernel
theorem dX6_told_130 : decode cX6_told 130 = .ok (.goto 4, 3) := by decide +kernel
theorem dX6_told_133 : decode cX6_told 133 = .ok (.iload_n 2, 1) := by decide +kernel
theorem dX6_told_134 : decode cX6_told 134 = .ok (.ireturn, 1) := by decide +kernel
theorem dX6_checksum_0 : decode cX6_checksum 0 = .ok (.lconst 0, 1) := by decide +kernel
theorem dX6_checksum_1 : decode cX6_checksum 1 = .ok (.lstore_n 1, 1) := by decide +kernel
theorem dX6_checksum_2 : decode cX6_checksum 2 = .ok (.iconst 0, 1) := by decide +kernel
theorem dX6_checksum_3 : decode cX6_checksum 3 = .ok (.istore_n 3, 1) := by decide +kernel
theorem dX6_checksum_4 : decode cX6_checksum 4 = .ok (.iload_n 3, 1) := by decide +kernel
theorem dX6_checksum_5 : decode cX6_checksum 5 = .ok (.bipush 8, 2) := by decide +kernel
theorem dX6_checksum_7 : decode cX6_checksum 7 = .ok (.if_icmp .ge 22, 3) := by decide +kernel
theorem dX6_checksum_10 : decode cX6_checksum 10 = .ok (.ldc2_w 139, 3) := by decide +kernel
theorem dX6_checksum_13 : decode cX6_checksum 13 = .ok (.lload_n 1, 1) := by decide +kernel
theorem dX6_checksum_14 : decode cX6_checksum 14 = .ok (.lmul, 1) := by decide +kernel
theorem dX6_checksum_15 : decode cX6_checksum 15 = .ok (.aload_n 0, 1) := by decide +kernel
theorem dX6_checksum_16 : decode cX6_checksum 16 = .ok (.iload_n 3, 1) := by decide +kernel
theorem dX6_checksum_17 : decode cX6_checksum 17 = .ok (.invokevirtual 141, 3) := by decide +kernel
theorem dX6_checksum_20 : decode cX6_checksum 20 = .ok (.i2l, 1) := by decide +kernel
theorem dX6_checksum_21 : decode cX6_checksum 21 = .ok (.ladd, 1) := by decide +kernel
theorem dX6_checksum_22 : decode cX6_checksum 22 = .ok (.lstore_n 1, 1) := by decide +kernel
theorem dX6_checksum_23 : decode cX6_checksum 23 = .ok (.iinc 3 1, 3) := by decide +kernel
theorem dX6_checksum_26 : decode cX6_checksum 26 = .ok (.goto (-22), 3) := by decide +kernel
theorem dX6_checksum_29 : decode cX6_checksum 29 = .ok (.iconst 0, 1) := by decide +kernel
theorem dX6_checksum_30 : decode cX6_checksum 30 = .ok (.istore_n 3, 1) := by decide +kernel
theorem dX6_checksum_31 : decode cX6_checksum 31 = .ok (.iload_n 3, 1) := by decide +kernel
theorem dX6_checksum_32 : decode cX6_checksum 32 = .ok (.iconst 2, 1) := by decide +kernel
theorem dX6_checksum_33 : decode cX6_checksum 33 = .ok (.if_icmp .ge 55, 3) := by decide +kernel
theorem dX6_checksum_36 : decode cX6_checksum 36 = .ok (.iconst 0, 1) := by decide +kernel
theorem dX6_checksum_37 : decode cX6_checksum 37 = .ok (.istore 4, 2) := by decide +kernel
theorem dX6_checksum_39 : decode cX6_checksum 39 = .ok (.iload 4, 2) := by decide +kernel
theorem dX6_checksum_41 : decode cX6_checksum 41 = .ok (.aload_n 0, 1) := by decide +kernel
theorem dX6_checksum_42 : decode cX6_checksum 42 = .ok (.invokevirtual 82, 3) := by decide +kernel
theorem dX6_checksum_45 : decode cX6_checksum 45 = .ok (.if_icmp .ge 37, 3) := by decide +kernel
theorem dX6_checksum_48 : decode cX6_checksum 48 = .ok (.ldc2_w 139, 3) := by decide +kernel
theorem dX6_checksum_51 : decode cX6_checksum 51 = .ok (.ldc2_w 139, 3) := by decide +kernel
theorem dX6_checksum_54 : decode cX6_checksum 54 = .ok (.lload_n 1, 1) := by decide +kernel
theorem dX6_checksum_55 : decode cX6_checksum 55 = .ok (.lmul, 1) := by decide +kernel
theorem dX6_checksum_56 : decode cX6_checksum 56 = .ok (.aload_n 0, 1) := by decide +kernel
theorem dX6_checksum_57 : decode cX6_checksum 57 = .ok (.iload_n 3, 1) := by decide +kernel
theorem dX6_checksum_58 : decode cX6_checksum 58 = .ok (.iload 4, 2) := by decide +kernel
theorem dX6_checksum_60 : decode cX6_checksum 60 = .ok (.invokevirtual 144, 3) := by decide +kernel
theorem dX6_checksum_63 : decode cX6_checksum 63 = .ok (.i2l, 1) := by decide +kernel
theorem dX6_checksum_64 : decode cX6_checksum 64 = .ok (.ladd, 1) := by decide +kernel
theorem dX6_checksum_65 : decode cX6_checksum 65 = .ok (.lmul, 1) := by decide +kernel
theorem dX6_checksum_66 : decode cX6_checksum 66 = .ok (.aload_n 0, 1) := by decide +kernel
theorem dX6_checksum_67 : decode cX6_checksum 67 = .ok (.iload_n 3, 1) := by decide +kernel
theorem dX6_checksum_68 : decode cX6_checksum 68 = .ok (.iload 4, 2) := by decide +kernel
theorem dX6_checksum_70 : decode cX6_checksum 70 = .ok (.invokevirtual 71, 3) := by decide +kernel
theorem dX6_checksum_73 : decode cX6_checksum 73 = .ok (.i2l, 1) := by decide +kernel
theorem dX6_checksum_74 : decode cX6_checksum 74 = .ok (.ladd, 1) := by decide +kernel
theorem dX6_checksum_75 : decode cX6_checksum 75 = .ok (.lstore_n 1, 1) := by decide +kernel
theorem dX6_checksum_76 : decode cX6_checksum 76 = .ok (.iinc 4 1, 3) := by decide +kernel
theorem dX6_checksum_79 : decode cX6_checksum 79 = .ok (.goto (-40), 3) := by decide +kernel
theorem dX6_checksum_82 : decode cX6_checksum 82 = .ok (.iinc 3 1, 3) := by decide +kernel
theorem dX6_checksum_85 : decode cX6_checksum 85 = .ok (.goto (-54), 3) := by decide +kernel
theorem dX6_checksum_88 : decode cX6_checksum 88 = .ok (.iconst 0, 1) := by decide +kernel
theorem dX6_checksum_89 : decode cX6_checksum 89 = .ok (.istore_n 3, 1) := by decide +kernel
theorem dX6_checksum_90 : decode cX6_checksum 90 = .ok (.iload_n 3, 1) := by decide +kernel
theorem dX6_checksum_91 : decode cX6_checksum 91 = .ok (.aload_n 0, 1) := by decide +kernel
theorem dX6_checksum_92 : decode cX6_checksum 92 = .ok (.getfield 37, 3) := by decide +kernel
theorem dX6_checksum_95 : decode cX6_checksum 95 = .ok (.invokevirtual 78, 3) := by decide +kernel
theorem dX6_checksum_98 : decode cX6_checksum 98 = .ok (.if_icmp .ge 29, 3) := by decide +kernel
theorem dX6_checksum_101 : decode cX6_checksum 101 = .ok (.ldc2_w 139, 3) := by decide +kernel
theorem dX6_checksum_104 : decode cX6_checksum 104 = .ok (.lload_n 1, 1) := by decide +kernel
theorem dX6_checksum_105 : decode cX6_checksum 105 = .ok (.lmul, 1) := by decide +kernel
theorem dX6_checksum_106 : decode cX6_checksum 106 = .ok (.aload_n 0, 1) := by decide +kernel
theorem dX6_checksum_107 : decode cX6_checksum 107 = .ok (.getfield 37, 3) := by decide +kernel
theorem dX6_checksum_110 : decode cX6_checksum 110 = .ok (.iload_n 3, 1) := by decide +kernel
theorem dX6_checksum_111 : decode cX6_checksum 111 = .ok (.invokevirtual 59, 3) := by decide +kernel
theorem dX6_checksum_114 : decode cX6_checksum 114 = .ok (.i2l, 1) := by decide +kernel
theorem dX6_checksum_115 : decode cX6_checksum 115 = .ok (.ladd, 1) := by decide +kernel
theorem dX6_checksum_116 : decode cX6_checksum 116 = .ok (.ldc2_w 147, 3) := by decide +kernel
theorem dX6_checksum_119 : decode cX6_checksum 119 = .ok (.lsub, 1) := by decide +kernel
theorem dX6_checksum_120 : decode cX6_checksum 120 = .ok (.lstore_n 1, 1) := by decide +kernel
theorem dX6_checksum_121 : decode cX6_checksum 121 = .ok (.iinc 3 1, 3) := by decide +kernel
theorem dX6_checksum_124 : decode cX6_checksum 124 = .ok (.goto (-34), 3) := by decide +kernel
theorem dX6_checksum_127 : decode cX6_checksum 127 = .ok (.ldc2_w 139, 3) := by decide +kernel
theorem dX6_checksum_130 : decode cX6_checksum 130 = .ok (.lload_n 1, 1) := by decide +kernel
theorem dX6_checksum_131 : decode cX6_checksum 131 = .ok (.lmul, 1) := by decide +kernel
theorem dX6_checksum_132 : decode cX6_checksum 132 = .ok (.aload_n 0, 1) := by decide +kernel
theorem dX6_checksum_133 : decode cX6_checksum 133 = .ok (.invokevirtual 149, 3) := by decide +kernel
theorem dX6_checksum_136 : decode cX6_checksum 136 = .ok (.i2l, 1) := by decide +kernel
theorem dX6_checksum_137 : decode cX6_checksum 137 = .ok (.ladd, 1) := by decide +kernel
theorem dX6_checksum_138 : decode cX6_checksum 138 = .ok (.lstore_n 1, 1) := by decide +kernel
theorem dX6_checksum_139 : decode cX6_checksum 139 = .ok (.ldc2_w 139, 3) := by decide +kernel
theorem dX6_checksum_142 : decode cX6_checksum 142 = .ok (.lload_n 1, 1) := by decide +kernel
theorem dX6_checksum_143 : decode cX6_checksum 143 = .ok (.lmul, 1) := by decide +kernel
theorem dX6_checksum_144 : decode cX6_checksum 144 = .ok (.aload_n 0, 1) := by decide +kernel
theorem dX6_checksum_145 : decode cX6_checksum 145 = .ok (.getfield 37, 3) := by decide +kernel
theorem dX6_checksum_148 : decode cX6_checksum 148 = .ok (.invokevirtual 78, 3) := by decide +kernel
theorem dX6_checksum_151 : decode cX6_checksum 151 = .ok (.ifCond .ne 7, 3) := by decide +kernel
theorem dX6_checksum_154 : decode cX6_checksum 154 = .ok (.iconst 0, 1) := by decide +kernel
theorem dX6_checksum_155 : decode cX6_checksum 155 = .ok (.goto 7, 3) := by decide +kernel
theorem dX6_checksum_158 : decode cX6_checksum 158 = .ok (.aload_n 0, 1) := by decide +kernel
theorem dX6_checksum_159 : decode cX6_checksum 159 = .ok (.invokevirtual 152, 3) := by decide +kernel
theorem dX6_checksum_162 : decode cX6_checksum 162 = .ok (.i2l, 1) := by decide +kernel
theorem dX6_checksum_163 : decode cX6_checksum 163 = .ok (.ladd, 1) := by decide +kernel
theorem dX6_checksum_164 : decode cX6_checksum 164 = .ok (.lstore_n 1, 1) := by decide +kernel
theorem dX6_checksum_165 : decode cX6_checksum 165 = .ok (.ldc2_w 139, 3) := by decide +kernel
theorem dX6_checksum_168 : decode cX6_checksum 168 = .ok (.lload_n 1, 1) := by decide +kernel
theorem dX6_checksum_169 : decode cX6_checksum 169 = .ok (.lmul, 1) := by decide +kernel
theorem dX6_checksum_170 : decode cX6_checksum 170 = .ok (.aload_n 0, 1) := by decide +kernel
theorem dX6_checksum_171 : decode cX6_checksum 171 = .ok (.invokevirtual 155, 3) := by decide +kernel
theorem dX6_checksum_174 : decode cX6_checksum 174 = .ok (.i2l, 1) := by decide +kernel
theorem dX6_checksum_175 : decode cX6_checksum 175 = .ok (.ladd, 1) := by decide +kernel
theorem dX6_checksum_176 : decode cX6_checksum 176 = .ok (.lreturn, 1) := by decide +kernel
theorem dJ5_init_d00df_0 : decode cJ5_init_d00df 0 = .ok (.aload_n 0, 1) := by decide +kernel
theorem dJ5_init_d00df_1 : decode cJ5_init_d00df 1 = .ok (.invokespecial 3, 3) := by decide +kernel
theorem dJ5_init_d00df_4 : decode cJ5_init_d00df 4 = .ok (.getstatic 18, 3) := by decide +kernel
theorem dJ5_init_d00df_7 : decode cJ5_init_d00df 7 = .ok (.ifCond .eq 18, 3) := by decide +kernel
theorem dJ5_init_d00df_10 : decode cJ5_init_d00df 10 = .ok (.aload_n 0, 1) := by decide +kernel
theorem dJ5_init_d00df_11 : decode cJ5_init_d00df 11 = .ok (.iload_n 1, 1) := by decide +kernel
theorem dJ5_init_d00df_12 : decode cJ5_init_d00df 12 = .ok (.newarray .byte, 2) := by decide +kernel
theorem dJ5_init_d00df_14 : decode cJ5_init_d00df 14 = .ok (.putfield 15, 3) := by decide +kernel
theorem dJ5_init_d00df_17 : decode cJ5_init_d00df 17 = .ok (.aload_n 0, 1) := by decide +kernel
theorem dJ5_init_d00df_18 : decode cJ5_init_d00df 18 = .ok (.iconst 0, 1) := by decide +kernel
theorem dJ5_init_d00df_19 : decode cJ5_init_d00df 19 = .ok (.putfield 22, 3) := by decide +kernel
theorem dJ5_init_d00df_22 : decode cJ5_init_d00df 22 = .ok (.goto 16, 3) := by decide +kernel
theorem dJ5_init_d00df_25 : decode cJ5_init_d00df 25 = .ok (.aload_n 0, 1) := by decide +kernel
theorem dJ5_init_d00df_26 : decode cJ5_init_d00df 26 = .ok (.iload_n 1, 1) := by decide +kernel
theorem dJ5_init_d00df_27 : decode cJ5_init_d00df 27 = .ok (.invokestatic 26, 3) := by decide +kernel
theorem dJ5_init_d00df_30 : decode cJ5_init_d00df 30 = .ok (.putfield 15, 3) := by decide +kernel
theorem dJ5_init_d00df_33 : decode cJ5_init_d00df 33 = .ok (.aload_n 0, 1) := by decide +kernel
theorem dJ5_init_d00df_34 : decode cJ5_init_d00df 34 = .ok (.iconst 1, 1) := by decide +kernel
theorem dJ5_init_d00df_35 : decode cJ5_init_d00df 35 = .ok (.putfield 22, 3) := by decide +kernel
theorem dJ5_init_d00df_38 : decode cJ5_init_d00df 38 = .ok (.return_, 1) := by decide +kernel
theorem dJ5_length_8abf5_0 : decode cJ5_length_8abf5 0 = .ok (.aload_n 0, 1) := by decide +kernel
theorem dJ5_length_8abf5_1 : decode cJ5_length_8abf5 1 = .ok (.getfield 79, 3) := by decide +kernel
theorem dJ5_length_8abf5_4 : decode cJ5_length_8abf5 4 = .ok (.ireturn, 1) := by decide +kernel
theorem dJ5_ensureCapacityInternal_d00df_0 : decode cJ5_ensureCapacityInternal_d00df 0 = .ok (.aload_n 0, 1) := by decide +kernel
theorem dJ5_ensureCapacityInternal_d00df_1 : decode cJ5_ensureCapacityInternal_d00df 1 = .ok (.getfield 15, 3) := by decide +kernel
theorem dJ5_ensureCapacityInternal_d00df_4 : decode cJ5_ensureCapacityInternal_d00df 4 = .ok (.arraylength, 1) := by decide +kernel
theorem dJ5_ensureCapacityInternal_d00df_5 : decode cJ5_ensureCapacityInternal_d00df 5 = .ok (.aload_n 0, 1) := by decide +kernel
theorem dJ5_ensureCapacityInternal_d00df_6 : decode cJ5_ensureCapacityInternal_d00df 6 = .ok (.getfield 22, 3) := by decide +kernel
theorem dJ5_ensureCapacityInternal_d00df_9 : decode cJ5_ensureCapacityInternal_d00df 9 = .ok (.ishr, 1) := by decide +kernel
theorem dJ5_ensureCapacityInternal_d00df_10 : decode cJ5_ensureCapacityInternal_d00df 10 = .ok (.istore_n 2, 1) := by decide +kernel
theorem dJ5_ensureCapacityInternal_d00df_11 : decode cJ5_ensureCapacityInternal_d00df 11 = .ok (.iload_n 1, 1) := by decide +kernel
theorem dJ5_ensureCapacityInternal_d00df_12 : decode cJ5_ensureCapacityInternal_d00df 12 = .ok (.iload_n 2, 1) := by decide +kernel
theorem dJ5_ensureCapacityInternal_d00df_13 : decode cJ5_ensureCapacityInternal_d00df 13 = .ok (.isub, 1) := by decide +kernel
theorem dJ5_ensureCapacityInternal_d00df_14 : decode cJ5_ensureCapacityInternal_d00df 14 = .ok (.ifCond .le 24, 3) := by decide +kernel
theorem dJ5_ensureCapacityInternal_d00df_17 : decode cJ5_ensureCapacityInternal_d00df 17 = .ok (.aload_n 0, 1) := by decide +kernel
theorem dJ5_ensureCapacityInternal_d00df_18 : decode cJ5_ensureCapacityInternal_d00df 18 = .ok (.aload_n 0, 1) := by decide +kernel
theorem dJ5_ensureCapacityInternal_d00df_19 : decode cJ5_ensureCapacityInternal_d00df 19 = .ok (.getfield 15, 3) := by decide +kernel
theorem dJ5_ensureCapacityInternal_d00df_22 : decode cJ5_ensureCapacityInternal_d00df 22 = .ok (.aload_n 0, 1) := by decide +kernel
theorem dJ5_ensureCapacityInternal_d00df_23 : decode cJ5_ensureCapacityInternal_d00df 23 = .ok (.iload_n 1, 1) := by decide +kernel
theorem dJ5_ensureCapacityInternal_d00df_24 : decode cJ5_ensureCapacityInternal_d00df 24 = .ok (.invokevirtual 104, 3) := by decide +kernel
theorem dJ5_ensureCapacityInternal_d00df_27 : decode cJ5_ensureCapacityInternal_d00df 27 = .ok (.aload_n 0, 1) := by decide +kernel
theorem dJ5_ensureCapacityInternal_d00df_28 : decode cJ5_ensureCapacityInternal_d00df 28 = .ok (.getfield 22, 3) := by decide +kernel
theorem dJ5_ensureCapacityInternal_d00df_31 : decode cJ5_ensureCapacityInternal_d00df 31 = .ok (.ishl, 1) := by decide +kernel
theorem dJ5_ensureCapacityInternal_d00df_32 : decode cJ5_ensureCapacityInternal_d00df 32 = .ok (.invokestatic 108, 3) := by decide +kernel
theorem dJ5_ensureCapacityInternal_d00df_35 : decode cJ5_ensureCapacityInternal_d00df 35 = .ok (.putfield 15, 3) := by decide +kernel
theorem dJ5_ensureCapacityInternal_d00df_38 : decode cJ5_ensureCapacityInternal_d00df 38 = .ok (.return_, 1) := by decide +kernel
theorem dJ5_newCapacity_0f7a4_0 : decode cJ5_newCapacity_0f7a4 0 = .ok (.aload_n 0, 1) := by decide +kernel
theorem dJ5_newCapacity_0f7a4_1 : decode cJ5_newCapacity_0f7a4 1 = .ok (.getfield 15, 3) := by decide +kernel
theorem dJ5_newCapacity_0f7a4_4 : decode cJ5_newCapacity_0f7a4 4 = .ok (.arraylength, 1) := by decide +kernel
theorem dJ5_newCapacity_0f7a4_5 : decode cJ5_newCapacity_0f7a4 5 = .ok (.istore_n 2, 1) := by decide +kernel
theorem dJ5_newCapacity_0f7a4_6 : decode cJ5_newCapacity_0f7a4 6 = .ok (.iload_n 1, 1) := by decide +kernel
theorem dJ5_newCapacity_0f7a4_7 : decode cJ5_newCapacity_0f7a4 7 = .ok (.aload_n 0, 1) := by decide +kernel
theorem dJ5_newCapacity_0f7a4_8 : decode cJ5_newCapacity_0f7a4 8 = .ok (.getfield 22, 3) := by decide +kernel
theorem dJ5_newCapacity_0f7a4_11 : decode cJ5_newCapacity_0f7a4 11 = .ok (.ishl, 1) := by decide +kernel
theorem dJ5_newCapacity_0f7a4_12 : decode cJ5_newCapacity_0f7a4 12 = .ok (.istore_n 3, 1) := by decide +kernel
theorem dJ5_newCapacity_0f7a4_13 : decode cJ5_newCapacity_0f7a4 13 = .ok (.iload_n 3, 1) := by decide +kernel
theorem dJ5_newCapacity_0f7a4_14 : decode cJ5_newCapacity_0f7a4 14 = .ok (.iload_n 2, 1) := by decide +kernel
theorem dJ5_newCapacity_0f7a4_15 : decode cJ5_newCapacity_0f7a4 15 = .ok (.isub, 1) := by decide +kernel
theorem dJ5_newCapacity_0f7a4_16 : decode cJ5_newCapacity_0f7a4 16 = .ok (.istore 4, 2) := by decide +kernel
theorem dJ5_newCapacity_0f7a4_18 : decode cJ5_newCapacity_0f7a4 18 = .ok (.iload_n 2, 1) := by decide +kernel
theorem dJ5_newCapacity_0f7a4_19 : decode cJ5_newCapacity_0f7a4 19 = .ok (.iload 4, 2) := by decide +kernel
theorem dJ5_newCapacity_0f7a4_21 : decode cJ5_newCapacity_0f7a4 21 = .ok (.iload_n 2, 1) := by decide +kernel
theorem dJ5_newCapacity_0f7a4_22 : decode cJ5_newCapacity_0f7a4 22 = .ok (.iconst 2, 1) := by decide +kernel
theorem dJ5_newCapacity_0f7a4_23 : decode cJ5_newCapacity_0f7a4 23 = .ok (.aload_n 0, 1) := by decide +kernel
theorem dJ5_newCapacity_0f7a4_24 : decode cJ5_newCapacity_0f7a4 24 = .ok (.getfield 22, 3) := by decide +kernel
theorem dJ5_newCapacity_0f7a4_27 : decode cJ5_newCapacity_0f7a4 27 = .ok (.ishl, 1) := by decide +kernel
theorem dJ5_newCapacity_0f7a4_28 : decode cJ5_newCapacity_0f7a4 28 = .ok (.iadd, 1) := by decide +kernel
theorem dJ5_newCapacity_0f7a4_29 : decode cJ5_newCapacity_0f7a4 29 = .ok (.invokestatic 114, 3) := by decide +kernel
theorem dJ5_newCapacity_0f7a4_32 : decode cJ5_newCapacity_0f7a4 32 = .ok (.istore 5, 2) := by decide +kernel
theorem dJ5_newCapacity_0f7a4_34 : decode cJ5_newCapacity_0f7a4 34 = .ok (.iload 5, 2) := by decide +kernel
theorem dJ5_newCapacity_0f7a4_36 : decode cJ5_newCapacity_0f7a4 36 = .ok (.ldc 39, 2) := by decide +kernel
theorem dJ5_newCapacity_0f7a4_38 : decode cJ5_newCapacity_0f7a4 38 = .ok (.if_icmp .ne 13, 3) := by decide +kernel
theorem dJ5_newCapacity_0f7a4_41 : decode cJ5_newCapacity_0f7a4 41 = .ok (.new 120, 3) := by decide +kernel
theorem dJ5_newCapacity_0f7a4_44 : decode cJ5_newCapacity_0f7a4 44 = .ok (.dup, 1) := by decide +kernel
theorem dJ5_newCapacity_0f7a4_45 : decode cJ5_newCapacity_0f7a4 45 = .ok (.ldc 122, 2) := by decide +kernel
theorem dJ5_newCapacity_0f7a4_47 : decode cJ5_newCapacity_0f7a4 47 = .ok (.invokespecial 124, 3) := by decide +kernel
theorem dJ5_newCapacity_0f7a4_50 : decode cJ5_newCapacity_0f7a4 50 = .ok (.athrow, 1) := by decide +kernel
theorem dJ5_newCapacity_0f7a4_51 : decode cJ5_newCapacity_0f7a4 51 = .ok (.iload 5, 2) := by decide +kernel
theorem dJ5_newCapacity_0f7a4_53 : decode cJ5_newCapacity_0f7a4 53 = .ok (.aload_n 0, 1) := by decide +kernel
theorem dJ5_newCapacity_0f7a4_54 : decode cJ5_newCapacity_0f7a4 54 = .ok (.getfield 22, 3) := by decide +kernel
theorem dJ5_newCapacity_0f7a4_57 : decode cJ5_newCapacity_0f7a4 57 = .ok (.ishr, 1) := by decide +kernel
theorem dJ5_newCapacity_0f7a4_58 : decode cJ5_newCapacity_0f7a4 58 = .ok (.ireturn, 1) := by decide +kernel
theorem dJ5_inflate_da8c8_0 : decode cJ5_inflate_da8c8 0 = .ok (.aload_n 0, 1) := by decide +kernel
theorem dJ5_inflate_da8c8_1 : decode cJ5_inflate_da8c8 1 = .ok (.invokevirtual 83, 3) := by decide +kernel
theorem dJ5_inflate_da8c8_4 : decode cJ5_inflate_da8c8 4 = .ok (.ifCond .ne 4, 3) := by decide +kernel
theorem dJ5_inflate_da8c8_7 : decode cJ5_inflate_da8c8 7 = .ok (.return_, 1) := by decide +kernel
theorem dJ5_inflate_da8c8_8 : decode cJ5_inflate_da8c8 8 = .ok (.aload_n 0, 1) := by decide +kernel
theorem dJ5_inflate_da8c8_9 : decode cJ5_inflate_da8c8 9 = .ok (.getfield 15, 3) := by decide +kernel
theorem dJ5_inflate_da8c8_12 : decode cJ5_inflate_da8c8 12 = .ok (.arraylength, 1) := by decide +kernel
theorem dJ5_inflate_da8c8_13 : decode cJ5_inflate_da8c8 13 = .ok (.invokestatic 26, 3) := by decide +kernel
theorem dJ5_inflate_da8c8_16 : decode cJ5_inflate_da8c8 16 = .ok (.astore_n 1, 1) := by decide +kernel
theorem dJ5_inflate_da8c8_17 : decode cJ5_inflate_da8c8 17 = .ok (.aload_n 0, 1) := by decide +kernel
theorem dJ5_inflate_da8c8_18 : decode cJ5_inflate_da8c8 18 = .ok (.getfield 15, 3) := by decide +kernel
theorem dJ5_inflate_da8c8_21 : decode cJ5_inflate_da8c8 21 = .ok (.iconst 0, 1) := by decide +kernel
theorem dJ5_inflate_da8c8_22 : decode cJ5_inflate_da8c8 22 = .ok (.aload_n 1, 1) := by decide +kernel
theorem dJ5_inflate_da8c8_23 : decode cJ5_inflate_da8c8 23 = .ok (.iconst 0, 1) := by decide +kernel
theorem dJ5_inflate_da8c8_24 : decode cJ5_inflate_da8c8 24 = .ok (.aload_n 0, 1) := by decide +kernel
theorem dJ5_inflate_da8c8_25 : decode cJ5_inflate_da8c8 25 = .ok (.getfield 79, 3) := by decide +kernel
theorem dJ5_inflate_da8c8_28 : decode cJ5_inflate_da8c8 28 = .ok (.invokestatic 125, 3) := by decide +kernel
theorem dJ5_inflate_da8c8_31 : decode cJ5_inflate_da8c8 31 = .ok (.aload_n 0, 1) := by decide +kernel
theorem dJ5_inflate_da8c8_32 : decode cJ5_inflate_da8c8 32 = .ok (.aload_n 1, 1) := by decide +kernel
theorem dJ5_inflate_da8c8_33 : decode cJ5_inflate_da8c8 33 = .ok (.putfield 15, 3) := by decide +kernel
theorem dJ5_inflate_da8c8_36 : decode cJ5_inflate_da8c8 36 = .ok (.aload_n 0, 1) := by decide +kernel
theorem dJ5_inflate_da8c8_37 : decode cJ5_inflate_da8c8 37 = .ok (.iconst 1, 1) := by decide +kernel
theorem dJ5_inflate_da8c8_38 : decode cJ5_inflate_da8c8 38 = .ok (.putfield 22, 3) := by decide +kernel
theorem dJ5_inflate_da8c8_41 : decode cJ5_inflate_da8c8 41 = .ok (.return_, 1) := by decide +kernel
theorem dJ5_append_cf1ce_0 : decode cJ5_append_cf1ce 0 = .ok (.aload_n 1, 1) := by decide +kernel
theorem dJ5_append_cf1ce_1 : decode cJ5_append_cf1ce 1 = .ok (.ifnonnull 8, 3) := by decide +kernel
theorem dJ5_append_cf1ce_4 : decode cJ5_append_cf1ce 4 = .ok (.aload_n 0, 1) := by decide +kernel
theorem dJ5_append_cf1ce_5 : decode cJ5_append_cf1ce 5 = .ok (.invokevirtual 204, 3) := by decide +kernel
theorem dJ5_append_cf1ce_8 : decode cJ5_append_cf1ce 8 = .ok (.areturn, 1) := by decide +kernel
theorem dJ5_append_cf1ce_9 : decode cJ5_append_cf1ce 9 = .ok (.aload_n 1, 1) := by decide +kernel
theorem dJ5_append_cf1ce_10 : decode cJ5_append_cf1ce 10 = .ok (.invokevirtual 32, 3) := by decide +kernel
theorem dJ5_append_cf1ce_13 : decode cJ5_append_cf1ce 13 = .ok (.istore_n 2, 1) := by decide +kernel
theorem dJ5_append_cf1ce_14 : decode cJ5_append_cf1ce 14 = .ok (.aload_n 0, 1) := by decide +kernel
theorem dJ5_append_cf1ce_15 : decode cJ5_append_cf1ce 15 = .ok (.aload_n 0, 1) := by decide +kernel
theorem dJ5_append_cf1ce_16 : decode cJ5_append_cf1ce 16 = .ok (.getfield 79, 3) := by decide +kernel
theorem dJ5_append_cf1ce_19 : decode cJ5_append_cf1ce 19 = .ok (.iload_n 2, 1) := by decide +kernel
theorem dJ5_append_cf1ce_20 : decode cJ5_append_cf1ce 20 = .ok (.iadd, 1) := by decide +kernel
theorem dJ5_append_cf1ce_21 : decode cJ5_append_cf1ce 21 = .ok (.invokevirtual 100, 3) := by decide +kernel
theorem dJ5_append_cf1ce_24 : decode cJ5_append_cf1ce 24 = .ok (.aload_n 0, 1) := by decide +kernel
theorem dJ5_append_cf1ce_25 : decode cJ5_append_cf1ce 25 = .ok (.aload_n 0, 1) := by decide +kernel
theorem dJ5_append_cf1ce_26 : decode cJ5_append_cf1ce 26 = .ok (.getfield 79, 3) := by decide +kernel
theorem dJ5_append_cf1ce_29 : decode cJ5_append_cf1ce 29 = .ok (.aload_n 1, 1) := by decide +kernel
theorem dJ5_append_cf1ce_30 : decode cJ5_append_cf1ce 30 = .ok (.invokevirtual 208, 3) := by decide +kernel
theorem dJ5_append_cf1ce_33 : decode cJ5_append_cf1ce 33 = .ok (.aload_n 0, 1) := by decide +kernel
theorem dJ5_append_cf1ce_34 : decode cJ5_append_cf1ce 34 = .ok (.dup, 1) := by decide +kernel
theorem dJ5_append_cf1ce_35 : decode cJ5_append_cf1ce 35 = .ok (.getfield 79, 3) := by decide +kernel
theorem dJ5_append_cf1ce_38 : decode cJ5_append_cf1ce 38 = .ok (.iload_n 2, 1) := by decide +kernel
theorem dJ5_append_cf1ce_39 : decode cJ5_append_cf1ce 39 = .ok (.iadd, 1) := by decide +kernel
theorem dJ5_append_cf1ce_40 : decode cJ5_append_cf1ce 40 = .ok (.putfield 79, 3) := by decide +kernel
theorem dJ5_append_cf1ce_43 : decode cJ5_append_cf1ce 43 = .ok (.aload_n 0, 1) := by decide +kernel
theorem dJ5_append_cf1ce_44 : decode cJ5_append_cf1ce 44 = .ok (.areturn, 1) := by decide +kernel
theorem dJ5_appendNull_278bc_0 : decode cJ5_appendNull_278bc 0 = .ok (.aload_n 0, 1) := by decide +kernel
theorem dJ5_appendNull_278bc_1 : decode cJ5_appendNull_278bc 1 = .ok (.aload_n 0, 1) := by decide +kernel
theorem dJ5_appendNull_278bc_2 : decode cJ5_appendNull_278bc 2 = .ok (.getfield 79, 3) := by decide +kernel
theorem dJ5_appendNull_278bc_5 : decode cJ5_appendNull_278bc 5 = .ok (.iconst 4, 1) := by decide +kernel
theorem dJ5_appendNull_278bc_6 : decode cJ5_appendNull_278bc 6 = .ok (.iadd, 1) := by decide +kernel
theorem dJ5_appendNull_278bc_7 : decode cJ5_appendNull_278bc 7 = .ok (.invokevirtual 100, 3) := by decide +kernel
theorem dJ5_appendNull_278bc_10 : decode cJ5_appendNull_278bc 10 = .ok (.aload_n 0, 1) := by decide +kernel
theorem dJ5_appendNull_278bc_11 : decode cJ5_appendNull_278bc 11 = .ok (.getfield 79, 3) := by decide +kernel
theorem dJ5_appendNull_278bc_14 : decode cJ5_appendNull_278bc 14 = .ok (.istore_n 1, 1) := by decide +kernel
theorem dJ5_appendNull_278bc_15 : decode cJ5_appendNull_278bc 15 = .ok (.aload_n 0, 1) := by decide +kernel
theorem dJ5_appendNull_278bc_16 : decode cJ5_appendNull_278bc 16 = .ok (.getfield 15, 3) := by decide +kernel
theorem dJ5_appendNull_278bc_19 : decode cJ5_appendNull_278bc 19 = .ok (.astore_n 2, 1) := by decide +kernel
theorem dJ5_appendNull_278bc_20 : decode cJ5_appendNull_278bc 20 = .ok (.aload_n 0, 1) := by decide +kernel
theorem dJ5_appendNull_278bc_21 : decode cJ5_appendNull_278bc 21 = .ok (.invokevirtual 83, 3) := by decide +kernel
theorem dJ5_appendNull_278bc_24 : decode cJ5_appendNull_278bc 24 = .ok (.ifCond .eq 38, 3) := by decide +kernel
theorem dJ5_appendNull_278bc_27 : decode cJ5_appendNull_278bc 27 = .ok (.aload_n 2, 1) := by decide +kernel
theorem dJ5_appendNull_278bc_28 : decode cJ5_appendNull_278bc 28 = .ok (.iload_n 1, 1) := by decide +kernel
theorem dJ5_appendNull_278bc_29 : decode cJ5_appendNull_278bc 29 = .ok (.iinc 1 1, 3) := by decide +kernel
theorem dJ5_appendNull_278bc_32 : decode cJ5_appendNull_278bc 32 = .ok (.bipush 110, 2) := by decide +kernel
theorem dJ5_appendNull_278bc_34 : decode cJ5_appendNull_278bc 34 = .ok (.bastore, 1) := by decide +kernel
theorem dJ5_appendNull_278bc_35 : decode cJ5_appendNull_278bc 35 = .ok (.aload_n 2, 1) := by decide +kernel
theorem dJ5_appendNull_278bc_36 : decode cJ5_appendNull_278bc 36 = .ok (.iload_n 1, 1) := by decide +kernel
theorem dJ5_appendNull_278bc_37 : decode cJ5_appendNull_278bc 37 = .ok (.iinc 1 1, 3) := by decide +kernel
theorem dJ5_appendNull_278bc_40 : decode cJ5_appendNull_278bc 40 = .ok (.bipush 117, 2) := by decide +kernel
theorem dJ5_appendNull_278bc_42 : decode cJ5_appendNull_278bc 42 = .ok (.bastore, 1) := by decide +kernel
theorem dJ5_appendNull_278bc_43 : decode cJ5_appendNull_278bc 43 = .ok (.aload_n 2, 1) := by decide +kernel
theorem dJ5_appendNull_278bc_44 : decode cJ5_appendNull_278bc 44 = .ok (.iload_n 1, 1) := by decide +kernel
theorem dJ5_appendNull_278bc_45 : decode cJ5_appendNull_278bc 45 = .ok (.iinc 1 1, 3) := by decide +kernel
theorem dJ5_appendNull_278bc_48 : decode cJ5_appendNull_278bc 48 = .ok (.bipush 108, 2) := by decide +kernel
theorem dJ5_appendNull_278bc_50 : decode cJ5_appendNull_278bc 50 = .ok (.bastore, 1) := by decide +kernel
theorem dJ5_appendNull_278bc_51 : decode cJ5_appendNull_278bc 51 = .ok (.aload_n 2, 1) := by decide +kernel
theorem dJ5_appendNull_278bc_52 : decode cJ5_appendNull_278bc 52 = .ok (.iload_n 1, 1) := by decide +kernel
theorem dJ5_appendNull_278bc_53 : decode cJ5_appendNull_278bc 53 = .ok (.iinc 1 1, 3) := by decide +kernel
theorem dJ5_appendNull_278bc_56 : decode cJ5_appendNull_278bc 56 = .ok (.bipush 108, 2) := by decide +kernel
theorem dJ5_appendNull_278bc_58 : decode cJ5_appendNull_278bc 58 = .ok (.bastore, 1) := by decide +kernel
theorem dJ5_appendNull_278bc_59 : decode cJ5_appendNull_278bc 59 = .ok (.goto 17, 3) := by decide +kernel
theorem dJ5_appendNull_278bc_62 : decode cJ5_appendNull_278bc 62 = .ok (.aload_n 2, 1) := by decide +kernel
theorem dJ5_appendNull_278bc_63 : decode cJ5_appendNull_278bc 63 = .ok (.iload_n 1, 1) := by decide +kernel
theorem dJ5_appendNull_278bc_64 : decode cJ5_appendNull_278bc 64 = .ok (.bipush 110, 2) := by decide +kernel
theorem dJ5_appendNull_278bc_66 : decode cJ5_appendNull_278bc 66 = .ok (.bipush 117, 2) := by decide +kernel
theorem dJ5_appendNull_278bc_68 : decode cJ5_appendNull_278bc 68 = .ok (.bipush 108, 2) := by decide +kernel
theorem dJ5_appendNull_278bc_70 : decode cJ5_appendNull_278bc 70 = .ok (.bipush 108, 2) := by decide +kernel
theorem dJ5_appendNull_278bc_72 : decode cJ5_appendNull_278bc 72 = .ok (.invokestatic 226, 3) := by decide +kernel
theorem dJ5_appendNull_278bc_75 : decode cJ5_appendNull_278bc 75 = .ok (.istore_n 1, 1) := by decide +kernel
theorem dJ5_appendNull_278bc_76 : decode cJ5_appendNull_278bc 76 = .ok (.aload_n 0, 1) := by decide +kernel
theorem dJ5_appendNull_278bc_77 : decode cJ5_appendNull_278bc 77 = .ok (.iload_n 1, 1) := by decide +kernel
theorem dJ5_appendNull_278bc_78 : decode cJ5_appendNull_278bc 78 = .ok (.putfield 79, 3) := by decide +kernel
theorem dJ5_appendNull_278bc_81 : decode cJ5_appendNull_278bc 81 = .ok (.aload_n 0, 1) := by decide +kernel
theorem dJ5_appendNull_278bc_82 : decode cJ5_appendNull_278bc 82 = .ok (.areturn, 1) := by decide +kernel
theorem dJ5_append_3fe6f_0 : decode cJ5_append_3fe6f 0 = .ok (.aload_n 0, 1) := by decide +kernel
theorem dJ5_append_3fe6f_1 : decode cJ5_append_3fe6f 1 = .ok (.aload_n 0, 1) := by decide +kernel
theorem dJ5_append_3fe6f_2 : decode cJ5_append_3fe6f 2 = .ok (.getfield 79, 3) := by decide +kernel
theorem dJ5_append_3fe6f_5 : decode cJ5_append_3fe6f 5 = .ok (.iconst 1, 1) := by decide +kernel
theorem dJ5_append_3fe6f_6 : decode cJ5_append_3fe6f 6 = .ok (.iadd, 1) := by decide +kernel
theorem dJ5_append_3fe6f_7 : decode cJ5_append_3fe6f 7 = .ok (.invokevirtual 100, 3) := by decide +kernel
theorem dJ5_append_3fe6f_10 : decode cJ5_append_3fe6f 10 = .ok (.aload_n 0, 1) := by decide +kernel
theorem dJ5_append_3fe6f_11 : decode cJ5_append_3fe6f 11 = .ok (.invokevirtual 83, 3) := by decide +kernel
theorem dJ5_append_3fe6f_14 : decode cJ5_append_3fe6f 14 = .ok (.ifCond .eq 31, 3) := by decide +kernel
theorem dJ5_append_3fe6f_17 : decode cJ5_append_3fe6f 17 = .ok (.iload_n 1, 1) := by decide +kernel
theorem dJ5_append_3fe6f_18 : decode cJ5_append_3fe6f 18 = .ok (.invokestatic 191, 3) := by decide +kernel
theorem dJ5_append_3fe6f_21 : decode cJ5_append_3fe6f 21 = .ok (.ifCond .eq 24, 3) := by decide +kernel
theorem dJ5_append_3fe6f_24 : decode cJ5_append_3fe6f 24 = .ok (.aload_n 0, 1) := by decide +kernel
theorem dJ5_append_3fe6f_25 : decode cJ5_append_3fe6f 25 = .ok (.getfield 15, 3) := by decide +kernel
theorem dJ5_append_3fe6f_28 : decode cJ5_append_3fe6f 28 = .ok (.aload_n 0, 1) := by decide +kernel
theorem dJ5_append_3fe6f_29 : decode cJ5_append_3fe6f 29 = .ok (.dup, 1) := by decide +kernel
theorem dJ5_append_3fe6f_30 : decode cJ5_append_3fe6f 30 = .ok (.getfield 79, 3) := by decide +kernel
theorem dJ5_append_3fe6f_33 : decode cJ5_append_3fe6f 33 = .ok (.dup_x1, 1) := by decide +kernel
theorem dJ5_append_3fe6f_34 : decode cJ5_append_3fe6f 34 = .ok (.iconst 1, 1) := by decide +kernel
theorem dJ5_append_3fe6f_35 : decode cJ5_append_3fe6f 35 = .ok (.iadd, 1) := by decide +kernel
theorem dJ5_append_3fe6f_36 : decode cJ5_append_3fe6f 36 = .ok (.putfield 79, 3) := by decide +kernel
theorem dJ5_append_3fe6f_39 : decode cJ5_append_3fe6f 39 = .ok (.iload_n 1, 1) := by decide +kernel
theorem dJ5_append_3fe6f_40 : decode cJ5_append_3fe6f 40 = .ok (.i2b, 1) := by decide +kernel
theorem dJ5_append_3fe6f_41 : decode cJ5_append_3fe6f 41 = .ok (.bastore, 1) := by decide +kernel
theorem dJ5_append_3fe6f_42 : decode cJ5_append_3fe6f 42 = .ok (.goto 33, 3) := by decide +kernel
theorem dJ5_append_3fe6f_45 : decode cJ5_append_3fe6f 45 = .ok (.aload_n 0, 1) := by decide +kernel
theorem dJ5_append_3fe6f_46 : decode cJ5_append_3fe6f 46 = .ok (.invokevirtual 83, 3) := by decide +kernel
theorem dJ5_append_3fe6f_49 : decode cJ5_append_3fe6f 49 = .ok (.ifCond .eq 7, 3) := by decide +kernel
theorem dJ5_append_3fe6f_52 : decode cJ5_append_3fe6f 52 = .ok (.aload_n 0, 1) := by decide +kernel
theorem dJ5_append_3fe6f_53 : decode cJ5_append_3fe6f 53 = .ok (.invokevirtual 195, 3) := by decide +kernel
theorem dJ5_append_3fe6f_56 : decode cJ5_append_3fe6f 56 = .ok (.aload_n 0, 1) := by decide +kernel
theorem dJ5_append_3fe6f_57 : decode cJ5_append_3fe6f 57 = .ok (.getfield 15, 3) := by decide +kernel
theorem dJ5_append_3fe6f_60 : decode cJ5_append_3fe6f 60 = .ok (.aload_n 0, 1) := by decide +kernel
theorem dJ5_append_3fe6f_61 : decode cJ5_append_3fe6f 61 = .ok (.dup, 1) := by decide +kernel
theorem dJ5_append_3fe6f_62 : decode cJ5_append_3fe6f 62 = .ok (.getfield 79, 3) := by decide +kernel
theorem dJ5_append_3fe6f_65 : decode cJ5_append_3fe6f 65 = .ok (.dup_x1, 1) := by decide +kernel
theorem dJ5_append_3fe6f_66 : decode cJ5_append_3fe6f 66 = .ok (.iconst 1, 1) := by decide +kernel
theorem dJ5_append_3fe6f_67 : decode cJ5_append_3fe6f 67 = .ok (.iadd, 1) := by decide +kernel
theorem dJ5_append_3fe6f_68 : decode cJ5_append_3fe6f 68 = .ok (.putfield 79, 3) := by decide +kernel
theorem dJ5_append_3fe6f_71 : decode cJ5_append_3fe6f 71 = .ok (.iload_n 1, 1) := by decide +kernel
theorem dJ5_append_3fe6f_72 : decode cJ5_append_3fe6f 72 = .ok (.invokestatic 197, 3) := by decide +kernel
theorem dJ5_append_3fe6f_75 : decode cJ5_append_3fe6f 75 = .ok (.aload_n 0, 1) := by decide +kernel
theorem dJ5_append_3fe6f_76 : decode cJ5_append_3fe6f 76 = .ok (.areturn, 1) := by decide +kernel
theorem dJ5_append_c97b9_0 : decode cJ5_append_c97b9 0 = .ok (.aload_n 0, 1) := by decide +kernel
theorem dJ5_append_c97b9_1 : decode cJ5_append_c97b9 1 = .ok (.getfield 79, 3) := by decide +kernel
theorem dJ5_append_c97b9_4 : decode cJ5_append_c97b9 4 = .ok (.istore_n 2, 1) := by decide +kernel
theorem dJ5_append_c97b9_5 : decode cJ5_append_c97b9 5 = .ok (.iload_n 2, 1) := by decide +kernel
theorem dJ5_append_c97b9_6 : decode cJ5_append_c97b9 6 = .ok (.iload_n 1, 1) := by decide +kernel
theorem dJ5_append_c97b9_7 : decode cJ5_append_c97b9 7 = .ok (.invokestatic 245, 3) := by decide +kernel
theorem dJ5_append_c97b9_10 : decode cJ5_append_c97b9 10 = .ok (.iadd, 1) := by decide +kernel
theorem dJ5_append_c97b9_11 : decode cJ5_append_c97b9 11 = .ok (.istore_n 3, 1) := by decide +kernel
theorem dJ5_append_c97b9_12 : decode cJ5_append_c97b9 12 = .ok (.aload_n 0, 1) := by decide +kernel
theorem dJ5_append_c97b9_13 : decode cJ5_append_c97b9 13 = .ok (.iload_n 3, 1) := by decide +kernel
theorem dJ5_append_c97b9_14 : decode cJ5_append_c97b9 14 = .ok (.invokevirtual 100, 3) := by decide +kernel
theorem dJ5_append_c97b9_17 : decode cJ5_append_c97b9 17 = .ok (.aload_n 0, 1) := by decide +kernel
theorem dJ5_append_c97b9_18 : decode cJ5_append_c97b9 18 = .ok (.invokevirtual 83, 3) := by decide +kernel
theorem dJ5_append_c97b9_21 : decode cJ5_append_c97b9 21 = .ok (.ifCond .eq 16, 3) := by decide +kernel
theorem dJ5_append_c97b9_24 : decode cJ5_append_c97b9 24 = .ok (.iload_n 1, 1) := by decide +kernel
theorem dJ5_append_c97b9_25 : decode cJ5_append_c97b9 25 = .ok (.iload_n 3, 1) := by decide +kernel
theorem dJ5_append_c97b9_26 : decode cJ5_append_c97b9 26 = .ok (.aload_n 0, 1) := by decide +kernel
theorem dJ5_append_c97b9_27 : decode cJ5_append_c97b9 27 = .ok (.getfield 15, 3) := by decide +kernel
theorem dJ5_append_c97b9_30 : decode cJ5_append_c97b9 30 = .ok (.invokestatic 248, 3) := by decide +kernel
theorem dJ5_append_c97b9_33 : decode cJ5_append_c97b9 33 = .ok (.pop, 1) := by decide +kernel
theorem dJ5_append_c97b9_34 : decode cJ5_append_c97b9 34 = .ok (.goto 14, 3) := by decide +kernel
theorem dJ5_append_c97b9_37 : decode cJ5_append_c97b9 37 = .ok (.iload_n 1, 1) := by decide +kernel
theorem dJ5_append_c97b9_38 : decode cJ5_append_c97b9 38 = .ok (.iload_n 2, 1) := by decide +kernel
theorem dJ5_append_c97b9_39 : decode cJ5_append_c97b9 39 = .ok (.iload_n 3, 1) := by decide +kernel
theorem dJ5_append_c97b9_40 : decode cJ5_append_c97b9 40 = .ok (.aload_n 0, 1) := by decide +kernel
theorem dJ5_append_c97b9_41 : decode cJ5_append_c97b9 41 = .ok (.getfield 15, 3) := by decide +kernel
theorem dJ5_append_c97b9_44 : decode cJ5_append_c97b9 44 = .ok (.invokestatic 251, 3) := by decide +kernel
theorem dJ5_append_c97b9_47 : decode cJ5_append_c97b9 47 = .ok (.pop, 1) := by decide +kernel
theorem dJ5_append_c97b9_48 : decode cJ5_append_c97b9 48 = .ok (.aload_n 0, 1) := by decide +kernel
theorem dJ5_append_c97b9_49 : decode cJ5_append_c97b9 49 = .ok (.iload_n 3, 1) := by decide +kernel
theorem dJ5_append_c97b9_50 : decode cJ5_append_c97b9 50 = .ok (.putfield 79, 3) := by decide +kernel
theorem dJ5_append_c97b9_53 : decode cJ5_append_c97b9 53 = .ok (.aload_n 0, 1) := by decide +kernel
theorem dJ5_append_c97b9_54 : decode cJ5_append_c97b9 54 = .ok (.areturn, 1) := by decide +kernel
theorem dJ5_getValue_6d5f1_0 : decode cJ5_getValue_6d5f1 0 = .ok (.aload_n 0, 1) := by decide +kernel
theorem dJ5_getValue_6d5f1_1 : decode cJ5_getValue_6d5f1 1 = .ok (.getfield 15, 3) := by decide +kernel
theorem dJ5_getValue_6d5f1_4 : decode cJ5_getValue_6d5f1 4 = .ok (.areturn, 1) := by decide +kernel
theorem dJ5_isLatin1_aae02_0 : decode cJ5_isLatin1_aae02 0 = .ok (.getstatic 18, 3) := by decide +kernel
theorem dJ5_isLatin1_aae02_3 : decode cJ5_isLatin1_aae02 3 = .ok (.ifCond .eq 14, 3) := by decide +kernel
theorem dJ5_isLatin1_aae02_6 : decode cJ5_isLatin1_aae02 6 = .ok (.aload_n 0, 1) := by decide +kernel
theorem dJ5_isLatin1_aae02_7 : decode cJ5_isLatin1_aae02 7 = .ok (.getfield 22, 3) := by decide +kernel
theorem dJ5_isLatin1_aae02_10 : decode cJ5_isLatin1_aae02 10 = .ok (.ifCond .ne 7, 3) := by decide +kernel
theorem dJ5_isLatin1_aae02_13 : decode cJ5_isLatin1_aae02 13 = .ok (.iconst 1, 1) := by decide +kernel
theorem dJ5_isLatin1_aae02_14 : decode cJ5_isLatin1_aae02 14 = .ok (.goto 4, 3) := by decide +kernel
theorem dJ5_isLatin1_aae02_17 : decode cJ5_isLatin1_aae02 17 = .ok (.iconst 0, 1) := by decide +kernel
theorem dJ5_isLatin1_aae02_18 : decode cJ5_isLatin1_aae02 18 = .ok (.ireturn, 1) := by decide +kernel
theorem dJ5_inflateIfNeededFor_a7421_0 : decode cJ5_inflateIfNeededFor_a7421 0 = .ok (.getstatic 18, 3) := by decide +kernel
theorem dJ5_inflateIfNeededFor_a7421_3 : decode cJ5_inflateIfNeededFor_a7421 3 = .ok (.ifCond .eq 18, 3) := by decide +kernel
theorem dJ5_inflateIfNeededFor_a7421_6 : decode cJ5_inflateIfNeededFor_a7421 6 = .ok (.aload_n 0, 1) := by decide +kernel
theorem dJ5_inflateIfNeededFor_a7421_7 : decode cJ5_inflateIfNeededFor_a7421 7 = .ok (.getfield 22, 3) := by decide +kernel
theorem dJ5_inflateIfNeededFor_a7421_10 : decode cJ5_inflateIfNeededFor_a7421 10 = .ok (.aload_n 1, 1) := by decide +kernel
theorem dJ5_inflateIfNeededFor_a7421_11 : decode cJ5_inflateIfNeededFor_a7421 11 = .ok (.invokevirtual 40, 3) := by decide +kernel
theorem dJ5_inflateIfNeededFor_a7421_14 : decode cJ5_inflateIfNeededFor_a7421 14 = .ok (.if_icmp .eq 7, 3) := by decide +kernel
theorem dJ5_inflateIfNeededFor_a7421_17 : decode cJ5_inflateIfNeededFor_a7421 17 = .ok (.aload_n 0, 1) := by decide +kernel
theorem dJ5_inflateIfNeededFor_a7421_18 : decode cJ5_inflateIfNeededFor_a7421 18 = .ok (.invokevirtual 195, 3) := by decide +kernel
theorem dJ5_inflateIfNeededFor_a7421_21 : decode cJ5_inflateIfNeededFor_a7421 21 = .ok (.return_, 1) := by decide +kernel
theorem dJ5_putStringAt_47b60_0 : decode cJ5_putStringAt_47b60 0 = .ok (.aload_n 0, 1) := by decide +kernel
theorem dJ5_putStringAt_47b60_1 : decode cJ5_putStringAt_47b60 1 = .ok (.aload_n 2, 1) := by decide +kernel
theorem dJ5_putStringAt_47b60_2 : decode cJ5_putStringAt_47b60 2 = .ok (.invokevirtual 397, 3) := by decide +kernel
theorem dJ5_putStringAt_47b60_5 : decode cJ5_putStringAt_47b60 5 = .ok (.aload_n 2, 1) := by decide +kernel
theorem dJ5_putStringAt_47b60_6 : decode cJ5_putStringAt_47b60 6 = .ok (.aload_n 0, 1) := by decide +kernel
theorem dJ5_putStringAt_47b60_7 : decode cJ5_putStringAt_47b60 7 = .ok (.getfield 15, 3) := by decide +kernel
theorem dJ5_putStringAt_47b60_10 : decode cJ5_putStringAt_47b60 10 = .ok (.iload_n 1, 1) := by decide +kernel
theorem dJ5_putStringAt_47b60_11 : decode cJ5_putStringAt_47b60 11 = .ok (.aload_n 0, 1) := by decide +kernel
theorem dJ5_putStringAt_47b60_12 : decode cJ5_putStringAt_47b60 12 = .ok (.getfield 22, 3) := by decide +kernel
theorem dJ5_putStringAt_47b60_15 : decode cJ5_putStringAt_47b60 15 = .ok (.invokevirtual 399, 3) := by decide +kernel
theorem dJ5_putStringAt_47b60_18 : decode cJ5_putStringAt_47b60 18 = .ok (.return_, 1) := by decide +kernel
theorem dJ6_getChars_ba4f3_0 : decode cJ6_getChars_ba4f3 0 = .ok (.iload_n 1, 1) := by decide +kernel
theorem dJ6_getChars_ba4f3_1 : decode cJ6_getChars_ba4f3 1 = .ok (.istore 5, 2) := by decide +kernel
theorem dJ6_getChars_ba4f3_3 : decode cJ6_getChars_ba4f3 3 = .ok (.iload_n 0, 1) := by decide +kernel
theorem dJ6_getChars_ba4f3_4 : decode cJ6_getChars_ba4f3 4 = .ok (.ifCond .ge 7, 3) := by decide +kernel
theorem dJ6_getChars_ba4f3_7 : decode cJ6_getChars_ba4f3 7 = .ok (.iconst 1, 1) := by decide +kernel
theorem dJ6_getChars_ba4f3_8 : decode cJ6_getChars_ba4f3 8 = .ok (.goto 4, 3) := by decide +kernel
theorem dJ6_getChars_ba4f3_11 : decode cJ6_getChars_ba4f3 11 = .ok (.iconst 0, 1) := by decide +kernel
theorem dJ6_getChars_ba4f3_12 : decode cJ6_getChars_ba4f3 12 = .ok (.istore 6, 2) := by decide +kernel
theorem dJ6_getChars_ba4f3_14 : decode cJ6_getChars_ba4f3 14 = .ok (.iload 6, 2) := by decide +kernel
theorem dJ6_getChars_ba4f3_16 : decode cJ6_getChars_ba4f3 16 = .ok (.ifCond .ne 6, 3) := by decide +kernel
theorem dJ6_getChars_ba4f3_19 : decode cJ6_getChars_ba4f3 19 = .ok (.iload_n 0, 1) := by decide +kernel
theorem dJ6_getChars_ba4f3_20 : decode cJ6_getChars_ba4f3 20 = .ok (.ineg, 1) := by decide +kernel
theorem dJ6_getChars_ba4f3_21 : decode cJ6_getChars_ba4f3 21 = .ok (.istore_n 0, 1) := by decide +kernel
theorem dJ6_getChars_ba4f3_22 : decode cJ6_getChars_ba4f3 22 = .ok (.iload_n 0, 1) := by decide +kernel
theorem dJ6_getChars_ba4f3_23 : decode cJ6_getChars_ba4f3 23 = .ok (.bipush (-100), 2) := by decide +kernel
theorem dJ6_getChars_ba4f3_25 : decode cJ6_getChars_ba4f3 25 = .ok (.if_icmp .gt 47, 3) := by decide +kernel
theorem dJ6_getChars_ba4f3_28 : decode cJ6_getChars_ba4f3 28 = .ok (.iload_n 0, 1) := by decide +kernel
theorem dJ6_getChars_ba4f3_29 : decode cJ6_getChars_ba4f3 29 = .ok (.bipush 100, 2) := by decide +kernel
theorem dJ6_getChars_ba4f3_31 : decode cJ6_getChars_ba4f3 31 = .ok (.idiv, 1) := by decide +kernel
theorem dJ6_getChars_ba4f3_32 : decode cJ6_getChars_ba4f3 32 = .ok (.istore_n 3, 1) := by decide +kernel
theorem dJ6_getChars_ba4f3_33 : decode cJ6_getChars_ba4f3 33 = .ok (.iload_n 3, 1) := by decide +kernel
theorem dJ6_getChars_ba4f3_34 : decode cJ6_getChars_ba4f3 34 = .ok (.bipush 100, 2) := by decide +kernel
theorem dJ6_getChars_ba4f3_36 : decode cJ6_getChars_ba4f3 36 = .ok (.imul, 1) := by decide +kernel
theorem dJ6_getChars_ba4f3_37 : decode cJ6_getChars_ba4f3 37 = .ok (.iload_n 0, 1) := by decide +kernel
theorem dJ6_getChars_ba4f3_38 : decode cJ6_getChars_ba4f3 38 = .ok (.isub, 1) := by decide +kernel
theorem dJ6_getChars_ba4f3_39 : decode cJ6_getChars_ba4f3 39 = .ok (.istore 4, 2) := by decide +kernel
theorem dJ6_getChars_ba4f3_41 : decode cJ6_getChars_ba4f3 41 = .ok (.iload_n 3, 1) := by decide +kernel
theorem dJ6_getChars_ba4f3_42 : decode cJ6_getChars_ba4f3 42 = .ok (.istore_n 0, 1) := by decide +kernel
theorem dJ6_getChars_ba4f3_43 : decode cJ6_getChars_ba4f3 43 = .ok (.aload_n 2, 1) := by decide +kernel
theorem dJ6_getChars_ba4f3_44 : decode cJ6_getChars_ba4f3 44 = .ok (.iinc 5 (-1), 3) := by decide +kernel
theorem dJ6_getChars_ba4f3_47 : decode cJ6_getChars_ba4f3 47 = .ok (.iload 5, 2) := by decide +kernel
theorem dJ6_getChars_ba4f3_49 : decode cJ6_getChars_ba4f3 49 = .ok (.getstatic 83, 3) := by decide +kernel
theorem dJ6_getChars_ba4f3_52 : decode cJ6_getChars_ba4f3 52 = .ok (.iload 4, 2) := by decide +kernel
theorem dJ6_getChars_ba4f3_54 : decode cJ6_getChars_ba4f3 54 = .ok (.baload, 1) := by decide +kernel
theorem dJ6_getChars_ba4f3_55 : decode cJ6_getChars_ba4f3 55 = .ok (.bastore, 1) := by decide +kernel
theorem dJ6_getChars_ba4f3_56 : decode cJ6_getChars_ba4f3 56 = .ok (.aload_n 2, 1) := by decide +kernel
theorem dJ6_getChars_ba4f3_57 : decode cJ6_getChars_ba4f3 57 = .ok (.iinc 5 (-1), 3) := by decide +kernel
theorem dJ6_getChars_ba4f3_60 : decode cJ6_getChars_ba4f3 60 = .ok (.iload 5, 2) := by decide +kernel
theorem dJ6_getChars_ba4f3_62 : decode cJ6_getChars_ba4f3 62 = .ok (.getstatic 87, 3) := by decide +kernel
theorem dJ6_getChars_ba4f3_65 : decode cJ6_getChars_ba4f3 65 = .ok (.iload 4, 2) := by decide +kernel
theorem dJ6_getChars_ba4f3_67 : decode cJ6_getChars_ba4f3 67 = .ok (.baload, 1) := by decide +kernel
theorem dJ6_getChars_ba4f3_68 : decode cJ6_getChars_ba4f3 68 = .ok (.bastore, 1) := by decide +kernel
theorem dJ6_getChars_ba4f3_69 : decode cJ6_getChars_ba4f3 69 = .ok (.goto (-47), 3) := by decide +kernel
theorem dJ6_getChars_ba4f3_72 : decode cJ6_getChars_ba4f3 72 = .ok (.aload_n 2, 1) := by decide +kernel
theorem dJ6_getChars_ba4f3_73 : decode cJ6_getChars_ba4f3 73 = .ok (.iinc 5 (-1), 3) := by decide +kernel
theorem dJ6_getChars_ba4f3_76 : decode cJ6_getChars_ba4f3 76 = .ok (.iload 5, 2) := by decide +kernel
theorem dJ6_getChars_ba4f3_78 : decode cJ6_getChars_ba4f3 78 = .ok (.getstatic 83, 3) := by decide +kernel
theorem dJ6_getChars_ba4f3_81 : decode cJ6_getChars_ba4f3 81 = .ok (.iload_n 0, 1) := by decide +kernel
theorem dJ6_getChars_ba4f3_82 : decode cJ6_getChars_ba4f3 82 = .ok (.ineg, 1) := by decide +kernel
theorem dJ6_getChars_ba4f3_83 : decode cJ6_getChars_ba4f3 83 = .ok (.baload, 1) := by decide +kernel
theorem dJ6_getChars_ba4f3_84 : decode cJ6_getChars_ba4f3 84 = .ok (.bastore, 1) := by decide +kernel
theorem dJ6_getChars_ba4f3_85 : decode cJ6_getChars_ba4f3 85 = .ok (.iload_n 0, 1) := by decide +kernel
theorem dJ6_getChars_ba4f3_86 : decode cJ6_getChars_ba4f3 86 = .ok (.bipush (-9), 2) := by decide +kernel
theorem dJ6_getChars_ba4f3_88 : decode cJ6_getChars_ba4f3 88 = .ok (.if_icmp .ge 16, 3) := by decide +kernel
theorem dJ6_getChars_ba4f3_91 : decode cJ6_getChars_ba4f3 91 = .ok (.aload_n 2, 1) := by decide +kernel
theorem dJ6_getChars_ba4f3_92 : decode cJ6_getChars_ba4f3 92 = .ok (.iinc 5 (-1), 3) := by decide +kernel
theorem dJ6_getChars_ba4f3_95 : decode cJ6_getChars_ba4f3 95 = .ok (.iload 5, 2) := by decide +kernel
theorem dJ6_getChars_ba4f3_97 : decode cJ6_getChars_ba4f3 97 = .ok (.getstatic 87, 3) := by decide +kernel
theorem dJ6_getChars_ba4f3_100 : decode cJ6_getChars_ba4f3 100 = .ok (.iload_n 0, 1) := by decide +kernel
theorem dJ6_getChars_ba4f3_101 : decode cJ6_getChars_ba4f3 101 = .ok (.ineg, 1) := by decide +kernel
theorem dJ6_getChars_ba4f3_102 : decode cJ6_getChars_ba4f3 102 = .ok (.baload, 1) := by decide +kernel
theorem dJ6_getChars_ba4f3_103 : decode cJ6_getChars_ba4f3 103 = .ok (.bastore, 1) := by decide +kernel
theorem dJ6_getChars_ba4f3_104 : decode cJ6_getChars_ba4f3 104 = .ok (.iload 6, 2) := by decide +kernel
theorem dJ6_getChars_ba4f3_106 : decode cJ6_getChars_ba4f3 106 = .ok (.ifCond .eq 12, 3) := by decide +kernel
theorem dJ6_getChars_ba4f3_109 : decode cJ6_getChars_ba4f3 109 = .ok (.aload_n 2, 1) := by decide +kernel
theorem dJ6_getChars_ba4f3_110 : decode cJ6_getChars_ba4f3 110 = .ok (.iinc 5 (-1), 3) := by decide +kernel
theorem dJ6_getChars_ba4f3_113 : decode cJ6_getChars_ba4f3 113 = .ok (.iload 5, 2) := by decide +kernel
theorem dJ6_getChars_ba4f3_115 : decode cJ6_getChars_ba4f3 115 = .ok (.bipush 45, 2) := by decide +kernel
theorem dJ6_getChars_ba4f3_117 : decode cJ6_getChars_ba4f3 117 = .ok (.bastore, 1) := by decide +kernel
theorem dJ6_getChars_ba4f3_118 : decode cJ6_getChars_ba4f3 118 = .ok (.iload 5, 2) := by decide +kernel
theorem dJ6_getChars_ba4f3_120 : decode cJ6_getChars_ba4f3 120 = .ok (.ireturn, 1) := by decide +kernel
theorem dJ6_stringSize_0f7a4_0 : decode cJ6_stringSize_0f7a4 0 = .ok (.iconst 1, 1) := by decide +kernel
theorem dJ6_stringSize_0f7a4_1 : decode cJ6_stringSize_0f7a4 1 = .ok (.istore_n 1, 1) := by decide +kernel
theorem dJ6_stringSize_0f7a4_2 : decode cJ6_stringSize_0f7a4 2 = .ok (.iload_n 0, 1) := by decide +kernel
theorem dJ6_stringSize_0f7a4_3 : decode cJ6_stringSize_0f7a4 3 = .ok (.ifCond .lt 8, 3) := by decide +kernel
theorem dJ6_stringSize_0f7a4_6 : decode cJ6_stringSize_0f7a4 6 = .ok (.iconst 0, 1) := by decide +kernel
theorem dJ6_stringSize_0f7a4_7 : decode cJ6_stringSize_0f7a4 7 = .ok (.istore_n 1, 1) := by decide +kernel
theorem dJ6_stringSize_0f7a4_8 : decode cJ6_stringSize_0f7a4 8 = .ok (.iload_n 0, 1) := by decide +kernel
theorem dJ6_stringSize_0f7a4_9 : decode cJ6_stringSize_0f7a4 9 = .ok (.ineg, 1) := by decide +kernel
theorem dJ6_stringSize_0f7a4_10 : decode cJ6_stringSize_0f7a4 10 = .ok (.istore_n 0, 1) := by decide +kernel
theorem dJ6_stringSize_0f7a4_11 : decode cJ6_stringSize_0f7a4 11 = .ok (.bipush (-10), 2) := by decide +kernel
theorem dJ6_stringSize_0f7a4_13 : decode cJ6_stringSize_0f7a4 13 = .ok (.istore_n 2, 1) := by decide +kernel
theorem dJ6_stringSize_0f7a4_14 : decode cJ6_stringSize_0f7a4 14 = .ok (.iconst 1, 1) := by decide +kernel
theorem dJ6_stringSize_0f7a4_15 : decode cJ6_stringSize_0f7a4 15 = .ok (.istore_n 3, 1) := by decide +kernel
theorem dJ6_stringSize_0f7a4_16 : decode cJ6_stringSize_0f7a4 16 = .ok (.iload_n 3, 1) := by decide +kernel
theorem dJ6_stringSize_0f7a4_17 : decode cJ6_stringSize_0f7a4 17 = .ok (.bipush 10, 2) := by decide +kernel
theorem dJ6_stringSize_0f7a4_19 : decode cJ6_stringSize_0f7a4 19 = .ok (.if_icmp .ge 23, 3) := by decide +kernel
theorem dJ6_stringSize_0f7a4_22 : decode cJ6_stringSize_0f7a4 22 = .ok (.iload_n 0, 1) := by decide +kernel
theorem dJ6_stringSize_0f7a4_23 : decode cJ6_stringSize_0f7a4 23 = .ok (.iload_n 2, 1) := by decide +kernel
theorem dJ6_stringSize_0f7a4_24 : decode cJ6_stringSize_0f7a4 24 = .ok (.if_icmp .le 7, 3) := by decide +kernel
theorem dJ6_stringSize_0f7a4_27 : decode cJ6_stringSize_0f7a4 27 = .ok (.iload_n 3, 1) := by decide +kernel
theorem dJ6_stringSize_0f7a4_28 : decode cJ6_stringSize_0f7a4 28 = .ok (.iload_n 1, 1) := by decide +kernel
theorem dJ6_stringSize_0f7a4_29 : decode cJ6_stringSize_0f7a4 29 = .ok (.iadd, 1) := by decide +kernel
theorem dJ6_stringSize_0f7a4_30 : decode cJ6_stringSize_0f7a4 30 = .ok (.ireturn, 1) := by decide +kernel
theorem dJ6_stringSize_0f7a4_31 : decode cJ6_stringSize_0f7a4 31 = .ok (.bipush 10, 2) := by decide +kernel
theorem dJ6_stringSize_0f7a4_33 : decode cJ6_stringSize_0f7a4 33 = .ok (.iload_n 2, 1) := by decide +kernel
theorem dJ6_stringSize_0f7a4_34 : decode cJ6_stringSize_0f7a4 34 = .ok (.imul, 1) := by decide +kernel
theorem dJ6_stringSize_0f7a4_35 : decode cJ6_stringSize_0f7a4 35 = .ok (.istore_n 2, 1) := by decide +kernel
theorem dJ6_stringSize_0f7a4_36 : decode cJ6_stringSize_0f7a4 36 = .ok (.iinc 3 1, 3) := by decide +kernel
theorem dJ6_stringSize_0f7a4_39 : decode cJ6_stringSize_0f7a4 39 = .ok (.goto (-23), 3) := by decide +kernel
theorem dJ6_stringSize_0f7a4_42 : decode cJ6_stringSize_0f7a4 42 = .ok (.bipush 10, 2) := by decide +kernel
theorem dJ6_stringSize_0f7a4_44 : decode cJ6_stringSize_0f7a4 44 = .ok (.iload_n 1, 1) := by decide +kernel
theorem dJ6_stringSize_0f7a4_45 : decode cJ6_stringSize_0f7a4 45 = .ok (.iadd, 1) := by decide +kernel
theorem dJ6_stringSize_0f7a4_46 : decode cJ6_stringSize_0f7a4 46 = .ok (.ireturn, 1) := by decide +kernel
theorem dJ6_bitCount_0f7a4_0 : decode cJ6_bitCount_0f7a4 0 = .ok (.iload_n 0, 1) := by decide +kernel
theorem dJ6_bitCount_0f7a4_1 : decode cJ6_bitCount_0f7a4 1 = .ok (.iload_n 0, 1) := by decide +kernel
theorem dJ6_bitCount_0f7a4_2 : decode cJ6_bitCount_0f7a4 2 = .ok (.iconst 1, 1) := by decide +kernel
theorem dJ6_bitCount_0f7a4_3 : decode cJ6_bitCount_0f7a4 3 = .ok (.iushr, 1) := by decide +kernel
theorem dJ6_bitCount_0f7a4_4 : decode cJ6_bitCount_0f7a4 4 = .ok (.ldc_w 265, 3) := by decide +kernel
theorem dJ6_bitCount_0f7a4_7 : decode cJ6_bitCount_0f7a4 7 = .ok (.iand, 1) := by decide +kernel
theorem dJ6_bitCount_0f7a4_8 : decode cJ6_bitCount_0f7a4 8 = .ok (.isub, 1) := by decide +kernel
theorem dJ6_bitCount_0f7a4_9 : decode cJ6_bitCount_0f7a4 9 = .ok (.istore_n 0, 1) := by decide +kernel
theorem dJ6_bitCount_0f7a4_10 : decode cJ6_bitCount_0f7a4 10 = .ok (.iload_n 0, 1) := by decide +kernel
theorem dJ6_bitCount_0f7a4_11 : decode cJ6_bitCount_0f7a4 11 = .ok (.ldc_w 266, 3) := by decide +kernel
theorem dJ6_bitCount_0f7a4_14 : decode cJ6_bitCount_0f7a4 14 = .ok (.iand, 1) := by decide +kernel
theorem dJ6_bitCount_0f7a4_15 : decode cJ6_bitCount_0f7a4 15 = .ok (.iload_n 0, 1) := by decide +kernel
theorem dJ6_bitCount_0f7a4_16 : decode cJ6_bitCount_0f7a4 16 = .ok (.iconst 2, 1) := by decide +kernel
theorem dJ6_bitCount_0f7a4_17 : decode cJ6_bitCount_0f7a4 17 = .ok (.iushr, 1) := by decide +kernel
theorem dJ6_bitCount_0f7a4_18 : decode cJ6_bitCount_0f7a4 18 = .ok (.ldc_w 266, 3) := by decide +kernel
theorem dJ6_bitCount_0f7a4_21 : decode cJ6_bitCount_0f7a4 21 = .ok (.iand, 1) := by decide +kernel
theorem dJ6_bitCount_0f7a4_22 : decode cJ6_bitCount_0f7a4 22 = .ok (.iadd, 1) := by decide +kernel
theorem dJ6_bitCount_0f7a4_23 : decode cJ6_bitCount_0f7a4 23 = .ok (.istore_n 0, 1) := by decide +kernel
theorem dJ6_bitCount_0f7a4_24 : decode cJ6_bitCount_0f7a4 24 = .ok (.iload_n 0, 1) := by decide +kernel
theorem dJ6_bitCount_0f7a4_25 : decode cJ6_bitCount_0f7a4 25 = .ok (.iload_n 0, 1) := by decide +kernel
theorem dJ6_bitCount_0f7a4_26 : decode cJ6_bitCount_0f7a4 26 = .ok (.iconst 4, 1) := by decide +kernel
theorem dJ6_bitCount_0f7a4_27 : decode cJ6_bitCount_0f7a4 27 = .ok (.iushr, 1) := by decide +kernel
theorem dJ6_bitCount_0f7a4_28 : decode cJ6_bitCount_0f7a4 28 = .ok (.iadd, 1) := by decide +kernel
theorem dJ6_bitCount_0f7a4_29 : decode cJ6_bitCount_0f7a4 29 = .ok (.ldc_w 267, 3) := by decide +kernel
theorem dJ6_bitCount_0f7a4_32 : decode cJ6_bitCount_0f7a4 32 = .ok (.iand, 1) := by decide +kernel
theorem dJ6_bitCount_0f7a4_33 : decode cJ6_bitCount_0f7a4 33 = .ok (.istore_n 0, 1) := by decide +kernel
theorem dJ6_bitCount_0f7a4_34 : decode cJ6_bitCount_0f7a4 34 = .ok (.iload_n 0, 1) := by decide +kernel
theorem dJ6_bitCount_0f7a4_35 : decode cJ6_bitCount_0f7a4 35 = .ok (.iload_n 0, 1) := by decide +kernel
theorem dJ6_bitCount_0f7a4_36 : decode cJ6_bitCount_0f7a4 36 = .ok (.bipush 8, 2) := by decide +kernel
theorem dJ6_bitCount_0f7a4_38 : decode cJ6_bitCount_0f7a4 38 = .ok (.iushr, 1) := by decide +kernel
theorem dJ6_bitCount_0f7a4_39 : decode cJ6_bitCount_0f7a4 39 = .ok (.iadd, 1) := by decide +kernel
theorem dJ6_bitCount_0f7a4_40 : decode cJ6_bitCount_0f7a4 40 = .ok (.istore_n 0, 1) := by decide +kernel
theorem dJ6_bitCount_0f7a4_41 : decode cJ6_bitCount_0f7a4 41 = .ok (.iload_n 0, 1) := by decide +kernel
theorem dJ6_bitCount_0f7a4_42 : decode cJ6_bitCount_0f7a4 42 = .ok (.iload_n 0, 1) := by decide +kernel
theorem dJ6_bitCount_0f7a4_43 : decode cJ6_bitCount_0f7a4 43 = .ok (.bipush 16, 2) := by decide +kernel
theorem dJ6_bitCount_0f7a4_45 : decode cJ6_bitCount_0f7a4 45 = .ok (.iushr, 1) := by decide +kernel
theorem dJ6_bitCount_0f7a4_46 : decode cJ6_bitCount_0f7a4 46 = .ok (.iadd, 1) := by decide +kernel
theorem dJ6_bitCount_0f7a4_47 : decode cJ6_bitCount_0f7a4 47 = .ok (.istore_n 0, 1) := by decide +kernel
theorem dJ6_bitCount_0f7a4_48 : decode cJ6_bitCount_0f7a4 48 = .ok (.iload_n 0, 1) := by decide +kernel
theorem dJ6_bitCount_0f7a4_49 : decode cJ6_bitCount_0f7a4 49 = .ok (.bipush 63, 2) := by decide +kernel
theorem dJ6_bitCount_0f7a4_51 : decode cJ6_bitCount_0f7a4 51 = .ok (.iand, 1) := by decide +kernel
theorem dJ6_bitCount_0f7a4_52 : decode cJ6_bitCount_0f7a4 52 = .ok (.ireturn, 1) := by decide +kernel
theorem dJ13_bitCount_95d88_0 : decode cJ13_bitCount_95d88 0 = .ok (.lload_n 0, 1) := by decide +kernel
theorem dJ13_bitCount_95d88_1 : decode cJ13_bitCount_95d88 1 = .ok (.lload_n 0, 1) := by decide +kernel
theorem dJ13_bitCount_95d88_2 : decode cJ13_bitCount_95d88 2 = .ok (.iconst 1, 1) := by decide +kernel
theorem dJ13_bitCount_95d88_3 : decode cJ13_bitCount_95d88 3 = .ok (.lushr, 1) := by decide +kernel
theorem dJ13_bitCount_95d88_4 : decode cJ13_bitCount_95d88 4 = .ok (.ldc2_w 314, 3) := by decide +kernel
theorem dJ13_bitCount_95d88_7 : decode cJ13_bitCount_95d88 7 = .ok (.land, 1) := by decide +kernel
theorem dJ13_bitCount_95d88_8 : decode cJ13_bitCount_95d88 8 = .ok (.lsub, 1) := by decide +kernel
theorem dJ13_bitCount_95d88_9 : decode cJ13_bitCount_95d88 9 = .ok (.lstore_n 0, 1) := by decide +kernel
theorem dJ13_bitCount_95d88_10 : decode cJ13_bitCount_95d88 10 = .ok (.lload_n 0, 1) := by decide +kernel
theorem dJ13_bitCount_95d88_11 : decode cJ13_bitCount_95d88 11 = .ok (.ldc2_w 316, 3) := by decide +kernel
theorem dJ13_bitCount_95d88_14 : decode cJ13_bitCount_95d88 14 = .ok (.land, 1) := by decide +kernel
theorem dJ13_bitCount_95d88_15 : decode cJ13_bitCount_95d88 15 = .ok (.lload_n 0, 1) := by decide +kernel
theorem dJ13_bitCount_95d88_16 : decode cJ13_bitCount_95d88 16 = .ok (.iconst 2, 1) := by decide +kernel
theorem dJ13_bitCount_95d88_17 : decode cJ13_bitCount_95d88 17 = .ok (.lushr, 1) := by decide +kernel
theorem dJ13_bitCount_95d88_18 : decode cJ13_bitCount_95d88 18 = .ok (.ldc2_w 316, 3) := by decide +kernel
theorem dJ13_bitCount_95d88_21 : decode cJ13_bitCount_95d88 21 = .ok (.land, 1) := by decide +kernel
theorem dJ13_bitCount_95d88_22 : decode cJ13_bitCount_95d88 22 = .ok (.ladd, 1) := by decide +kernel
theorem dJ13_bitCount_95d88_23 : decode cJ13_bitCount_95d88 23 = .ok (.lstore_n 0, 1) := by decide +kernel
theorem dJ13_bitCount_95d88_24 : decode cJ13_bitCount_95d88 24 = .ok (.lload_n 0, 1) := by decide +kernel
theorem dJ13_bitCount_95d88_25 : decode cJ13_bitCount_95d88 25 = .ok (.lload_n 0, 1) := by decide +kernel
theorem dJ13_bitCount_95d88_26 : decode cJ13_bitCount_95d88 26 = .ok (.iconst 4, 1) := by decide +kernel
theorem dJ13_bitCount_95d88_27 : decode cJ13_bitCount_95d88 27 = .ok (.lushr, 1) := by decide +kernel
theorem dJ13_bitCount_95d88_28 : decode cJ13_bitCount_95d88 28 = .ok (.ladd, 1) := by decide +kernel
theorem dJ13_bitCount_95d88_29 : decode cJ13_bitCount_95d88 29 = .ok (.ldc2_w 318, 3) := by decide +kernel
theorem dJ13_bitCount_95d88_32 : decode cJ13_bitCount_95d88 32 = .ok (.land, 1) := by decide +kernel
theorem dJ13_bitCount_95d88_33 : decode cJ13_bitCount_95d88 33 = .ok (.lstore_n 0, 1) := by decide +kernel
theorem dJ13_bitCount_95d88_34 : decode cJ13_bitCount_95d88 34 = .ok (.lload_n 0, 1) := by decide +kernel
theorem dJ13_bitCount_95d88_35 : decode cJ13_bitCount_95d88 35 = .ok (.lload_n 0, 1) := by decide +kernel
theorem dJ13_bitCount_95d88_36 : decode cJ13_bitCount_95d88 36 = .ok (.bipush 8, 2) := by decide +kernel
theorem dJ13_bitCount_95d88_38 : decode cJ13_bitCount_95d88 38 = .ok (.lushr, 1) := by decide +kernel
theorem dJ13_bitCount_95d88_39 : decode cJ13_bitCount_95d88 39 = .ok (.ladd, 1) := by decide +kernel
theorem dJ13_bitCount_95d88_40 : decode cJ13_bitCount_95d88 40 = .ok (.lstore_n 0, 1) := by decide +kernel
theorem dJ13_bitCount_95d88_41 : decode cJ13_bitCount_95d88 41 = .ok (.lload_n 0, 1) := by decide +kernel
theorem dJ13_bitCount_95d88_42 : decode cJ13_bitCount_95d88 42 = .ok (.lload_n 0, 1) := by decide +kernel
theorem dJ13_bitCount_95d88_43 : decode cJ13_bitCount_95d88 43 = .ok (.bipush 16, 2) := by decide +kernel
theorem dJ13_bitCount_95d88_45 : decode cJ13_bitCount_95d88 45 = .ok (.lushr, 1) := by decide +kernel
theorem dJ13_bitCount_95d88_46 : decode cJ13_bitCount_95d88 46 = .ok (.ladd, 1) := by decide +kernel
theorem dJ13_bitCount_95d88_47 : decode cJ13_bitCount_95d88 47 = .ok (.lstore_n 0, 1) := by decide +kernel
theorem dJ13_bitCount_95d88_48 : decode cJ13_bitCount_95d88 48 = .ok (.lload_n 0, 1) := by decide +kernel
theorem dJ13_bitCount_95d88_49 : decode cJ13_bitCount_95d88 49 = .ok (.lload_n 0, 1) := by decide +kernel
theorem dJ13_bitCount_95d88_50 : decode cJ13_bitCount_95d88 50 = .ok (.bipush 32, 2) := by decide +kernel
theorem dJ13_bitCount_95d88_52 : decode cJ13_bitCount_95d88 52 = .ok (.lushr, 1) := by decide +kernel
theorem dJ13_bitCount_95d88_53 : decode cJ13_bitCount_95d88 53 = .ok (.ladd, 1) := by decide +kernel
theorem dJ13_bitCount_95d88_54 : decode cJ13_bitCount_95d88 54 = .ok (.lstore_n 0, 1) := by decide +kernel
theorem dJ13_bitCount_95d88_55 : decode cJ13_bitCount_95d88 55 = .ok (.lload_n 0, 1) := by decide +kernel
theorem dJ13_bitCount_95d88_56 : decode cJ13_bitCount_95d88 56 = .ok (.l2i, 1) := by decide +kernel
theorem dJ13_bitCount_95d88_57 : decode cJ13_bitCount_95d88 57 = .ok (.bipush 127, 2) := by decide +kernel
theorem dJ13_bitCount_95d88_59 : decode cJ13_bitCount_95d88 59 = .ok (.iand, 1) := by decide +kernel
theorem dJ13_bitCount_95d88_60 : decode cJ13_bitCount_95d88 60 = .ok (.ireturn, 1) := by decide +kernel
theorem dJ9_max_7cf53_0 : decode cJ9_max_7cf53 0 = .ok (.iload_n 0, 1) := by decide +kernel
theorem dJ9_max_7cf53_1 : decode cJ9_max_7cf53 1 = .ok (.iload_n 1, 1) := by decide +kernel
theorem dJ9_max_7cf53_2 : decode cJ9_max_7cf53 2 = .ok (.if_icmp .lt 7, 3) := by decide +kernel
theorem dJ9_max_7cf53_5 : decode cJ9_max_7cf53 5 = .ok (.iload_n 0, 1) := by decide +kernel
theorem dJ9_max_7cf53_6 : decode cJ9_max_7cf53 6 = .ok (.goto 4, 3) := by decide +kernel
theorem dJ9_max_7cf53_9 : decode cJ9_max_7cf53 9 = .ok (.iload_n 1, 1) := by decide +kernel
theorem dJ9_max_7cf53_10 : decode cJ9_max_7cf53 10 = .ok (.ireturn, 1) := by decide +kernel
theorem dJ9_min_7cf53_0 : decode cJ9_min_7cf53 0 = .ok (.iload_n 0, 1) := by decide +kernel
theorem dJ9_min_7cf53_1 : decode cJ9_min_7cf53 1 = .ok (.iload_n 1, 1) := by decide +kernel
theorem dJ9_min_7cf53_2 : decode cJ9_min_7cf53 2 = .ok (.if_icmp .gt 7, 3) := by decide +kernel
theorem dJ9_min_7cf53_5 : decode cJ9_min_7cf53 5 = .ok (.iload_n 0, 1) := by decide +kernel
theorem dJ9_min_7cf53_6 : decode cJ9_min_7cf53 6 = .ok (.goto 4, 3) := by decide +kernel
theorem dJ9_min_7cf53_9 : decode cJ9_min_7cf53 9 = .ok (.iload_n 1, 1) := by decide +kernel
theorem dJ9_min_7cf53_10 : decode cJ9_min_7cf53 10 = .ok (.ireturn, 1) := by decide +kernel
theorem dJ0_init_81219_0 : decode cJ0_init_81219 0 = .ok (.aload_n 0, 1) := by decide +kernel
theorem dJ0_init_81219_1 : decode cJ0_init_81219 1 = .ok (.aload_n 1, 1) := by decide +kernel
theorem dJ0_init_81219_2 : decode cJ0_init_81219 2 = .ok (.aconst_null, 1) := by decide +kernel
theorem dJ0_init_81219_3 : decode cJ0_init_81219 3 = .ok (.invokespecial 489, 3) := by decide +kernel
theorem dJ0_init_81219_6 : decode cJ0_init_81219 6 = .ok (.return_, 1) := by decide +kernel
theorem dJ0_length_8abf5_0 : decode cJ0_length_8abf5 0 = .ok (.aload_n 0, 1) := by decide +kernel
theorem dJ0_length_8abf5_1 : decode cJ0_length_8abf5 1 = .ok (.getfield 9, 3) := by decide +kernel
theorem dJ0_length_8abf5_4 : decode cJ0_length_8abf5 4 = .ok (.arraylength, 1) := by decide +kernel
theorem dJ0_length_8abf5_5 : decode cJ0_length_8abf5 5 = .ok (.aload_n 0, 1) := by decide +kernel
theorem dJ0_length_8abf5_6 : decode cJ0_length_8abf5 6 = .ok (.invokevirtual 335, 3) := by decide +kernel
theorem dJ0_length_8abf5_9 : decode cJ0_length_8abf5 9 = .ok (.ishr, 1) := by decide +kernel
theorem dJ0_length_8abf5_10 : decode cJ0_length_8abf5 10 = .ok (.ireturn, 1) := by decide +kernel
theorem dJ0_charAt_5068e_0 : decode cJ0_charAt_5068e 0 = .ok (.aload_n 0, 1) := by decide +kernel
theorem dJ0_charAt_5068e_1 : decode cJ0_charAt_5068e 1 = .ok (.invokevirtual 492, 3) := by decide +kernel
theorem dJ0_charAt_5068e_4 : decode cJ0_charAt_5068e 4 = .ok (.ifCond .eq 12, 3) := by decide +kernel
theorem dJ0_charAt_5068e_7 : decode cJ0_charAt_5068e 7 = .ok (.aload_n 0, 1) := by decide +kernel
theorem dJ0_charAt_5068e_8 : decode cJ0_charAt_5068e 8 = .ok (.getfield 9, 3) := by decide +kernel
theorem dJ0_charAt_5068e_11 : decode cJ0_charAt_5068e 11 = .ok (.iload_n 1, 1) := by decide +kernel
theorem dJ0_charAt_5068e_12 : decode cJ0_charAt_5068e 12 = .ok (.invokestatic 495, 3) := by decide +kernel
theorem dJ0_charAt_5068e_15 : decode cJ0_charAt_5068e 15 = .ok (.ireturn, 1) := by decide +kernel
theorem dJ0_charAt_5068e_16 : decode cJ0_charAt_5068e 16 = .ok (.aload_n 0, 1) := by decide +kernel
theorem dJ0_charAt_5068e_17 : decode cJ0_charAt_5068e 17 = .ok (.getfield 9, 3) := by decide +kernel
theorem dJ0_charAt_5068e_20 : decode cJ0_charAt_5068e 20 = .ok (.iload_n 1, 1) := by decide +kernel
theorem dJ0_charAt_5068e_21 : decode cJ0_charAt_5068e 21 = .ok (.invokestatic 498, 3) := by decide +kernel
theorem dJ0_charAt_5068e_24 : decode cJ0_charAt_5068e 24 = .ok (.ireturn, 1) := by decide +kernel
theorem dJ0_getBytes_840e7_0 : decode cJ0_getBytes_840e7 0 = .ok (.aload_n 0, 1) := by decide +kernel
theorem dJ0_getBytes_840e7_1 : decode cJ0_getBytes_840e7 1 = .ok (.invokevirtual 335, 3) := by decide +kernel
theorem dJ0_getBytes_840e7_4 : decode cJ0_getBytes_840e7 4 = .ok (.iload_n 3, 1) := by decide +kernel
theorem dJ0_getBytes_840e7_5 : decode cJ0_getBytes_840e7 5 = .ok (.if_icmp .ne 23, 3) := by decide +kernel
theorem dJ0_getBytes_840e7_8 : decode cJ0_getBytes_840e7 8 = .ok (.aload_n 0, 1) := by decide +kernel
theorem dJ0_getBytes_840e7_9 : decode cJ0_getBytes_840e7 9 = .ok (.getfield 9, 3) := by decide +kernel
theorem dJ0_getBytes_840e7_12 : decode cJ0_getBytes_840e7 12 = .ok (.iconst 0, 1) := by decide +kernel
theorem dJ0_getBytes_840e7_13 : decode cJ0_getBytes_840e7 13 = .ok (.aload_n 1, 1) := by decide +kernel
theorem dJ0_getBytes_840e7_14 : decode cJ0_getBytes_840e7 14 = .ok (.iload_n 2, 1) := by decide +kernel
theorem dJ0_getBytes_840e7_15 : decode cJ0_getBytes_840e7 15 = .ok (.iload_n 3, 1) := by decide +kernel
theorem dJ0_getBytes_840e7_16 : decode cJ0_getBytes_840e7 16 = .ok (.ishl, 1) := by decide +kernel
theorem dJ0_getBytes_840e7_17 : decode cJ0_getBytes_840e7 17 = .ok (.aload_n 0, 1) := by decide +kernel
theorem dJ0_getBytes_840e7_18 : decode cJ0_getBytes_840e7 18 = .ok (.getfield 9, 3) := by decide +kernel
theorem dJ0_getBytes_840e7_21 : decode cJ0_getBytes_840e7 21 = .ok (.arraylength, 1) := by decide +kernel
theorem dJ0_getBytes_840e7_22 : decode cJ0_getBytes_840e7 22 = .ok (.invokestatic 212, 3) := by decide +kernel
theorem dJ0_getBytes_840e7_25 : decode cJ0_getBytes_840e7 25 = .ok (.goto 18, 3) := by decide +kernel
theorem dJ0_getBytes_840e7_28 : decode cJ0_getBytes_840e7 28 = .ok (.aload_n 0, 1) := by decide +kernel
theorem dJ0_getBytes_840e7_29 : decode cJ0_getBytes_840e7 29 = .ok (.getfield 9, 3) := by decide +kernel
theorem dJ0_getBytes_840e7_32 : decode cJ0_getBytes_840e7 32 = .ok (.iconst 0, 1) := by decide +kernel
theorem dJ0_getBytes_840e7_33 : decode cJ0_getBytes_840e7 33 = .ok (.aload_n 1, 1) := by decide +kernel
theorem dJ0_getBytes_840e7_34 : decode cJ0_getBytes_840e7 34 = .ok (.iload_n 2, 1) := by decide +kernel
theorem dJ0_getBytes_840e7_35 : decode cJ0_getBytes_840e7 35 = .ok (.aload_n 0, 1) := by decide +kernel
theorem dJ0_getBytes_840e7_36 : decode cJ0_getBytes_840e7 36 = .ok (.getfield 9, 3) := by decide +kernel
theorem dJ0_getBytes_840e7_39 : decode cJ0_getBytes_840e7 39 = .ok (.arraylength, 1) := by decide +kernel
theorem dJ0_getBytes_840e7_40 : decode cJ0_getBytes_840e7 40 = .ok (.invokestatic 106, 3) := by decide +kernel
theorem dJ0_getBytes_840e7_43 : decode cJ0_getBytes_840e7 43 = .ok (.return_, 1) := by decide +kernel
theorem dJ0_init_db425_0 : decode cJ0_init_db425 0 = .ok (.aload_n 0, 1) := by decide +kernel
theorem dJ0_init_db425_1 : decode cJ0_init_db425 1 = .ok (.invokespecial 1, 3) := by decide +kernel
theorem dJ0_init_db425_4 : decode cJ0_init_db425 4 = .ok (.aload_n 1, 1) := by decide +kernel
theorem dJ0_init_db425_5 : decode cJ0_init_db425 5 = .ok (.invokevirtual 552, 3) := by decide +kernel
theorem dJ0_init_db425_8 : decode cJ0_init_db425 8 = .ok (.astore_n 3, 1) := by decide +kernel
theorem dJ0_init_db425_9 : decode cJ0_init_db425 9 = .ok (.aload_n 1, 1) := by decide +kernel
theorem dJ0_init_db425_10 : decode cJ0_init_db425 10 = .ok (.invokevirtual 549, 3) := by decide +kernel
theorem dJ0_init_db425_13 : decode cJ0_init_db425 13 = .ok (.istore 4, 2) := by decide +kernel
theorem dJ0_init_db425_15 : decode cJ0_init_db425 15 = .ok (.aload_n 1, 1) := by decide +kernel
theorem dJ0_init_db425_16 : decode cJ0_init_db425 16 = .ok (.invokevirtual 1047, 3) := by decide +kernel
theorem dJ0_init_db425_19 : decode cJ0_init_db425 19 = .ok (.ifCond .eq 22, 3) := by decide +kernel
theorem dJ0_init_db425_22 : decode cJ0_init_db425 22 = .ok (.aload_n 0, 1) := by decide +kernel
theorem dJ0_init_db425_23 : decode cJ0_init_db425 23 = .ok (.iconst 0, 1) := by decide +kernel
theorem dJ0_init_db425_24 : decode cJ0_init_db425 24 = .ok (.putfield 15, 3) := by decide +kernel
theorem dJ0_init_db425_27 : decode cJ0_init_db425 27 = .ok (.aload_n 0, 1) := by decide +kernel
theorem dJ0_init_db425_28 : decode cJ0_init_db425 28 = .ok (.aload_n 3, 1) := by decide +kernel
theorem dJ0_init_db425_29 : decode cJ0_init_db425 29 = .ok (.iconst 0, 1) := by decide +kernel
theorem dJ0_init_db425_30 : decode cJ0_init_db425 30 = .ok (.iload 4, 2) := by decide +kernel
theorem dJ0_init_db425_32 : decode cJ0_init_db425 32 = .ok (.invokestatic 54, 3) := by decide +kernel
theorem dJ0_init_db425_35 : decode cJ0_init_db425 35 = .ok (.putfield 9, 3) := by decide +kernel
theorem dJ0_init_db425_38 : decode cJ0_init_db425 38 = .ok (.goto 59, 3) := by decide +kernel
theorem dJ0_init_db425_41 : decode cJ0_init_db425 41 = .ok (.getstatic 38, 3) := by decide +kernel
theorem dJ0_init_db425_44 : decode cJ0_init_db425 44 = .ok (.ifCond .eq 35, 3) := by decide +kernel
theorem dJ0_init_db425_47 : decode cJ0_init_db425 47 = .ok (.aload_n 1, 1) := by decide +kernel
theorem dJ0_init_db425_48 : decode cJ0_init_db425 48 = .ok (.getfield 1048, 3) := by decide +kernel
theorem dJ0_init_db425_51 : decode cJ0_init_db425 51 = .ok (.ifCond .eq 28, 3) := by decide +kernel
theorem dJ0_init_db425_54 : decode cJ0_init_db425 54 = .ok (.aload_n 0, 1) := by decide +kernel
theorem dJ0_init_db425_55 : decode cJ0_init_db425 55 = .ok (.aload_n 3, 1) := by decide +kernel
theorem dJ0_init_db425_56 : decode cJ0_init_db425 56 = .ok (.iconst 0, 1) := by decide +kernel
theorem dJ0_init_db425_57 : decode cJ0_init_db425 57 = .ok (.iload 4, 2) := by decide +kernel
theorem dJ0_init_db425_59 : decode cJ0_init_db425 59 = .ok (.invokestatic 1051, 3) := by decide +kernel
theorem dJ0_init_db425_62 : decode cJ0_init_db425 62 = .ok (.putfield 9, 3) := by decide +kernel
theorem dJ0_init_db425_65 : decode cJ0_init_db425 65 = .ok (.aload_n 0, 1) := by decide +kernel
theorem dJ0_init_db425_66 : decode cJ0_init_db425 66 = .ok (.aload_n 0, 1) := by decide +kernel
theorem dJ0_init_db425_67 : decode cJ0_init_db425 67 = .ok (.getfield 9, 3) := by decide +kernel
theorem dJ0_init_db425_70 : decode cJ0_init_db425 70 = .ok (.iload 4, 2) := by decide +kernel
theorem dJ0_init_db425_72 : decode cJ0_init_db425 72 = .ok (.invokestatic 47, 3) := by decide +kernel
theorem dJ0_init_db425_75 : decode cJ0_init_db425 75 = .ok (.putfield 15, 3) := by decide +kernel
theorem dJ0_init_db425_78 : decode cJ0_init_db425 78 = .ok (.return_, 1) := by decide +kernel
theorem dJ0_init_db425_79 : decode cJ0_init_db425 79 = .ok (.aload_n 0, 1) := by decide +kernel
theorem dJ0_init_db425_80 : decode cJ0_init_db425 80 = .ok (.iconst 1, 1) := by decide +kernel
theorem dJ0_init_db425_81 : decode cJ0_init_db425 81 = .ok (.putfield 15, 3) := by decide +kernel
theorem dJ0_init_db425_84 : decode cJ0_init_db425 84 = .ok (.aload_n 0, 1) := by decide +kernel
theorem dJ0_init_db425_85 : decode cJ0_init_db425 85 = .ok (.aload_n 3, 1) := by decide +kernel
theorem dJ0_init_db425_86 : decode cJ0_init_db425 86 = .ok (.iconst 0, 1) := by decide +kernel
theorem dJ0_init_db425_87 : decode cJ0_init_db425 87 = .ok (.iload 4, 2) := by decide +kernel
theorem dJ0_init_db425_89 : decode cJ0_init_db425 89 = .ok (.iconst 1, 1) := by decide +kernel
theorem dJ0_init_db425_90 : decode cJ0_init_db425 90 = .ok (.ishl, 1) := by decide +kernel
theorem dJ0_init_db425_91 : decode cJ0_init_db425 91 = .ok (.invokestatic 54, 3) := by decide +kernel
theorem dJ0_init_db425_94 : decode cJ0_init_db425 94 = .ok (.putfield 9, 3) := by decide +kernel
theorem dJ0_init_db425_97 : decode cJ0_init_db425 97 = .ok (.return_, 1) := by decide +kernel
theorem dJ0_coder_7d493_0 : decode cJ0_coder_7d493 0 = .ok (.getstatic 38, 3) := by decide +kernel
theorem dJ0_coder_7d493_3 : decode cJ0_coder_7d493 3 = .ok (.ifCond .eq 10, 3) := by decide +kernel
theorem dJ0_coder_7d493_6 : decode cJ0_coder_7d493 6 = .ok (.aload_n 0, 1) := by decide +kernel
theorem dJ0_coder_7d493_7 : decode cJ0_coder_7d493 7 = .ok (.getfield 15, 3) := by decide +kernel
theorem dJ0_coder_7d493_10 : decode cJ0_coder_7d493 10 = .ok (.goto 4, 3) := by decide +kernel
theorem dJ0_coder_7d493_13 : decode cJ0_coder_7d493 13 = .ok (.iconst 1, 1) := by decide +kernel
theorem dJ0_coder_7d493_14 : decode cJ0_coder_7d493 14 = .ok (.ireturn, 1) := by decide +kernel
theorem dJ0_isLatin1_aae02_0 : decode cJ0_isLatin1_aae02 0 = .ok (.getstatic 38, 3) := by decide +kernel
theorem dJ0_isLatin1_aae02_3 : decode cJ0_isLatin1_aae02 3 = .ok (.ifCond .eq 14, 3) := by decide +kernel
theorem dJ0_isLatin1_aae02_6 : decode cJ0_isLatin1_aae02 6 = .ok (.aload_n 0, 1) := by decide +kernel
theorem dJ0_isLatin1_aae02_7 : decode cJ0_isLatin1_aae02 7 = .ok (.getfield 15, 3) := by decide +kernel
theorem dJ0_isLatin1_aae02_10 : decode cJ0_isLatin1_aae02 10 = .ok (.ifCond .ne 7, 3) := by decide +kernel
theorem dJ0_isLatin1_aae02_13 : decode cJ0_isLatin1_aae02 13 = .ok (.iconst 1, 1) := by decide +kernel
theorem dJ0_isLatin1_aae02_14 : decode cJ0_isLatin1_aae02 14 = .ok (.goto 4, 3) := by decide +kernel
theorem dJ0_isLatin1_aae02_17 : decode cJ0_isLatin1_aae02 17 = .ok (.iconst 0, 1) := by decide +kernel
theorem dJ0_isLatin1_aae02_18 : decode cJ0_isLatin1_aae02 18 = .ok (.ireturn, 1) := by decide +kernel
theorem dJ0_checkIndex_df160_0 : decode cJ0_checkIndex_df160 0 = .ok (.iload_n 0, 1) := by decide +kernel
theorem dJ0_checkIndex_df160_1 : decode cJ0_checkIndex_df160 1 = .ok (.iload_n 1, 1) := by decide +kernel
theorem dJ0_checkIndex_df160_2 : decode cJ0_checkIndex_df160 2 = .ok (.getstatic 1053, 3) := by decide +kernel
theorem dJ0_checkIndex_df160_5 : decode cJ0_checkIndex_df160 5 = .ok (.invokestatic 1059, 3) := by decide +kernel
theorem dJ0_checkIndex_df160_8 : decode cJ0_checkIndex_df160 8 = .ok (.pop, 1) := by decide +kernel
theorem dJ0_checkIndex_df160_9 : decode cJ0_checkIndex_df160 9 = .ok (.return_, 1) := by decide +kernel
theorem dJ0_checkBoundsOffCount_cabcc_0 : decode cJ0_checkBoundsOffCount_cabcc 0 = .ok (.iload_n 0, 1) := by decide +kernel
theorem dJ0_checkBoundsOffCount_cabcc_1 : decode cJ0_checkBoundsOffCount_cabcc 1 = .ok (.iload_n 1, 1) := by decide +kernel
theorem dJ0_checkBoundsOffCount_cabcc_2 : decode cJ0_checkBoundsOffCount_cabcc 2 = .ok (.iload_n 2, 1) := by decide +kernel
theorem dJ0_checkBoundsOffCount_cabcc_3 : decode cJ0_checkBoundsOffCount_cabcc 3 = .ok (.getstatic 1053, 3) := by decide +kernel
theorem dJ0_checkBoundsOffCount_cabcc_6 : decode cJ0_checkBoundsOffCount_cabcc 6 = .ok (.invokestatic 1065, 3) := by decide +kernel
theorem dJ0_checkBoundsOffCount_cabcc_9 : decode cJ0_checkBoundsOffCount_cabcc 9 = .ok (.ireturn, 1) := by decide +kernel
theorem dJ0_checkBoundsBeginEnd_23922_0 : decode cJ0_checkBoundsBeginEnd_23922 0 = .ok (.iload_n 0, 1) := by decide +kernel
theorem dJ0_checkBoundsBeginEnd_23922_1 : decode cJ0_checkBoundsBeginEnd_23922 1 = .ok (.iload_n 1, 1) := by decide +kernel
theorem dJ0_checkBoundsBeginEnd_23922_2 : decode cJ0_checkBoundsBeginEnd_23922 2 = .ok (.iload_n 2, 1) := by decide +kernel
theorem dJ0_checkBoundsBeginEnd_23922_3 : decode cJ0_checkBoundsBeginEnd_23922 3 = .ok (.getstatic 1053, 3) := by decide +kernel
theorem dJ0_checkBoundsBeginEnd_23922_6 : decode cJ0_checkBoundsBeginEnd_23922 6 = .ok (.invokestatic 1062, 3) := by decide +kernel
theorem dJ0_checkBoundsBeginEnd_23922_9 : decode cJ0_checkBoundsBeginEnd_23922 9 = .ok (.pop, 1) := by decide +kernel
theorem dJ0_checkBoundsBeginEnd_23922_10 : decode cJ0_checkBoundsBeginEnd_23922 10 = .ok (.return_, 1) := by decide +kernel
theorem dJ4_init_da8c8_0 : decode cJ4_init_da8c8 0 = .ok (.aload_n 0, 1) := by decide +kernel
theorem dJ4_init_da8c8_1 : decode cJ4_init_da8c8 1 = .ok (.bipush 16, 2) := by decide +kernel
theorem dJ4_init_da8c8_3 : decode cJ4_init_da8c8 3 = .ok (.invokespecial 1, 3) := by decide +kernel
theorem dJ4_init_da8c8_6 : decode cJ4_init_da8c8 6 = .ok (.return_, 1) := by decide +kernel
theorem dJ4_append_15ec4_0 : decode cJ4_append_15ec4 0 = .ok (.aload_n 0, 1) := by decide +kernel
theorem dJ4_append_15ec4_1 : decode cJ4_append_15ec4 1 = .ok (.aload_n 1, 1) := by decide +kernel
theorem dJ4_append_15ec4_2 : decode cJ4_append_15ec4 2 = .ok (.invokespecial 29, 3) := by decide +kernel
theorem dJ4_append_15ec4_5 : decode cJ4_append_15ec4 5 = .ok (.pop, 1) := by decide +kernel
theorem dJ4_append_15ec4_6 : decode cJ4_append_15ec4 6 = .ok (.aload_n 0, 1) := by decide +kernel
theorem dJ4_append_15ec4_7 : decode cJ4_append_15ec4 7 = .ok (.areturn, 1) := by decide +kernel
theorem dJ4_append_cf468_0 : decode cJ4_append_cf468 0 = .ok (.aload_n 0, 1) := by decide +kernel
theorem dJ4_append_cf468_1 : decode cJ4_append_cf468 1 = .ok (.iload_n 1, 1) := by decide +kernel
theorem dJ4_append_cf468_2 : decode cJ4_append_cf468 2 = .ok (.invokespecial 50, 3) := by decide +kernel
theorem dJ4_append_cf468_5 : decode cJ4_append_cf468 5 = .ok (.pop, 1) := by decide +kernel
theorem dJ4_append_cf468_6 : decode cJ4_append_cf468 6 = .ok (.aload_n 0, 1) := by decide +kernel
theorem dJ4_append_cf468_7 : decode cJ4_append_cf468 7 = .ok (.areturn, 1) := by decide +kernel
theorem dJ4_append_bf812_0 : decode cJ4_append_bf812 0 = .ok (.aload_n 0, 1) := by decide +kernel
theorem dJ4_append_bf812_1 : decode cJ4_append_bf812 1 = .ok (.iload_n 1, 1) := by decide +kernel
theorem dJ4_append_bf812_2 : decode cJ4_append_bf812 2 = .ok (.invokespecial 53, 3) := by decide +kernel
theorem dJ4_append_bf812_5 : decode cJ4_append_bf812 5 = .ok (.pop, 1) := by decide +kernel
theorem dJ4_append_bf812_6 : decode cJ4_append_bf812 6 = .ok (.aload_n 0, 1) := by decide +kernel
theorem dJ4_append_bf812_7 : decode cJ4_append_bf812 7 = .ok (.areturn, 1) := by decide +kernel
theorem dJ4_toString_0e30d_0 : decode cJ4_toString_0e30d 0 = .ok (.new 18, 3) := by decide +kernel
theorem dJ4_toString_0e30d_3 : decode cJ4_toString_0e30d 3 = .ok (.dup, 1) := by decide +kernel
theorem dJ4_toString_0e30d_4 : decode cJ4_toString_0e30d 4 = .ok (.aload_n 0, 1) := by decide +kernel
theorem dJ4_toString_0e30d_5 : decode cJ4_toString_0e30d 5 = .ok (.invokespecial 137, 3) := by decide +kernel
theorem dJ4_toString_0e30d_8 : decode cJ4_toString_0e30d 8 = .ok (.areturn, 1) := by decide +kernel
theorem dJ4_length_8abf5_0 : decode cJ4_length_8abf5 0 = .ok (.aload_n 0, 1) := by decide +kernel
theorem dJ4_length_8abf5_1 : decode cJ4_length_8abf5 1 = .ok (.invokespecial 343, 3) := by decide +kernel
theorem dJ4_length_8abf5_4 : decode cJ4_length_8abf5 4 = .ok (.ireturn, 1) := by decide +kernel
theorem dJ1_charAt_3b067_0 : decode cJ1_charAt_3b067 0 = .ok (.iload_n 1, 1) := by decide +kernel
theorem dJ1_charAt_3b067_1 : decode cJ1_charAt_3b067 1 = .ok (.aload_n 0, 1) := by decide +kernel
theorem dJ1_charAt_3b067_2 : decode cJ1_charAt_3b067 2 = .ok (.arraylength, 1) := by decide +kernel
theorem dJ1_charAt_3b067_3 : decode cJ1_charAt_3b067 3 = .ok (.invokestatic 9, 3) := by decide +kernel
theorem dJ1_charAt_3b067_6 : decode cJ1_charAt_3b067 6 = .ok (.aload_n 0, 1) := by decide +kernel
theorem dJ1_charAt_3b067_7 : decode cJ1_charAt_3b067 7 = .ok (.iload_n 1, 1) := by decide +kernel
theorem dJ1_charAt_3b067_8 : decode cJ1_charAt_3b067 8 = .ok (.baload, 1) := by decide +kernel
theorem dJ1_charAt_3b067_9 : decode cJ1_charAt_3b067 9 = .ok (.sipush 255, 3) := by decide +kernel
theorem dJ1_charAt_3b067_12 : decode cJ1_charAt_3b067 12 = .ok (.iand, 1) := by decide +kernel
theorem dJ1_charAt_3b067_13 : decode cJ1_charAt_3b067 13 = .ok (.i2c, 1) := by decide +kernel
theorem dJ1_charAt_3b067_14 : decode cJ1_charAt_3b067 14 = .ok (.ireturn, 1) := by decide +kernel
theorem dJ1_canEncode_fc78d_0 : decode cJ1_canEncode_fc78d 0 = .ok (.iload_n 0, 1) := by decide +kernel
theorem dJ1_canEncode_fc78d_1 : decode cJ1_canEncode_fc78d 1 = .ok (.sipush 255, 3) := by decide +kernel
theorem dJ1_canEncode_fc78d_4 : decode cJ1_canEncode_fc78d 4 = .ok (.if_icmp .gt 7, 3) := by decide +kernel
theorem dJ1_canEncode_fc78d_7 : decode cJ1_canEncode_fc78d 7 = .ok (.iconst 1, 1) := by decide +kernel
theorem dJ1_canEncode_fc78d_8 : decode cJ1_canEncode_fc78d 8 = .ok (.goto 4, 3) := by decide +kernel
theorem dJ1_canEncode_fc78d_11 : decode cJ1_canEncode_fc78d 11 = .ok (.iconst 0, 1) := by decide +kernel
theorem dJ1_canEncode_fc78d_12 : decode cJ1_canEncode_fc78d 12 = .ok (.ireturn, 1) := by decide +kernel
theorem dJ1_inflate_0e8fd_0 : decode cJ1_inflate_0e8fd 0 = .ok (.aload_n 0, 1) := by decide +kernel
theorem dJ1_inflate_0e8fd_1 : decode cJ1_inflate_0e8fd 1 = .ok (.iload_n 1, 1) := by decide +kernel
theorem dJ1_inflate_0e8fd_2 : decode cJ1_inflate_0e8fd 2 = .ok (.aload_n 2, 1) := by decide +kernel
theorem dJ1_inflate_0e8fd_3 : decode cJ1_inflate_0e8fd 3 = .ok (.iload_n 3, 1) := by decide +kernel
theorem dJ1_inflate_0e8fd_4 : decode cJ1_inflate_0e8fd 4 = .ok (.iload 4, 2) := by decide +kernel
theorem dJ1_inflate_0e8fd_6 : decode cJ1_inflate_0e8fd 6 = .ok (.invokestatic 240, 3) := by decide +kernel
theorem dJ1_inflate_0e8fd_9 : decode cJ1_inflate_0e8fd 9 = .ok (.return_, 1) := by decide +kernel
theorem dJ2_newBytesFor_77867_0 : decode cJ2_newBytesFor_77867 0 = .ok (.iload_n 0, 1) := by decide +kernel
theorem dJ2_newBytesFor_77867_1 : decode cJ2_newBytesFor_77867 1 = .ok (.invokestatic 11, 3) := by decide +kernel
theorem dJ2_newBytesFor_77867_4 : decode cJ2_newBytesFor_77867 4 = .ok (.newarray .byte, 2) := by decide +kernel
theorem dJ2_newBytesFor_77867_6 : decode cJ2_newBytesFor_77867 6 = .ok (.areturn, 1) := by decide +kernel
theorem dJ2_newBytesLength_0f7a4_0 : decode cJ2_newBytesLength_0f7a4 0 = .ok (.iload_n 0, 1) := by decide +kernel
theorem dJ2_newBytesLength_0f7a4_1 : decode cJ2_newBytesLength_0f7a4 1 = .ok (.ifCond .ge 11, 3) := by decide +kernel
theorem dJ2_newBytesLength_0f7a4_4 : decode cJ2_newBytesLength_0f7a4 4 = .ok (.new 17, 3) := by decide +kernel
theorem dJ2_newBytesLength_0f7a4_7 : decode cJ2_newBytesLength_0f7a4 7 = .ok (.dup, 1) := by decide +kernel
theorem dJ2_newBytesLength_0f7a4_8 : decode cJ2_newBytesLength_0f7a4 8 = .ok (.invokespecial 19, 3) := by decide +kernel
theorem dJ2_newBytesLength_0f7a4_11 : decode cJ2_newBytesLength_0f7a4 11 = .ok (.athrow, 1) := by decide +kernel
theorem dJ2_newBytesLength_0f7a4_12 : decode cJ2_newBytesLength_0f7a4 12 = .ok (.iload_n 0, 1) := by decide +kernel
theorem dJ2_newBytesLength_0f7a4_13 : decode cJ2_newBytesLength_0f7a4 13 = .ok (.ldc 20, 2) := by decide +kernel
theorem dJ2_newBytesLength_0f7a4_15 : decode cJ2_newBytesLength_0f7a4 15 = .ok (.if_icmp .lt 40, 3) := by decide +kernel
theorem dJ2_newBytesLength_0f7a4_18 : decode cJ2_newBytesLength_0f7a4 18 = .ok (.new 21, 3) := by decide +kernel
theorem dJ2_newBytesLength_0f7a4_21 : decode cJ2_newBytesLength_0f7a4 21 = .ok (.dup, 1) := by decide +kernel
theorem dJ2_newBytesLength_0f7a4_22 : decode cJ2_newBytesLength_0f7a4 22 = .ok (.new 23, 3) := by decide +kernel
theorem dJ2_newBytesLength_0f7a4_25 : decode cJ2_newBytesLength_0f7a4 25 = .ok (.dup, 1) := by decide +kernel
theorem dJ2_newBytesLength_0f7a4_26 : decode cJ2_newBytesLength_0f7a4 26 = .ok (.invokespecial 25, 3) := by decide +kernel
theorem dJ2_newBytesLength_0f7a4_29 : decode cJ2_newBytesLength_0f7a4 29 = .ok (.ldc 26, 2) := by decide +kernel
theorem dJ2_newBytesLength_0f7a4_31 : decode cJ2_newBytesLength_0f7a4 31 = .ok (.invokevirtual 28, 3) := by decide +kernel
theorem dJ2_newBytesLength_0f7a4_34 : decode cJ2_newBytesLength_0f7a4 34 = .ok (.iload_n 0, 1) := by decide +kernel
theorem dJ2_newBytesLength_0f7a4_35 : decode cJ2_newBytesLength_0f7a4 35 = .ok (.invokevirtual 32, 3) := by decide +kernel
theorem dJ2_newBytesLength_0f7a4_38 : decode cJ2_newBytesLength_0f7a4 38 = .ok (.ldc 35, 2) := by decide +kernel
theorem dJ2_newBytesLength_0f7a4_40 : decode cJ2_newBytesLength_0f7a4 40 = .ok (.invokevirtual 28, 3) := by decide +kernel
theorem dJ2_newBytesLength_0f7a4_43 : decode cJ2_newBytesLength_0f7a4 43 = .ok (.ldc 20, 2) := by decide +kernel
theorem dJ2_newBytesLength_0f7a4_45 : decode cJ2_newBytesLength_0f7a4 45 = .ok (.invokevirtual 32, 3) := by decide +kernel
theorem dJ2_newBytesLength_0f7a4_48 : decode cJ2_newBytesLength_0f7a4 48 = .ok (.invokevirtual 37, 3) := by decide +kernel
theorem dJ2_newBytesLength_0f7a4_51 : decode cJ2_newBytesLength_0f7a4 51 = .ok (.invokespecial 41, 3) := by decide +kernel
theorem dJ2_newBytesLength_0f7a4_54 : decode cJ2_newBytesLength_0f7a4 54 = .ok (.athrow, 1) := by decide +kernel
theorem dJ2_newBytesLength_0f7a4_55 : decode cJ2_newBytesLength_0f7a4 55 = .ok (.iload_n 0, 1) := by decide +kernel
theorem dJ2_newBytesLength_0f7a4_56 : decode cJ2_newBytesLength_0f7a4 56 = .ok (.iconst 1, 1) := by decide +kernel
theorem dJ2_newBytesLength_0f7a4_57 : decode cJ2_newBytesLength_0f7a4 57 = .ok (.ishl, 1) := by decide +kernel
theorem dJ2_newBytesLength_0f7a4_58 : decode cJ2_newBytesLength_0f7a4 58 = .ok (.ireturn, 1) := by decide +kernel
theorem dJ2_putChar_b72d1_0 : decode cJ2_putChar_b72d1 0 = .ok (.getstatic 44, 3) := by decide +kernel
theorem dJ2_putChar_b72d1_3 : decode cJ2_putChar_b72d1 3 = .ok (.ifCond .ne 25, 3) := by decide +kernel
theorem dJ2_putChar_b72d1_6 : decode cJ2_putChar_b72d1 6 = .ok (.iload_n 1, 1) := by decide +kernel
theorem dJ2_putChar_b72d1_7 : decode cJ2_putChar_b72d1 7 = .ok (.ifCond .lt 11, 3) := by decide +kernel
theorem dJ2_putChar_b72d1_10 : decode cJ2_putChar_b72d1 10 = .ok (.iload_n 1, 1) := by decide +kernel
theorem dJ2_putChar_b72d1_11 : decode cJ2_putChar_b72d1 11 = .ok (.aload_n 0, 1) := by decide +kernel
theorem dJ2_putChar_b72d1_12 : decode cJ2_putChar_b72d1 12 = .ok (.invokestatic 48, 3) := by decide +kernel
theorem dJ2_putChar_b72d1_15 : decode cJ2_putChar_b72d1 15 = .ok (.if_icmp .lt 13, 3) := by decide +kernel
theorem dJ2_putChar_b72d1_18 : decode cJ2_putChar_b72d1 18 = .ok (.new 52, 3) := by decide +kernel
theorem dJ2_putChar_b72d1_21 : decode cJ2_putChar_b72d1 21 = .ok (.dup, 1) := by decide +kernel
theorem dJ2_putChar_b72d1_22 : decode cJ2_putChar_b72d1 22 = .ok (.ldc 54, 2) := by decide +kernel
theorem dJ2_putChar_b72d1_24 : decode cJ2_putChar_b72d1 24 = .ok (.invokespecial 56, 3) := by decide +kernel
theorem dJ2_putChar_b72d1_27 : decode cJ2_putChar_b72d1 27 = .ok (.athrow, 1) := by decide +kernel
theorem dJ2_putChar_b72d1_28 : decode cJ2_putChar_b72d1 28 = .ok (.iload_n 1, 1) := by decide +kernel
theorem dJ2_putChar_b72d1_29 : decode cJ2_putChar_b72d1 29 = .ok (.iconst 1, 1) := by decide +kernel
theorem dJ2_putChar_b72d1_30 : decode cJ2_putChar_b72d1 30 = .ok (.ishl, 1) := by decide +kernel
theorem dJ2_putChar_b72d1_31 : decode cJ2_putChar_b72d1 31 = .ok (.istore_n 1, 1) := by decide +kernel
theorem dJ2_putChar_b72d1_32 : decode cJ2_putChar_b72d1 32 = .ok (.aload_n 0, 1) := by decide +kernel
theorem dJ2_putChar_b72d1_33 : decode cJ2_putChar_b72d1 33 = .ok (.iload_n 1, 1) := by decide +kernel
theorem dJ2_putChar_b72d1_34 : decode cJ2_putChar_b72d1 34 = .ok (.iinc 1 1, 3) := by decide +kernel
theorem dJ2_putChar_b72d1_37 : decode cJ2_putChar_b72d1 37 = .ok (.iload_n 2, 1) := by decide +kernel
theorem dJ2_putChar_b72d1_38 : decode cJ2_putChar_b72d1 38 = .ok (.getstatic 59, 3) := by decide +kernel
theorem dJ2_putChar_b72d1_41 : decode cJ2_putChar_b72d1 41 = .ok (.ishr, 1) := by decide +kernel
theorem dJ2_putChar_b72d1_42 : decode cJ2_putChar_b72d1 42 = .ok (.i2b, 1) := by decide +kernel
theorem dJ2_putChar_b72d1_43 : decode cJ2_putChar_b72d1 43 = .ok (.bastore, 1) := by decide +kernel
theorem dJ2_putChar_b72d1_44 : decode cJ2_putChar_b72d1 44 = .ok (.aload_n 0, 1) := by decide +kernel
theorem dJ2_putChar_b72d1_45 : decode cJ2_putChar_b72d1 45 = .ok (.iload_n 1, 1) := by decide +kernel
theorem dJ2_putChar_b72d1_46 : decode cJ2_putChar_b72d1 46 = .ok (.iload_n 2, 1) := by decide +kernel
theorem dJ2_putChar_b72d1_47 : decode cJ2_putChar_b72d1 47 = .ok (.getstatic 63, 3) := by decide +kernel
theorem dJ2_putChar_b72d1_50 : decode cJ2_putChar_b72d1 50 = .ok (.ishr, 1) := by decide +kernel
theorem dJ2_putChar_b72d1_51 : decode cJ2_putChar_b72d1 51 = .ok (.i2b, 1) := by decide +kernel
theorem dJ2_putChar_b72d1_52 : decode cJ2_putChar_b72d1 52 = .ok (.bastore, 1) := by decide +kernel
theorem dJ2_putChar_b72d1_53 : decode cJ2_putChar_b72d1 53 = .ok (.return_, 1) := by decide +kernel
theorem dJ2_getChar_3b067_0 : decode cJ2_getChar_3b067 0 = .ok (.getstatic 44, 3) := by decide +kernel
theorem dJ2_getChar_3b067_3 : decode cJ2_getChar_3b067 3 = .ok (.ifCond .ne 25, 3) := by decide +kernel
theorem dJ2_getChar_3b067_6 : decode cJ2_getChar_3b067 6 = .ok (.iload_n 1, 1) := by decide +kernel
theorem dJ2_getChar_3b067_7 : decode cJ2_getChar_3b067 7 = .ok (.ifCond .lt 11, 3) := by decide +kernel
theorem dJ2_getChar_3b067_10 : decode cJ2_getChar_3b067 10 = .ok (.iload_n 1, 1) := by decide +kernel
theorem dJ2_getChar_3b067_11 : decode cJ2_getChar_3b067 11 = .ok (.aload_n 0, 1) := by decide +kernel
theorem dJ2_getChar_3b067_12 : decode cJ2_getChar_3b067 12 = .ok (.invokestatic 48, 3) := by decide +kernel
theorem dJ2_getChar_3b067_15 : decode cJ2_getChar_3b067 15 = .ok (.if_icmp .lt 13, 3) := by decide +kernel
theorem dJ2_getChar_3b067_18 : decode cJ2_getChar_3b067 18 = .ok (.new 52, 3) := by decide +kernel
theorem dJ2_getChar_3b067_21 : decode cJ2_getChar_3b067 21 = .ok (.dup, 1) := by decide +kernel
theorem dJ2_getChar_3b067_22 : decode cJ2_getChar_3b067 22 = .ok (.ldc 54, 2) := by decide +kernel
theorem dJ2_getChar_3b067_24 : decode cJ2_getChar_3b067 24 = .ok (.invokespecial 56, 3) := by decide +kernel
theorem dJ2_getChar_3b067_27 : decode cJ2_getChar_3b067 27 = .ok (.athrow, 1) := by decide +kernel
theorem dJ2_getChar_3b067_28 : decode cJ2_getChar_3b067 28 = .ok (.iload_n 1, 1) := by decide +kernel
theorem dJ2_getChar_3b067_29 : decode cJ2_getChar_3b067 29 = .ok (.iconst 1, 1) := by decide +kernel
theorem dJ2_getChar_3b067_30 : decode cJ2_getChar_3b067 30 = .ok (.ishl, 1) := by decide +kernel
theorem dJ2_getChar_3b067_31 : decode cJ2_getChar_3b067 31 = .ok (.istore_n 1, 1) := by decide +kernel
theorem dJ2_getChar_3b067_32 : decode cJ2_getChar_3b067 32 = .ok (.aload_n 0, 1) := by decide +kernel
theorem dJ2_getChar_3b067_33 : decode cJ2_getChar_3b067 33 = .ok (.iload_n 1, 1) := by decide +kernel
theorem dJ2_getChar_3b067_34 : decode cJ2_getChar_3b067 34 = .ok (.iinc 1 1, 3) := by decide +kernel
theorem dJ2_getChar_3b067_37 : decode cJ2_getChar_3b067 37 = .ok (.baload, 1) := by decide +kernel
theorem dJ2_getChar_3b067_38 : decode cJ2_getChar_3b067 38 = .ok (.sipush 255, 3) := by decide +kernel
theorem dJ2_getChar_3b067_41 : decode cJ2_getChar_3b067 41 = .ok (.iand, 1) := by decide +kernel
theorem dJ2_getChar_3b067_42 : decode cJ2_getChar_3b067 42 = .ok (.getstatic 59, 3) := by decide +kernel
theorem dJ2_getChar_3b067_45 : decode cJ2_getChar_3b067 45 = .ok (.ishl, 1) := by decide +kernel
theorem dJ2_getChar_3b067_46 : decode cJ2_getChar_3b067 46 = .ok (.aload_n 0, 1) := by decide +kernel
theorem dJ2_getChar_3b067_47 : decode cJ2_getChar_3b067 47 = .ok (.iload_n 1, 1) := by decide +kernel
theorem dJ2_getChar_3b067_48 : decode cJ2_getChar_3b067 48 = .ok (.baload, 1) := by decide +kernel
theorem dJ2_getChar_3b067_49 : decode cJ2_getChar_3b067 49 = .ok (.sipush 255, 3) := by decide +kernel
theorem dJ2_getChar_3b067_52 : decode cJ2_getChar_3b067 52 = .ok (.iand, 1) := by decide +kernel
theorem dJ2_getChar_3b067_53 : decode cJ2_getChar_3b067 53 = .ok (.getstatic 63, 3) := by decide +kernel
theorem dJ2_getChar_3b067_56 : decode cJ2_getChar_3b067 56 = .ok (.ishl, 1) := by decide +kernel
theorem dJ2_getChar_3b067_57 : decode cJ2_getChar_3b067 57 = .ok (.ior, 1) := by decide +kernel
theorem dJ2_getChar_3b067_58 : decode cJ2_getChar_3b067 58 = .ok (.i2c, 1) := by decide +kernel
theorem dJ2_getChar_3b067_59 : decode cJ2_getChar_3b067 59 = .ok (.ireturn, 1) := by decide +kernel
theorem dJ2_length_9d52b_0 : decode cJ2_length_9d52b 0 = .ok (.aload_n 0, 1) := by decide +kernel
theorem dJ2_length_9d52b_1 : decode cJ2_length_9d52b 1 = .ok (.arraylength, 1) := by decide +kernel
theorem dJ2_length_9d52b_2 : decode cJ2_length_9d52b 2 = .ok (.iconst 1, 1) := by decide +kernel
theorem dJ2_length_9d52b_3 : decode cJ2_length_9d52b 3 = .ok (.ishr, 1) := by decide +kernel
theorem dJ2_length_9d52b_4 : decode cJ2_length_9d52b 4 = .ok (.ireturn, 1) := by decide +kernel
theorem dJ2_coderFromArrayLen_85cad_0 : decode cJ2_coderFromArrayLen_85cad 0 = .ok (.iload_n 1, 1) := by decide +kernel
theorem dJ2_coderFromArrayLen_85cad_1 : decode cJ2_coderFromArrayLen_85cad 1 = .ok (.aload_n 0, 1) := by decide +kernel
theorem dJ2_coderFromArrayLen_85cad_2 : decode cJ2_coderFromArrayLen_85cad 2 = .ok (.arraylength, 1) := by decide +kernel
theorem dJ2_coderFromArrayLen_85cad_3 : decode cJ2_coderFromArrayLen_85cad 3 = .ok (.isub, 1) := by decide +kernel
theorem dJ2_coderFromArrayLen_85cad_4 : decode cJ2_coderFromArrayLen_85cad 4 = .ok (.bipush 31, 2) := by decide +kernel
theorem dJ2_coderFromArrayLen_85cad_6 : decode cJ2_coderFromArrayLen_85cad 6 = .ok (.iushr, 1) := by decide +kernel
theorem dJ2_coderFromArrayLen_85cad_7 : decode cJ2_coderFromArrayLen_85cad 7 = .ok (.i2b, 1) := by decide +kernel
theorem dJ2_coderFromArrayLen_85cad_8 : decode cJ2_coderFromArrayLen_85cad 8 = .ok (.ireturn, 1) := by decide +kernel
theorem dJ2_compress_39247_0 : decode cJ2_compress_39247 0 = .ok (.iload_n 2, 1) := by decide +kernel
theorem dJ2_compress_39247_1 : decode cJ2_compress_39247 1 = .ok (.newarray .byte, 2) := by decide +kernel
theorem dJ2_compress_39247_3 : decode cJ2_compress_39247 3 = .ok (.astore_n 3, 1) := by decide +kernel
theorem dJ2_compress_39247_4 : decode cJ2_compress_39247 4 = .ok (.aload_n 0, 1) := by decide +kernel
theorem dJ2_compress_39247_5 : decode cJ2_compress_39247 5 = .ok (.iload_n 1, 1) := by decide +kernel
theorem dJ2_compress_39247_6 : decode cJ2_compress_39247 6 = .ok (.aload_n 3, 1) := by decide +kernel
theorem dJ2_compress_39247_7 : decode cJ2_compress_39247 7 = .ok (.iconst 0, 1) := by decide +kernel
theorem dJ2_compress_39247_8 : decode cJ2_compress_39247 8 = .ok (.iload_n 2, 1) := by decide +kernel
theorem dJ2_compress_39247_9 : decode cJ2_compress_39247 9 = .ok (.invokestatic 123, 3) := by decide +kernel
theorem dJ2_compress_39247_12 : decode cJ2_compress_39247 12 = .ok (.istore 4, 2) := by decide +kernel
theorem dJ2_compress_39247_14 : decode cJ2_compress_39247 14 = .ok (.iload 4, 2) := by decide +kernel
theorem dJ2_compress_39247_16 : decode cJ2_compress_39247 16 = .ok (.iload_n 2, 1) := by decide +kernel
theorem dJ2_compress_39247_17 : decode cJ2_compress_39247 17 = .ok (.if_icmp .eq 47, 3) := by decide +kernel
theorem dJ2_compress_39247_20 : decode cJ2_compress_39247 20 = .ok (.aload_n 0, 1) := by decide +kernel
theorem dJ2_compress_39247_21 : decode cJ2_compress_39247 21 = .ok (.iload_n 1, 1) := by decide +kernel
theorem dJ2_compress_39247_22 : decode cJ2_compress_39247 22 = .ok (.iconst 1, 1) := by decide +kernel
theorem dJ2_compress_39247_23 : decode cJ2_compress_39247 23 = .ok (.ishl, 1) := by decide +kernel
theorem dJ2_compress_39247_24 : decode cJ2_compress_39247 24 = .ok (.iload_n 1, 1) := by decide +kernel
theorem dJ2_compress_39247_25 : decode cJ2_compress_39247 25 = .ok (.iload_n 2, 1) := by decide +kernel
theorem dJ2_compress_39247_26 : decode cJ2_compress_39247 26 = .ok (.iadd, 1) := by decide +kernel
theorem dJ2_compress_39247_27 : decode cJ2_compress_39247 27 = .ok (.invokestatic 11, 3) := by decide +kernel
theorem dJ2_compress_39247_30 : decode cJ2_compress_39247 30 = .ok (.invokestatic 126, 3) := by decide +kernel
theorem dJ2_compress_39247_33 : decode cJ2_compress_39247 33 = .ok (.astore 5, 2) := by decide +kernel
theorem dJ2_compress_39247_35 : decode cJ2_compress_39247 35 = .ok (.aload 5, 2) := by decide +kernel
theorem dJ2_compress_39247_37 : decode cJ2_compress_39247 37 = .ok (.iload 4, 2) := by decide +kernel
theorem dJ2_compress_39247_39 : decode cJ2_compress_39247 39 = .ok (.invokestatic 71, 3) := by decide +kernel
theorem dJ2_compress_39247_42 : decode cJ2_compress_39247 42 = .ok (.sipush 255, 3) := by decide +kernel
theorem dJ2_compress_39247_45 : decode cJ2_compress_39247 45 = .ok (.if_icmp .gt 16, 3) := by decide +kernel
theorem dJ2_compress_39247_48 : decode cJ2_compress_39247 48 = .ok (.aload 5, 2) := by decide +kernel
theorem dJ2_compress_39247_50 : decode cJ2_compress_39247 50 = .ok (.iconst 0, 1) := by decide +kernel
theorem dJ2_compress_39247_51 : decode cJ2_compress_39247 51 = .ok (.aload_n 3, 1) := by decide +kernel
theorem dJ2_compress_39247_52 : decode cJ2_compress_39247 52 = .ok (.iconst 0, 1) := by decide +kernel
theorem dJ2_compress_39247_53 : decode cJ2_compress_39247 53 = .ok (.iload_n 2, 1) := by decide +kernel
theorem dJ2_compress_39247_54 : decode cJ2_compress_39247 54 = .ok (.invokestatic 123, 3) := by decide +kernel
theorem dJ2_compress_39247_57 : decode cJ2_compress_39247 57 = .ok (.iload_n 2, 1) := by decide +kernel
theorem dJ2_compress_39247_58 : decode cJ2_compress_39247 58 = .ok (.if_icmp .eq 6, 3) := by decide +kernel
theorem dJ2_compress_39247_61 : decode cJ2_compress_39247 61 = .ok (.aload 5, 2) := by decide +kernel
theorem dJ2_compress_39247_63 : decode cJ2_compress_39247 63 = .ok (.areturn, 1) := by decide +kernel
theorem dJ2_compress_39247_64 : decode cJ2_compress_39247 64 = .ok (.aload_n 3, 1) := by decide +kernel
theorem dJ2_compress_39247_65 : decode cJ2_compress_39247 65 = .ok (.areturn, 1) := by decide +kernel
theorem dJ2_compress_5af95_0 : decode cJ2_compress_5af95 0 = .ok (.iload_n 1, 1) := by decide +kernel
theorem dJ2_compress_5af95_1 : decode cJ2_compress_5af95 1 = .ok (.iload 4, 2) := by decide +kernel
theorem dJ2_compress_5af95_3 : decode cJ2_compress_5af95 3 = .ok (.aload_n 0, 1) := by decide +kernel
theorem dJ2_compress_5af95_4 : decode cJ2_compress_5af95 4 = .ok (.invokestatic 173, 3) := by decide +kernel
theorem dJ2_compress_5af95_7 : decode cJ2_compress_5af95 7 = .ok (.iconst 0, 1) := by decide +kernel
theorem dJ2_compress_5af95_8 : decode cJ2_compress_5af95 8 = .ok (.istore 5, 2) := by decide +kernel
theorem dJ2_compress_5af95_10 : decode cJ2_compress_5af95 10 = .ok (.iload 5, 2) := by decide +kernel
theorem dJ2_compress_5af95_12 : decode cJ2_compress_5af95 12 = .ok (.iload 4, 2) := by decide +kernel
theorem dJ2_compress_5af95_14 : decode cJ2_compress_5af95 14 = .ok (.if_icmp .ge 39, 3) := by decide +kernel
theorem dJ2_compress_5af95_17 : decode cJ2_compress_5af95 17 = .ok (.aload_n 0, 1) := by decide +kernel
theorem dJ2_compress_5af95_18 : decode cJ2_compress_5af95 18 = .ok (.iload_n 1, 1) := by decide +kernel
theorem dJ2_compress_5af95_19 : decode cJ2_compress_5af95 19 = .ok (.invokestatic 71, 3) := by decide +kernel
theorem dJ2_compress_5af95_22 : decode cJ2_compress_5af95 22 = .ok (.istore 6, 2) := by decide +kernel
theorem dJ2_compress_5af95_24 : decode cJ2_compress_5af95 24 = .ok (.iload 6, 2) := by decide +kernel
theorem dJ2_compress_5af95_26 : decode cJ2_compress_5af95 26 = .ok (.sipush 255, 3) := by decide +kernel
theorem dJ2_compress_5af95_29 : decode cJ2_compress_5af95 29 = .ok (.if_icmp .le 6, 3) := by decide +kernel
theorem dJ2_compress_5af95_32 : decode cJ2_compress_5af95 32 = .ok (.iload 5, 2) := by decide +kernel
theorem dJ2_compress_5af95_34 : decode cJ2_compress_5af95 34 = .ok (.ireturn, 1) := by decide +kernel
theorem dJ2_compress_5af95_35 : decode cJ2_compress_5af95 35 = .ok (.aload_n 2, 1) := by decide +kernel
theorem dJ2_compress_5af95_36 : decode cJ2_compress_5af95 36 = .ok (.iload_n 3, 1) := by decide +kernel
theorem dJ2_compress_5af95_37 : decode cJ2_compress_5af95 37 = .ok (.iload 6, 2) := by decide +kernel
theorem dJ2_compress_5af95_39 : decode cJ2_compress_5af95 39 = .ok (.i2b, 1) := by decide +kernel
theorem dJ2_compress_5af95_40 : decode cJ2_compress_5af95 40 = .ok (.bastore, 1) := by decide +kernel
theorem dJ2_compress_5af95_41 : decode cJ2_compress_5af95 41 = .ok (.iinc 1 1, 3) := by decide +kernel
theorem dJ2_compress_5af95_44 : decode cJ2_compress_5af95 44 = .ok (.iinc 3 1, 3) := by decide +kernel
theorem dJ2_compress_5af95_47 : decode cJ2_compress_5af95 47 = .ok (.iinc 5 1, 3) := by decide +kernel
theorem dJ2_compress_5af95_50 : decode cJ2_compress_5af95 50 = .ok (.goto (-40), 3) := by decide +kernel
theorem dJ2_compress_5af95_53 : decode cJ2_compress_5af95 53 = .ok (.iload 4, 2) := by decide +kernel
theorem dJ2_compress_5af95_55 : decode cJ2_compress_5af95 55 = .ok (.ireturn, 1) := by decide +kernel
theorem dJ2_putCharSB_b72d1_0 : decode cJ2_putCharSB_b72d1 0 = .ok (.iload_n 1, 1) := by decide +kernel
theorem dJ2_putCharSB_b72d1_1 : decode cJ2_putCharSB_b72d1 1 = .ok (.aload_n 0, 1) := by decide +kernel
theorem dJ2_putCharSB_b72d1_2 : decode cJ2_putCharSB_b72d1 2 = .ok (.invokestatic 67, 3) := by decide +kernel
theorem dJ2_putCharSB_b72d1_5 : decode cJ2_putCharSB_b72d1 5 = .ok (.aload_n 0, 1) := by decide +kernel
theorem dJ2_putCharSB_b72d1_6 : decode cJ2_putCharSB_b72d1 6 = .ok (.iload_n 1, 1) := by decide +kernel
theorem dJ2_putCharSB_b72d1_7 : decode cJ2_putCharSB_b72d1 7 = .ok (.iload_n 2, 1) := by decide +kernel
theorem dJ2_putCharSB_b72d1_8 : decode cJ2_putCharSB_b72d1 8 = .ok (.invokestatic 111, 3) := by decide +kernel
theorem dJ2_putCharSB_b72d1_11 : decode cJ2_putCharSB_b72d1 11 = .ok (.return_, 1) := by decide +kernel
theorem dJ2_getChars_46870_0 : decode cJ2_getChars_46870 0 = .ok (.iload_n 1, 1) := by decide +kernel
theorem dJ2_getChars_46870_1 : decode cJ2_getChars_46870 1 = .ok (.iload_n 2, 1) := by decide +kernel
theorem dJ2_getChars_46870_2 : decode cJ2_getChars_46870 2 = .ok (.aload_n 3, 1) := by decide +kernel
theorem dJ2_getChars_46870_3 : decode cJ2_getChars_46870 3 = .ok (.invokestatic 96, 3) := by decide +kernel
theorem dJ2_getChars_46870_6 : decode cJ2_getChars_46870 6 = .ok (.iload_n 0, 1) := by decide +kernel
theorem dJ2_getChars_46870_7 : decode cJ2_getChars_46870 7 = .ok (.iload_n 2, 1) := by decide +kernel
theorem dJ2_getChars_46870_8 : decode cJ2_getChars_46870 8 = .ok (.aload_n 3, 1) := by decide +kernel
theorem dJ2_getChars_46870_9 : decode cJ2_getChars_46870 9 = .ok (.invokestatic 393, 3) := by decide +kernel
theorem dJ2_getChars_46870_12 : decode cJ2_getChars_46870 12 = .ok (.istore 4, 2) := by decide +kernel
theorem dJ2_getChars_46870_14 : decode cJ2_getChars_46870 14 = .ok (.getstatic 44, 3) := by decide +kernel
theorem dJ2_getChars_46870_17 : decode cJ2_getChars_46870 17 = .ok (.ifCond .ne 17, 3) := by decide +kernel
theorem dJ2_getChars_46870_20 : decode cJ2_getChars_46870 20 = .ok (.iload_n 1, 1) := by decide +kernel
theorem dJ2_getChars_46870_21 : decode cJ2_getChars_46870 21 = .ok (.iload 4, 2) := by decide +kernel
theorem dJ2_getChars_46870_23 : decode cJ2_getChars_46870 23 = .ok (.if_icmp .eq 11, 3) := by decide +kernel
theorem dJ2_getChars_46870_26 : decode cJ2_getChars_46870 26 = .ok (.new 52, 3) := by decide +kernel
theorem dJ2_getChars_46870_29 : decode cJ2_getChars_46870 29 = .ok (.dup, 1) := by decide +kernel
theorem dJ2_getChars_46870_30 : decode cJ2_getChars_46870 30 = .ok (.invokespecial 66, 3) := by decide +kernel
theorem dJ2_getChars_46870_33 : decode cJ2_getChars_46870 33 = .ok (.athrow, 1) := by decide +kernel
theorem dJ2_getChars_46870_34 : decode cJ2_getChars_46870 34 = .ok (.iload 4, 2) := by decide +kernel
theorem dJ2_getChars_46870_36 : decode cJ2_getChars_46870 36 = .ok (.ireturn, 1) := by decide +kernel
theorem dJ2_putCharsAt_cd4e5_0 : decode cJ2_putCharsAt_cd4e5 0 = .ok (.iload_n 1, 1) := by decide +kernel
theorem dJ2_putCharsAt_cd4e5_1 : decode cJ2_putCharsAt_cd4e5 1 = .ok (.iconst 4, 1) := by decide +kernel
theorem dJ2_putCharsAt_cd4e5_2 : decode cJ2_putCharsAt_cd4e5 2 = .ok (.iadd, 1) := by decide +kernel
theorem dJ2_putCharsAt_cd4e5_3 : decode cJ2_putCharsAt_cd4e5 3 = .ok (.istore 6, 2) := by decide +kernel
theorem dJ2_putCharsAt_cd4e5_5 : decode cJ2_putCharsAt_cd4e5 5 = .ok (.iload_n 1, 1) := by decide +kernel
theorem dJ2_putCharsAt_cd4e5_6 : decode cJ2_putCharsAt_cd4e5 6 = .ok (.iload 6, 2) := by decide +kernel
theorem dJ2_putCharsAt_cd4e5_8 : decode cJ2_putCharsAt_cd4e5 8 = .ok (.aload_n 0, 1) := by decide +kernel
theorem dJ2_putCharsAt_cd4e5_9 : decode cJ2_putCharsAt_cd4e5 9 = .ok (.invokestatic 96, 3) := by decide +kernel
theorem dJ2_putCharsAt_cd4e5_12 : decode cJ2_putCharsAt_cd4e5 12 = .ok (.aload_n 0, 1) := by decide +kernel
theorem dJ2_putCharsAt_cd4e5_13 : decode cJ2_putCharsAt_cd4e5 13 = .ok (.iload_n 1, 1) := by decide +kernel
theorem dJ2_putCharsAt_cd4e5_14 : decode cJ2_putCharsAt_cd4e5 14 = .ok (.iinc 1 1, 3) := by decide +kernel
theorem dJ2_putCharsAt_cd4e5_17 : decode cJ2_putCharsAt_cd4e5 17 = .ok (.iload_n 2, 1) := by decide +kernel
theorem dJ2_putCharsAt_cd4e5_18 : decode cJ2_putCharsAt_cd4e5 18 = .ok (.invokestatic 111, 3) := by decide +kernel
theorem dJ2_putCharsAt_cd4e5_21 : decode cJ2_putCharsAt_cd4e5 21 = .ok (.aload_n 0, 1) := by decide +kernel
theorem dJ2_putCharsAt_cd4e5_22 : decode cJ2_putCharsAt_cd4e5 22 = .ok (.iload_n 1, 1) := by decide +kernel
theorem dJ2_putCharsAt_cd4e5_23 : decode cJ2_putCharsAt_cd4e5 23 = .ok (.iinc 1 1, 3) := by decide +kernel
theorem dJ2_putCharsAt_cd4e5_26 : decode cJ2_putCharsAt_cd4e5 26 = .ok (.iload_n 3, 1) := by decide +kernel
theorem dJ2_putCharsAt_cd4e5_27 : decode cJ2_putCharsAt_cd4e5 27 = .ok (.invokestatic 111, 3) := by decide +kernel
theorem dJ2_putCharsAt_cd4e5_30 : decode cJ2_putCharsAt_cd4e5 30 = .ok (.aload_n 0, 1) := by decide +kernel
theorem dJ2_putCharsAt_cd4e5_31 : decode cJ2_putCharsAt_cd4e5 31 = .ok (.iload_n 1, 1) := by decide +kernel
theorem dJ2_putCharsAt_cd4e5_32 : decode cJ2_putCharsAt_cd4e5 32 = .ok (.iinc 1 1, 3) := by decide +kernel
theorem dJ2_putCharsAt_cd4e5_35 : decode cJ2_putCharsAt_cd4e5 35 = .ok (.iload 4, 2) := by decide +kernel
theorem dJ2_putCharsAt_cd4e5_37 : decode cJ2_putCharsAt_cd4e5 37 = .ok (.invokestatic 111, 3) := by decide +kernel
theorem dJ2_putCharsAt_cd4e5_40 : decode cJ2_putCharsAt_cd4e5 40 = .ok (.aload_n 0, 1) := by decide +kernel
theorem dJ2_putCharsAt_cd4e5_41 : decode cJ2_putCharsAt_cd4e5 41 = .ok (.iload_n 1, 1) := by decide +kernel
theorem dJ2_putCharsAt_cd4e5_42 : decode cJ2_putCharsAt_cd4e5 42 = .ok (.iinc 1 1, 3) := by decide +kernel
theorem dJ2_putCharsAt_cd4e5_45 : decode cJ2_putCharsAt_cd4e5 45 = .ok (.iload 5, 2) := by decide +kernel
theorem dJ2_putCharsAt_cd4e5_47 : decode cJ2_putCharsAt_cd4e5 47 = .ok (.invokestatic 111, 3) := by decide +kernel
theorem dJ2_putCharsAt_cd4e5_50 : decode cJ2_putCharsAt_cd4e5 50 = .ok (.getstatic 44, 3) := by decide +kernel
theorem dJ2_putCharsAt_cd4e5_53 : decode cJ2_putCharsAt_cd4e5 53 = .ok (.ifCond .ne 17, 3) := by decide +kernel
theorem dJ2_putCharsAt_cd4e5_56 : decode cJ2_putCharsAt_cd4e5 56 = .ok (.iload_n 1, 1) := by decide +kernel
theorem dJ2_putCharsAt_cd4e5_57 : decode cJ2_putCharsAt_cd4e5 57 = .ok (.iload 6, 2) := by decide +kernel
theorem dJ2_putCharsAt_cd4e5_59 : decode cJ2_putCharsAt_cd4e5 59 = .ok (.if_icmp .eq 11, 3) := by decide +kernel
theorem dJ2_putCharsAt_cd4e5_62 : decode cJ2_putCharsAt_cd4e5 62 = .ok (.new 52, 3) := by decide +kernel
theorem dJ2_putCharsAt_cd4e5_65 : decode cJ2_putCharsAt_cd4e5 65 = .ok (.dup, 1) := by decide +kernel
theorem dJ2_putCharsAt_cd4e5_66 : decode cJ2_putCharsAt_cd4e5 66 = .ok (.invokespecial 66, 3) := by decide +kernel
theorem dJ2_putCharsAt_cd4e5_69 : decode cJ2_putCharsAt_cd4e5 69 = .ok (.athrow, 1) := by decide +kernel
theorem dJ2_putCharsAt_cd4e5_70 : decode cJ2_putCharsAt_cd4e5 70 = .ok (.iload 6, 2) := by decide +kernel
theorem dJ2_putCharsAt_cd4e5_72 : decode cJ2_putCharsAt_cd4e5 72 = .ok (.ireturn, 1) := by decide +kernel
theorem dJ2_charAt_3b067_0 : decode cJ2_charAt_3b067 0 = .ok (.iload_n 1, 1) := by decide +kernel
theorem dJ2_charAt_3b067_1 : decode cJ2_charAt_3b067 1 = .ok (.aload_n 0, 1) := by decide +kernel
theorem dJ2_charAt_3b067_2 : decode cJ2_charAt_3b067 2 = .ok (.invokestatic 67, 3) := by decide +kernel
theorem dJ2_charAt_3b067_5 : decode cJ2_charAt_3b067 5 = .ok (.aload_n 0, 1) := by decide +kernel
theorem dJ2_charAt_3b067_6 : decode cJ2_charAt_3b067 6 = .ok (.iload_n 1, 1) := by decide +kernel
theorem dJ2_charAt_3b067_7 : decode cJ2_charAt_3b067 7 = .ok (.invokestatic 71, 3) := by decide +kernel
theorem dJ2_charAt_3b067_10 : decode cJ2_charAt_3b067 10 = .ok (.ireturn, 1) := by decide +kernel
theorem dJ2_inflate_0e8fd_0 : decode cJ2_inflate_0e8fd 0 = .ok (.iload_n 3, 1) := by decide +kernel
theorem dJ2_inflate_0e8fd_1 : decode cJ2_inflate_0e8fd 1 = .ok (.iload 4, 2) := by decide +kernel
theorem dJ2_inflate_0e8fd_3 : decode cJ2_inflate_0e8fd 3 = .ok (.aload_n 2, 1) := by decide +kernel
theorem dJ2_inflate_0e8fd_4 : decode cJ2_inflate_0e8fd 4 = .ok (.invokestatic 173, 3) := by decide +kernel
theorem dJ2_inflate_0e8fd_7 : decode cJ2_inflate_0e8fd 7 = .ok (.iconst 0, 1) := by decide +kernel
theorem dJ2_inflate_0e8fd_8 : decode cJ2_inflate_0e8fd 8 = .ok (.istore 5, 2) := by decide +kernel
theorem dJ2_inflate_0e8fd_10 : decode cJ2_inflate_0e8fd 10 = .ok (.iload 5, 2) := by decide +kernel
theorem dJ2_inflate_0e8fd_12 : decode cJ2_inflate_0e8fd 12 = .ok (.iload 4, 2) := by decide +kernel
theorem dJ2_inflate_0e8fd_14 : decode cJ2_inflate_0e8fd 14 = .ok (.if_icmp .ge 27, 3) := by decide +kernel
theorem dJ2_inflate_0e8fd_17 : decode cJ2_inflate_0e8fd 17 = .ok (.aload_n 2, 1) := by decide +kernel
theorem dJ2_inflate_0e8fd_18 : decode cJ2_inflate_0e8fd 18 = .ok (.iload_n 3, 1) := by decide +kernel
theorem dJ2_inflate_0e8fd_19 : decode cJ2_inflate_0e8fd 19 = .ok (.iinc 3 1, 3) := by decide +kernel
theorem dJ2_inflate_0e8fd_22 : decode cJ2_inflate_0e8fd 22 = .ok (.aload_n 0, 1) := by decide +kernel
theorem dJ2_inflate_0e8fd_23 : decode cJ2_inflate_0e8fd 23 = .ok (.iload_n 1, 1) := by decide +kernel
theorem dJ2_inflate_0e8fd_24 : decode cJ2_inflate_0e8fd 24 = .ok (.iinc 1 1, 3) := by decide +kernel
theorem dJ2_inflate_0e8fd_27 : decode cJ2_inflate_0e8fd 27 = .ok (.baload, 1) := by decide +kernel
theorem dJ2_inflate_0e8fd_28 : decode cJ2_inflate_0e8fd 28 = .ok (.sipush 255, 3) := by decide +kernel
theorem dJ2_inflate_0e8fd_31 : decode cJ2_inflate_0e8fd 31 = .ok (.iand, 1) := by decide +kernel
theorem dJ2_inflate_0e8fd_32 : decode cJ2_inflate_0e8fd 32 = .ok (.invokestatic 111, 3) := by decide +kernel
theorem dJ2_inflate_0e8fd_35 : decode cJ2_inflate_0e8fd 35 = .ok (.iinc 5 1, 3) := by decide +kernel
theorem dJ2_inflate_0e8fd_38 : decode cJ2_inflate_0e8fd 38 = .ok (.goto (-28), 3) := by decide +kernel
theorem dJ2_inflate_0e8fd_41 : decode cJ2_inflate_0e8fd 41 = .ok (.return_, 1) := by decide +kernel
theorem dJ2_getChars_ba4f3_0 : decode cJ2_getChars_ba4f3 0 = .ok (.iload_n 1, 1) := by decide +kernel
theorem dJ2_getChars_ba4f3_1 : decode cJ2_getChars_ba4f3 1 = .ok (.istore 5, 2) := by decide +kernel
theorem dJ2_getChars_ba4f3_3 : decode cJ2_getChars_ba4f3 3 = .ok (.iload_n 0, 1) := by decide +kernel
theorem dJ2_getChars_ba4f3_4 : decode cJ2_getChars_ba4f3 4 = .ok (.ifCond .ge 7, 3) := by decide +kernel
theorem dJ2_getChars_ba4f3_7 : decode cJ2_getChars_ba4f3 7 = .ok (.iconst 1, 1) := by decide +kernel
theorem dJ2_getChars_ba4f3_8 : decode cJ2_getChars_ba4f3 8 = .ok (.goto 4, 3) := by decide +kernel
theorem dJ2_getChars_ba4f3_11 : decode cJ2_getChars_ba4f3 11 = .ok (.iconst 0, 1) := by decide +kernel
theorem dJ2_getChars_ba4f3_12 : decode cJ2_getChars_ba4f3 12 = .ok (.istore 6, 2) := by decide +kernel
theorem dJ2_getChars_ba4f3_14 : decode cJ2_getChars_ba4f3 14 = .ok (.iload 6, 2) := by decide +kernel
theorem dJ2_getChars_ba4f3_16 : decode cJ2_getChars_ba4f3 16 = .ok (.ifCond .ne 6, 3) := by decide +kernel
theorem dJ2_getChars_ba4f3_19 : decode cJ2_getChars_ba4f3 19 = .ok (.iload_n 0, 1) := by decide +kernel
theorem dJ2_getChars_ba4f3_20 : decode cJ2_getChars_ba4f3 20 = .ok (.ineg, 1) := by decide +kernel
theorem dJ2_getChars_ba4f3_21 : decode cJ2_getChars_ba4f3 21 = .ok (.istore_n 0, 1) := by decide +kernel
theorem dJ2_getChars_ba4f3_22 : decode cJ2_getChars_ba4f3 22 = .ok (.iload_n 0, 1) := by decide +kernel
theorem dJ2_getChars_ba4f3_23 : decode cJ2_getChars_ba4f3 23 = .ok (.bipush (-100), 2) := by decide +kernel
theorem dJ2_getChars_ba4f3_25 : decode cJ2_getChars_ba4f3 25 = .ok (.if_icmp .gt 51, 3) := by decide +kernel
theorem dJ2_getChars_ba4f3_28 : decode cJ2_getChars_ba4f3 28 = .ok (.iload_n 0, 1) := by decide +kernel
theorem dJ2_getChars_ba4f3_29 : decode cJ2_getChars_ba4f3 29 = .ok (.bipush 100, 2) := by decide +kernel
theorem dJ2_getChars_ba4f3_31 : decode cJ2_getChars_ba4f3 31 = .ok (.idiv, 1) := by decide +kernel
theorem dJ2_getChars_ba4f3_32 : decode cJ2_getChars_ba4f3 32 = .ok (.istore_n 3, 1) := by decide +kernel
theorem dJ2_getChars_ba4f3_33 : decode cJ2_getChars_ba4f3 33 = .ok (.iload_n 3, 1) := by decide +kernel
theorem dJ2_getChars_ba4f3_34 : decode cJ2_getChars_ba4f3 34 = .ok (.bipush 100, 2) := by decide +kernel
theorem dJ2_getChars_ba4f3_36 : decode cJ2_getChars_ba4f3 36 = .ok (.imul, 1) := by decide +kernel
theorem dJ2_getChars_ba4f3_37 : decode cJ2_getChars_ba4f3 37 = .ok (.iload_n 0, 1) := by decide +kernel
theorem dJ2_getChars_ba4f3_38 : decode cJ2_getChars_ba4f3 38 = .ok (.isub, 1) := by decide +kernel
theorem dJ2_getChars_ba4f3_39 : decode cJ2_getChars_ba4f3 39 = .ok (.istore 4, 2) := by decide +kernel
theorem dJ2_getChars_ba4f3_41 : decode cJ2_getChars_ba4f3 41 = .ok (.iload_n 3, 1) := by decide +kernel
theorem dJ2_getChars_ba4f3_42 : decode cJ2_getChars_ba4f3 42 = .ok (.istore_n 0, 1) := by decide +kernel
theorem dJ2_getChars_ba4f3_43 : decode cJ2_getChars_ba4f3 43 = .ok (.aload_n 2, 1) := by decide +kernel
theorem dJ2_getChars_ba4f3_44 : decode cJ2_getChars_ba4f3 44 = .ok (.iinc 5 (-1), 3) := by decide +kernel
theorem dJ2_getChars_ba4f3_47 : decode cJ2_getChars_ba4f3 47 = .ok (.iload 5, 2) := by decide +kernel
theorem dJ2_getChars_ba4f3_49 : decode cJ2_getChars_ba4f3 49 = .ok (.getstatic 403, 3) := by decide +kernel
theorem dJ2_getChars_ba4f3_52 : decode cJ2_getChars_ba4f3 52 = .ok (.iload 4, 2) := by decide +kernel
theorem dJ2_getChars_ba4f3_54 : decode cJ2_getChars_ba4f3 54 = .ok (.baload, 1) := by decide +kernel
theorem dJ2_getChars_ba4f3_55 : decode cJ2_getChars_ba4f3 55 = .ok (.invokestatic 111, 3) := by decide +kernel
theorem dJ2_getChars_ba4f3_58 : decode cJ2_getChars_ba4f3 58 = .ok (.aload_n 2, 1) := by decide +kernel
theorem dJ2_getChars_ba4f3_59 : decode cJ2_getChars_ba4f3 59 = .ok (.iinc 5 (-1), 3) := by decide +kernel
theorem dJ2_getChars_ba4f3_62 : decode cJ2_getChars_ba4f3 62 = .ok (.iload 5, 2) := by decide +kernel
theorem dJ2_getChars_ba4f3_64 : decode cJ2_getChars_ba4f3 64 = .ok (.getstatic 407, 3) := by decide +kernel
theorem dJ2_getChars_ba4f3_67 : decode cJ2_getChars_ba4f3 67 = .ok (.iload 4, 2) := by decide +kernel
theorem dJ2_getChars_ba4f3_69 : decode cJ2_getChars_ba4f3 69 = .ok (.baload, 1) := by decide +kernel
theorem dJ2_getChars_ba4f3_70 : decode cJ2_getChars_ba4f3 70 = .ok (.invokestatic 111, 3) := by decide +kernel
theorem dJ2_getChars_ba4f3_73 : decode cJ2_getChars_ba4f3 73 = .ok (.goto (-51), 3) := by decide +kernel
theorem dJ2_getChars_ba4f3_76 : decode cJ2_getChars_ba4f3 76 = .ok (.aload_n 2, 1) := by decide +kernel
theorem dJ2_getChars_ba4f3_77 : decode cJ2_getChars_ba4f3 77 = .ok (.iinc 5 (-1), 3) := by decide +kernel
theorem dJ2_getChars_ba4f3_80 : decode cJ2_getChars_ba4f3 80 = .ok (.iload 5, 2) := by decide +kernel
theorem dJ2_getChars_ba4f3_82 : decode cJ2_getChars_ba4f3 82 = .ok (.getstatic 403, 3) := by decide +kernel
theorem dJ2_getChars_ba4f3_85 : decode cJ2_getChars_ba4f3 85 = .ok (.iload_n 0, 1) := by decide +kernel
theorem dJ2_getChars_ba4f3_86 : decode cJ2_getChars_ba4f3 86 = .ok (.ineg, 1) := by decide +kernel
theorem dJ2_getChars_ba4f3_87 : decode cJ2_getChars_ba4f3 87 = .ok (.baload, 1) := by decide +kernel
theorem dJ2_getChars_ba4f3_88 : decode cJ2_getChars_ba4f3 88 = .ok (.invokestatic 111, 3) := by decide +kernel
theorem dJ2_getChars_ba4f3_91 : decode cJ2_getChars_ba4f3 91 = .ok (.iload_n 0, 1) := by decide +kernel
theorem dJ2_getChars_ba4f3_92 : decode cJ2_getChars_ba4f3 92 = .ok (.bipush (-9), 2) := by decide +kernel
theorem dJ2_getChars_ba4f3_94 : decode cJ2_getChars_ba4f3 94 = .ok (.if_icmp .ge 18, 3) := by decide +kernel
theorem dJ2_getChars_ba4f3_97 : decode cJ2_getChars_ba4f3 97 = .ok (.aload_n 2, 1) := by decide +kernel
theorem dJ2_getChars_ba4f3_98 : decode cJ2_getChars_ba4f3 98 = .ok (.iinc 5 (-1), 3) := by decide +kernel
theorem dJ2_getChars_ba4f3_101 : decode cJ2_getChars_ba4f3 101 = .ok (.iload 5, 2) := by decide +kernel
theorem dJ2_getChars_ba4f3_103 : decode cJ2_getChars_ba4f3 103 = .ok (.getstatic 407, 3) := by decide +kernel
theorem dJ2_getChars_ba4f3_106 : decode cJ2_getChars_ba4f3 106 = .ok (.iload_n 0, 1) := by decide +kernel
theorem dJ2_getChars_ba4f3_107 : decode cJ2_getChars_ba4f3 107 = .ok (.ineg, 1) := by decide +kernel
theorem dJ2_getChars_ba4f3_108 : decode cJ2_getChars_ba4f3 108 = .ok (.baload, 1) := by decide +kernel
theorem dJ2_getChars_ba4f3_109 : decode cJ2_getChars_ba4f3 109 = .ok (.invokestatic 111, 3) := by decide +kernel
theorem dJ2_getChars_ba4f3_112 : decode cJ2_getChars_ba4f3 112 = .ok (.iload 6, 2) := by decide +kernel
theorem dJ2_getChars_ba4f3_114 : decode cJ2_getChars_ba4f3 114 = .ok (.ifCond .eq 14, 3) := by decide +kernel
theorem dJ2_getChars_ba4f3_117 : decode cJ2_getChars_ba4f3 117 = .ok (.aload_n 2, 1) := by decide +kernel
theorem dJ2_getChars_ba4f3_118 : decode cJ2_getChars_ba4f3 118 = .ok (.iinc 5 (-1), 3) := by decide +kernel
theorem dJ2_getChars_ba4f3_121 : decode cJ2_getChars_ba4f3 121 = .ok (.iload 5, 2) := by decide +kernel
theorem dJ2_getChars_ba4f3_123 : decode cJ2_getChars_ba4f3 123 = .ok (.bipush 45, 2) := by decide +kernel
theorem dJ2_getChars_ba4f3_125 : decode cJ2_getChars_ba4f3 125 = .ok (.invokestatic 111, 3) := by decide +kernel
theorem dJ2_getChars_ba4f3_128 : decode cJ2_getChars_ba4f3 128 = .ok (.iload 5, 2) := by decide +kernel
theorem dJ2_getChars_ba4f3_130 : decode cJ2_getChars_ba4f3 130 = .ok (.ireturn, 1) := by decide +kernel
theorem dJ2_checkIndex_2214a_0 : decode cJ2_checkIndex_2214a 0 = .ok (.iload_n 0, 1) := by decide +kernel
theorem dJ2_checkIndex_2214a_1 : decode cJ2_checkIndex_2214a 1 = .ok (.aload_n 1, 1) := by decide +kernel
theorem dJ2_checkIndex_2214a_2 : decode cJ2_checkIndex_2214a 2 = .ok (.invokestatic 48, 3) := by decide +kernel
theorem dJ2_checkIndex_2214a_5 : decode cJ2_checkIndex_2214a 5 = .ok (.invokestatic 414, 3) := by decide +kernel
theorem dJ2_checkIndex_2214a_8 : decode cJ2_checkIndex_2214a 8 = .ok (.return_, 1) := by decide +kernel
theorem dJ2_checkBoundsBeginEnd_d044e_0 : decode cJ2_checkBoundsBeginEnd_d044e 0 = .ok (.iload_n 0, 1) := by decide +kernel
theorem dJ2_checkBoundsBeginEnd_d044e_1 : decode cJ2_checkBoundsBeginEnd_d044e 1 = .ok (.iload_n 1, 1) := by decide +kernel
theorem dJ2_checkBoundsBeginEnd_d044e_2 : decode cJ2_checkBoundsBeginEnd_d044e 2 = .ok (.aload_n 2, 1) := by decide +kernel
theorem dJ2_checkBoundsBeginEnd_d044e_3 : decode cJ2_checkBoundsBeginEnd_d044e 3 = .ok (.invokestatic 48, 3) := by decide +kernel
theorem dJ2_checkBoundsBeginEnd_d044e_6 : decode cJ2_checkBoundsBeginEnd_d044e 6 = .ok (.invokestatic 241, 3) := by decide +kernel
theorem dJ2_checkBoundsBeginEnd_d044e_9 : decode cJ2_checkBoundsBeginEnd_d044e 9 = .ok (.return_, 1) := by decide +kernel
theorem dJ2_checkBoundsOffCount_d044e_0 : decode cJ2_checkBoundsOffCount_d044e 0 = .ok (.iload_n 0, 1) := by decide +kernel
theorem dJ2_checkBoundsOffCount_d044e_1 : decode cJ2_checkBoundsOffCount_d044e 1 = .ok (.iload_n 1, 1) := by decide +kernel
theorem dJ2_checkBoundsOffCount_d044e_2 : decode cJ2_checkBoundsOffCount_d044e 2 = .ok (.aload_n 2, 1) := by decide +kernel
theorem dJ2_checkBoundsOffCount_d044e_3 : decode cJ2_checkBoundsOffCount_d044e 3 = .ok (.invokestatic 48, 3) := by decide +kernel
theorem dJ2_checkBoundsOffCount_d044e_6 : decode cJ2_checkBoundsOffCount_d044e 6 = .ok (.invokestatic 419, 3) := by decide +kernel
theorem dJ2_checkBoundsOffCount_d044e_9 : decode cJ2_checkBoundsOffCount_d044e 9 = .ok (.pop, 1) := by decide +kernel
theorem dJ2_checkBoundsOffCount_d044e_10 : decode cJ2_checkBoundsOffCount_d044e 10 = .ok (.return_, 1) := by decide +kernel
theorem dJ7_fill_53178_0 : decode cJ7_fill_53178 0 = .ok (.iconst 0, 1) := by decide +kernel
theorem dJ7_fill_53178_1 : decode cJ7_fill_53178 1 = .ok (.istore_n 2, 1) := by decide +kernel
theorem dJ7_fill_53178_2 : decode cJ7_fill_53178 2 = .ok (.aload_n 0, 1) := by decide +kernel
theorem dJ7_fill_53178_3 : decode cJ7_fill_53178 3 = .ok (.arraylength, 1) := by decide +kernel
theorem dJ7_fill_53178_4 : decode cJ7_fill_53178 4 = .ok (.istore_n 3, 1) := by decide +kernel
theorem dJ7_fill_53178_5 : decode cJ7_fill_53178 5 = .ok (.iload_n 2, 1) := by decide +kernel
theorem dJ7_fill_53178_6 : decode cJ7_fill_53178 6 = .ok (.iload_n 3, 1) := by decide +kernel
theorem dJ7_fill_53178_7 : decode cJ7_fill_53178 7 = .ok (.if_icmp .ge 13, 3) := by decide +kernel
theorem dJ7_fill_53178_10 : decode cJ7_fill_53178 10 = .ok (.aload_n 0, 1) := by decide +kernel
theorem dJ7_fill_53178_11 : decode cJ7_fill_53178 11 = .ok (.iload_n 2, 1) := by decide +kernel
theorem dJ7_fill_53178_12 : decode cJ7_fill_53178 12 = .ok (.iload_n 1, 1) := by decide +kernel
theorem dJ7_fill_53178_13 : decode cJ7_fill_53178 13 = .ok (.iastore, 1) := by decide +kernel
theorem dJ7_fill_53178_14 : decode cJ7_fill_53178 14 = .ok (.iinc 2 1, 3) := by decide +kernel
theorem dJ7_fill_53178_17 : decode cJ7_fill_53178 17 = .ok (.goto (-12), 3) := by decide +kernel
theorem dJ7_fill_53178_20 : decode cJ7_fill_53178 20 = .ok (.return_, 1) := by decide +kernel
theorem dJ7_copyOf_9075b_0 : decode cJ7_copyOf_9075b 0 = .ok (.iload_n 1, 1) := by decide +kernel
theorem dJ7_copyOf_9075b_1 : decode cJ7_copyOf_9075b 1 = .ok (.aload_n 0, 1) := by decide +kernel
theorem dJ7_copyOf_9075b_2 : decode cJ7_copyOf_9075b 2 = .ok (.arraylength, 1) := by decide +kernel
theorem dJ7_copyOf_9075b_3 : decode cJ7_copyOf_9075b 3 = .ok (.if_icmp .ne 11, 3) := by decide +kernel
theorem dJ7_copyOf_9075b_6 : decode cJ7_copyOf_9075b 6 = .ok (.aload_n 0, 1) := by decide +kernel
theorem dJ7_copyOf_9075b_7 : decode cJ7_copyOf_9075b 7 = .ok (.invokevirtual 310, 3) := by decide +kernel
theorem dJ7_copyOf_9075b_10 : decode cJ7_copyOf_9075b 10 = .ok (.checkcast 311, 3) := by decide +kernel
theorem dJ7_copyOf_9075b_13 : decode cJ7_copyOf_9075b 13 = .ok (.areturn, 1) := by decide +kernel
theorem dJ7_copyOf_9075b_14 : decode cJ7_copyOf_9075b 14 = .ok (.iload_n 1, 1) := by decide +kernel
theorem dJ7_copyOf_9075b_15 : decode cJ7_copyOf_9075b 15 = .ok (.newarray .byte, 2) := by decide +kernel
theorem dJ7_copyOf_9075b_17 : decode cJ7_copyOf_9075b 17 = .ok (.astore_n 2, 1) := by decide +kernel
theorem dJ7_copyOf_9075b_18 : decode cJ7_copyOf_9075b 18 = .ok (.aload_n 0, 1) := by decide +kernel
theorem dJ7_copyOf_9075b_19 : decode cJ7_copyOf_9075b 19 = .ok (.iconst 0, 1) := by decide +kernel
theorem dJ7_copyOf_9075b_20 : decode cJ7_copyOf_9075b 20 = .ok (.aload_n 2, 1) := by decide +kernel
theorem dJ7_copyOf_9075b_21 : decode cJ7_copyOf_9075b 21 = .ok (.iconst 0, 1) := by decide +kernel
theorem dJ7_copyOf_9075b_22 : decode cJ7_copyOf_9075b 22 = .ok (.aload_n 0, 1) := by decide +kernel
theorem dJ7_copyOf_9075b_23 : decode cJ7_copyOf_9075b 23 = .ok (.arraylength, 1) := by decide +kernel
theorem dJ7_copyOf_9075b_24 : decode cJ7_copyOf_9075b 24 = .ok (.iload_n 1, 1) := by decide +kernel
theorem dJ7_copyOf_9075b_25 : decode cJ7_copyOf_9075b 25 = .ok (.invokestatic 304, 3) := by decide +kernel
theorem dJ7_copyOf_9075b_28 : decode cJ7_copyOf_9075b 28 = .ok (.invokestatic 150, 3) := by decide +kernel
theorem dJ7_copyOf_9075b_31 : decode cJ7_copyOf_9075b 31 = .ok (.aload_n 2, 1) := by decide +kernel
theorem dJ7_copyOf_9075b_32 : decode cJ7_copyOf_9075b 32 = .ok (.areturn, 1) := by decide +kernel
theorem dJ7_checkLength_df160_0 : decode cJ7_checkLength_df160 0 = .ok (.iload_n 1, 1) := by decide +kernel
theorem dJ7_checkLength_df160_1 : decode cJ7_checkLength_df160 1 = .ok (.iload_n 0, 1) := by decide +kernel
theorem dJ7_checkLength_df160_2 : decode cJ7_checkLength_df160 2 = .ok (.if_icmp .ge 35, 3) := by decide +kernel
theorem dJ7_checkLength_df160_5 : decode cJ7_checkLength_df160 5 = .ok (.new 43, 3) := by decide +kernel
theorem dJ7_checkLength_df160_8 : decode cJ7_checkLength_df160 8 = .ok (.dup, 1) := by decide +kernel
theorem dJ7_checkLength_df160_9 : decode cJ7_checkLength_df160 9 = .ok (.new 45, 3) := by decide +kernel
theorem dJ7_checkLength_df160_12 : decode cJ7_checkLength_df160 12 = .ok (.dup, 1) := by decide +kernel
theorem dJ7_checkLength_df160_13 : decode cJ7_checkLength_df160 13 = .ok (.invokespecial 47, 3) := by decide +kernel
theorem dJ7_checkLength_df160_16 : decode cJ7_checkLength_df160 16 = .ok (.iload_n 0, 1) := by decide +kernel
theorem dJ7_checkLength_df160_17 : decode cJ7_checkLength_df160 17 = .ok (.invokevirtual 54, 3) := by decide +kernel
theorem dJ7_checkLength_df160_20 : decode cJ7_checkLength_df160 20 = .ok (.ldc_w 337, 3) := by decide +kernel
theorem dJ7_checkLength_df160_23 : decode cJ7_checkLength_df160 23 = .ok (.invokevirtual 50, 3) := by decide +kernel
theorem dJ7_checkLength_df160_26 : decode cJ7_checkLength_df160 26 = .ok (.iload_n 1, 1) := by decide +kernel
theorem dJ7_checkLength_df160_27 : decode cJ7_checkLength_df160 27 = .ok (.invokevirtual 54, 3) := by decide +kernel
theorem dJ7_checkLength_df160_30 : decode cJ7_checkLength_df160 30 = .ok (.invokevirtual 61, 3) := by decide +kernel
theorem dJ7_checkLength_df160_33 : decode cJ7_checkLength_df160 33 = .ok (.invokespecial 65, 3) := by decide +kernel
theorem dJ7_checkLength_df160_36 : decode cJ7_checkLength_df160 36 = .ok (.athrow, 1) := by decide +kernel
theorem dJ7_checkLength_df160_37 : decode cJ7_checkLength_df160 37 = .ok (.return_, 1) := by decide +kernel
theorem dJ7_copyOfRange_39247_0 : decode cJ7_copyOfRange_39247 0 = .ok (.iload_n 1, 1) := by decide +kernel
theorem dJ7_copyOfRange_39247_1 : decode cJ7_copyOfRange_39247 1 = .ok (.ifCond .ne 9, 3) := by decide +kernel
theorem dJ7_copyOfRange_39247_4 : decode cJ7_copyOfRange_39247 4 = .ok (.iload_n 2, 1) := by decide +kernel
theorem dJ7_copyOfRange_39247_5 : decode cJ7_copyOfRange_39247 5 = .ok (.aload_n 0, 1) := by decide +kernel
theorem dJ7_copyOfRange_39247_6 : decode cJ7_copyOfRange_39247 6 = .ok (.arraylength, 1) := by decide +kernel
theorem dJ7_copyOfRange_39247_7 : decode cJ7_copyOfRange_39247 7 = .ok (.if_icmp .eq 10, 3) := by decide +kernel
theorem dJ7_copyOfRange_39247_10 : decode cJ7_copyOfRange_39247 10 = .ok (.aload_n 0, 1) := by decide +kernel
theorem dJ7_copyOfRange_39247_11 : decode cJ7_copyOfRange_39247 11 = .ok (.iload_n 1, 1) := by decide +kernel
theorem dJ7_copyOfRange_39247_12 : decode cJ7_copyOfRange_39247 12 = .ok (.iload_n 2, 1) := by decide +kernel
theorem dJ7_copyOfRange_39247_13 : decode cJ7_copyOfRange_39247 13 = .ok (.invokestatic 339, 3) := by decide +kernel
theorem dJ7_copyOfRange_39247_16 : decode cJ7_copyOfRange_39247 16 = .ok (.areturn, 1) := by decide +kernel
theorem dJ7_copyOfRange_39247_17 : decode cJ7_copyOfRange_39247 17 = .ok (.aload_n 0, 1) := by decide +kernel
theorem dJ7_copyOfRange_39247_18 : decode cJ7_copyOfRange_39247 18 = .ok (.invokevirtual 310, 3) := by decide +kernel
theorem dJ7_copyOfRange_39247_21 : decode cJ7_copyOfRange_39247 21 = .ok (.checkcast 311, 3) := by decide +kernel
theorem dJ7_copyOfRange_39247_24 : decode cJ7_copyOfRange_39247 24 = .ok (.areturn, 1) := by decide +kernel
theorem dJ7_copyOfRangeByte_39247_0 : decode cJ7_copyOfRangeByte_39247 0 = .ok (.iload_n 1, 1) := by decide +kernel
theorem dJ7_copyOfRangeByte_39247_1 : decode cJ7_copyOfRangeByte_39247 1 = .ok (.iload_n 2, 1) := by decide +kernel
theorem dJ7_copyOfRangeByte_39247_2 : decode cJ7_copyOfRangeByte_39247 2 = .ok (.invokestatic 343, 3) := by decide +kernel
theorem dJ7_copyOfRangeByte_39247_5 : decode cJ7_copyOfRangeByte_39247 5 = .ok (.iload_n 2, 1) := by decide +kernel
theorem dJ7_copyOfRangeByte_39247_6 : decode cJ7_copyOfRangeByte_39247 6 = .ok (.iload_n 1, 1) := by decide +kernel
theorem dJ7_copyOfRangeByte_39247_7 : decode cJ7_copyOfRangeByte_39247 7 = .ok (.isub, 1) := by decide +kernel
theorem dJ7_copyOfRangeByte_39247_8 : decode cJ7_copyOfRangeByte_39247 8 = .ok (.istore_n 3, 1) := by decide +kernel
theorem dJ7_copyOfRangeByte_39247_9 : decode cJ7_copyOfRangeByte_39247 9 = .ok (.iload_n 3, 1) := by decide +kernel
theorem dJ7_copyOfRangeByte_39247_10 : decode cJ7_copyOfRangeByte_39247 10 = .ok (.newarray .byte, 2) := by decide +kernel
theorem dJ7_copyOfRangeByte_39247_12 : decode cJ7_copyOfRangeByte_39247 12 = .ok (.astore 4, 2) := by decide +kernel
theorem dJ7_copyOfRangeByte_39247_14 : decode cJ7_copyOfRangeByte_39247 14 = .ok (.aload_n 0, 1) := by decide +kernel
theorem dJ7_copyOfRangeByte_39247_15 : decode cJ7_copyOfRangeByte_39247 15 = .ok (.iload_n 1, 1) := by decide +kernel
theorem dJ7_copyOfRangeByte_39247_16 : decode cJ7_copyOfRangeByte_39247 16 = .ok (.aload 4, 2) := by decide +kernel
theorem dJ7_copyOfRangeByte_39247_18 : decode cJ7_copyOfRangeByte_39247 18 = .ok (.iconst 0, 1) := by decide +kernel
theorem dJ7_copyOfRangeByte_39247_19 : decode cJ7_copyOfRangeByte_39247 19 = .ok (.aload_n 0, 1) := by decide +kernel
theorem dJ7_copyOfRangeByte_39247_20 : decode cJ7_copyOfRangeByte_39247 20 = .ok (.arraylength, 1) := by decide +kernel
theorem dJ7_copyOfRangeByte_39247_21 : decode cJ7_copyOfRangeByte_39247 21 = .ok (.iload_n 1, 1) := by decide +kernel
theorem dJ7_copyOfRangeByte_39247_22 : decode cJ7_copyOfRangeByte_39247 22 = .ok (.isub, 1) := by decide +kernel
theorem dJ7_copyOfRangeByte_39247_23 : decode cJ7_copyOfRangeByte_39247 23 = .ok (.iload_n 3, 1) := by decide +kernel
theorem dJ7_copyOfRangeByte_39247_24 : decode cJ7_copyOfRangeByte_39247 24 = .ok (.invokestatic 304, 3) := by decide +kernel
theorem dJ7_copyOfRangeByte_39247_27 : decode cJ7_copyOfRangeByte_39247 27 = .ok (.invokestatic 150, 3) := by decide +kernel
theorem dJ7_copyOfRangeByte_39247_30 : decode cJ7_copyOfRangeByte_39247 30 = .ok (.aload 4, 2) := by decide +kernel
theorem dJ7_copyOfRangeByte_39247_32 : decode cJ7_copyOfRangeByte_39247 32 = .ok (.areturn, 1) := by decide +kernel
theorem dJ8_newLength_cabcc_0 : decode cJ8_newLength_cabcc 0 = .ok (.iload_n 0, 1) := by decide +kernel
theorem dJ8_newLength_cabcc_1 : decode cJ8_newLength_cabcc 1 = .ok (.iload_n 1, 1) := by decide +kernel
theorem dJ8_newLength_cabcc_2 : decode cJ8_newLength_cabcc 2 = .ok (.iload_n 2, 1) := by decide +kernel
theorem dJ8_newLength_cabcc_3 : decode cJ8_newLength_cabcc 3 = .ok (.invokestatic 194, 3) := by decide +kernel
theorem dJ8_newLength_cabcc_6 : decode cJ8_newLength_cabcc 6 = .ok (.iadd, 1) := by decide +kernel
theorem dJ8_newLength_cabcc_7 : decode cJ8_newLength_cabcc 7 = .ok (.istore_n 3, 1) := by decide +kernel
theorem dJ8_newLength_cabcc_8 : decode cJ8_newLength_cabcc 8 = .ok (.iconst 0, 1) := by decide +kernel
theorem dJ8_newLength_cabcc_9 : decode cJ8_newLength_cabcc 9 = .ok (.iload_n 3, 1) := by decide +kernel
theorem dJ8_newLength_cabcc_10 : decode cJ8_newLength_cabcc 10 = .ok (.if_icmp .ge 11, 3) := by decide +kernel
theorem dJ8_newLength_cabcc_13 : decode cJ8_newLength_cabcc 13 = .ok (.iload_n 3, 1) := by decide +kernel
theorem dJ8_newLength_cabcc_14 : decode cJ8_newLength_cabcc 14 = .ok (.ldc 200, 2) := by decide +kernel
theorem dJ8_newLength_cabcc_16 : decode cJ8_newLength_cabcc 16 = .ok (.if_icmp .gt 5, 3) := by decide +kernel
theorem dJ8_newLength_cabcc_19 : decode cJ8_newLength_cabcc 19 = .ok (.iload_n 3, 1) := by decide +kernel
theorem dJ8_newLength_cabcc_20 : decode cJ8_newLength_cabcc 20 = .ok (.ireturn, 1) := by decide +kernel
theorem dJ8_newLength_cabcc_21 : decode cJ8_newLength_cabcc 21 = .ok (.iload_n 0, 1) := by decide +kernel
theorem dJ8_newLength_cabcc_22 : decode cJ8_newLength_cabcc 22 = .ok (.iload_n 1, 1) := by decide +kernel
theorem dJ8_newLength_cabcc_23 : decode cJ8_newLength_cabcc 23 = .ok (.invokestatic 201, 3) := by decide +kernel
theorem dJ8_newLength_cabcc_26 : decode cJ8_newLength_cabcc 26 = .ok (.ireturn, 1) := by decide +kernel
theorem dJ8_hugeLength_7cf53_0 : decode cJ8_hugeLength_7cf53 0 = .ok (.iload_n 0, 1) := by decide +kernel
theorem dJ8_hugeLength_7cf53_1 : decode cJ8_hugeLength_7cf53 1 = .ok (.iload_n 1, 1) := by decide +kernel
theorem dJ8_hugeLength_7cf53_2 : decode cJ8_hugeLength_7cf53 2 = .ok (.iadd, 1) := by decide +kernel
theorem dJ8_hugeLength_7cf53_3 : decode cJ8_hugeLength_7cf53 3 = .ok (.istore_n 2, 1) := by decide +kernel
theorem dJ8_hugeLength_7cf53_4 : decode cJ8_hugeLength_7cf53 4 = .ok (.iload_n 2, 1) := by decide +kernel
theorem dJ8_hugeLength_7cf53_5 : decode cJ8_hugeLength_7cf53 5 = .ok (.ifCond .ge 44, 3) := by decide +kernel
theorem dJ8_hugeLength_7cf53_8 : decode cJ8_hugeLength_7cf53 8 = .ok (.new 204, 3) := by decide +kernel
theorem dJ8_hugeLength_7cf53_11 : decode cJ8_hugeLength_7cf53 11 = .ok (.dup, 1) := by decide +kernel
theorem dJ8_hugeLength_7cf53_12 : decode cJ8_hugeLength_7cf53 12 = .ok (.new 89, 3) := by decide +kernel
theorem dJ8_hugeLength_7cf53_15 : decode cJ8_hugeLength_7cf53 15 = .ok (.dup, 1) := by decide +kernel
theorem dJ8_hugeLength_7cf53_16 : decode cJ8_hugeLength_7cf53 16 = .ok (.invokespecial 91, 3) := by decide +kernel
theorem dJ8_hugeLength_7cf53_19 : decode cJ8_hugeLength_7cf53 19 = .ok (.ldc 206, 2) := by decide +kernel
theorem dJ8_hugeLength_7cf53_21 : decode cJ8_hugeLength_7cf53 21 = .ok (.invokevirtual 94, 3) := by decide +kernel
theorem dJ8_hugeLength_7cf53_24 : decode cJ8_hugeLength_7cf53 24 = .ok (.iload_n 0, 1) := by decide +kernel
theorem dJ8_hugeLength_7cf53_25 : decode cJ8_hugeLength_7cf53 25 = .ok (.invokevirtual 98, 3) := by decide +kernel
theorem dJ8_hugeLength_7cf53_28 : decode cJ8_hugeLength_7cf53 28 = .ok (.ldc 208, 2) := by decide +kernel
theorem dJ8_hugeLength_7cf53_30 : decode cJ8_hugeLength_7cf53 30 = .ok (.invokevirtual 94, 3) := by decide +kernel
theorem dJ8_hugeLength_7cf53_33 : decode cJ8_hugeLength_7cf53 33 = .ok (.iload_n 1, 1) := by decide +kernel
theorem dJ8_hugeLength_7cf53_34 : decode cJ8_hugeLength_7cf53 34 = .ok (.invokevirtual 98, 3) := by decide +kernel
theorem dJ8_hugeLength_7cf53_37 : decode cJ8_hugeLength_7cf53 37 = .ok (.ldc 210, 2) := by decide +kernel
theorem dJ8_hugeLength_7cf53_39 : decode cJ8_hugeLength_7cf53 39 = .ok (.invokevirtual 94, 3) := by decide +kernel
theorem dJ8_hugeLength_7cf53_42 : decode cJ8_hugeLength_7cf53 42 = .ok (.invokevirtual 101, 3) := by decide +kernel
theorem dJ8_hugeLength_7cf53_45 : decode cJ8_hugeLength_7cf53 45 = .ok (.invokespecial 212, 3) := by decide +kernel
theorem dJ8_hugeLength_7cf53_48 : decode cJ8_hugeLength_7cf53 48 = .ok (.athrow, 1) := by decide +kernel
theorem dJ8_hugeLength_7cf53_49 : decode cJ8_hugeLength_7cf53 49 = .ok (.iload_n 2, 1) := by decide +kernel
theorem dJ8_hugeLength_7cf53_50 : decode cJ8_hugeLength_7cf53 50 = .ok (.ldc 200, 2) := by decide +kernel
theorem dJ8_hugeLength_7cf53_52 : decode cJ8_hugeLength_7cf53 52 = .ok (.if_icmp .gt 6, 3) := by decide +kernel
theorem dJ8_hugeLength_7cf53_55 : decode cJ8_hugeLength_7cf53 55 = .ok (.ldc 200, 2) := by decide +kernel
theorem dJ8_hugeLength_7cf53_57 : decode cJ8_hugeLength_7cf53 57 = .ok (.ireturn, 1) := by decide +kernel
theorem dJ8_hugeLength_7cf53_58 : decode cJ8_hugeLength_7cf53 58 = .ok (.iload_n 2, 1) := by decide +kernel
theorem dJ8_hugeLength_7cf53_59 : decode cJ8_hugeLength_7cf53 59 = .ok (.ireturn, 1) := by decide +kernel
theorem dJ3_checkIndex_8e157_0 : decode cJ3_checkIndex_8e157 0 = .ok (.iload_n 0, 1) := by decide +kernel
theorem dJ3_checkIndex_8e157_1 : decode cJ3_checkIndex_8e157 1 = .ok (.ifCond .lt 8, 3) := by decide +kernel
theorem dJ3_checkIndex_8e157_4 : decode cJ3_checkIndex_8e157 4 = .ok (.iload_n 0, 1) := by decide +kernel
theorem dJ3_checkIndex_8e157_5 : decode cJ3_checkIndex_8e157 5 = .ok (.iload_n 1, 1) := by decide +kernel
theorem dJ3_checkIndex_8e157_6 : decode cJ3_checkIndex_8e157 6 = .ok (.if_icmp .lt 10, 3) := by decide +kernel
theorem dJ3_checkIndex_8e157_9 : decode cJ3_checkIndex_8e157 9 = .ok (.aload_n 2, 1) := by decide +kernel
theorem dJ3_checkIndex_8e157_10 : decode cJ3_checkIndex_8e157 10 = .ok (.iload_n 0, 1) := by decide +kernel
theorem dJ3_checkIndex_8e157_11 : decode cJ3_checkIndex_8e157 11 = .ok (.iload_n 1, 1) := by decide +kernel
theorem dJ3_checkIndex_8e157_12 : decode cJ3_checkIndex_8e157 12 = .ok (.invokestatic 95, 3) := by decide +kernel
theorem dJ3_checkIndex_8e157_15 : decode cJ3_checkIndex_8e157 15 = .ok (.athrow, 1) := by decide +kernel
theorem dJ3_checkIndex_8e157_16 : decode cJ3_checkIndex_8e157 16 = .ok (.iload_n 0, 1) := by decide +kernel
theorem dJ3_checkIndex_8e157_17 : decode cJ3_checkIndex_8e157 17 = .ok (.ireturn, 1) := by decide +kernel
theorem dJ3_checkFromToIndex_8c36e_0 : decode cJ3_checkFromToIndex_8c36e 0 = .ok (.iload_n 0, 1) := by decide +kernel
theorem dJ3_checkFromToIndex_8c36e_1 : decode cJ3_checkFromToIndex_8c36e 1 = .ok (.ifCond .lt 13, 3) := by decide +kernel
theorem dJ3_checkFromToIndex_8c36e_4 : decode cJ3_checkFromToIndex_8c36e 4 = .ok (.iload_n 0, 1) := by decide +kernel
theorem dJ3_checkFromToIndex_8c36e_5 : decode cJ3_checkFromToIndex_8c36e 5 = .ok (.iload_n 1, 1) := by decide +kernel
theorem dJ3_checkFromToIndex_8c36e_6 : decode cJ3_checkFromToIndex_8c36e 6 = .ok (.if_icmp .gt 8, 3) := by decide +kernel
theorem dJ3_checkFromToIndex_8c36e_9 : decode cJ3_checkFromToIndex_8c36e 9 = .ok (.iload_n 1, 1) := by decide +kernel
theorem dJ3_checkFromToIndex_8c36e_10 : decode cJ3_checkFromToIndex_8c36e 10 = .ok (.iload_n 2, 1) := by decide +kernel
theorem dJ3_checkFromToIndex_8c36e_11 : decode cJ3_checkFromToIndex_8c36e 11 = .ok (.if_icmp .le 11, 3) := by decide +kernel
theorem dJ3_checkFromToIndex_8c36e_14 : decode cJ3_checkFromToIndex_8c36e 14 = .ok (.aload_n 3, 1) := by decide +kernel
theorem dJ3_checkFromToIndex_8c36e_15 : decode cJ3_checkFromToIndex_8c36e 15 = .ok (.iload_n 0, 1) := by decide +kernel
theorem dJ3_checkFromToIndex_8c36e_16 : decode cJ3_checkFromToIndex_8c36e 16 = .ok (.iload_n 1, 1) := by decide +kernel
theorem dJ3_checkFromToIndex_8c36e_17 : decode cJ3_checkFromToIndex_8c36e 17 = .ok (.iload_n 2, 1) := by decide +kernel
theorem dJ3_checkFromToIndex_8c36e_18 : decode cJ3_checkFromToIndex_8c36e 18 = .ok (.invokestatic 99, 3) := by decide +kernel
theorem dJ3_checkFromToIndex_8c36e_21 : decode cJ3_checkFromToIndex_8c36e 21 = .ok (.athrow, 1) := by decide +kernel
theorem dJ3_checkFromToIndex_8c36e_22 : decode cJ3_checkFromToIndex_8c36e 22 = .ok (.iload_n 0, 1) := by decide +kernel
theorem dJ3_checkFromToIndex_8c36e_23 : decode cJ3_checkFromToIndex_8c36e 23 = .ok (.ireturn, 1) := by decide +kernel
theorem dJ3_checkFromIndexSize_8c36e_0 : decode cJ3_checkFromIndexSize_8c36e 0 = .ok (.iload_n 2, 1) := by decide +kernel
theorem dJ3_checkFromIndexSize_8c36e_1 : decode cJ3_checkFromIndexSize_8c36e 1 = .ok (.iload_n 0, 1) := by decide +kernel
theorem dJ3_checkFromIndexSize_8c36e_2 : decode cJ3_checkFromIndexSize_8c36e 2 = .ok (.ior, 1) := by decide +kernel
theorem dJ3_checkFromIndexSize_8c36e_3 : decode cJ3_checkFromIndexSize_8c36e 3 = .ok (.iload_n 1, 1) := by decide +kernel
theorem dJ3_checkFromIndexSize_8c36e_4 : decode cJ3_checkFromIndexSize_8c36e 4 = .ok (.ior, 1) := by decide +kernel
theorem dJ3_checkFromIndexSize_8c36e_5 : decode cJ3_checkFromIndexSize_8c36e 5 = .ok (.ifCond .lt 10, 3) := by decide +kernel
theorem dJ3_checkFromIndexSize_8c36e_8 : decode cJ3_checkFromIndexSize_8c36e 8 = .ok (.iload_n 1, 1) := by decide +kernel
theorem dJ3_checkFromIndexSize_8c36e_9 : decode cJ3_checkFromIndexSize_8c36e 9 = .ok (.iload_n 2, 1) := by decide +kernel
theorem dJ3_checkFromIndexSize_8c36e_10 : decode cJ3_checkFromIndexSize_8c36e 10 = .ok (.iload_n 0, 1) := by decide +kernel
theorem dJ3_checkFromIndexSize_8c36e_11 : decode cJ3_checkFromIndexSize_8c36e 11 = .ok (.isub, 1) := by decide +kernel
theorem dJ3_checkFromIndexSize_8c36e_12 : decode cJ3_checkFromIndexSize_8c36e 12 = .ok (.if_icmp .le 11, 3) := by decide +kernel
theorem dJ3_checkFromIndexSize_8c36e_15 : decode cJ3_checkFromIndexSize_8c36e 15 = .ok (.aload_n 3, 1) := by decide +kernel
theorem dJ3_checkFromIndexSize_8c36e_16 : decode cJ3_checkFromIndexSize_8c36e 16 = .ok (.iload_n 0, 1) := by decide +kernel
theorem dJ3_checkFromIndexSize_8c36e_17 : decode cJ3_checkFromIndexSize_8c36e 17 = .ok (.iload_n 1, 1) := by decide +kernel
theorem dJ3_checkFromIndexSize_8c36e_18 : decode cJ3_checkFromIndexSize_8c36e 18 = .ok (.iload_n 2, 1) := by decide +kernel
theorem dJ3_checkFromIndexSize_8c36e_19 : decode cJ3_checkFromIndexSize_8c36e 19 = .ok (.invokestatic 103, 3) := by decide +kernel
theorem dJ3_checkFromIndexSize_8c36e_22 : decode cJ3_checkFromIndexSize_8c36e 22 = .ok (.athrow, 1) := by decide +kernel
theorem dJ3_checkFromIndexSize_8c36e_23 : decode cJ3_checkFromIndexSize_8c36e 23 = .ok (.iload_n 0, 1) := by decide +kernel
theorem dJ3_checkFromIndexSize_8c36e_24 : decode cJ3_checkFromIndexSize_8c36e 24 = .ok (.ireturn, 1) := by decide +kernel
theorem dL_put_0 : decode cL_put 0 = .ok (.aload_n 1, 1) := by decide +kernel
theorem dL_put_1 : decode cL_put 1 = .ok (.iconst 1, 1) := by decide +kernel
theorem dL_put_2 : decode cL_put 2 = .ok (.aload_n 1, 1) := by decide +kernel
theorem dL_put_3 : decode cL_put 3 = .ok (.iconst 0, 1) := by decide +kernel
theorem dL_put_4 : decode cL_put 4 = .ok (.iaload, 1) := by decide +kernel
theorem dL_put_5 : decode cL_put 5 = .ok (.bipush 20, 2) := by decide +kernel
theorem dL_put_7 : decode cL_put 7 = .ok (.irem, 1) := by decide +kernel
theorem dL_put_8 : decode cL_put 8 = .ok (.iconst 4, 1) := by decide +kernel
theorem dL_put_9 : decode cL_put 9 = .ok (.idiv, 1) := by decide +kernel
theorem dL_put_10 : decode cL_put 10 = .ok (.iadd, 1) := by decide +kernel
theorem dL_put_11 : decode cL_put 11 = .ok (.dup2, 1) := by decide +kernel
theorem dL_put_12 : decode cL_put 12 = .ok (.iaload, 1) := by decide +kernel
theorem dL_put_13 : decode cL_put 13 = .ok (.iload_n 2, 1) := by decide +kernel
theorem dL_put_14 : decode cL_put 14 = .ok (.bipush 24, 2) := by decide +kernel
theorem dL_put_16 : decode cL_put 16 = .ok (.bipush 8, 2) := by decide +kernel
theorem dL_put_18 : decode cL_put 18 = .ok (.aload_n 1, 1) := by decide +kernel
theorem dL_put_19 : decode cL_put 19 = .ok (.iconst 0, 1) := by decide +kernel
theorem dL_put_20 : decode cL_put 20 = .ok (.iaload, 1) := by decide +kernel
theorem dL_put_21 : decode cL_put 21 = .ok (.iconst 4, 1) := by decide +kernel
theorem dL_put_22 : decode cL_put 22 = .ok (.irem, 1) := by decide +kernel
theorem dL_put_23 : decode cL_put 23 = .ok (.imul, 1) := by decide +kernel
theorem dL_put_24 : decode cL_put 24 = .ok (.isub, 1) := by decide +kernel
theorem dL_put_25 : decode cL_put 25 = .ok (.ishl, 1) := by decide +kernel
theorem dL_put_26 : decode cL_put 26 = .ok (.ior, 1) := by decide +kernel
theorem dL_put_27 : decode cL_put 27 = .ok (.iastore, 1) := by decide +kernel
theorem dL_put_28 : decode cL_put 28 = .ok (.aload_n 1, 1) := by decide +kernel
theorem dL_put_29 : decode cL_put 29 = .ok (.iconst 0, 1) := by decide +kernel
theorem dL_put_30 : decode cL_put 30 = .ok (.dup2, 1) := by decide +kernel
theorem dL_put_31 : decode cL_put 31 = .ok (.iaload, 1) := by decide +kernel
theorem dL_put_32 : decode cL_put 32 = .ok (.iconst 1, 1) := by decide +kernel
theorem dL_put_33 : decode cL_put 33 = .ok (.iadd, 1) := by decide +kernel
theorem dL_put_34 : decode cL_put 34 = .ok (.iastore, 1) := by decide +kernel
theorem dL_put_35 : decode cL_put 35 = .ok (.aload_n 1, 1) := by decide +kernel
theorem dL_put_36 : decode cL_put 36 = .ok (.iconst 0, 1) := by decide +kernel
theorem dL_put_37 : decode cL_put 37 = .ok (.iaload, 1) := by decide +kernel
theorem dL_put_38 : decode cL_put 38 = .ok (.bipush 20, 2) := by decide +kernel
theorem dL_put_40 : decode cL_put 40 = .ok (.irem, 1) := by decide +kernel
theorem dL_put_41 : decode cL_put 41 = .ok (.ifCond .ne 8, 3) := by decide +kernel
theorem dL_put_44 : decode cL_put 44 = .ok (.aload_n 0, 1) := by decide +kernel
theorem dL_put_45 : decode cL_put 45 = .ok (.aload_n 1, 1) := by decide +kernel
theorem dL_put_46 : decode cL_put 46 = .ok (.invokestatic 7, 3) := by decide +kernel
theorem dL_put_49 : decode cL_put 49 = .ok (.return_, 1) := by decide +kernel
theorem dL_flush_0 : decode cL_flush 0 = .ok (.aload_n 0, 1) := by decide +kernel
theorem dL_flush_1 : decode cL_flush 1 = .ok (.aload_n 1, 1) := by decide +kernel
theorem dL_flush_2 : decode cL_flush 2 = .ok (.iconst 1, 1) := by decide +kernel
theorem dL_flush_3 : decode cL_flush 3 = .ok (.iaload, 1) := by decide +kernel
theorem dL_flush_4 : decode cL_flush 4 = .ok (.aload_n 1, 1) := by decide +kernel
theorem dL_flush_5 : decode cL_flush 5 = .ok (.iconst 2, 1) := by decide +kernel
theorem dL_flush_6 : decode cL_flush 6 = .ok (.iaload, 1) := by decide +kernel
theorem dL_flush_7 : decode cL_flush 7 = .ok (.aload_n 1, 1) := by decide +kernel
theorem dL_flush_8 : decode cL_flush 8 = .ok (.iconst 3, 1) := by decide +kernel
theorem dL_flush_9 : decode cL_flush 9 = .ok (.iaload, 1) := by decide +kernel
theorem dL_flush_10 : decode cL_flush 10 = .ok (.aload_n 1, 1) := by decide +kernel
theorem dL_flush_11 : decode cL_flush 11 = .ok (.iconst 4, 1) := by decide +kernel
theorem dL_flush_12 : decode cL_flush 12 = .ok (.iaload, 1) := by decide +kernel
theorem dL_flush_13 : decode cL_flush 13 = .ok (.aload_n 1, 1) := by decide +kernel
theorem dL_flush_14 : decode cL_flush 14 = .ok (.iconst 5, 1) := by decide +kernel
theorem dL_flush_15 : decode cL_flush 15 = .ok (.iaload, 1) := by decide +kernel
theorem dL_flush_16 : decode cL_flush 16 = .ok (.invokevirtual 13, 3) := by decide +kernel
theorem dL_flush_19 : decode cL_flush 19 = .ok (.pop, 1) := by decide +kernel
theorem dL_flush_20 : decode cL_flush 20 = .ok (.iconst 1, 1) := by decide +kernel
theorem dL_flush_21 : decode cL_flush 21 = .ok (.istore_n 2, 1) := by decide +kernel
theorem dL_flush_22 : decode cL_flush 22 = .ok (.iload_n 2, 1) := by decide +kernel
theorem dL_flush_23 : decode cL_flush 23 = .ok (.bipush 6, 2) := by decide +kernel
theorem dL_flush_25 : decode cL_flush 25 = .ok (.if_icmp .ge 13, 3) := by decide +kernel
theorem dL_flush_28 : decode cL_flush 28 = .ok (.aload_n 1, 1) := by decide +kernel
theorem dL_flush_29 : decode cL_flush 29 = .ok (.iload_n 2, 1) := by decide +kernel
theorem dL_flush_30 : decode cL_flush 30 = .ok (.iconst 0, 1) := by decide +kernel
theorem dL_flush_31 : decode cL_flush 31 = .ok (.iastore, 1) := by decide +kernel
theorem dL_flush_32 : decode cL_flush 32 = .ok (.iinc 2 1, 3) := by decide +kernel
theorem dL_flush_35 : decode cL_flush 35 = .ok (.goto (-13), 3) := by decide +kernel
theorem dL_flush_38 : decode cL_flush 38 = .ok (.return_, 1) := by decide +kernel
theorem dL_loadText_0 : decode cL_loadText 0 = .ok (.aload_n 1, 1) := by decide +kernel
theorem dL_loadText_1 : decode cL_loadText 1 = .ok (.iconst 0, 1) := by decide +kernel
theorem dL_loadText_2 : decode cL_loadText 2 = .ok (.iaload, 1) := by decide +kernel
theorem dL_loadText_3 : decode cL_loadText 3 = .ok (.istore_n 2, 1) := by decide +kernel
theorem dL_loadText_4 : decode cL_loadText 4 = .ok (.iload_n 2, 1) := by decide +kernel
theorem dL_loadText_5 : decode cL_loadText 5 = .ok (.bipush 20, 2) := by decide +kernel
theorem dL_loadText_7 : decode cL_loadText 7 = .ok (.irem, 1) := by decide +kernel
theorem dL_loadText_8 : decode cL_loadText 8 = .ok (.ifCond .le 8, 3) := by decide +kernel
theorem dL_loadText_11 : decode cL_loadText 11 = .ok (.aload_n 0, 1) := by decide +kernel
theorem dL_loadText_12 : decode cL_loadText 12 = .ok (.aload_n 1, 1) := by decide +kernel
theorem dL_loadText_13 : decode cL_loadText 13 = .ok (.invokestatic 7, 3) := by decide +kernel
theorem dL_loadText_16 : decode cL_loadText 16 = .ok (.aload_n 1, 1) := by decide +kernel
theorem dL_loadText_17 : decode cL_loadText 17 = .ok (.iconst 0, 1) := by decide +kernel
theorem dL_loadText_18 : decode cL_loadText 18 = .ok (.iconst 0, 1) := by decide +kernel
theorem dL_loadText_19 : decode cL_loadText 19 = .ok (.iastore, 1) := by decide +kernel
theorem dL_loadText_20 : decode cL_loadText 20 = .ok (.aload_n 0, 1) := by decide +kernel
theorem dL_loadText_21 : decode cL_loadText 21 = .ok (.iload_n 2, 1) := by decide +kernel
theorem dL_loadText_22 : decode cL_loadText 22 = .ok (.invokestatic 19, 3) := by decide +kernel
theorem dL_loadText_25 : decode cL_loadText 25 = .ok (.ireturn, 1) := by decide +kernel
theorem dL_write_0 : decode cL_write 0 = .ok (.iconst 0, 1) := by decide +kernel
theorem dL_write_1 : decode cL_write 1 = .ok (.istore_n 3, 1) := by decide +kernel
theorem dL_write_2 : decode cL_write 2 = .ok (.iload_n 3, 1) := by decide +kernel
theorem dL_write_3 : decode cL_write 3 = .ok (.aload_n 2, 1) := by decide +kernel
theorem dL_write_4 : decode cL_write 4 = .ok (.invokevirtual 23, 3) := by decide +kernel
theorem dL_write_7 : decode cL_write 7 = .ok (.if_icmp .ge 19, 3) := by decide +kernel
theorem dL_write_10 : decode cL_write 10 = .ok (.aload_n 0, 1) := by decide +kernel
theorem dL_write_11 : decode cL_write 11 = .ok (.aload_n 1, 1) := by decide +kernel
theorem dL_write_12 : decode cL_write 12 = .ok (.aload_n 2, 1) := by decide +kernel
theorem dL_write_13 : decode cL_write 13 = .ok (.iload_n 3, 1) := by decide +kernel
theorem dL_write_14 : decode cL_write 14 = .ok (.invokevirtual 29, 3) := by decide +kernel
theorem dL_write_17 : decode cL_write 17 = .ok (.invokestatic 33, 3) := by decide +kernel
theorem dL_write_20 : decode cL_write 20 = .ok (.iinc 3 1, 3) := by decide +kernel
theorem dL_write_23 : decode cL_write 23 = .ok (.goto (-21), 3) := by decide +kernel
theorem dL_write_26 : decode cL_write 26 = .ok (.return_, 1) := by decide +kernel
theorem dL_writeNumber_0 : decode cL_writeNumber 0 = .ok (.iconst 1, 1) := by decide +kernel
theorem dL_writeNumber_1 : decode cL_writeNumber 1 = .ok (.istore_n 3, 1) := by decide +kernel
theorem dL_writeNumber_2 : decode cL_writeNumber 2 = .ok (.iload_n 3, 1) := by decide +kernel
theorem dL_writeNumber_3 : decode cL_writeNumber 3 = .ok (.iload_n 2, 1) := by decide +kernel
theorem dL_writeNumber_4 : decode cL_writeNumber 4 = .ok (.bipush 10, 2) := by decide +kernel
theorem dL_writeNumber_6 : decode cL_writeNumber 6 = .ok (.idiv, 1) := by decide +kernel
theorem dL_writeNumber_7 : decode cL_writeNumber 7 = .ok (.if_icmp .gt 11, 3) := by decide +kernel
theorem dL_writeNumber_10 : decode cL_writeNumber 10 = .ok (.iload_n 3, 1) := by decide +kernel
theorem dL_writeNumber_11 : decode cL_writeNumber 11 = .ok (.bipush 10, 2) := by decide +kernel
theorem dL_writeNumber_13 : decode cL_writeNumber 13 = .ok (.imul, 1) := by decide +kernel
theorem dL_writeNumber_14 : decode cL_writeNumber 14 = .ok (.istore_n 3, 1) := by decide +kernel
theorem dL_writeNumber_15 : decode cL_writeNumber 15 = .ok (.goto (-13), 3) := by decide +kernel
theorem dL_writeNumber_18 : decode cL_writeNumber 18 = .ok (.iload_n 3, 1) := by decide +kernel
theorem dL_writeNumber_19 : decode cL_writeNumber 19 = .ok (.ifCond .le 25, 3) := by decide +kernel
theorem dL_writeNumber_22 : decode cL_writeNumber 22 = .ok (.aload_n 0, 1) := by decide +kernel
theorem dL_writeNumber_23 : decode cL_writeNumber 23 = .ok (.aload_n 1, 1) := by decide +kernel
theorem dL_writeNumber_24 : decode cL_writeNumber 24 = .ok (.bipush 48, 2) := by decide +kernel
theorem dL_writeNumber_26 : decode cL_writeNumber 26 = .ok (.iload_n 2, 1) := by decide +kernel
theorem dL_writeNumber_27 : decode cL_writeNumber 27 = .ok (.iload_n 3, 1) := by decide +kernel
theorem dL_writeNumber_28 : decode cL_writeNumber 28 = .ok (.idiv, 1) := by decide +kernel
theorem dL_writeNumber_29 : decode cL_writeNumber 29 = .ok (.bipush 10, 2) := by decide +kernel
theorem dL_writeNumber_31 : decode cL_writeNumber 31 = .ok (.irem, 1) := by decide +kernel
theorem dL_writeNumber_32 : decode cL_writeNumber 32 = .ok (.iadd, 1) := by decide +kernel
theorem dL_writeNumber_33 : decode cL_writeNumber 33 = .ok (.invokestatic 33, 3) := by decide +kernel
theorem dL_writeNumber_36 : decode cL_writeNumber 36 = .ok (.iload_n 3, 1) := by decide +kernel
theorem dL_writeNumber_37 : decode cL_writeNumber 37 = .ok (.bipush 10, 2) := by decide +kernel
theorem dL_writeNumber_39 : decode cL_writeNumber 39 = .ok (.idiv, 1) := by decide +kernel
theorem dL_writeNumber_40 : decode cL_writeNumber 40 = .ok (.istore_n 3, 1) := by decide +kernel
theorem dL_writeNumber_41 : decode cL_writeNumber 41 = .ok (.goto (-23), 3) := by decide +kernel
theorem dL_writeNumber_44 : decode cL_writeNumber 44 = .ok (.return_, 1) := by decide +kernel
theorem dL_load_0 : decode cL_load 0 = .ok (.aload_n 0, 1) := by decide +kernel
theorem dL_load_1 : decode cL_load 1 = .ok (.iload_n 1, 1) := by decide +kernel
theorem dL_load_2 : decode cL_load 2 = .ok (.invokevirtual 37, 3) := by decide +kernel
theorem dL_load_5 : decode cL_load 5 = .ok (.ireturn, 1) := by decide +kernel
theorem dL_load_6 : decode cL_load 6 = .ok (.astore_n 2, 1) := by decide +kernel
theorem dL_load_7 : decode cL_load 7 = .ok (.ldc 42, 2) := by decide +kernel
theorem dL_load_9 : decode cL_load 9 = .ok (.ireturn, 1) := by decide +kernel
theorem dL_state_0 : decode cL_state 0 = .ok (.aload_n 0, 1) := by decide +kernel
theorem dL_state_1 : decode cL_state 1 = .ok (.iload_n 1, 1) := by decide +kernel
theorem dL_state_2 : decode cL_state 2 = .ok (.invokevirtual 43, 3) := by decide +kernel
theorem dL_state_5 : decode cL_state 5 = .ok (.ireturn, 1) := by decide +kernel
theorem dL_state_6 : decode cL_state 6 = .ok (.astore_n 2, 1) := by decide +kernel
theorem dL_state_7 : decode cL_state 7 = .ok (.ldc 42, 2) := by decide +kernel
theorem dL_state_9 : decode cL_state 9 = .ok (.ireturn, 1) := by decide +kernel
theorem dL_letter_0 : decode cL_letter 0 = .ok (.aload_n 0, 1) := by decide +kernel
theorem dL_letter_1 : decode cL_letter 1 = .ok (.iload_n 1, 1) := by decide +kernel
theorem dL_letter_2 : decode cL_letter 2 = .ok (.iload_n 2, 1) := by decide +kernel
theorem dL_letter_3 : decode cL_letter 3 = .ok (.invokevirtual 46, 3) := by decide +kernel
theorem dL_letter_6 : decode cL_letter 6 = .ok (.ireturn, 1) := by decide +kernel
theorem dL_letter_7 : decode cL_letter 7 = .ok (.astore_n 3, 1) := by decide +kernel
theorem dL_letter_8 : decode cL_letter 8 = .ok (.ldc 52, 2) := by decide +kernel
theorem dL_letter_10 : decode cL_letter 10 = .ok (.ireturn, 1) := by decide +kernel
theorem dL_place_0 : decode cL_place 0 = .ok (.aload_n 0, 1) := by decide +kernel
theorem dL_place_1 : decode cL_place 1 = .ok (.iload_n 1, 1) := by decide +kernel
theorem dL_place_2 : decode cL_place 2 = .ok (.iload_n 2, 1) := by decide +kernel
theorem dL_place_3 : decode cL_place 3 = .ok (.iload_n 3, 1) := by decide +kernel
theorem dL_place_4 : decode cL_place 4 = .ok (.invokevirtual 53, 3) := by decide +kernel
theorem dL_place_7 : decode cL_place 7 = .ok (.ireturn, 1) := by decide +kernel
theorem dL_place_8 : decode cL_place 8 = .ok (.astore 4, 2) := by decide +kernel
theorem dL_place_10 : decode cL_place 10 = .ok (.ldc 52, 2) := by decide +kernel
theorem dL_place_12 : decode cL_place 12 = .ok (.ireturn, 1) := by decide +kernel
theorem dL_place_13 : decode cL_place 13 = .ok (.astore 4, 2) := by decide +kernel
theorem dL_place_15 : decode cL_place 15 = .ok (.ldc 42, 2) := by decide +kernel
theorem dL_place_17 : decode cL_place 17 = .ok (.ireturn, 1) := by decide +kernel
theorem dL_stock_0 : decode cL_stock 0 = .ok (.aload_n 0, 1) := by decide +kernel
theorem dL_stock_1 : decode cL_stock 1 = .ok (.iload_n 1, 1) := by decide +kernel
theorem dL_stock_2 : decode cL_stock 2 = .ok (.iload_n 2, 1) := by decide +kernel
theorem dL_stock_3 : decode cL_stock 3 = .ok (.invokevirtual 57, 3) := by decide +kernel
theorem dL_stock_6 : decode cL_stock 6 = .ok (.ireturn, 1) := by decide +kernel
theorem dL_stock_7 : decode cL_stock 7 = .ok (.astore_n 3, 1) := by decide +kernel
theorem dL_stock_8 : decode cL_stock 8 = .ok (.ldc 42, 2) := by decide +kernel
theorem dL_stock_10 : decode cL_stock 10 = .ok (.ireturn, 1) := by decide +kernel
theorem dL_message_0 : decode cL_message 0 = .ok (.aload_n 0, 1) := by decide +kernel
theorem dL_message_1 : decode cL_message 1 = .ok (.iload_n 1, 1) := by decide +kernel
theorem dL_message_2 : decode cL_message 2 = .ok (.invokevirtual 60, 3) := by decide +kernel
theorem dL_message_5 : decode cL_message 5 = .ok (.ireturn, 1) := by decide +kernel
theorem dL_message_6 : decode cL_message 6 = .ok (.astore_n 2, 1) := by decide +kernel
theorem dL_message_7 : decode cL_message 7 = .ok (.ldc 65, 2) := by decide +kernel
theorem dL_message_9 : decode cL_message 9 = .ok (.ireturn, 1) := by decide +kernel
theorem dL_cutOf_0 : decode cL_cutOf 0 = .ok (.aload_n 0, 1) := by decide +kernel
theorem dL_cutOf_1 : decode cL_cutOf 1 = .ok (.iload_n 1, 1) := by decide +kernel
theorem dL_cutOf_2 : decode cL_cutOf 2 = .ok (.iload_n 2, 1) := by decide +kernel
theorem dL_cutOf_3 : decode cL_cutOf 3 = .ok (.invokevirtual 66, 3) := by decide +kernel
theorem dL_cutOf_6 : decode cL_cutOf 6 = .ok (.ireturn, 1) := by decide +kernel
theorem dL_cutOf_7 : decode cL_cutOf 7 = .ok (.astore_n 3, 1) := by decide +kernel
theorem dL_cutOf_8 : decode cL_cutOf 8 = .ok (.ldc 65, 2) := by decide +kernel
theorem dL_cutOf_10 : decode cL_cutOf 10 = .ok (.ireturn, 1) := by decide +kernel
theorem dL_cutOf_11 : decode cL_cutOf 11 = .ok (.astore_n 3, 1) := by decide +kernel
theorem dL_cutOf_12 : decode cL_cutOf 12 = .ok (.ldc 42, 2) := by decide +kernel
theorem dL_cutOf_14 : decode cL_cutOf 14 = .ok (.ireturn, 1) := by decide +kernel
theorem dL_longest_0 : decode cL_longest 0 = .ok (.aload_n 0, 1) := by decide +kernel
theorem dL_longest_1 : decode cL_longest 1 = .ok (.iload_n 1, 1) := by decide +kernel
theorem dL_longest_2 : decode cL_longest 2 = .ok (.invokevirtual 69, 3) := by decide +kernel
theorem dL_longest_5 : decode cL_longest 5 = .ok (.ireturn, 1) := by decide +kernel
theorem dL_longest_6 : decode cL_longest 6 = .ok (.astore_n 2, 1) := by decide +kernel
theorem dL_longest_7 : decode cL_longest 7 = .ok (.ldc 65, 2) := by decide +kernel
theorem dL_longest_9 : decode cL_longest 9 = .ok (.ireturn, 1) := by decide +kernel
theorem dL_tell_0 : decode cL_tell 0 = .ok (.aload_n 0, 1) := by decide +kernel
theorem dL_tell_1 : decode cL_tell 1 = .ok (.iload_n 1, 1) := by decide +kernel
theorem dL_tell_2 : decode cL_tell 2 = .ok (.invokevirtual 72, 3) := by decide +kernel
theorem dL_tell_5 : decode cL_tell 5 = .ok (.ireturn, 1) := by decide +kernel
theorem dL_tell_6 : decode cL_tell 6 = .ok (.astore_n 2, 1) := by decide +kernel
theorem dL_tell_7 : decode cL_tell 7 = .ok (.ldc 42, 2) := by decide +kernel
theorem dL_tell_9 : decode cL_tell 9 = .ok (.ireturn, 1) := by decide +kernel
theorem dL_cut_0 : decode cL_cut 0 = .ok (.aload_n 0, 1) := by decide +kernel
theorem dL_cut_1 : decode cL_cut 1 = .ok (.invokevirtual 75, 3) := by decide +kernel
theorem dL_cut_4 : decode cL_cut 4 = .ok (.ireturn, 1) := by decide +kernel
theorem dL_cut_5 : decode cL_cut 5 = .ok (.astore_n 1, 1) := by decide +kernel
theorem dL_cut_6 : decode cL_cut 6 = .ok (.ldc 80, 2) := by decide +kernel
theorem dL_cut_8 : decode cL_cut 8 = .ok (.ireturn, 1) := by decide +kernel
theorem dL_snip_0 : decode cL_snip 0 = .ok (.aload_n 0, 1) := by decide +kernel
theorem dL_snip_1 : decode cL_snip 1 = .ok (.iload_n 1, 1) := by decide +kernel
theorem dL_snip_2 : decode cL_snip 2 = .ok (.iload_n 2, 1) := by decide +kernel
theorem dL_snip_3 : decode cL_snip 3 = .ok (.iload_n 3, 1) := by decide +kernel
theorem dL_snip_4 : decode cL_snip 4 = .ok (.invokevirtual 81, 3) := by decide +kernel
theorem dL_snip_7 : decode cL_snip 7 = .ok (.ireturn, 1) := by decide +kernel
theorem dL_snip_8 : decode cL_snip 8 = .ok (.astore 4, 2) := by decide +kernel
theorem dL_snip_10 : decode cL_snip 10 = .ok (.ldc 52, 2) := by decide +kernel
theorem dL_snip_12 : decode cL_snip 12 = .ok (.ireturn, 1) := by decide +kernel
theorem dL_snip_13 : decode cL_snip 13 = .ok (.astore 4, 2) := by decide +kernel
theorem dL_snip_15 : decode cL_snip 15 = .ok (.ldc 42, 2) := by decide +kernel
theorem dL_snip_17 : decode cL_snip 17 = .ok (.ireturn, 1) := by decide +kernel
theorem dL_snip_18 : decode cL_snip 18 = .ok (.astore 4, 2) := by decide +kernel
theorem dL_snip_20 : decode cL_snip 20 = .ok (.ldc 80, 2) := by decide +kernel
theorem dL_snip_22 : decode cL_snip 22 = .ok (.ireturn, 1) := by decide +kernel
theorem dL_least_0 : decode cL_least 0 = .ok (.aload_n 0, 1) := by decide +kernel
theorem dL_least_1 : decode cL_least 1 = .ok (.iload_n 1, 1) := by decide +kernel
theorem dL_least_2 : decode cL_least 2 = .ok (.invokevirtual 84, 3) := by decide +kernel
theorem dL_least_5 : decode cL_least 5 = .ok (.ireturn, 1) := by decide +kernel
theorem dL_least_6 : decode cL_least 6 = .ok (.astore_n 2, 1) := by decide +kernel
theorem dL_least_7 : decode cL_least 7 = .ok (.ldc 42, 2) := by decide +kernel
theorem dL_least_9 : decode cL_least 9 = .ok (.ireturn, 1) := by decide +kernel
theorem dL_mend_0 : decode cL_mend 0 = .ok (.aload_n 0, 1) := by decide +kernel
theorem dL_mend_1 : decode cL_mend 1 = .ok (.iload_n 1, 1) := by decide +kernel
theorem dL_mend_2 : decode cL_mend 2 = .ok (.invokevirtual 87, 3) := by decide +kernel
theorem dL_mend_5 : decode cL_mend 5 = .ok (.ireturn, 1) := by decide +kernel
theorem dL_mend_6 : decode cL_mend 6 = .ok (.astore_n 2, 1) := by decide +kernel
theorem dL_mend_7 : decode cL_mend 7 = .ok (.ldc 52, 2) := by decide +kernel
theorem dL_mend_9 : decode cL_mend 9 = .ok (.ireturn, 1) := by decide +kernel
theorem dL_mend_10 : decode cL_mend 10 = .ok (.astore_n 2, 1) := by decide +kernel
theorem dL_mend_11 : decode cL_mend 11 = .ok (.ldc 80, 2) := by decide +kernel
theorem dL_mend_13 : decode cL_mend 13 = .ok (.ireturn, 1) := by decide +kernel
theorem dL_tellText_0 : decode cL_tellText 0 = .ok (.aload_n 0, 1) := by decide +kernel
theorem dL_tellText_1 : decode cL_tellText 1 = .ok (.aload_n 1, 1) := by decide +kernel
theorem dL_tellText_2 : decode cL_tellText 2 = .ok (.aload_n 2, 1) := by decide +kernel
theorem dL_tellText_3 : decode cL_tellText 3 = .ok (.invokestatic 90, 3) := by decide +kernel
theorem dL_tellText_6 : decode cL_tellText 6 = .ok (.aload_n 2, 1) := by decide +kernel
theorem dL_tellText_7 : decode cL_tellText 7 = .ok (.invokevirtual 23, 3) := by decide +kernel
theorem dL_tellText_10 : decode cL_tellText 10 = .ok (.bipush 20, 2) := by decide +kernel
theorem dL_tellText_12 : decode cL_tellText 12 = .ok (.irem, 1) := by decide +kernel
theorem dL_tellText_13 : decode cL_tellText 13 = .ok (.ifCond .le 8, 3) := by decide +kernel
theorem dL_tellText_16 : decode cL_tellText 16 = .ok (.aload_n 0, 1) := by decide +kernel
theorem dL_tellText_17 : decode cL_tellText 17 = .ok (.aload_n 1, 1) := by decide +kernel
theorem dL_tellText_18 : decode cL_tellText 18 = .ok (.invokestatic 7, 3) := by decide +kernel
theorem dL_tellText_21 : decode cL_tellText 21 = .ok (.aload_n 1, 1) := by decide +kernel
theorem dL_tellText_22 : decode cL_tellText 22 = .ok (.iconst 0, 1) := by decide +kernel
theorem dL_tellText_23 : decode cL_tellText 23 = .ok (.iconst 0, 1) := by decide +kernel
theorem dL_tellText_24 : decode cL_tellText 24 = .ok (.iastore, 1) := by decide +kernel
theorem dL_tellText_25 : decode cL_tellText 25 = .ok (.aload_n 0, 1) := by decide +kernel
theorem dL_tellText_26 : decode cL_tellText 26 = .ok (.aload_n 2, 1) := by decide +kernel
theorem dL_tellText_27 : decode cL_tellText 27 = .ok (.invokevirtual 23, 3) := by decide +kernel
theorem dL_tellText_30 : decode cL_tellText 30 = .ok (.invokestatic 94, 3) := by decide +kernel
theorem dL_tellText_33 : decode cL_tellText 33 = .ok (.ireturn, 1) := by decide +kernel
theorem dL_randomWord_0 : decode cL_randomWord 0 = .ok (.ldc 96, 2) := by decide +kernel
theorem dL_randomWord_2 : decode cL_randomWord 2 = .ok (.astore_n 1, 1) := by decide +kernel
theorem dL_randomWord_3 : decode cL_randomWord 3 = .ok (.iconst 1, 1) := by decide +kernel
theorem dL_randomWord_4 : decode cL_randomWord 4 = .ok (.aload_n 0, 1) := by decide +kernel
theorem dL_randomWord_5 : decode cL_randomWord 5 = .ok (.aload_n 0, 1) := by decide +kernel
theorem dL_randomWord_6 : decode cL_randomWord 6 = .ok (.iconst 4, 1) := by decide +kernel
theorem dL_randomWord_7 : decode cL_randomWord 7 = .ok (.invokevirtual 98, 3) := by decide +kernel
theorem dL_randomWord_10 : decode cL_randomWord 10 = .ok (.ifCond .ne 8, 3) := by decide +kernel
theorem dL_randomWord_13 : decode cL_randomWord 13 = .ok (.bipush 9, 2) := by decide +kernel
theorem dL_randomWord_15 : decode cL_randomWord 15 = .ok (.goto 4, 3) := by decide +kernel
theorem dL_randomWord_18 : decode cL_randomWord 18 = .ok (.iconst 5, 1) := by decide +kernel
theorem dL_randomWord_19 : decode cL_randomWord 19 = .ok (.invokevirtual 98, 3) := by decide +kernel
theorem dL_randomWord_22 : decode cL_randomWord 22 = .ok (.iadd, 1) := by decide +kernel
theorem dL_randomWord_23 : decode cL_randomWord 23 = .ok (.istore_n 2, 1) := by decide +kernel
theorem dL_randomWord_24 : decode cL_randomWord 24 = .ok (.iload_n 2, 1) := by decide +kernel
theorem dL_randomWord_25 : decode cL_randomWord 25 = .ok (.ifCond .le 36, 3) := by decide +kernel
theorem dL_randomWord_28 : decode cL_randomWord 28 = .ok (.new 103, 3) := by decide +kernel
theorem dL_randomWord_31 : decode cL_randomWord 31 = .ok (.dup, 1) := by decide +kernel
theorem dL_randomWord_32 : decode cL_randomWord 32 = .ok (.invokespecial 105, 3) := by decide +kernel
theorem dL_randomWord_35 : decode cL_randomWord 35 = .ok (.aload_n 1, 1) := by decide +kernel
theorem dL_randomWord_36 : decode cL_randomWord 36 = .ok (.invokevirtual 106, 3) := by decide +kernel
theorem dL_randomWord_39 : decode cL_randomWord 39 = .ok (.bipush 97, 2) := by decide +kernel
theorem dL_randomWord_41 : decode cL_randomWord 41 = .ok (.aload_n 0, 1) := by decide +kernel
theorem dL_randomWord_42 : decode cL_randomWord 42 = .ok (.iconst 4, 1) := by decide +kernel
theorem dL_randomWord_43 : decode cL_randomWord 43 = .ok (.invokevirtual 98, 3) := by decide +kernel
theorem dL_randomWord_46 : decode cL_randomWord 46 = .ok (.iadd, 1) := by decide +kernel
theorem dL_randomWord_47 : decode cL_randomWord 47 = .ok (.i2c, 1) := by decide +kernel
theorem dL_randomWord_48 : decode cL_randomWord 48 = .ok (.invokevirtual 109, 3) := by decide +kernel
theorem dL_randomWord_51 : decode cL_randomWord 51 = .ok (.invokevirtual 112, 3) := by decide +kernel
theorem dL_randomWord_54 : decode cL_randomWord 54 = .ok (.astore_n 1, 1) := by decide +kernel
theorem dL_randomWord_55 : decode cL_randomWord 55 = .ok (.iinc 2 (-1), 3) := by decide +kernel
theorem dL_randomWord_58 : decode cL_randomWord 58 = .ok (.goto (-34), 3) := by decide +kernel
theorem dL_randomWord_61 : decode cL_randomWord 61 = .ok (.aload_n 1, 1) := by decide +kernel
theorem dL_randomWord_62 : decode cL_randomWord 62 = .ok (.areturn, 1) := by decide +kernel
theorem dL_randomSheet_0 : decode cL_randomSheet 0 = .ok (.new 116, 3) := by decide +kernel
theorem dL_randomSheet_3 : decode cL_randomSheet 3 = .ok (.dup, 1) := by decide +kernel
theorem dL_randomSheet_4 : decode cL_randomSheet 4 = .ok (.invokespecial 118, 3) := by decide +kernel
theorem dL_randomSheet_7 : decode cL_randomSheet 7 = .ok (.astore_n 3, 1) := by decide +kernel
theorem dL_randomSheet_8 : decode cL_randomSheet 8 = .ok (.aload_n 3, 1) := by decide +kernel
theorem dL_randomSheet_9 : decode cL_randomSheet 9 = .ok (.iconst 1, 1) := by decide +kernel
theorem dL_randomSheet_10 : decode cL_randomSheet 10 = .ok (.aload_n 2, 1) := by decide +kernel
theorem dL_randomSheet_11 : decode cL_randomSheet 11 = .ok (.iconst 4, 1) := by decide +kernel
theorem dL_randomSheet_12 : decode cL_randomSheet 12 = .ok (.invokevirtual 98, 3) := by decide +kernel
theorem dL_randomSheet_15 : decode cL_randomSheet 15 = .ok (.iadd, 1) := by decide +kernel
theorem dL_randomSheet_16 : decode cL_randomSheet 16 = .ok (.putfield 119, 3) := by decide +kernel
theorem dL_randomSheet_19 : decode cL_randomSheet 19 = .ok (.aload_n 3, 1) := by decide +kernel
theorem dL_randomSheet_20 : decode cL_randomSheet 20 = .ok (.iconst 1, 1) := by decide +kernel
theorem dL_randomSheet_21 : decode cL_randomSheet 21 = .ok (.aload_n 2, 1) := by decide +kernel
theorem dL_randomSheet_22 : decode cL_randomSheet 22 = .ok (.iconst 3, 1) := by decide +kernel
theorem dL_randomSheet_23 : decode cL_randomSheet 23 = .ok (.invokevirtual 98, 3) := by decide +kernel
theorem dL_randomSheet_26 : decode cL_randomSheet 26 = .ok (.iadd, 1) := by decide +kernel
theorem dL_randomSheet_27 : decode cL_randomSheet 27 = .ok (.putfield 123, 3) := by decide +kernel
theorem dL_randomSheet_30 : decode cL_randomSheet 30 = .ok (.aload_n 3, 1) := by decide +kernel
theorem dL_randomSheet_31 : decode cL_randomSheet 31 = .ok (.aload_n 3, 1) := by decide +kernel
theorem dL_randomSheet_32 : decode cL_randomSheet 32 = .ok (.invokevirtual 126, 3) := by decide +kernel
theorem dL_randomSheet_35 : decode cL_randomSheet 35 = .ok (.newarray .boolean, 2) := by decide +kernel
theorem dL_randomSheet_37 : decode cL_randomSheet 37 = .ok (.putfield 129, 3) := by decide +kernel
theorem dL_randomSheet_40 : decode cL_randomSheet 40 = .ok (.aload_n 3, 1) := by decide +kernel
theorem dL_randomSheet_41 : decode cL_randomSheet 41 = .ok (.iconst 2, 1) := by decide +kernel
theorem dL_randomSheet_42 : decode cL_randomSheet 42 = .ok (.aload_n 3, 1) := by decide +kernel
theorem dL_randomSheet_43 : decode cL_randomSheet 43 = .ok (.getfield 123, 3) := by decide +kernel
theorem dL_randomSheet_46 : decode cL_randomSheet 46 = .ok (.imul, 1) := by decide +kernel
theorem dL_randomSheet_47 : decode cL_randomSheet 47 = .ok (.anewarray 24, 3) := by decide +kernel
theorem dL_randomSheet_50 : decode cL_randomSheet 50 = .ok (.putfield 133, 3) := by decide +kernel
theorem dL_randomSheet_53 : decode cL_randomSheet 53 = .ok (.aload_n 3, 1) := by decide +kernel
theorem dL_randomSheet_54 : decode cL_randomSheet 54 = .ok (.iconst 2, 1) := by decide +kernel
theorem dL_randomSheet_55 : decode cL_randomSheet 55 = .ok (.aload_n 3, 1) := by decide +kernel
theorem dL_randomSheet_56 : decode cL_randomSheet 56 = .ok (.getfield 123, 3) := by decide +kernel
theorem dL_randomSheet_59 : decode cL_randomSheet 59 = .ok (.imul, 1) := by decide +kernel
theorem dL_randomSheet_60 : decode cL_randomSheet 60 = .ok (.newarray .int, 2) := by decide +kernel
theorem dL_randomSheet_62 : decode cL_randomSheet 62 = .ok (.putfield 137, 3) := by decide +kernel
theorem dL_randomSheet_65 : decode cL_randomSheet 65 = .ok (.aload_n 0, 1) := by decide +kernel
theorem dL_randomSheet_66 : decode cL_randomSheet 66 = .ok (.aload_n 1, 1) := by decide +kernel
theorem dL_randomSheet_67 : decode cL_randomSheet 67 = .ok (.ldc 141, 2) := by decide +kernel
theorem dL_randomSheet_69 : decode cL_randomSheet 69 = .ok (.invokestatic 90, 3) := by decide +kernel
theorem dL_randomSheet_72 : decode cL_randomSheet 72 = .ok (.aload_n 0, 1) := by decide +kernel
theorem dL_randomSheet_73 : decode cL_randomSheet 73 = .ok (.aload_n 1, 1) := by decide +kernel
theorem dL_randomSheet_74 : decode cL_randomSheet 74 = .ok (.aload_n 3, 1) := by decide +kernel
theorem dL_randomSheet_75 : decode cL_randomSheet 75 = .ok (.getfield 119, 3) := by decide +kernel
theorem dL_randomSheet_78 : decode cL_randomSheet 78 = .ok (.invokestatic 143, 3) := by decide +kernel
theorem dL_randomSheet_81 : decode cL_randomSheet 81 = .ok (.aload_n 0, 1) := by decide +kernel
theorem dL_randomSheet_82 : decode cL_randomSheet 82 = .ok (.aload_n 1, 1) := by decide +kernel
theorem dL_randomSheet_83 : decode cL_randomSheet 83 = .ok (.ldc 146, 2) := by decide +kernel
theorem dL_randomSheet_85 : decode cL_randomSheet 85 = .ok (.invokestatic 90, 3) := by decide +kernel
theorem dL_randomSheet_88 : decode cL_randomSheet 88 = .ok (.aload_n 0, 1) := by decide +kernel
theorem dL_randomSheet_89 : decode cL_randomSheet 89 = .ok (.aload_n 1, 1) := by decide +kernel
theorem dL_randomSheet_90 : decode cL_randomSheet 90 = .ok (.aload_n 3, 1) := by decide +kernel
theorem dL_randomSheet_91 : decode cL_randomSheet 91 = .ok (.getfield 123, 3) := by decide +kernel
theorem dL_randomSheet_94 : decode cL_randomSheet 94 = .ok (.invokestatic 143, 3) := by decide +kernel
theorem dL_randomSheet_97 : decode cL_randomSheet 97 = .ok (.iconst 0, 1) := by decide +kernel
theorem dL_randomSheet_98 : decode cL_randomSheet 98 = .ok (.istore 4, 2) := by decide +kernel
theorem dL_randomSheet_100 : decode cL_randomSheet 100 = .ok (.iload 4, 2) := by decide +kernel
theorem dL_randomSheet_102 : decode cL_randomSheet 102 = .ok (.iconst 2, 1) := by decide +kernel
theorem dL_randomSheet_103 : decode cL_randomSheet 103 = .ok (.aload_n 3, 1) := by decide +kernel
theorem dL_randomSheet_104 : decode cL_randomSheet 104 = .ok (.getfield 123, 3) := by decide +kernel
theorem dL_randomSheet_107 : decode cL_randomSheet 107 = .ok (.imul, 1) := by decide +kernel
theorem dL_randomSheet_108 : decode cL_randomSheet 108 = .ok (.if_icmp .ge 132, 3) := by decide +kernel
theorem dL_randomSheet_111 : decode cL_randomSheet 111 = .ok (.iload 4, 2) := by decide +kernel
theorem dL_randomSheet_113 : decode cL_randomSheet 113 = .ok (.aload_n 3, 1) := by decide +kernel
theorem dL_randomSheet_114 : decode cL_randomSheet 114 = .ok (.getfield 123, 3) := by decide +kernel
theorem dL_randomSheet_117 : decode cL_randomSheet 117 = .ok (.irem, 1) := by decide +kernel
theorem dL_randomSheet_118 : decode cL_randomSheet 118 = .ok (.ifCond .ne 20, 3) := by decide +kernel
theorem dL_randomSheet_121 : decode cL_randomSheet 121 = .ok (.aload_n 0, 1) := by decide +kernel
theorem dL_randomSheet_122 : decode cL_randomSheet 122 = .ok (.aload_n 1, 1) := by decide +kernel
theorem dL_randomSheet_123 : decode cL_randomSheet 123 = .ok (.iload 4, 2) := by decide +kernel
theorem dL_randomSheet_125 : decode cL_randomSheet 125 = .ok (.ifCond .ne 8, 3) := by decide +kernel
theorem dL_randomSheet_128 : decode cL_randomSheet 128 = .ok (.ldc 148, 2) := by decide +kernel
theorem dL_randomSheet_130 : decode cL_randomSheet 130 = .ok (.goto 5, 3) := by decide +kernel
theorem dL_randomSheet_133 : decode cL_randomSheet 133 = .ok (.ldc 150, 2) := by decide +kernel
theorem dL_randomSheet_135 : decode cL_randomSheet 135 = .ok (.invokestatic 90, 3) := by decide +kernel
theorem dL_randomSheet_138 : decode cL_randomSheet 138 = .ok (.ldc 96, 2) := by decide +kernel
theorem dL_randomSheet_140 : decode cL_randomSheet 140 = .ok (.astore 5, 2) := by decide +kernel
theorem dL_randomSheet_142 : decode cL_randomSheet 142 = .ok (.iconst 0, 1) := by decide +kernel
theorem dL_randomSheet_143 : decode cL_randomSheet 143 = .ok (.istore 6, 2) := by decide +kernel
theorem dL_randomSheet_145 : decode cL_randomSheet 145 = .ok (.iload 6, 2) := by decide +kernel
theorem dL_randomSheet_147 : decode cL_randomSheet 147 = .ok (.aload_n 3, 1) := by decide +kernel
theorem dL_randomSheet_148 : decode cL_randomSheet 148 = .ok (.getfield 119, 3) := by decide +kernel
theorem dL_randomSheet_151 : decode cL_randomSheet 151 = .ok (.if_icmp .ge 52, 3) := by decide +kernel
theorem dL_randomSheet_154 : decode cL_randomSheet 154 = .ok (.new 103, 3) := by decide +kernel
theorem dL_randomSheet_157 : decode cL_randomSheet 157 = .ok (.dup, 1) := by decide +kernel
theorem dL_randomSheet_158 : decode cL_randomSheet 158 = .ok (.invokespecial 105, 3) := by decide +kernel
theorem dL_randomSheet_161 : decode cL_randomSheet 161 = .ok (.aload 5, 2) := by decide +kernel
theorem dL_randomSheet_163 : decode cL_randomSheet 163 = .ok (.invokevirtual 106, 3) := by decide +kernel
theorem dL_randomSheet_166 : decode cL_randomSheet 166 = .ok (.aload_n 2, 1) := by decide +kernel
theorem dL_randomSheet_167 : decode cL_randomSheet 167 = .ok (.bipush 6, 2) := by decide +kernel
theorem dL_randomSheet_169 : decode cL_randomSheet 169 = .ok (.invokevirtual 98, 3) := by decide +kernel
theorem dL_randomSheet_172 : decode cL_randomSheet 172 = .ok (.ifCond .ne 8, 3) := by decide +kernel
theorem dL_randomSheet_175 : decode cL_randomSheet 175 = .ok (.bipush 45, 2) := by decide +kernel
theorem dL_randomSheet_177 : decode cL_randomSheet 177 = .ok (.goto 11, 3) := by decide +kernel
theorem dL_randomSheet_180 : decode cL_randomSheet 180 = .ok (.bipush 97, 2) := by decide +kernel
theorem dL_randomSheet_182 : decode cL_randomSheet 182 = .ok (.aload_n 2, 1) := by decide +kernel
theorem dL_randomSheet_183 : decode cL_randomSheet 183 = .ok (.iconst 4, 1) := by decide +kernel
theorem dL_randomSheet_184 : decode cL_randomSheet 184 = .ok (.invokevirtual 98, 3) := by decide +kernel
theorem dL_randomSheet_187 : decode cL_randomSheet 187 = .ok (.iadd, 1) := by decide +kernel
theorem dL_randomSheet_188 : decode cL_randomSheet 188 = .ok (.i2c, 1) := by decide +kernel
theorem dL_randomSheet_189 : decode cL_randomSheet 189 = .ok (.invokevirtual 109, 3) := by decide +kernel
theorem dL_randomSheet_192 : decode cL_randomSheet 192 = .ok (.invokevirtual 112, 3) := by decide +kernel
theorem dL_randomSheet_195 : decode cL_randomSheet 195 = .ok (.astore 5, 2) := by decide +kernel
theorem dL_randomSheet_197 : decode cL_randomSheet 197 = .ok (.iinc 6 1, 3) := by decide +kernel
theorem dL_randomSheet_200 : decode cL_randomSheet 200 = .ok (.goto (-55), 3) := by decide +kernel
theorem dL_randomSheet_203 : decode cL_randomSheet 203 = .ok (.aload_n 3, 1) := by decide +kernel
theorem dL_randomSheet_204 : decode cL_randomSheet 204 = .ok (.getfield 133, 3) := by decide +kernel
theorem dL_randomSheet_207 : decode cL_randomSheet 207 = .ok (.iload 4, 2) := by decide +kernel
theorem dL_randomSheet_209 : decode cL_randomSheet 209 = .ok (.aload 5, 2) := by decide +kernel
theorem dL_randomSheet_211 : decode cL_randomSheet 211 = .ok (.aastore, 1) := by decide +kernel
theorem dL_randomSheet_212 : decode cL_randomSheet 212 = .ok (.aload_n 0, 1) := by decide +kernel
theorem dL_randomSheet_213 : decode cL_randomSheet 213 = .ok (.aload_n 1, 1) := by decide +kernel
theorem dL_randomSheet_214 : decode cL_randomSheet 214 = .ok (.ldc 146, 2) := by decide +kernel
theorem dL_randomSheet_216 : decode cL_randomSheet 216 = .ok (.invokestatic 90, 3) := by decide +kernel
theorem dL_randomSheet_219 : decode cL_randomSheet 219 = .ok (.aload_n 0, 1) := by decide +kernel
theorem dL_randomSheet_220 : decode cL_randomSheet 220 = .ok (.aload_n 1, 1) := by decide +kernel
theorem dL_randomSheet_221 : decode cL_randomSheet 221 = .ok (.aload 5, 2) := by decide +kernel
theorem dL_randomSheet_223 : decode cL_randomSheet 223 = .ok (.invokestatic 90, 3) := by decide +kernel
theorem dL_randomSheet_226 : decode cL_randomSheet 226 = .ok (.aload_n 3, 1) := by decide +kernel
theorem dL_randomSheet_227 : decode cL_randomSheet 227 = .ok (.getfield 137, 3) := by decide +kernel
theorem dL_randomSheet_230 : decode cL_randomSheet 230 = .ok (.iload 4, 2) := by decide +kernel
theorem dL_randomSheet_232 : decode cL_randomSheet 232 = .ok (.iconst 1, 1) := by decide +kernel
theorem dL_randomSheet_233 : decode cL_randomSheet 233 = .ok (.iastore, 1) := by decide +kernel
theorem dL_randomSheet_234 : decode cL_randomSheet 234 = .ok (.iinc 4 1, 3) := by decide +kernel
theorem dL_randomSheet_237 : decode cL_randomSheet 237 = .ok (.goto (-137), 3) := by decide +kernel
theorem dL_randomSheet_240 : decode cL_randomSheet 240 = .ok (.aload_n 2, 1) := by decide +kernel
theorem dL_randomSheet_241 : decode cL_randomSheet 241 = .ok (.iconst 2, 1) := by decide +kernel
theorem dL_randomSheet_242 : decode cL_randomSheet 242 = .ok (.invokevirtual 98, 3) := by decide +kernel
theorem dL_randomSheet_245 : decode cL_randomSheet 245 = .ok (.ifCond .ne 63, 3) := by decide +kernel
theorem dL_randomSheet_248 : decode cL_randomSheet 248 = .ok (.aload_n 0, 1) := by decide +kernel
theorem dL_randomSheet_249 : decode cL_randomSheet 249 = .ok (.aload_n 1, 1) := by decide +kernel
theorem dL_randomSheet_250 : decode cL_randomSheet 250 = .ok (.ldc 152, 2) := by decide +kernel
theorem dL_randomSheet_252 : decode cL_randomSheet 252 = .ok (.invokestatic 90, 3) := by decide +kernel
theorem dL_randomSheet_255 : decode cL_randomSheet 255 = .ok (.iconst 0, 1) := by decide +kernel
theorem dL_randomSheet_256 : decode cL_randomSheet 256 = .ok (.istore 4, 2) := by decide +kernel
theorem dL_randomSheet_258 : decode cL_randomSheet 258 = .ok (.iload 4, 2) := by decide +kernel
theorem dL_randomSheet_260 : decode cL_randomSheet 260 = .ok (.iconst 2, 1) := by decide +kernel
theorem dL_randomSheet_261 : decode cL_randomSheet 261 = .ok (.aload_n 3, 1) := by decide +kernel
theorem dL_randomSheet_262 : decode cL_randomSheet 262 = .ok (.getfield 123, 3) := by decide +kernel
theorem dL_randomSheet_265 : decode cL_randomSheet 265 = .ok (.imul, 1) := by decide +kernel
theorem dL_randomSheet_266 : decode cL_randomSheet 266 = .ok (.if_icmp .ge 42, 3) := by decide +kernel
theorem dL_randomSheet_269 : decode cL_randomSheet 269 = .ok (.aload_n 3, 1) := by decide +kernel
theorem dL_randomSheet_270 : decode cL_randomSheet 270 = .ok (.getfield 137, 3) := by decide +kernel
theorem dL_randomSheet_273 : decode cL_randomSheet 273 = .ok (.iload 4, 2) := by decide +kernel
theorem dL_randomSheet_275 : decode cL_randomSheet 275 = .ok (.iconst 1, 1) := by decide +kernel
theorem dL_randomSheet_276 : decode cL_randomSheet 276 = .ok (.aload_n 2, 1) := by decide +kernel
theorem dL_randomSheet_277 : decode cL_randomSheet 277 = .ok (.iconst 4, 1) := by decide +kernel
theorem dL_randomSheet_278 : decode cL_randomSheet 278 = .ok (.invokevirtual 98, 3) := by decide +kernel
theorem dL_randomSheet_281 : decode cL_randomSheet 281 = .ok (.iadd, 1) := by decide +kernel
theorem dL_randomSheet_282 : decode cL_randomSheet 282 = .ok (.iastore, 1) := by decide +kernel
theorem dL_randomSheet_283 : decode cL_randomSheet 283 = .ok (.aload_n 0, 1) := by decide +kernel
theorem dL_randomSheet_284 : decode cL_randomSheet 284 = .ok (.aload_n 1, 1) := by decide +kernel
theorem dL_randomSheet_285 : decode cL_randomSheet 285 = .ok (.ldc 146, 2) := by decide +kernel
theorem dL_randomSheet_287 : decode cL_randomSheet 287 = .ok (.invokestatic 90, 3) := by decide +kernel
theorem dL_randomSheet_290 : decode cL_randomSheet 290 = .ok (.aload_n 0, 1) := by decide +kernel
theorem dL_randomSheet_291 : decode cL_randomSheet 291 = .ok (.aload_n 1, 1) := by decide +kernel
theorem dL_randomSheet_292 : decode cL_randomSheet 292 = .ok (.aload_n 3, 1) := by decide +kernel
theorem dL_randomSheet_293 : decode cL_randomSheet 293 = .ok (.getfield 137, 3) := by decide +kernel
theorem dL_randomSheet_296 : decode cL_randomSheet 296 = .ok (.iload 4, 2) := by decide +kernel
theorem dL_randomSheet_298 : decode cL_randomSheet 298 = .ok (.iaload, 1) := by decide +kernel
theorem dL_randomSheet_299 : decode cL_randomSheet 299 = .ok (.invokestatic 143, 3) := by decide +kernel
theorem dL_randomSheet_302 : decode cL_randomSheet 302 = .ok (.iinc 4 1, 3) := by decide +kernel
theorem dL_randomSheet_305 : decode cL_randomSheet 305 = .ok (.goto (-47), 3) := by decide +kernel
theorem dL_randomSheet_308 : decode cL_randomSheet 308 = .ok (.aload_n 2, 1) := by decide +kernel
theorem dL_randomSheet_309 : decode cL_randomSheet 309 = .ok (.iconst 3, 1) := by decide +kernel
theorem dL_randomSheet_310 : decode cL_randomSheet 310 = .ok (.invokevirtual 98, 3) := by decide +kernel
theorem dL_randomSheet_313 : decode cL_randomSheet 313 = .ok (.ifCond .ne 30, 3) := by decide +kernel
theorem dL_randomSheet_316 : decode cL_randomSheet 316 = .ok (.aload_n 3, 1) := by decide +kernel
theorem dL_randomSheet_317 : decode cL_randomSheet 317 = .ok (.iconst 1, 1) := by decide +kernel
theorem dL_randomSheet_318 : decode cL_randomSheet 318 = .ok (.aload_n 2, 1) := by decide +kernel
theorem dL_randomSheet_319 : decode cL_randomSheet 319 = .ok (.iconst 3, 1) := by decide +kernel
theorem dL_randomSheet_320 : decode cL_randomSheet 320 = .ok (.invokevirtual 98, 3) := by decide +kernel
theorem dL_randomSheet_323 : decode cL_randomSheet 323 = .ok (.iadd, 1) := by decide +kernel
theorem dL_randomSheet_324 : decode cL_randomSheet 324 = .ok (.putfield 154, 3) := by decide +kernel
theorem dL_randomSheet_327 : decode cL_randomSheet 327 = .ok (.aload_n 0, 1) := by decide +kernel
theorem dL_randomSheet_328 : decode cL_randomSheet 328 = .ok (.aload_n 1, 1) := by decide +kernel
theorem dL_randomSheet_329 : decode cL_randomSheet 329 = .ok (.ldc 156, 2) := by decide +kernel
theorem dL_randomSheet_331 : decode cL_randomSheet 331 = .ok (.invokestatic 90, 3) := by decide +kernel
theorem dL_randomSheet_334 : decode cL_randomSheet 334 = .ok (.aload_n 0, 1) := by decide +kernel
theorem dL_randomSheet_335 : decode cL_randomSheet 335 = .ok (.aload_n 1, 1) := by decide +kernel
theorem dL_randomSheet_336 : decode cL_randomSheet 336 = .ok (.aload_n 3, 1) := by decide +kernel
theorem dL_randomSheet_337 : decode cL_randomSheet 337 = .ok (.getfield 154, 3) := by decide +kernel
theorem dL_randomSheet_340 : decode cL_randomSheet 340 = .ok (.invokestatic 143, 3) := by decide +kernel
theorem dL_randomSheet_343 : decode cL_randomSheet 343 = .ok (.aload_n 0, 1) := by decide +kernel
theorem dL_randomSheet_344 : decode cL_randomSheet 344 = .ok (.aload_n 1, 1) := by decide +kernel
theorem dL_randomSheet_345 : decode cL_randomSheet 345 = .ok (.ldc 158, 2) := by decide +kernel
theorem dL_randomSheet_347 : decode cL_randomSheet 347 = .ok (.invokestatic 90, 3) := by decide +kernel
theorem dL_randomSheet_350 : decode cL_randomSheet 350 = .ok (.aload_n 0, 1) := by decide +kernel
theorem dL_randomSheet_351 : decode cL_randomSheet 351 = .ok (.aload_n 1, 1) := by decide +kernel
theorem dL_randomSheet_352 : decode cL_randomSheet 352 = .ok (.invokestatic 160, 3) := by decide +kernel
theorem dL_randomSheet_355 : decode cL_randomSheet 355 = .ok (.aload_n 3, 1) := by decide +kernel
theorem dL_randomSheet_356 : decode cL_randomSheet 356 = .ok (.invokevirtual 126, 3) := by decide +kernel
theorem dL_randomSheet_359 : decode cL_randomSheet 359 = .ok (.if_icmp .ne 7, 3) := by decide +kernel
theorem dL_randomSheet_362 : decode cL_randomSheet 362 = .ok (.aload_n 3, 1) := by decide +kernel
theorem dL_randomSheet_363 : decode cL_randomSheet 363 = .ok (.goto 4, 3) := by decide +kernel
theorem dL_randomSheet_366 : decode cL_randomSheet 366 = .ok (.aconst_null, 1) := by decide +kernel
theorem dL_randomSheet_367 : decode cL_randomSheet 367 = .ok (.areturn, 1) := by decide +kernel
theorem dL_agrees_0 : decode cL_agrees 0 = .ok (.aload_n 0, 1) := by decide +kernel
theorem dL_agrees_1 : decode cL_agrees 1 = .ok (.invokevirtual 164, 3) := by decide +kernel
theorem dL_agrees_4 : decode cL_agrees 4 = .ok (.aload_n 1, 1) := by decide +kernel
theorem dL_agrees_5 : decode cL_agrees 5 = .ok (.invokevirtual 168, 3) := by decide +kernel
theorem dL_agrees_8 : decode cL_agrees 8 = .ok (.lcmp, 1) := by decide +kernel
theorem dL_agrees_9 : decode cL_agrees 9 = .ok (.ifCond .ne 59, 3) := by decide +kernel
theorem dL_agrees_12 : decode cL_agrees 12 = .ok (.aload_n 0, 1) := by decide +kernel
theorem dL_agrees_13 : decode cL_agrees 13 = .ok (.bipush 8, 2) := by decide +kernel
theorem dL_agrees_15 : decode cL_agrees 15 = .ok (.invokestatic 169, 3) := by decide +kernel
theorem dL_agrees_18 : decode cL_agrees 18 = .ok (.ldc 42, 2) := by decide +kernel
theorem dL_agrees_20 : decode cL_agrees 20 = .ok (.if_icmp .ne 48, 3) := by decide +kernel
theorem dL_agrees_23 : decode cL_agrees 23 = .ok (.aload_n 0, 1) := by decide +kernel
theorem dL_agrees_24 : decode cL_agrees 24 = .ok (.iconst 2, 1) := by decide +kernel
theorem dL_agrees_25 : decode cL_agrees 25 = .ok (.iconst 0, 1) := by decide +kernel
theorem dL_agrees_26 : decode cL_agrees 26 = .ok (.invokestatic 171, 3) := by decide +kernel
theorem dL_agrees_29 : decode cL_agrees 29 = .ok (.ldc 52, 2) := by decide +kernel
theorem dL_agrees_31 : decode cL_agrees 31 = .ok (.if_icmp .ne 37, 3) := by decide +kernel
theorem dL_agrees_34 : decode cL_agrees 34 = .ok (.aload_n 0, 1) := by decide +kernel
theorem dL_agrees_35 : decode cL_agrees 35 = .ok (.iconst 0, 1) := by decide +kernel
theorem dL_agrees_36 : decode cL_agrees 36 = .ok (.aload_n 1, 1) := by decide +kernel
theorem dL_agrees_37 : decode cL_agrees 37 = .ok (.invokevirtual 126, 3) := by decide +kernel
theorem dL_agrees_40 : decode cL_agrees 40 = .ok (.invokestatic 171, 3) := by decide +kernel
theorem dL_agrees_43 : decode cL_agrees 43 = .ok (.ldc 52, 2) := by decide +kernel
theorem dL_agrees_45 : decode cL_agrees 45 = .ok (.if_icmp .ne 23, 3) := by decide +kernel
theorem dL_agrees_48 : decode cL_agrees 48 = .ok (.aload_n 0, 1) := by decide +kernel
theorem dL_agrees_49 : decode cL_agrees 49 = .ok (.aload_n 1, 1) := by decide +kernel
theorem dL_agrees_50 : decode cL_agrees 50 = .ok (.getfield 174, 3) := by decide +kernel
theorem dL_agrees_53 : decode cL_agrees 53 = .ok (.invokevirtual 23, 3) := by decide +kernel
theorem dL_agrees_56 : decode cL_agrees 56 = .ok (.invokestatic 177, 3) := by decide +kernel
theorem dL_agrees_59 : decode cL_agrees 59 = .ok (.ldc 65, 2) := by decide +kernel
theorem dL_agrees_61 : decode cL_agrees 61 = .ok (.if_icmp .ne 7, 3) := by decide +kernel
theorem dL_agrees_64 : decode cL_agrees 64 = .ok (.iconst 1, 1) := by decide +kernel
theorem dL_agrees_65 : decode cL_agrees 65 = .ok (.goto 4, 3) := by decide +kernel
theorem dL_agrees_68 : decode cL_agrees 68 = .ok (.iconst 0, 1) := by decide +kernel
theorem dL_agrees_69 : decode cL_agrees 69 = .ok (.istore_n 2, 1) := by decide +kernel
theorem dL_agrees_70 : decode cL_agrees 70 = .ok (.iconst 0, 1) := by decide +kernel
theorem dL_agrees_71 : decode cL_agrees 71 = .ok (.istore_n 3, 1) := by decide +kernel
theorem dL_agrees_72 : decode cL_agrees 72 = .ok (.iload_n 3, 1) := by decide +kernel
theorem dL_agrees_73 : decode cL_agrees 73 = .ok (.bipush 8, 2) := by decide +kernel
theorem dL_agrees_75 : decode cL_agrees 75 = .ok (.if_icmp .ge 32, 3) := by decide +kernel
theorem dL_agrees_78 : decode cL_agrees 78 = .ok (.iload_n 2, 1) := by decide +kernel
theorem dL_agrees_79 : decode cL_agrees 79 = .ok (.ifCond .eq 28, 3) := by decide +kernel
theorem dL_agrees_82 : decode cL_agrees 82 = .ok (.aload_n 0, 1) := by decide +kernel
theorem dL_agrees_83 : decode cL_agrees 83 = .ok (.iload_n 3, 1) := by decide +kernel
theorem dL_agrees_84 : decode cL_agrees 84 = .ok (.invokestatic 169, 3) := by decide +kernel
theorem dL_agrees_87 : decode cL_agrees 87 = .ok (.aload_n 1, 1) := by decide +kernel
theorem dL_agrees_88 : decode cL_agrees 88 = .ok (.iload_n 3, 1) := by decide +kernel
theorem dL_agrees_89 : decode cL_agrees 89 = .ok (.invokevirtual 179, 3) := by decide +kernel
theorem dL_agrees_92 : decode cL_agrees 92 = .ok (.if_icmp .ne 7, 3) := by decide +kernel
theorem dL_agrees_95 : decode cL_agrees 95 = .ok (.iconst 1, 1) := by decide +kernel
theorem dL_agrees_96 : decode cL_agrees 96 = .ok (.goto 4, 3) := by decide +kernel
theorem dL_agrees_99 : decode cL_agrees 99 = .ok (.iconst 0, 1) := by decide +kernel
theorem dL_agrees_100 : decode cL_agrees 100 = .ok (.istore_n 2, 1) := by decide +kernel
theorem dL_agrees_101 : decode cL_agrees 101 = .ok (.iinc 3 1, 3) := by decide +kernel
theorem dL_agrees_104 : decode cL_agrees 104 = .ok (.goto (-32), 3) := by decide +kernel
theorem dL_agrees_107 : decode cL_agrees 107 = .ok (.iload_n 2, 1) := by decide +kernel
theorem dL_agrees_108 : decode cL_agrees 108 = .ok (.ireturn, 1) := by decide +kernel
theorem dL_law_0 : decode cL_law 0 = .ok (.iconst 1, 1) := by decide +kernel
theorem dL_law_1 : decode cL_law 1 = .ok (.istore_n 1, 1) := by decide +kernel
theorem dL_law_2 : decode cL_law 2 = .ok (.iconst 0, 1) := by decide +kernel
theorem dL_law_3 : decode cL_law 3 = .ok (.istore_n 2, 1) := by decide +kernel
theorem dL_law_4 : decode cL_law 4 = .ok (.iload_n 2, 1) := by decide +kernel
theorem dL_law_5 : decode cL_law 5 = .ok (.aload_n 0, 1) := by decide +kernel
theorem dL_law_6 : decode cL_law 6 = .ok (.arraylength, 1) := by decide +kernel
theorem dL_law_7 : decode cL_law 7 = .ok (.if_icmp .ge 931, 3) := by decide +kernel
theorem dL_law_10 : decode cL_law 10 = .ok (.iload_n 2, 1) := by decide +kernel
theorem dL_law_11 : decode cL_law 11 = .ok (.iconst 2, 1) := by decide +kernel
theorem dL_law_12 : decode cL_law 12 = .ok (.if_icmp .ge 926, 3) := by decide +kernel
theorem dL_law_15 : decode cL_law 15 = .ok (.iload_n 1, 1) := by decide +kernel
theorem dL_law_16 : decode cL_law 16 = .ok (.ifCond .eq 922, 3) := by decide +kernel
theorem dL_law_19 : decode cL_law 19 = .ok (.new 14, 3) := by decide +kernel
theorem dL_law_22 : decode cL_law 22 = .ok (.dup, 1) := by decide +kernel
theorem dL_law_23 : decode cL_law 23 = .ok (.invokespecial 182, 3) := by decide +kernel
theorem dL_law_26 : decode cL_law 26 = .ok (.astore_n 3, 1) := by decide +kernel
theorem dL_law_27 : decode cL_law 27 = .ok (.bipush 8, 2) := by decide +kernel
theorem dL_law_29 : decode cL_law 29 = .ok (.newarray .int, 2) := by decide +kernel
theorem dL_law_31 : decode cL_law 31 = .ok (.astore 4, 2) := by decide +kernel
theorem dL_law_33 : decode cL_law 33 = .ok (.new 99, 3) := by decide +kernel
theorem dL_law_36 : decode cL_law 36 = .ok (.dup, 1) := by decide +kernel
theorem dL_law_37 : decode cL_law 37 = .ok (.aload_n 0, 1) := by decide +kernel
theorem dL_law_38 : decode cL_law 38 = .ok (.iload_n 2, 1) := by decide +kernel
theorem dL_law_39 : decode cL_law 39 = .ok (.iaload, 1) := by decide +kernel
theorem dL_law_40 : decode cL_law 40 = .ok (.invokespecial 183, 3) := by decide +kernel
theorem dL_law_43 : decode cL_law 43 = .ok (.astore 5, 2) := by decide +kernel
theorem dL_law_45 : decode cL_law 45 = .ok (.aload_n 3, 1) := by decide +kernel
theorem dL_law_46 : decode cL_law 46 = .ok (.new 116, 3) := by decide +kernel
theorem dL_law_49 : decode cL_law 49 = .ok (.dup, 1) := by decide +kernel
theorem dL_law_50 : decode cL_law 50 = .ok (.invokespecial 118, 3) := by decide +kernel
theorem dL_law_53 : decode cL_law 53 = .ok (.invokestatic 186, 3) := by decide +kernel
theorem dL_law_56 : decode cL_law 56 = .ok (.ifCond .eq 126, 3) := by decide +kernel
theorem dL_law_59 : decode cL_law 59 = .ok (.aload_n 3, 1) := by decide +kernel
theorem dL_law_60 : decode cL_law 60 = .ok (.invokevirtual 190, 3) := by decide +kernel
theorem dL_law_63 : decode cL_law 63 = .ok (.iconst (-1), 1) := by decide +kernel
theorem dL_law_64 : decode cL_law 64 = .ok (.if_icmp .ne 118, 3) := by decide +kernel
theorem dL_law_67 : decode cL_law 67 = .ok (.aload_n 3, 1) := by decide +kernel
theorem dL_law_68 : decode cL_law 68 = .ok (.invokevirtual 193, 3) := by decide +kernel
theorem dL_law_71 : decode cL_law 71 = .ok (.iconst (-1), 1) := by decide +kernel
theorem dL_law_72 : decode cL_law 72 = .ok (.if_icmp .ne 110, 3) := by decide +kernel
theorem dL_law_75 : decode cL_law 75 = .ok (.aload_n 3, 1) := by decide +kernel
theorem dL_law_76 : decode cL_law 76 = .ok (.iconst 1, 1) := by decide +kernel
theorem dL_law_77 : decode cL_law 77 = .ok (.invokestatic 94, 3) := by decide +kernel
theorem dL_law_80 : decode cL_law 80 = .ok (.ldc 42, 2) := by decide +kernel
theorem dL_law_82 : decode cL_law 82 = .ok (.if_icmp .ne 100, 3) := by decide +kernel
theorem dL_law_85 : decode cL_law 85 = .ok (.aload_n 3, 1) := by decide +kernel
theorem dL_law_86 : decode cL_law 86 = .ok (.invokestatic 196, 3) := by decide +kernel
theorem dL_law_89 : decode cL_law 89 = .ok (.ldc 80, 2) := by decide +kernel
theorem dL_law_91 : decode cL_law 91 = .ok (.if_icmp .ne 91, 3) := by decide +kernel
theorem dL_law_94 : decode cL_law 94 = .ok (.aload_n 3, 1) := by decide +kernel
theorem dL_law_95 : decode cL_law 95 = .ok (.iconst 0, 1) := by decide +kernel
theorem dL_law_96 : decode cL_law 96 = .ok (.iconst 0, 1) := by decide +kernel
theorem dL_law_97 : decode cL_law 97 = .ok (.iconst 1, 1) := by decide +kernel
theorem dL_law_98 : decode cL_law 98 = .ok (.invokestatic 199, 3) := by decide +kernel
theorem dL_law_101 : decode cL_law 101 = .ok (.ldc 80, 2) := by decide +kernel
theorem dL_law_103 : decode cL_law 103 = .ok (.if_icmp .ne 79, 3) := by decide +kernel
theorem dL_law_106 : decode cL_law 106 = .ok (.aload_n 3, 1) := by decide +kernel
theorem dL_law_107 : decode cL_law 107 = .ok (.iconst 0, 1) := by decide +kernel
theorem dL_law_108 : decode cL_law 108 = .ok (.iconst 1, 1) := by decide +kernel
theorem dL_law_109 : decode cL_law 109 = .ok (.iconst 1, 1) := by decide +kernel
theorem dL_law_110 : decode cL_law 110 = .ok (.invokestatic 199, 3) := by decide +kernel
theorem dL_law_113 : decode cL_law 113 = .ok (.ldc 52, 2) := by decide +kernel
theorem dL_law_115 : decode cL_law 115 = .ok (.if_icmp .ne 67, 3) := by decide +kernel
theorem dL_law_118 : decode cL_law 118 = .ok (.aload_n 3, 1) := by decide +kernel
theorem dL_law_119 : decode cL_law 119 = .ok (.iconst 0, 1) := by decide +kernel
theorem dL_law_120 : decode cL_law 120 = .ok (.iconst 0, 1) := by decide +kernel
theorem dL_law_121 : decode cL_law 121 = .ok (.bipush 9, 2) := by decide +kernel
theorem dL_law_123 : decode cL_law 123 = .ok (.invokestatic 199, 3) := by decide +kernel
theorem dL_law_126 : decode cL_law 126 = .ok (.ldc 42, 2) := by decide +kernel
theorem dL_law_128 : decode cL_law 128 = .ok (.if_icmp .ne 54, 3) := by decide +kernel
theorem dL_law_131 : decode cL_law 131 = .ok (.aload_n 3, 1) := by decide +kernel
theorem dL_law_132 : decode cL_law 132 = .ok (.bipush 10, 2) := by decide +kernel
theorem dL_law_134 : decode cL_law 134 = .ok (.invokestatic 202, 3) := by decide +kernel
theorem dL_law_137 : decode cL_law 137 = .ok (.ldc 42, 2) := by decide +kernel
theorem dL_law_139 : decode cL_law 139 = .ok (.if_icmp .ne 43, 3) := by decide +kernel
theorem dL_law_142 : decode cL_law 142 = .ok (.aload_n 3, 1) := by decide +kernel
theorem dL_law_143 : decode cL_law 143 = .ok (.iconst 0, 1) := by decide +kernel
theorem dL_law_144 : decode cL_law 144 = .ok (.invokestatic 204, 3) := by decide +kernel
theorem dL_law_147 : decode cL_law 147 = .ok (.ldc 80, 2) := by decide +kernel
theorem dL_law_149 : decode cL_law 149 = .ok (.if_icmp .ne 33, 3) := by decide +kernel
theorem dL_law_152 : decode cL_law 152 = .ok (.aload_n 3, 1) := by decide +kernel
theorem dL_law_153 : decode cL_law 153 = .ok (.iconst 1, 1) := by decide +kernel
theorem dL_law_154 : decode cL_law 154 = .ok (.invokestatic 204, 3) := by decide +kernel
theorem dL_law_157 : decode cL_law 157 = .ok (.ldc 52, 2) := by decide +kernel
theorem dL_law_159 : decode cL_law 159 = .ok (.if_icmp .ne 23, 3) := by decide +kernel
theorem dL_law_162 : decode cL_law 162 = .ok (.aload_n 3, 1) := by decide +kernel
theorem dL_law_163 : decode cL_law 163 = .ok (.iconst 2, 1) := by decide +kernel
theorem dL_law_164 : decode cL_law 164 = .ok (.invokestatic 202, 3) := by decide +kernel
theorem dL_law_167 : decode cL_law 167 = .ok (.iconst 1, 1) := by decide +kernel
theorem dL_law_168 : decode cL_law 168 = .ok (.if_icmp .ne 14, 3) := by decide +kernel
theorem dL_law_171 : decode cL_law 171 = .ok (.aload_n 3, 1) := by decide +kernel
theorem dL_law_172 : decode cL_law 172 = .ok (.invokevirtual 193, 3) := by decide +kernel
theorem dL_law_175 : decode cL_law 175 = .ok (.ifCond .ne 7, 3) := by decide +kernel
theorem dL_law_178 : decode cL_law 178 = .ok (.iconst 1, 1) := by decide +kernel
theorem dL_law_179 : decode cL_law 179 = .ok (.goto 4, 3) := by decide +kernel
theorem dL_law_182 : decode cL_law 182 = .ok (.iconst 0, 1) := by decide +kernel
theorem dL_law_183 : decode cL_law 183 = .ok (.istore_n 1, 1) := by decide +kernel
theorem dL_law_184 : decode cL_law 184 = .ok (.aload_n 3, 1) := by decide +kernel
theorem dL_law_185 : decode cL_law 185 = .ok (.aload 4, 2) := by decide +kernel
theorem dL_law_187 : decode cL_law 187 = .ok (.aload 5, 2) := by decide +kernel
theorem dL_law_189 : decode cL_law 189 = .ok (.invokestatic 206, 3) := by decide +kernel
theorem dL_law_192 : decode cL_law 192 = .ok (.astore 6, 2) := by decide +kernel
theorem dL_law_194 : decode cL_law 194 = .ok (.aload 6, 2) := by decide +kernel
theorem dL_law_196 : decode cL_law 196 = .ok (.ifnonnull 5, 3) := by decide +kernel
theorem dL_law_199 : decode cL_law 199 = .ok (.iconst 0, 1) := by decide +kernel
theorem dL_law_200 : decode cL_law 200 = .ok (.ireturn, 1) := by decide +kernel
theorem dL_law_201 : decode cL_law 201 = .ok (.iload_n 1, 1) := by decide +kernel
theorem dL_law_202 : decode cL_law 202 = .ok (.ifCond .eq 16, 3) := by decide +kernel
theorem dL_law_205 : decode cL_law 205 = .ok (.aload_n 3, 1) := by decide +kernel
theorem dL_law_206 : decode cL_law 206 = .ok (.aload 6, 2) := by decide +kernel
theorem dL_law_208 : decode cL_law 208 = .ok (.invokestatic 186, 3) := by decide +kernel
theorem dL_law_211 : decode cL_law 211 = .ok (.ifCond .eq 7, 3) := by decide +kernel
theorem dL_law_214 : decode cL_law 214 = .ok (.iconst 1, 1) := by decide +kernel
theorem dL_law_215 : decode cL_law 215 = .ok (.goto 4, 3) := by decide +kernel
theorem dL_law_218 : decode cL_law 218 = .ok (.iconst 0, 1) := by decide +kernel
theorem dL_law_219 : decode cL_law 219 = .ok (.istore_n 1, 1) := by decide +kernel
theorem dL_law_220 : decode cL_law 220 = .ok (.bipush 9, 2) := by decide +kernel
theorem dL_law_222 : decode cL_law 222 = .ok (.anewarray 116, 3) := by decide +kernel
theorem dL_law_225 : decode cL_law 225 = .ok (.astore 7, 2) := by decide +kernel
theorem dL_law_227 : decode cL_law 227 = .ok (.iconst 0, 1) := by decide +kernel
theorem dL_law_228 : decode cL_law 228 = .ok (.istore 8, 2) := by decide +kernel
theorem dL_law_230 : decode cL_law 230 = .ok (.iconst 0, 1) := by decide +kernel
theorem dL_law_231 : decode cL_law 231 = .ok (.istore 9, 2) := by decide +kernel
theorem dL_law_233 : decode cL_law 233 = .ok (.iload 9, 2) := by decide +kernel
theorem dL_law_235 : decode cL_law 235 = .ok (.bipush 18, 2) := by decide +kernel
theorem dL_law_237 : decode cL_law 237 = .ok (.if_icmp .ge 558, 3) := by decide +kernel
theorem dL_law_240 : decode cL_law 240 = .ok (.iload_n 1, 1) := by decide +kernel
theorem dL_law_241 : decode cL_law 241 = .ok (.ifCond .eq 554, 3) := by decide +kernel
theorem dL_law_244 : decode cL_law 244 = .ok (.aload 6, 2) := by decide +kernel
theorem dL_law_246 : decode cL_law 246 = .ok (.invokevirtual 210, 3) := by decide +kernel
theorem dL_law_249 : decode cL_law 249 = .ok (.astore 10, 2) := by decide +kernel
theorem dL_law_251 : decode cL_law 251 = .ok (.iconst 1, 1) := by decide +kernel
theorem dL_law_252 : decode cL_law 252 = .ok (.istore 11, 2) := by decide +kernel
theorem dL_law_254 : decode cL_law 254 = .ok (.aload 5, 2) := by decide +kernel
theorem dL_law_256 : decode cL_law 256 = .ok (.bipush 7, 2) := by decide +kernel
theorem dL_law_258 : decode cL_law 258 = .ok (.invokevirtual 98, 3) := by decide +kernel
theorem dL_law_261 : decode cL_law 261 = .ok (.tableswitch 367 0 4 #[35, 35, 73, 147, 298], 35) := by decide +kernel
theorem dL_law_296 : decode cL_law 296 = .ok (.aload 6, 2) := by decide +kernel
theorem dL_law_298 : decode cL_law 298 = .ok (.aload 5, 2) := by decide +kernel
theorem dL_law_300 : decode cL_law 300 = .ok (.invokestatic 214, 3) := by decide +kernel
theorem dL_law_303 : decode cL_law 303 = .ok (.putfield 174, 3) := by decide +kernel
theorem dL_law_306 : decode cL_law 306 = .ok (.aload_n 3, 1) := by decide +kernel
theorem dL_law_307 : decode cL_law 307 = .ok (.aload 4, 2) := by decide +kernel
theorem dL_law_309 : decode cL_law 309 = .ok (.aload 6, 2) := by decide +kernel
theorem dL_law_311 : decode cL_law 311 = .ok (.getfield 174, 3) := by decide +kernel
theorem dL_law_314 : decode cL_law 314 = .ok (.invokestatic 218, 3) := by decide +kernel
theorem dL_law_317 : decode cL_law 317 = .ok (.aload 6, 2) := by decide +kernel
theorem dL_law_319 : decode cL_law 319 = .ok (.invokevirtual 222, 3) := by decide +kernel
theorem dL_law_322 : decode cL_law 322 = .ok (.if_icmp .ne 7, 3) := by decide +kernel
theorem dL_law_325 : decode cL_law 325 = .ok (.iconst 1, 1) := by decide +kernel
theorem dL_law_326 : decode cL_law 326 = .ok (.goto 4, 3) := by decide +kernel
theorem dL_law_329 : decode cL_law 329 = .ok (.iconst 0, 1) := by decide +kernel
theorem dL_law_330 : decode cL_law 330 = .ok (.istore_n 1, 1) := by decide +kernel
theorem dL_law_331 : decode cL_law 331 = .ok (.goto 398, 3) := by decide +kernel
theorem dL_law_334 : decode cL_law 334 = .ok (.aload 6, 2) := by decide +kernel
theorem dL_law_336 : decode cL_law 336 = .ok (.getfield 174, 3) := by decide +kernel
theorem dL_law_339 : decode cL_law 339 = .ok (.invokevirtual 23, 3) := by decide +kernel
theorem dL_law_342 : decode cL_law 342 = .ok (.ifCond .ne 7, 3) := by decide +kernel
theorem dL_law_345 : decode cL_law 345 = .ok (.iconst 0, 1) := by decide +kernel
theorem dL_law_346 : decode cL_law 346 = .ok (.goto 8, 3) := by decide +kernel
theorem dL_law_349 : decode cL_law 349 = .ok (.aload 6, 2) := by decide +kernel
theorem dL_law_351 : decode cL_law 351 = .ok (.invokevirtual 225, 3) := by decide +kernel
theorem dL_law_354 : decode cL_law 354 = .ok (.istore 12, 2) := by decide +kernel
theorem dL_law_356 : decode cL_law 356 = .ok (.iload 12, 2) := by decide +kernel
theorem dL_law_358 : decode cL_law 358 = .ok (.ifCond .le 7, 3) := by decide +kernel
theorem dL_law_361 : decode cL_law 361 = .ok (.iconst 1, 1) := by decide +kernel
theorem dL_law_362 : decode cL_law 362 = .ok (.goto 4, 3) := by decide +kernel
theorem dL_law_365 : decode cL_law 365 = .ok (.iconst 0, 1) := by decide +kernel
theorem dL_law_366 : decode cL_law 366 = .ok (.istore 11, 2) := by decide +kernel
theorem dL_law_368 : decode cL_law 368 = .ok (.iload 11, 2) := by decide +kernel
theorem dL_law_370 : decode cL_law 370 = .ok (.ifCond .eq 10, 3) := by decide +kernel
theorem dL_law_373 : decode cL_law 373 = .ok (.aload 6, 2) := by decide +kernel
theorem dL_law_375 : decode cL_law 375 = .ok (.iload 12, 2) := by decide +kernel
theorem dL_law_377 : decode cL_law 377 = .ok (.invokevirtual 228, 3) := by decide +kernel
theorem dL_law_380 : decode cL_law 380 = .ok (.aload_n 3, 1) := by decide +kernel
theorem dL_law_381 : decode cL_law 381 = .ok (.invokestatic 196, 3) := by decide +kernel
theorem dL_law_384 : decode cL_law 384 = .ok (.iload 11, 2) := by decide +kernel
theorem dL_law_386 : decode cL_law 386 = .ok (.ifCond .eq 8, 3) := by decide +kernel
theorem dL_law_389 : decode cL_law 389 = .ok (.iload 12, 2) := by decide +kernel
theorem dL_law_391 : decode cL_law 391 = .ok (.goto 5, 3) := by decide +kernel
theorem dL_law_394 : decode cL_law 394 = .ok (.ldc 80, 2) := by decide +kernel
theorem dL_law_396 : decode cL_law 396 = .ok (.if_icmp .ne 7, 3) := by decide +kernel
theorem dL_law_399 : decode cL_law 399 = .ok (.iconst 1, 1) := by decide +kernel
theorem dL_law_400 : decode cL_law 400 = .ok (.goto 4, 3) := by decide +kernel
theorem dL_law_403 : decode cL_law 403 = .ok (.iconst 0, 1) := by decide +kernel
theorem dL_law_404 : decode cL_law 404 = .ok (.istore_n 1, 1) := by decide +kernel
theorem dL_law_405 : decode cL_law 405 = .ok (.goto 324, 3) := by decide +kernel
theorem dL_law_408 : decode cL_law 408 = .ok (.aload 5, 2) := by decide +kernel
theorem dL_law_410 : decode cL_law 410 = .ok (.iconst 2, 1) := by decide +kernel
theorem dL_law_411 : decode cL_law 411 = .ok (.invokevirtual 98, 3) := by decide +kernel
theorem dL_law_414 : decode cL_law 414 = .ok (.istore 13, 2) := by decide +kernel
theorem dL_law_416 : decode cL_law 416 = .ok (.aload 5, 2) := by decide +kernel
theorem dL_law_418 : decode cL_law 418 = .ok (.aload 6, 2) := by decide +kernel
theorem dL_law_420 : decode cL_law 420 = .ok (.invokevirtual 126, 3) := by decide +kernel
theorem dL_law_423 : decode cL_law 423 = .ok (.iconst 1, 1) := by decide +kernel
theorem dL_law_424 : decode cL_law 424 = .ok (.iadd, 1) := by decide +kernel
theorem dL_law_425 : decode cL_law 425 = .ok (.invokevirtual 98, 3) := by decide +kernel
theorem dL_law_428 : decode cL_law 428 = .ok (.istore 14, 2) := by decide +kernel
theorem dL_law_430 : decode cL_law 430 = .ok (.aload 5, 2) := by decide +kernel
theorem dL_law_432 : decode cL_law 432 = .ok (.iconst 4, 1) := by decide +kernel
theorem dL_law_433 : decode cL_law 433 = .ok (.invokevirtual 98, 3) := by decide +kernel
theorem dL_law_436 : decode cL_law 436 = .ok (.istore 15, 2) := by decide +kernel
theorem dL_law_438 : decode cL_law 438 = .ok (.iload 14, 2) := by decide +kernel
theorem dL_law_440 : decode cL_law 440 = .ok (.aload 6, 2) := by decide +kernel
theorem dL_law_442 : decode cL_law 442 = .ok (.invokevirtual 126, 3) := by decide +kernel
theorem dL_law_445 : decode cL_law 445 = .ok (.if_icmp .ge 7, 3) := by decide +kernel
theorem dL_law_448 : decode cL_law 448 = .ok (.iconst 1, 1) := by decide +kernel
theorem dL_law_449 : decode cL_law 449 = .ok (.goto 4, 3) := by decide +kernel
theorem dL_law_452 : decode cL_law 452 = .ok (.iconst 0, 1) := by decide +kernel
theorem dL_law_453 : decode cL_law 453 = .ok (.istore 16, 2) := by decide +kernel
theorem dL_law_455 : decode cL_law 455 = .ok (.iload 16, 2) := by decide +kernel
theorem dL_law_457 : decode cL_law 457 = .ok (.ifCond .eq 26, 3) := by decide +kernel
theorem dL_law_460 : decode cL_law 460 = .ok (.iload 15, 2) := by decide +kernel
theorem dL_law_462 : decode cL_law 462 = .ok (.ifCond .le 21, 3) := by decide +kernel
theorem dL_law_465 : decode cL_law 465 = .ok (.aload 6, 2) := by decide +kernel
theorem dL_law_467 : decode cL_law 467 = .ok (.iload 13, 2) := by decide +kernel
theorem dL_law_469 : decode cL_law 469 = .ok (.iload 14, 2) := by decide +kernel
theorem dL_law_471 : decode cL_law 471 = .ok (.iload 15, 2) := by decide +kernel
theorem dL_law_473 : decode cL_law 473 = .ok (.invokevirtual 231, 3) := by decide +kernel
theorem dL_law_476 : decode cL_law 476 = .ok (.ifCond .eq 7, 3) := by decide +kernel
theorem dL_law_479 : decode cL_law 479 = .ok (.iconst 1, 1) := by decide +kernel
theorem dL_law_480 : decode cL_law 480 = .ok (.goto 4, 3) := by decide +kernel
theorem dL_law_483 : decode cL_law 483 = .ok (.iconst 0, 1) := by decide +kernel
theorem dL_law_484 : decode cL_law 484 = .ok (.istore 11, 2) := by decide +kernel
theorem dL_law_486 : decode cL_law 486 = .ok (.iload 11, 2) := by decide +kernel
theorem dL_law_488 : decode cL_law 488 = .ok (.ifCond .eq 14, 3) := by decide +kernel
theorem dL_law_491 : decode cL_law 491 = .ok (.aload 6, 2) := by decide +kernel
theorem dL_law_493 : decode cL_law 493 = .ok (.iload 13, 2) := by decide +kernel
theorem dL_law_495 : decode cL_law 495 = .ok (.iload 14, 2) := by decide +kernel
theorem dL_law_497 : decode cL_law 497 = .ok (.iload 15, 2) := by decide +kernel
theorem dL_law_499 : decode cL_law 499 = .ok (.invokevirtual 235, 3) := by decide +kernel
theorem dL_law_502 : decode cL_law 502 = .ok (.aload_n 3, 1) := by decide +kernel
theorem dL_law_503 : decode cL_law 503 = .ok (.iload 13, 2) := by decide +kernel
theorem dL_law_505 : decode cL_law 505 = .ok (.iload 14, 2) := by decide +kernel
theorem dL_law_507 : decode cL_law 507 = .ok (.iload 15, 2) := by decide +kernel
theorem dL_law_509 : decode cL_law 509 = .ok (.invokestatic 199, 3) := by decide +kernel
theorem dL_law_512 : decode cL_law 512 = .ok (.iload 11, 2) := by decide +kernel
theorem dL_law_514 : decode cL_law 514 = .ok (.ifCond .eq 11, 3) := by decide +kernel
theorem dL_law_517 : decode cL_law 517 = .ok (.aload 6, 2) := by decide +kernel
theorem dL_law_519 : decode cL_law 519 = .ok (.invokevirtual 239, 3) := by decide +kernel
theorem dL_law_522 : decode cL_law 522 = .ok (.goto 25, 3) := by decide +kernel
theorem dL_law_525 : decode cL_law 525 = .ok (.iload 16, 2) := by decide +kernel
theorem dL_law_527 : decode cL_law 527 = .ok (.ifCond .ne 8, 3) := by decide +kernel
theorem dL_law_530 : decode cL_law 530 = .ok (.ldc 52, 2) := by decide +kernel
theorem dL_law_532 : decode cL_law 532 = .ok (.goto 15, 3) := by decide +kernel
theorem dL_law_535 : decode cL_law 535 = .ok (.iload 15, 2) := by decide +kernel
theorem dL_law_537 : decode cL_law 537 = .ok (.ifCond .ne 8, 3) := by decide +kernel
theorem dL_law_540 : decode cL_law 540 = .ok (.ldc 42, 2) := by decide +kernel
theorem dL_law_542 : decode cL_law 542 = .ok (.goto 5, 3) := by decide +kernel
theorem dL_law_545 : decode cL_law 545 = .ok (.ldc 80, 2) := by decide +kernel
theorem dL_law_547 : decode cL_law 547 = .ok (.if_icmp .ne 7, 3) := by decide +kernel
theorem dL_law_550 : decode cL_law 550 = .ok (.iconst 1, 1) := by decide +kernel
theorem dL_law_551 : decode cL_law 551 = .ok (.goto 4, 3) := by decide +kernel
theorem dL_law_554 : decode cL_law 554 = .ok (.iconst 0, 1) := by decide +kernel
theorem dL_law_555 : decode cL_law 555 = .ok (.istore_n 1, 1) := by decide +kernel
theorem dL_law_556 : decode cL_law 556 = .ok (.goto 173, 3) := by decide +kernel
theorem dL_law_559 : decode cL_law 559 = .ok (.aload 5, 2) := by decide +kernel
theorem dL_law_561 : decode cL_law 561 = .ok (.iconst 5, 1) := by decide +kernel
theorem dL_law_562 : decode cL_law 562 = .ok (.invokevirtual 98, 3) := by decide +kernel
theorem dL_law_565 : decode cL_law 565 = .ok (.istore 17, 2) := by decide +kernel
theorem dL_law_567 : decode cL_law 567 = .ok (.iload 17, 2) := by decide +kernel
theorem dL_law_569 : decode cL_law 569 = .ok (.ifCond .le 7, 3) := by decide +kernel
theorem dL_law_572 : decode cL_law 572 = .ok (.iconst 1, 1) := by decide +kernel
theorem dL_law_573 : decode cL_law 573 = .ok (.goto 4, 3) := by decide +kernel
theorem dL_law_576 : decode cL_law 576 = .ok (.iconst 0, 1) := by decide +kernel
theorem dL_law_577 : decode cL_law 577 = .ok (.istore 11, 2) := by decide +kernel
theorem dL_law_579 : decode cL_law 579 = .ok (.aload 6, 2) := by decide +kernel
theorem dL_law_581 : decode cL_law 581 = .ok (.getfield 154, 3) := by decide +kernel
theorem dL_law_584 : decode cL_law 584 = .ok (.istore 18, 2) := by decide +kernel
theorem dL_law_586 : decode cL_law 586 = .ok (.iload 11, 2) := by decide +kernel
theorem dL_law_588 : decode cL_law 588 = .ok (.ifCond .eq 10, 3) := by decide +kernel
theorem dL_law_591 : decode cL_law 591 = .ok (.aload 6, 2) := by decide +kernel
theorem dL_law_593 : decode cL_law 593 = .ok (.iload 17, 2) := by decide +kernel
theorem dL_law_595 : decode cL_law 595 = .ok (.putfield 154, 3) := by decide +kernel
theorem dL_law_598 : decode cL_law 598 = .ok (.aload_n 3, 1) := by decide +kernel
theorem dL_law_599 : decode cL_law 599 = .ok (.iload 17, 2) := by decide +kernel
theorem dL_law_601 : decode cL_law 601 = .ok (.invokestatic 202, 3) := by decide +kernel
theorem dL_law_604 : decode cL_law 604 = .ok (.iload 11, 2) := by decide +kernel
theorem dL_law_606 : decode cL_law 606 = .ok (.ifCond .eq 8, 3) := by decide +kernel
theorem dL_law_609 : decode cL_law 609 = .ok (.iload 18, 2) := by decide +kernel
theorem dL_law_611 : decode cL_law 611 = .ok (.goto 5, 3) := by decide +kernel
theorem dL_law_614 : decode cL_law 614 = .ok (.ldc 42, 2) := by decide +kernel
theorem dL_law_616 : decode cL_law 616 = .ok (.if_icmp .ne 7, 3) := by decide +kernel
theorem dL_law_619 : decode cL_law 619 = .ok (.iconst 1, 1) := by decide +kernel
theorem dL_law_620 : decode cL_law 620 = .ok (.goto 4, 3) := by decide +kernel
theorem dL_law_623 : decode cL_law 623 = .ok (.iconst 0, 1) := by decide +kernel
theorem dL_law_624 : decode cL_law 624 = .ok (.istore_n 1, 1) := by decide +kernel
theorem dL_law_625 : decode cL_law 625 = .ok (.goto 104, 3) := by decide +kernel
theorem dL_law_628 : decode cL_law 628 = .ok (.aload 5, 2) := by decide +kernel
theorem dL_law_630 : decode cL_law 630 = .ok (.aload 6, 2) := by decide +kernel
theorem dL_law_632 : decode cL_law 632 = .ok (.invokevirtual 126, 3) := by decide +kernel
theorem dL_law_635 : decode cL_law 635 = .ok (.iconst 1, 1) := by decide +kernel
theorem dL_law_636 : decode cL_law 636 = .ok (.iadd, 1) := by decide +kernel
theorem dL_law_637 : decode cL_law 637 = .ok (.invokevirtual 98, 3) := by decide +kernel
theorem dL_law_640 : decode cL_law 640 = .ok (.istore 19, 2) := by decide +kernel
theorem dL_law_642 : decode cL_law 642 = .ok (.iload 19, 2) := by decide +kernel
theorem dL_law_644 : decode cL_law 644 = .ok (.aload 6, 2) := by decide +kernel
theorem dL_law_646 : decode cL_law 646 = .ok (.invokevirtual 126, 3) := by decide +kernel
theorem dL_law_649 : decode cL_law 649 = .ok (.if_icmp .ge 18, 3) := by decide +kernel
theorem dL_law_652 : decode cL_law 652 = .ok (.aload 6, 2) := by decide +kernel
theorem dL_law_654 : decode cL_law 654 = .ok (.getfield 129, 3) := by decide +kernel
theorem dL_law_657 : decode cL_law 657 = .ok (.iload 19, 2) := by decide +kernel
theorem dL_law_659 : decode cL_law 659 = .ok (.baload, 1) := by decide +kernel
theorem dL_law_660 : decode cL_law 660 = .ok (.ifCond .eq 7, 3) := by decide +kernel
theorem dL_law_663 : decode cL_law 663 = .ok (.iconst 1, 1) := by decide +kernel
theorem dL_law_664 : decode cL_law 664 = .ok (.goto 4, 3) := by decide +kernel
theorem dL_law_667 : decode cL_law 667 = .ok (.iconst 0, 1) := by decide +kernel
theorem dL_law_668 : decode cL_law 668 = .ok (.istore 11, 2) := by decide +kernel
theorem dL_law_670 : decode cL_law 670 = .ok (.iload 11, 2) := by decide +kernel
theorem dL_law_672 : decode cL_law 672 = .ok (.ifCond .eq 12, 3) := by decide +kernel
theorem dL_law_675 : decode cL_law 675 = .ok (.aload 6, 2) := by decide +kernel
theorem dL_law_677 : decode cL_law 677 = .ok (.getfield 129, 3) := by decide +kernel
theorem dL_law_680 : decode cL_law 680 = .ok (.iload 19, 2) := by decide +kernel
theorem dL_law_682 : decode cL_law 682 = .ok (.iconst 0, 1) := by decide +kernel
theorem dL_law_683 : decode cL_law 683 = .ok (.bastore, 1) := by decide +kernel
theorem dL_law_684 : decode cL_law 684 = .ok (.aload_n 3, 1) := by decide +kernel
theorem dL_law_685 : decode cL_law 685 = .ok (.iload 19, 2) := by decide +kernel
theorem dL_law_687 : decode cL_law 687 = .ok (.invokestatic 204, 3) := by decide +kernel
theorem dL_law_690 : decode cL_law 690 = .ok (.iload 11, 2) := by decide +kernel
theorem dL_law_692 : decode cL_law 692 = .ok (.ifCond .eq 11, 3) := by decide +kernel
theorem dL_law_695 : decode cL_law 695 = .ok (.aload 6, 2) := by decide +kernel
theorem dL_law_697 : decode cL_law 697 = .ok (.invokevirtual 239, 3) := by decide +kernel
theorem dL_law_700 : decode cL_law 700 = .ok (.goto 20, 3) := by decide +kernel
theorem dL_law_703 : decode cL_law 703 = .ok (.iload 19, 2) := by decide +kernel
theorem dL_law_705 : decode cL_law 705 = .ok (.aload 6, 2) := by decide +kernel
theorem dL_law_707 : decode cL_law 707 = .ok (.invokevirtual 126, 3) := by decide +kernel
theorem dL_law_710 : decode cL_law 710 = .ok (.if_icmp .ge 8, 3) := by decide +kernel
theorem dL_law_713 : decode cL_law 713 = .ok (.ldc 80, 2) := by decide +kernel
theorem dL_law_715 : decode cL_law 715 = .ok (.goto 5, 3) := by decide +kernel
theorem dL_law_718 : decode cL_law 718 = .ok (.ldc 52, 2) := by decide +kernel
theorem dL_law_720 : decode cL_law 720 = .ok (.if_icmp .ne 7, 3) := by decide +kernel
theorem dL_law_723 : decode cL_law 723 = .ok (.iconst 1, 1) := by decide +kernel
theorem dL_law_724 : decode cL_law 724 = .ok (.goto 4, 3) := by decide +kernel
theorem dL_law_727 : decode cL_law 727 = .ok (.iconst 0, 1) := by decide +kernel
theorem dL_law_728 : decode cL_law 728 = .ok (.istore_n 1, 1) := by decide +kernel
theorem dL_law_729 : decode cL_law 729 = .ok (.iload 11, 2) := by decide +kernel
theorem dL_law_731 : decode cL_law 731 = .ok (.ifCond .eq 39, 3) := by decide +kernel
theorem dL_law_734 : decode cL_law 734 = .ok (.bipush 8, 2) := by decide +kernel
theorem dL_law_736 : decode cL_law 736 = .ok (.istore 12, 2) := by decide +kernel
theorem dL_law_738 : decode cL_law 738 = .ok (.iload 12, 2) := by decide +kernel
theorem dL_law_740 : decode cL_law 740 = .ok (.ifCond .le 21, 3) := by decide +kernel
theorem dL_law_743 : decode cL_law 743 = .ok (.aload 7, 2) := by decide +kernel
theorem dL_law_745 : decode cL_law 745 = .ok (.iload 12, 2) := by decide +kernel
theorem dL_law_747 : decode cL_law 747 = .ok (.aload 7, 2) := by decide +kernel
theorem dL_law_749 : decode cL_law 749 = .ok (.iload 12, 2) := by decide +kernel
theorem dL_law_751 : decode cL_law 751 = .ok (.iconst 1, 1) := by decide +kernel
theorem dL_law_752 : decode cL_law 752 = .ok (.isub, 1) := by decide +kernel
theorem dL_law_753 : decode cL_law 753 = .ok (.aaload, 1) := by decide +kernel
theorem dL_law_754 : decode cL_law 754 = .ok (.aastore, 1) := by decide +kernel
theorem dL_law_755 : decode cL_law 755 = .ok (.iinc 12 (-1), 3) := by decide +kernel
theorem dL_law_758 : decode cL_law 758 = .ok (.goto (-20), 3) := by decide +kernel
theorem dL_law_761 : decode cL_law 761 = .ok (.aload 7, 2) := by decide +kernel
theorem dL_law_763 : decode cL_law 763 = .ok (.iconst 0, 1) := by decide +kernel
theorem dL_law_764 : decode cL_law 764 = .ok (.aload 10, 2) := by decide +kernel
theorem dL_law_766 : decode cL_law 766 = .ok (.aastore, 1) := by decide +kernel
theorem dL_law_767 : decode cL_law 767 = .ok (.iinc 8 1, 3) := by decide +kernel
theorem dL_law_770 : decode cL_law 770 = .ok (.iload_n 1, 1) := by decide +kernel
theorem dL_law_771 : decode cL_law 771 = .ok (.ifCond .eq 16, 3) := by decide +kernel
theorem dL_law_774 : decode cL_law 774 = .ok (.aload_n 3, 1) := by decide +kernel
theorem dL_law_775 : decode cL_law 775 = .ok (.aload 6, 2) := by decide +kernel
theorem dL_law_777 : decode cL_law 777 = .ok (.invokestatic 186, 3) := by decide +kernel
theorem dL_law_780 : decode cL_law 780 = .ok (.ifCond .eq 7, 3) := by decide +kernel
theorem dL_law_783 : decode cL_law 783 = .ok (.iconst 1, 1) := by decide +kernel
theorem dL_law_784 : decode cL_law 784 = .ok (.goto 4, 3) := by decide +kernel
theorem dL_law_787 : decode cL_law 787 = .ok (.iconst 0, 1) := by decide +kernel
theorem dL_law_788 : decode cL_law 788 = .ok (.istore_n 1, 1) := by decide +kernel
theorem dL_law_789 : decode cL_law 789 = .ok (.iinc 9 1, 3) := by decide +kernel
theorem dL_law_792 : decode cL_law 792 = .ok (.goto (-559), 3) := by decide +kernel
theorem dL_law_795 : decode cL_law 795 = .ok (.iconst 0, 1) := by decide +kernel
theorem dL_law_796 : decode cL_law 796 = .ok (.istore 9, 2) := by decide +kernel
theorem dL_law_798 : decode cL_law 798 = .ok (.iload 9, 2) := by decide +kernel
theorem dL_law_800 : decode cL_law 800 = .ok (.bipush 8, 2) := by decide +kernel
theorem dL_law_802 : decode cL_law 802 = .ok (.if_icmp .ge 45, 3) := by decide +kernel
theorem dL_law_805 : decode cL_law 805 = .ok (.iload 9, 2) := by decide +kernel
theorem dL_law_807 : decode cL_law 807 = .ok (.iload 8, 2) := by decide +kernel
theorem dL_law_809 : decode cL_law 809 = .ok (.if_icmp .ge 38, 3) := by decide +kernel
theorem dL_law_812 : decode cL_law 812 = .ok (.iload_n 1, 1) := by decide +kernel
theorem dL_law_813 : decode cL_law 813 = .ok (.ifCond .eq 34, 3) := by decide +kernel
theorem dL_law_816 : decode cL_law 816 = .ok (.aload_n 3, 1) := by decide +kernel
theorem dL_law_817 : decode cL_law 817 = .ok (.invokevirtual 193, 3) := by decide +kernel
theorem dL_law_820 : decode cL_law 820 = .ok (.ifCond .lt 19, 3) := by decide +kernel
theorem dL_law_823 : decode cL_law 823 = .ok (.aload_n 3, 1) := by decide +kernel
theorem dL_law_824 : decode cL_law 824 = .ok (.aload 7, 2) := by decide +kernel
theorem dL_law_826 : decode cL_law 826 = .ok (.iload 9, 2) := by decide +kernel
theorem dL_law_828 : decode cL_law 828 = .ok (.aaload, 1) := by decide +kernel
theorem dL_law_829 : decode cL_law 829 = .ok (.invokestatic 186, 3) := by decide +kernel
theorem dL_law_832 : decode cL_law 832 = .ok (.ifCond .eq 7, 3) := by decide +kernel
theorem dL_law_835 : decode cL_law 835 = .ok (.iconst 1, 1) := by decide +kernel
theorem dL_law_836 : decode cL_law 836 = .ok (.goto 4, 3) := by decide +kernel
theorem dL_law_839 : decode cL_law 839 = .ok (.iconst 0, 1) := by decide +kernel
theorem dL_law_840 : decode cL_law 840 = .ok (.istore_n 1, 1) := by decide +kernel
theorem dL_law_841 : decode cL_law 841 = .ok (.iinc 9 1, 3) := by decide +kernel
theorem dL_law_844 : decode cL_law 844 = .ok (.goto (-46), 3) := by decide +kernel
theorem dL_law_847 : decode cL_law 847 = .ok (.iload_n 1, 1) := by decide +kernel
theorem dL_law_848 : decode cL_law 848 = .ok (.ifCond .eq 82, 3) := by decide +kernel
theorem dL_law_851 : decode cL_law 851 = .ok (.aload_n 3, 1) := by decide +kernel
theorem dL_law_852 : decode cL_law 852 = .ok (.iconst 1, 1) := by decide +kernel
theorem dL_law_853 : decode cL_law 853 = .ok (.invokestatic 19, 3) := by decide +kernel
theorem dL_law_856 : decode cL_law 856 = .ok (.ldc 42, 2) := by decide +kernel
theorem dL_law_858 : decode cL_law 858 = .ok (.if_icmp .ne 72, 3) := by decide +kernel
theorem dL_law_861 : decode cL_law 861 = .ok (.aload_n 3, 1) := by decide +kernel
theorem dL_law_862 : decode cL_law 862 = .ok (.iconst (-1), 1) := by decide +kernel
theorem dL_law_863 : decode cL_law 863 = .ok (.iconst 0, 1) := by decide +kernel
theorem dL_law_864 : decode cL_law 864 = .ok (.iconst 0, 1) := by decide +kernel
theorem dL_law_865 : decode cL_law 865 = .ok (.invokestatic 242, 3) := by decide +kernel
theorem dL_law_868 : decode cL_law 868 = .ok (.ldc 52, 2) := by decide +kernel
theorem dL_law_870 : decode cL_law 870 = .ok (.if_icmp .ne 60, 3) := by decide +kernel
theorem dL_law_873 : decode cL_law 873 = .ok (.aload_n 3, 1) := by decide +kernel
theorem dL_law_874 : decode cL_law 874 = .ok (.bipush 26, 2) := by decide +kernel
theorem dL_law_876 : decode cL_law 876 = .ok (.iconst 0, 1) := by decide +kernel
theorem dL_law_877 : decode cL_law 877 = .ok (.invokestatic 244, 3) := by decide +kernel
theorem dL_law_880 : decode cL_law 880 = .ok (.ldc 42, 2) := by decide +kernel
theorem dL_law_882 : decode cL_law 882 = .ok (.if_icmp .ne 48, 3) := by decide +kernel
theorem dL_law_885 : decode cL_law 885 = .ok (.aload_n 3, 1) := by decide +kernel
theorem dL_law_886 : decode cL_law 886 = .ok (.iconst (-1), 1) := by decide +kernel
theorem dL_law_887 : decode cL_law 887 = .ok (.invokestatic 246, 3) := by decide +kernel
theorem dL_law_890 : decode cL_law 890 = .ok (.ldc 65, 2) := by decide +kernel
theorem dL_law_892 : decode cL_law 892 = .ok (.if_icmp .ne 38, 3) := by decide +kernel
theorem dL_law_895 : decode cL_law 895 = .ok (.aload_n 3, 1) := by decide +kernel
theorem dL_law_896 : decode cL_law 896 = .ok (.iconst (-1), 1) := by decide +kernel
theorem dL_law_897 : decode cL_law 897 = .ok (.iconst 0, 1) := by decide +kernel
theorem dL_law_898 : decode cL_law 898 = .ok (.invokestatic 248, 3) := by decide +kernel
theorem dL_law_901 : decode cL_law 901 = .ok (.ldc 65, 2) := by decide +kernel
theorem dL_law_903 : decode cL_law 903 = .ok (.if_icmp .ne 27, 3) := by decide +kernel
theorem dL_law_906 : decode cL_law 906 = .ok (.aload_n 3, 1) := by decide +kernel
theorem dL_law_907 : decode cL_law 907 = .ok (.iconst 0, 1) := by decide +kernel
theorem dL_law_908 : decode cL_law 908 = .ok (.invokestatic 94, 3) := by decide +kernel
theorem dL_law_911 : decode cL_law 911 = .ok (.ldc 42, 2) := by decide +kernel
theorem dL_law_913 : decode cL_law 913 = .ok (.if_icmp .ne 17, 3) := by decide +kernel
theorem dL_law_916 : decode cL_law 916 = .ok (.aload_n 3, 1) := by decide +kernel
theorem dL_law_917 : decode cL_law 917 = .ok (.iconst 0, 1) := by decide +kernel
theorem dL_law_918 : decode cL_law 918 = .ok (.invokestatic 202, 3) := by decide +kernel
theorem dL_law_921 : decode cL_law 921 = .ok (.ldc 42, 2) := by decide +kernel
theorem dL_law_923 : decode cL_law 923 = .ok (.if_icmp .ne 7, 3) := by decide +kernel
theorem dL_law_926 : decode cL_law 926 = .ok (.iconst 1, 1) := by decide +kernel
theorem dL_law_927 : decode cL_law 927 = .ok (.goto 4, 3) := by decide +kernel
theorem dL_law_930 : decode cL_law 930 = .ok (.iconst 0, 1) := by decide +kernel
theorem dL_law_931 : decode cL_law 931 = .ok (.istore_n 1, 1) := by decide +kernel
theorem dL_law_932 : decode cL_law 932 = .ok (.iinc 2 1, 3) := by decide +kernel
theorem dL_law_935 : decode cL_law 935 = .ok (.goto (-931), 3) := by decide +kernel
theorem dL_law_938 : decode cL_law 938 = .ok (.iload_n 1, 1) := by decide +kernel
theorem dL_law_939 : decode cL_law 939 = .ok (.ireturn, 1) := by decide +kernel
