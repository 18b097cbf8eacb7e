theorem dX0_init_0 : decode cX0_init 0 = .ok (.aload_n 0, 1) := by decide +kernel
theorem dX0_init_1 : decode cX0_init 1 = .ok (.invokespecial 3, 3) := by decide +kernel
theorem dX0_init_4 : decode cX0_init 4 = .ok (.aload_n 0, 1) := by decide +kernel
theorem dX0_init_5 : decode cX0_init 5 = .ok (.bipush 24, 2) := by decide +kernel
theorem dX0_init_7 : decode cX0_init 7 = .ok (.newarray .long, 2) := by decide +kernel
theorem dX0_init_9 : decode cX0_init 9 = .ok (.putfield 9, 3) := by decide +kernel
theorem dX0_init_12 : decode cX0_init 12 = .ok (.aload_n 0, 1) := by decide +kernel
theorem dX0_init_13 : decode cX0_init 13 = .ok (.bipush 48, 2) := by decide +kernel
theorem dX0_init_15 : decode cX0_init 15 = .ok (.newarray .int, 2) := by decide +kernel
theorem dX0_init_17 : decode cX0_init 17 = .ok (.putfield 15, 3) := by decide +kernel
theorem dX0_init_20 : decode cX0_init 20 = .ok (.return_, 1) := by decide +kernel
theorem dX0_clear_0 : decode cX0_clear 0 = .ok (.aload_n 0, 1) := by decide +kernel
theorem dX0_clear_1 : decode cX0_clear 1 = .ok (.iconst 0, 1) := by decide +kernel
theorem dX0_clear_2 : decode cX0_clear 2 = .ok (.putfield 19, 3) := by decide +kernel
theorem dX0_clear_5 : decode cX0_clear 5 = .ok (.aload_n 0, 1) := by decide +kernel
theorem dX0_clear_6 : decode cX0_clear 6 = .ok (.getfield 15, 3) := by decide +kernel
theorem dX0_clear_9 : decode cX0_clear 9 = .ok (.iconst (-1), 1) := by decide +kernel
theorem dX0_clear_10 : decode cX0_clear 10 = .ok (.invokestatic 23, 3) := by decide +kernel
theorem dX0_clear_13 : decode cX0_clear 13 = .ok (.return_, 1) := by decide +kernel
theorem dX0_give_0 : decode cX0_give 0 = .ok (.aload_n 0, 1) := by decide +kernel
theorem dX0_give_1 : decode cX0_give 1 = .ok (.getfield 19, 3) := by decide +kernel
theorem dX0_give_4 : decode cX0_give 4 = .ok (.ifCond .lt 12, 3) := by decide +kernel
theorem dX0_give_7 : decode cX0_give 7 = .ok (.aload_n 0, 1) := by decide +kernel
theorem dX0_give_8 : decode cX0_give 8 = .ok (.getfield 19, 3) := by decide +kernel
theorem dX0_give_11 : decode cX0_give 11 = .ok (.bipush 24, 2) := by decide +kernel
theorem dX0_give_13 : decode cX0_give 13 = .ok (.if_icmp .lt 5, 3) := by decide +kernel
theorem dX0_give_16 : decode cX0_give 16 = .ok (.iconst 0, 1) := by decide +kernel
theorem dX0_give_17 : decode cX0_give 17 = .ok (.ireturn, 1) := by decide +kernel
theorem dX0_give_18 : decode cX0_give 18 = .ok (.aload_n 0, 1) := by decide +kernel
theorem dX0_give_19 : decode cX0_give 19 = .ok (.getfield 9, 3) := by decide +kernel
theorem dX0_give_22 : decode cX0_give 22 = .ok (.aload_n 0, 1) := by decide +kernel
theorem dX0_give_23 : decode cX0_give 23 = .ok (.getfield 19, 3) := by decide +kernel
theorem dX0_give_26 : decode cX0_give 26 = .ok (.lload_n 1, 1) := by decide +kernel
theorem dX0_give_27 : decode cX0_give 27 = .ok (.lastore, 1) := by decide +kernel
theorem dX0_give_28 : decode cX0_give 28 = .ok (.aload_n 0, 1) := by decide +kernel
theorem dX0_give_29 : decode cX0_give 29 = .ok (.lconst 0, 1) := by decide +kernel
theorem dX0_give_30 : decode cX0_give 30 = .ok (.putfield 29, 3) := by decide +kernel
theorem dX0_give_33 : decode cX0_give 33 = .ok (.aload_n 0, 1) := by decide +kernel
theorem dX0_give_34 : decode cX0_give 34 = .ok (.aload_n 0, 1) := by decide +kernel
theorem dX0_give_35 : decode cX0_give 35 = .ok (.getfield 19, 3) := by decide +kernel
theorem dX0_give_38 : decode cX0_give 38 = .ok (.iconst 0, 1) := by decide +kernel
theorem dX0_give_39 : decode cX0_give 39 = .ok (.invokevirtual 33, 3) := by decide +kernel
theorem dX0_give_42 : decode cX0_give 42 = .ok (.ifCond .ne 5, 3) := by decide +kernel
theorem dX0_give_45 : decode cX0_give 45 = .ok (.iconst 0, 1) := by decide +kernel
theorem dX0_give_46 : decode cX0_give 46 = .ok (.ireturn, 1) := by decide +kernel
theorem dX0_give_47 : decode cX0_give 47 = .ok (.aload_n 0, 1) := by decide +kernel
theorem dX0_give_48 : decode cX0_give 48 = .ok (.dup, 1) := by decide +kernel
theorem dX0_give_49 : decode cX0_give 49 = .ok (.getfield 19, 3) := by decide +kernel
theorem dX0_give_52 : decode cX0_give 52 = .ok (.iconst 1, 1) := by decide +kernel
theorem dX0_give_53 : decode cX0_give 53 = .ok (.iadd, 1) := by decide +kernel
theorem dX0_give_54 : decode cX0_give 54 = .ok (.putfield 19, 3) := by decide +kernel
theorem dX0_give_57 : decode cX0_give 57 = .ok (.iconst 1, 1) := by decide +kernel
theorem dX0_give_58 : decode cX0_give 58 = .ok (.ireturn, 1) := by decide +kernel
theorem dX0_findCell_0 : decode cX0_findCell 0 = .ok (.iload_n 1, 1) := by decide +kernel
theorem dX0_findCell_1 : decode cX0_findCell 1 = .ok (.ifCond .lt 9, 3) := by decide +kernel
theorem dX0_findCell_4 : decode cX0_findCell 4 = .ok (.iload_n 1, 1) := by decide +kernel
theorem dX0_findCell_5 : decode cX0_findCell 5 = .ok (.bipush 24, 2) := by decide +kernel
theorem dX0_findCell_7 : decode cX0_findCell 7 = .ok (.if_icmp .lt 5, 3) := by decide +kernel
theorem dX0_findCell_10 : decode cX0_findCell 10 = .ok (.iconst 0, 1) := by decide +kernel
theorem dX0_findCell_11 : decode cX0_findCell 11 = .ok (.ireturn, 1) := by decide +kernel
theorem dX0_findCell_12 : decode cX0_findCell 12 = .ok (.iconst 0, 1) := by decide +kernel
theorem dX0_findCell_13 : decode cX0_findCell 13 = .ok (.istore_n 3, 1) := by decide +kernel
theorem dX0_findCell_14 : decode cX0_findCell 14 = .ok (.iload_n 3, 1) := by decide +kernel
theorem dX0_findCell_15 : decode cX0_findCell 15 = .ok (.bipush 48, 2) := by decide +kernel
theorem dX0_findCell_17 : decode cX0_findCell 17 = .ok (.if_icmp .ge 81, 3) := by decide +kernel
theorem dX0_findCell_20 : decode cX0_findCell 20 = .ok (.lconst 1, 1) := by decide +kernel
theorem dX0_findCell_21 : decode cX0_findCell 21 = .ok (.iload_n 3, 1) := by decide +kernel
theorem dX0_findCell_22 : decode cX0_findCell 22 = .ok (.lshl, 1) := by decide +kernel
theorem dX0_findCell_23 : decode cX0_findCell 23 = .ok (.lstore 4, 2) := by decide +kernel
theorem dX0_findCell_25 : decode cX0_findCell 25 = .ok (.aload_n 0, 1) := by decide +kernel
theorem dX0_findCell_26 : decode cX0_findCell 26 = .ok (.getfield 9, 3) := by decide +kernel
theorem dX0_findCell_29 : decode cX0_findCell 29 = .ok (.iload_n 1, 1) := by decide +kernel
theorem dX0_findCell_30 : decode cX0_findCell 30 = .ok (.laload, 1) := by decide +kernel
theorem dX0_findCell_31 : decode cX0_findCell 31 = .ok (.aload_n 0, 1) := by decide +kernel
theorem dX0_findCell_32 : decode cX0_findCell 32 = .ok (.getfield 29, 3) := by decide +kernel
theorem dX0_findCell_35 : decode cX0_findCell 35 = .ok (.ldc2_w 37, 3) := by decide +kernel
theorem dX0_findCell_38 : decode cX0_findCell 38 = .ok (.lxor, 1) := by decide +kernel
theorem dX0_findCell_39 : decode cX0_findCell 39 = .ok (.land, 1) := by decide +kernel
theorem dX0_findCell_40 : decode cX0_findCell 40 = .ok (.lload 4, 2) := by decide +kernel
theorem dX0_findCell_42 : decode cX0_findCell 42 = .ok (.land, 1) := by decide +kernel
theorem dX0_findCell_43 : decode cX0_findCell 43 = .ok (.lconst 0, 1) := by decide +kernel
theorem dX0_findCell_44 : decode cX0_findCell 44 = .ok (.lcmp, 1) := by decide +kernel
theorem dX0_findCell_45 : decode cX0_findCell 45 = .ok (.ifCond .eq 47, 3) := by decide +kernel
theorem dX0_findCell_48 : decode cX0_findCell 48 = .ok (.aload_n 0, 1) := by decide +kernel
theorem dX0_findCell_49 : decode cX0_findCell 49 = .ok (.dup, 1) := by decide +kernel
theorem dX0_findCell_50 : decode cX0_findCell 50 = .ok (.getfield 29, 3) := by decide +kernel
theorem dX0_findCell_53 : decode cX0_findCell 53 = .ok (.lload 4, 2) := by decide +kernel
theorem dX0_findCell_55 : decode cX0_findCell 55 = .ok (.lor, 1) := by decide +kernel
theorem dX0_findCell_56 : decode cX0_findCell 56 = .ok (.putfield 29, 3) := by decide +kernel
theorem dX0_findCell_59 : decode cX0_findCell 59 = .ok (.aload_n 0, 1) := by decide +kernel
theorem dX0_findCell_60 : decode cX0_findCell 60 = .ok (.getfield 15, 3) := by decide +kernel
theorem dX0_findCell_63 : decode cX0_findCell 63 = .ok (.iload_n 3, 1) := by decide +kernel
theorem dX0_findCell_64 : decode cX0_findCell 64 = .ok (.iaload, 1) := by decide +kernel
theorem dX0_findCell_65 : decode cX0_findCell 65 = .ok (.iconst (-1), 1) := by decide +kernel
theorem dX0_findCell_66 : decode cX0_findCell 66 = .ok (.if_icmp .eq 17, 3) := by decide +kernel
theorem dX0_findCell_69 : decode cX0_findCell 69 = .ok (.aload_n 0, 1) := by decide +kernel
theorem dX0_findCell_70 : decode cX0_findCell 70 = .ok (.aload_n 0, 1) := by decide +kernel
theorem dX0_findCell_71 : decode cX0_findCell 71 = .ok (.getfield 15, 3) := by decide +kernel
theorem dX0_findCell_74 : decode cX0_findCell 74 = .ok (.iload_n 3, 1) := by decide +kernel
theorem dX0_findCell_75 : decode cX0_findCell 75 = .ok (.iaload, 1) := by decide +kernel
theorem dX0_findCell_76 : decode cX0_findCell 76 = .ok (.iload_n 2, 1) := by decide +kernel
theorem dX0_findCell_77 : decode cX0_findCell 77 = .ok (.invokevirtual 39, 3) := by decide +kernel
theorem dX0_findCell_80 : decode cX0_findCell 80 = .ok (.ifCond .eq 12, 3) := by decide +kernel
theorem dX0_findCell_83 : decode cX0_findCell 83 = .ok (.aload_n 0, 1) := by decide +kernel
theorem dX0_findCell_84 : decode cX0_findCell 84 = .ok (.getfield 15, 3) := by decide +kernel
theorem dX0_findCell_87 : decode cX0_findCell 87 = .ok (.iload_n 3, 1) := by decide +kernel
theorem dX0_findCell_88 : decode cX0_findCell 88 = .ok (.iload_n 1, 1) := by decide +kernel
theorem dX0_findCell_89 : decode cX0_findCell 89 = .ok (.iastore, 1) := by decide +kernel
theorem dX0_findCell_90 : decode cX0_findCell 90 = .ok (.iconst 1, 1) := by decide +kernel
theorem dX0_findCell_91 : decode cX0_findCell 91 = .ok (.ireturn, 1) := by decide +kernel
theorem dX0_findCell_92 : decode cX0_findCell 92 = .ok (.iinc 3 1, 3) := by decide +kernel
theorem dX0_findCell_95 : decode cX0_findCell 95 = .ok (.goto (-81), 3) := by decide +kernel
theorem dX0_findCell_98 : decode cX0_findCell 98 = .ok (.iconst 0, 1) := by decide +kernel
theorem dX0_findCell_99 : decode cX0_findCell 99 = .ok (.ireturn, 1) := by decide +kernel
theorem dX0_canMove_0 : decode cX0_canMove 0 = .ok (.iload_n 2, 1) := by decide +kernel
theorem dX0_canMove_1 : decode cX0_canMove 1 = .ok (.bipush 24, 2) := by decide +kernel
theorem dX0_canMove_3 : decode cX0_canMove 3 = .ok (.if_icmp .ge 18, 3) := by decide +kernel
theorem dX0_canMove_6 : decode cX0_canMove 6 = .ok (.aload_n 0, 1) := by decide +kernel
theorem dX0_canMove_7 : decode cX0_canMove 7 = .ok (.iload_n 1, 1) := by decide +kernel
theorem dX0_canMove_8 : decode cX0_canMove 8 = .ok (.iload_n 2, 1) := by decide +kernel
theorem dX0_canMove_9 : decode cX0_canMove 9 = .ok (.iconst 1, 1) := by decide +kernel
theorem dX0_canMove_10 : decode cX0_canMove 10 = .ok (.iadd, 1) := by decide +kernel
theorem dX0_canMove_11 : decode cX0_canMove 11 = .ok (.invokevirtual 33, 3) := by decide +kernel
theorem dX0_canMove_14 : decode cX0_canMove 14 = .ok (.ifCond .eq 7, 3) := by decide +kernel
theorem dX0_canMove_17 : decode cX0_canMove 17 = .ok (.iconst 1, 1) := by decide +kernel
theorem dX0_canMove_18 : decode cX0_canMove 18 = .ok (.goto 4, 3) := by decide +kernel
theorem dX0_canMove_21 : decode cX0_canMove 21 = .ok (.iconst 0, 1) := by decide +kernel
theorem dX0_canMove_22 : decode cX0_canMove 22 = .ok (.ireturn, 1) := by decide +kernel
theorem dX1_init_0 : decode cX1_init 0 = .ok (.aload_n 0, 1) := by decide +kernel
theorem dX1_init_1 : decode cX1_init 1 = .ok (.invokespecial 3, 3) := by decide +kernel
theorem dX1_init_4 : decode cX1_init 4 = .ok (.aload_n 0, 1) := by decide +kernel
theorem dX1_init_5 : decode cX1_init 5 = .ok (.new 9, 3) := by decide +kernel
theorem dX1_init_8 : decode cX1_init 8 = .ok (.dup, 1) := by decide +kernel
theorem dX1_init_9 : decode cX1_init 9 = .ok (.invokespecial 11, 3) := by decide +kernel
theorem dX1_init_12 : decode cX1_init 12 = .ok (.putfield 12, 3) := by decide +kernel
theorem dX1_init_15 : decode cX1_init 15 = .ok (.aload_n 0, 1) := by decide +kernel
theorem dX1_init_16 : decode cX1_init 16 = .ok (.bipush 8, 2) := by decide +kernel
theorem dX1_init_18 : decode cX1_init 18 = .ok (.newarray .long, 2) := by decide +kernel
theorem dX1_init_20 : decode cX1_init 20 = .ok (.putfield 18, 3) := by decide +kernel
theorem dX1_init_23 : decode cX1_init 23 = .ok (.aload_n 0, 1) := by decide +kernel
theorem dX1_init_24 : decode cX1_init 24 = .ok (.bipush 96, 2) := by decide +kernel
theorem dX1_init_26 : decode cX1_init 26 = .ok (.newarray .long, 2) := by decide +kernel
theorem dX1_init_28 : decode cX1_init 28 = .ok (.putfield 22, 3) := by decide +kernel
theorem dX1_init_31 : decode cX1_init 31 = .ok (.aload_n 0, 1) := by decide +kernel
theorem dX1_init_32 : decode cX1_init 32 = .ok (.bipush 8, 2) := by decide +kernel
theorem dX1_init_34 : decode cX1_init 34 = .ok (.bipush 96, 2) := by decide +kernel
theorem dX1_init_36 : decode cX1_init 36 = .ok (.multianewarray 25 2, 4) := by decide +kernel
theorem dX1_init_40 : decode cX1_init 40 = .ok (.putfield 27, 3) := by decide +kernel
theorem dX1_init_43 : decode cX1_init 43 = .ok (.aload_n 0, 1) := by decide +kernel
theorem dX1_init_44 : decode cX1_init 44 = .ok (.bipush 9, 2) := by decide +kernel
theorem dX1_init_46 : decode cX1_init 46 = .ok (.newarray .int, 2) := by decide +kernel
theorem dX1_init_48 : decode cX1_init 48 = .ok (.putfield 30, 3) := by decide +kernel
theorem dX1_init_51 : decode cX1_init 51 = .ok (.aload_n 0, 1) := by decide +kernel
theorem dX1_init_52 : decode cX1_init 52 = .ok (.bipush 8, 2) := by decide +kernel
theorem dX1_init_54 : decode cX1_init 54 = .ok (.newarray .int, 2) := by decide +kernel
theorem dX1_init_56 : decode cX1_init 56 = .ok (.putfield 34, 3) := by decide +kernel
theorem dX1_init_59 : decode cX1_init 59 = .ok (.aload_n 0, 1) := by decide +kernel
theorem dX1_init_60 : decode cX1_init 60 = .ok (.bipush 8, 2) := by decide +kernel
theorem dX1_init_62 : decode cX1_init 62 = .ok (.newarray .int, 2) := by decide +kernel
theorem dX1_init_64 : decode cX1_init 64 = .ok (.putfield 37, 3) := by decide +kernel
theorem dX1_init_67 : decode cX1_init 67 = .ok (.return_, 1) := by decide +kernel
theorem dX1_spotOfCut_0 : decode cX1_spotOfCut 0 = .ok (.iload_n 1, 1) := by decide +kernel
theorem dX1_spotOfCut_1 : decode cX1_spotOfCut 1 = .ok (.ifCond .lt 26, 3) := by decide +kernel
theorem dX1_spotOfCut_4 : decode cX1_spotOfCut 4 = .ok (.iload_n 1, 1) := by decide +kernel
theorem dX1_spotOfCut_5 : decode cX1_spotOfCut 5 = .ok (.aload_n 0, 1) := by decide +kernel
theorem dX1_spotOfCut_6 : decode cX1_spotOfCut 6 = .ok (.getfield 40, 3) := by decide +kernel
theorem dX1_spotOfCut_9 : decode cX1_spotOfCut 9 = .ok (.if_icmp .ge 18, 3) := by decide +kernel
theorem dX1_spotOfCut_12 : decode cX1_spotOfCut 12 = .ok (.iload_n 1, 1) := by decide +kernel
theorem dX1_spotOfCut_13 : decode cX1_spotOfCut 13 = .ok (.bipush 8, 2) := by decide +kernel
theorem dX1_spotOfCut_15 : decode cX1_spotOfCut 15 = .ok (.if_icmp .ge 12, 3) := by decide +kernel
theorem dX1_spotOfCut_18 : decode cX1_spotOfCut 18 = .ok (.aload_n 0, 1) := by decide +kernel
theorem dX1_spotOfCut_19 : decode cX1_spotOfCut 19 = .ok (.getfield 34, 3) := by decide +kernel
theorem dX1_spotOfCut_22 : decode cX1_spotOfCut 22 = .ok (.iload_n 1, 1) := by decide +kernel
theorem dX1_spotOfCut_23 : decode cX1_spotOfCut 23 = .ok (.iaload, 1) := by decide +kernel
theorem dX1_spotOfCut_24 : decode cX1_spotOfCut 24 = .ok (.goto 4, 3) := by decide +kernel
theorem dX1_spotOfCut_27 : decode cX1_spotOfCut 27 = .ok (.iconst 0, 1) := by decide +kernel
theorem dX1_spotOfCut_28 : decode cX1_spotOfCut 28 = .ok (.ireturn, 1) := by decide +kernel
theorem dX1_lengthOfCut_0 : decode cX1_lengthOfCut 0 = .ok (.iload_n 1, 1) := by decide +kernel
theorem dX1_lengthOfCut_1 : decode cX1_lengthOfCut 1 = .ok (.ifCond .lt 26, 3) := by decide +kernel
theorem dX1_lengthOfCut_4 : decode cX1_lengthOfCut 4 = .ok (.iload_n 1, 1) := by decide +kernel
theorem dX1_lengthOfCut_5 : decode cX1_lengthOfCut 5 = .ok (.aload_n 0, 1) := by decide +kernel
theorem dX1_lengthOfCut_6 : decode cX1_lengthOfCut 6 = .ok (.getfield 40, 3) := by decide +kernel
theorem dX1_lengthOfCut_9 : decode cX1_lengthOfCut 9 = .ok (.if_icmp .ge 18, 3) := by decide +kernel
theorem dX1_lengthOfCut_12 : decode cX1_lengthOfCut 12 = .ok (.iload_n 1, 1) := by decide +kernel
theorem dX1_lengthOfCut_13 : decode cX1_lengthOfCut 13 = .ok (.bipush 8, 2) := by decide +kernel
theorem dX1_lengthOfCut_15 : decode cX1_lengthOfCut 15 = .ok (.if_icmp .ge 12, 3) := by decide +kernel
theorem dX1_lengthOfCut_18 : decode cX1_lengthOfCut 18 = .ok (.aload_n 0, 1) := by decide +kernel
theorem dX1_lengthOfCut_19 : decode cX1_lengthOfCut 19 = .ok (.getfield 37, 3) := by decide +kernel
theorem dX1_lengthOfCut_22 : decode cX1_lengthOfCut 22 = .ok (.iload_n 1, 1) := by decide +kernel
theorem dX1_lengthOfCut_23 : decode cX1_lengthOfCut 23 = .ok (.iaload, 1) := by decide +kernel
theorem dX1_lengthOfCut_24 : decode cX1_lengthOfCut 24 = .ok (.goto 4, 3) := by decide +kernel
theorem dX1_lengthOfCut_27 : decode cX1_lengthOfCut 27 = .ok (.iconst 0, 1) := by decide +kernel
theorem dX1_lengthOfCut_28 : decode cX1_lengthOfCut 28 = .ok (.ireturn, 1) := by decide +kernel
theorem dX1_prepare_0 : decode cX1_prepare 0 = .ok (.aload_n 0, 1) := by decide +kernel
theorem dX1_prepare_1 : decode cX1_prepare 1 = .ok (.iconst 0, 1) := by decide +kernel
theorem dX1_prepare_2 : decode cX1_prepare 2 = .ok (.bipush 8, 2) := by decide +kernel
theorem dX1_prepare_4 : decode cX1_prepare 4 = .ok (.aload_n 1, 1) := by decide +kernel
theorem dX1_prepare_5 : decode cX1_prepare 5 = .ok (.getfield 44, 3) := by decide +kernel
theorem dX1_prepare_8 : decode cX1_prepare 8 = .ok (.invokestatic 49, 3) := by decide +kernel
theorem dX1_prepare_11 : decode cX1_prepare 11 = .ok (.invokestatic 55, 3) := by decide +kernel
theorem dX1_prepare_14 : decode cX1_prepare 14 = .ok (.putfield 58, 3) := by decide +kernel
theorem dX1_prepare_17 : decode cX1_prepare 17 = .ok (.iconst 0, 1) := by decide +kernel
theorem dX1_prepare_18 : decode cX1_prepare 18 = .ok (.istore_n 2, 1) := by decide +kernel
theorem dX1_prepare_19 : decode cX1_prepare 19 = .ok (.iload_n 2, 1) := by decide +kernel
theorem dX1_prepare_20 : decode cX1_prepare 20 = .ok (.bipush 96, 2) := by decide +kernel
theorem dX1_prepare_22 : decode cX1_prepare 22 = .ok (.if_icmp .ge 34, 3) := by decide +kernel
theorem dX1_prepare_25 : decode cX1_prepare 25 = .ok (.aload_n 0, 1) := by decide +kernel
theorem dX1_prepare_26 : decode cX1_prepare 26 = .ok (.getfield 22, 3) := by decide +kernel
theorem dX1_prepare_29 : decode cX1_prepare 29 = .ok (.iload_n 2, 1) := by decide +kernel
theorem dX1_prepare_30 : decode cX1_prepare 30 = .ok (.aload_n 1, 1) := by decide +kernel
theorem dX1_prepare_31 : decode cX1_prepare 31 = .ok (.iload_n 2, 1) := by decide +kernel
theorem dX1_prepare_32 : decode cX1_prepare 32 = .ok (.invokevirtual 61, 3) := by decide +kernel
theorem dX1_prepare_35 : decode cX1_prepare 35 = .ok (.ifCond .eq 13, 3) := by decide +kernel
theorem dX1_prepare_38 : decode cX1_prepare 38 = .ok (.lconst 1, 1) := by decide +kernel
theorem dX1_prepare_39 : decode cX1_prepare 39 = .ok (.aload_n 1, 1) := by decide +kernel
theorem dX1_prepare_40 : decode cX1_prepare 40 = .ok (.iload_n 2, 1) := by decide +kernel
theorem dX1_prepare_41 : decode cX1_prepare 41 = .ok (.invokevirtual 65, 3) := by decide +kernel
theorem dX1_prepare_44 : decode cX1_prepare 44 = .ok (.lshl, 1) := by decide +kernel
theorem dX1_prepare_45 : decode cX1_prepare 45 = .ok (.goto 4, 3) := by decide +kernel
theorem dX1_prepare_48 : decode cX1_prepare 48 = .ok (.lconst 0, 1) := by decide +kernel
theorem dX1_prepare_49 : decode cX1_prepare 49 = .ok (.lastore, 1) := by decide +kernel
theorem dX1_prepare_50 : decode cX1_prepare 50 = .ok (.iinc 2 1, 3) := by decide +kernel
theorem dX1_prepare_53 : decode cX1_prepare 53 = .ok (.goto (-34), 3) := by decide +kernel
theorem dX1_prepare_56 : decode cX1_prepare 56 = .ok (.aload_n 0, 1) := by decide +kernel
theorem dX1_prepare_57 : decode cX1_prepare 57 = .ok (.getfield 30, 3) := by decide +kernel
theorem dX1_prepare_60 : decode cX1_prepare 60 = .ok (.aload_n 0, 1) := by decide +kernel
theorem dX1_prepare_61 : decode cX1_prepare 61 = .ok (.getfield 58, 3) := by decide +kernel
theorem dX1_prepare_64 : decode cX1_prepare 64 = .ok (.iconst 0, 1) := by decide +kernel
theorem dX1_prepare_65 : decode cX1_prepare 65 = .ok (.iastore, 1) := by decide +kernel
theorem dX1_prepare_66 : decode cX1_prepare 66 = .ok (.aload_n 0, 1) := by decide +kernel
theorem dX1_prepare_67 : decode cX1_prepare 67 = .ok (.getfield 58, 3) := by decide +kernel
theorem dX1_prepare_70 : decode cX1_prepare 70 = .ok (.iconst 1, 1) := by decide +kernel
theorem dX1_prepare_71 : decode cX1_prepare 71 = .ok (.isub, 1) := by decide +kernel
theorem dX1_prepare_72 : decode cX1_prepare 72 = .ok (.istore_n 2, 1) := by decide +kernel
theorem dX1_prepare_73 : decode cX1_prepare 73 = .ok (.iload_n 2, 1) := by decide +kernel
theorem dX1_prepare_74 : decode cX1_prepare 74 = .ok (.ifCond .lt 63, 3) := by decide +kernel
theorem dX1_prepare_77 : decode cX1_prepare 77 = .ok (.aload_n 0, 1) := by decide +kernel
theorem dX1_prepare_78 : decode cX1_prepare 78 = .ok (.getfield 18, 3) := by decide +kernel
theorem dX1_prepare_81 : decode cX1_prepare 81 = .ok (.iload_n 2, 1) := by decide +kernel
theorem dX1_prepare_82 : decode cX1_prepare 82 = .ok (.aload_n 1, 1) := by decide +kernel
theorem dX1_prepare_83 : decode cX1_prepare 83 = .ok (.aload_n 1, 1) := by decide +kernel
theorem dX1_prepare_84 : decode cX1_prepare 84 = .ok (.iload_n 2, 1) := by decide +kernel
theorem dX1_prepare_85 : decode cX1_prepare 85 = .ok (.invokevirtual 69, 3) := by decide +kernel
theorem dX1_prepare_88 : decode cX1_prepare 88 = .ok (.invokevirtual 72, 3) := by decide +kernel
theorem dX1_prepare_91 : decode cX1_prepare 91 = .ok (.lastore, 1) := by decide +kernel
theorem dX1_prepare_92 : decode cX1_prepare 92 = .ok (.iconst 0, 1) := by decide +kernel
theorem dX1_prepare_93 : decode cX1_prepare 93 = .ok (.istore_n 3, 1) := by decide +kernel
theorem dX1_prepare_94 : decode cX1_prepare 94 = .ok (.iload_n 3, 1) := by decide +kernel
theorem dX1_prepare_95 : decode cX1_prepare 95 = .ok (.bipush 96, 2) := by decide +kernel
theorem dX1_prepare_97 : decode cX1_prepare 97 = .ok (.if_icmp .ge 23, 3) := by decide +kernel
theorem dX1_prepare_100 : decode cX1_prepare 100 = .ok (.aload_n 0, 1) := by decide +kernel
theorem dX1_prepare_101 : decode cX1_prepare 101 = .ok (.getfield 27, 3) := by decide +kernel
theorem dX1_prepare_104 : decode cX1_prepare 104 = .ok (.iload_n 2, 1) := by decide +kernel
theorem dX1_prepare_105 : decode cX1_prepare 105 = .ok (.aaload, 1) := by decide +kernel
theorem dX1_prepare_106 : decode cX1_prepare 106 = .ok (.iload_n 3, 1) := by decide +kernel
theorem dX1_prepare_107 : decode cX1_prepare 107 = .ok (.aload_n 1, 1) := by decide +kernel
theorem dX1_prepare_108 : decode cX1_prepare 108 = .ok (.iload_n 3, 1) := by decide +kernel
theorem dX1_prepare_109 : decode cX1_prepare 109 = .ok (.iload_n 2, 1) := by decide +kernel
theorem dX1_prepare_110 : decode cX1_prepare 110 = .ok (.invokevirtual 76, 3) := by decide +kernel
theorem dX1_prepare_113 : decode cX1_prepare 113 = .ok (.iastore, 1) := by decide +kernel
theorem dX1_prepare_114 : decode cX1_prepare 114 = .ok (.iinc 3 1, 3) := by decide +kernel
theorem dX1_prepare_117 : decode cX1_prepare 117 = .ok (.goto (-23), 3) := by decide +kernel
theorem dX1_prepare_120 : decode cX1_prepare 120 = .ok (.aload_n 0, 1) := by decide +kernel
theorem dX1_prepare_121 : decode cX1_prepare 121 = .ok (.getfield 30, 3) := by decide +kernel
theorem dX1_prepare_124 : decode cX1_prepare 124 = .ok (.iload_n 2, 1) := by decide +kernel
theorem dX1_prepare_125 : decode cX1_prepare 125 = .ok (.aload_n 0, 1) := by decide +kernel
theorem dX1_prepare_126 : decode cX1_prepare 126 = .ok (.iload_n 2, 1) := by decide +kernel
theorem dX1_prepare_127 : decode cX1_prepare 127 = .ok (.invokevirtual 79, 3) := by decide +kernel
theorem dX1_prepare_130 : decode cX1_prepare 130 = .ok (.iastore, 1) := by decide +kernel
theorem dX1_prepare_131 : decode cX1_prepare 131 = .ok (.iinc 2 (-1), 3) := by decide +kernel
theorem dX1_prepare_134 : decode cX1_prepare 134 = .ok (.goto (-61), 3) := by decide +kernel
theorem dX1_prepare_137 : decode cX1_prepare 137 = .ok (.return_, 1) := by decide +kernel
theorem dX1_boundSaved_0 : decode cX1_boundSaved 0 = .ok (.aload_n 0, 1) := by decide +kernel
theorem dX1_boundSaved_1 : decode cX1_boundSaved 1 = .ok (.getfield 30, 3) := by decide +kernel
theorem dX1_boundSaved_4 : decode cX1_boundSaved 4 = .ok (.iload_n 1, 1) := by decide +kernel
theorem dX1_boundSaved_5 : decode cX1_boundSaved 5 = .ok (.iconst 1, 1) := by decide +kernel
theorem dX1_boundSaved_6 : decode cX1_boundSaved 6 = .ok (.iadd, 1) := by decide +kernel
theorem dX1_boundSaved_7 : decode cX1_boundSaved 7 = .ok (.iaload, 1) := by decide +kernel
theorem dX1_boundSaved_8 : decode cX1_boundSaved 8 = .ok (.istore_n 2, 1) := by decide +kernel
theorem dX1_boundSaved_9 : decode cX1_boundSaved 9 = .ok (.iconst 0, 1) := by decide +kernel
theorem dX1_boundSaved_10 : decode cX1_boundSaved 10 = .ok (.istore_n 3, 1) := by decide +kernel
theorem dX1_boundSaved_11 : decode cX1_boundSaved 11 = .ok (.iload_n 3, 1) := by decide +kernel
theorem dX1_boundSaved_12 : decode cX1_boundSaved 12 = .ok (.bipush 96, 2) := by decide +kernel
theorem dX1_boundSaved_14 : decode cX1_boundSaved 14 = .ok (.if_icmp .ge 61, 3) := by decide +kernel
theorem dX1_boundSaved_17 : decode cX1_boundSaved 17 = .ok (.iconst 2, 1) := by decide +kernel
theorem dX1_boundSaved_18 : decode cX1_boundSaved 18 = .ok (.istore 4, 2) := by decide +kernel
theorem dX1_boundSaved_20 : decode cX1_boundSaved 20 = .ok (.iload 4, 2) := by decide +kernel
theorem dX1_boundSaved_22 : decode cX1_boundSaved 22 = .ok (.aload_n 0, 1) := by decide +kernel
theorem dX1_boundSaved_23 : decode cX1_boundSaved 23 = .ok (.getfield 27, 3) := by decide +kernel
theorem dX1_boundSaved_26 : decode cX1_boundSaved 26 = .ok (.iload_n 1, 1) := by decide +kernel
theorem dX1_boundSaved_27 : decode cX1_boundSaved 27 = .ok (.aaload, 1) := by decide +kernel
theorem dX1_boundSaved_28 : decode cX1_boundSaved 28 = .ok (.iload_n 3, 1) := by decide +kernel
theorem dX1_boundSaved_29 : decode cX1_boundSaved 29 = .ok (.iaload, 1) := by decide +kernel
theorem dX1_boundSaved_30 : decode cX1_boundSaved 30 = .ok (.if_icmp .gt 39, 3) := by decide +kernel
theorem dX1_boundSaved_33 : decode cX1_boundSaved 33 = .ok (.iload_n 1, 1) := by decide +kernel
theorem dX1_boundSaved_34 : decode cX1_boundSaved 34 = .ok (.iload 4, 2) := by decide +kernel
theorem dX1_boundSaved_36 : decode cX1_boundSaved 36 = .ok (.iadd, 1) := by decide +kernel
theorem dX1_boundSaved_37 : decode cX1_boundSaved 37 = .ok (.aload_n 0, 1) := by decide +kernel
theorem dX1_boundSaved_38 : decode cX1_boundSaved 38 = .ok (.getfield 58, 3) := by decide +kernel
theorem dX1_boundSaved_41 : decode cX1_boundSaved 41 = .ok (.if_icmp .gt 28, 3) := by decide +kernel
theorem dX1_boundSaved_44 : decode cX1_boundSaved 44 = .ok (.iload_n 2, 1) := by decide +kernel
theorem dX1_boundSaved_45 : decode cX1_boundSaved 45 = .ok (.iload 4, 2) := by decide +kernel
theorem dX1_boundSaved_47 : decode cX1_boundSaved 47 = .ok (.iconst 1, 1) := by decide +kernel
theorem dX1_boundSaved_48 : decode cX1_boundSaved 48 = .ok (.isub, 1) := by decide +kernel
theorem dX1_boundSaved_49 : decode cX1_boundSaved 49 = .ok (.aload_n 0, 1) := by decide +kernel
theorem dX1_boundSaved_50 : decode cX1_boundSaved 50 = .ok (.getfield 30, 3) := by decide +kernel
theorem dX1_boundSaved_53 : decode cX1_boundSaved 53 = .ok (.iload_n 1, 1) := by decide +kernel
theorem dX1_boundSaved_54 : decode cX1_boundSaved 54 = .ok (.iload 4, 2) := by decide +kernel
theorem dX1_boundSaved_56 : decode cX1_boundSaved 56 = .ok (.iadd, 1) := by decide +kernel
theorem dX1_boundSaved_57 : decode cX1_boundSaved 57 = .ok (.iaload, 1) := by decide +kernel
theorem dX1_boundSaved_58 : decode cX1_boundSaved 58 = .ok (.iadd, 1) := by decide +kernel
theorem dX1_boundSaved_59 : decode cX1_boundSaved 59 = .ok (.invokestatic 55, 3) := by decide +kernel
theorem dX1_boundSaved_62 : decode cX1_boundSaved 62 = .ok (.istore_n 2, 1) := by decide +kernel
theorem dX1_boundSaved_63 : decode cX1_boundSaved 63 = .ok (.iinc 4 1, 3) := by decide +kernel
theorem dX1_boundSaved_66 : decode cX1_boundSaved 66 = .ok (.goto (-46), 3) := by decide +kernel
theorem dX1_boundSaved_69 : decode cX1_boundSaved 69 = .ok (.iinc 3 1, 3) := by decide +kernel
theorem dX1_boundSaved_72 : decode cX1_boundSaved 72 = .ok (.goto (-61), 3) := by decide +kernel
theorem dX1_boundSaved_75 : decode cX1_boundSaved 75 = .ok (.iload_n 2, 1) := by decide +kernel
theorem dX1_boundSaved_76 : decode cX1_boundSaved 76 = .ok (.ireturn, 1) := by decide +kernel
theorem dX1_choose_0 : decode cX1_choose 0 = .ok (.aload_n 0, 1) := by decide +kernel
theorem dX1_choose_1 : decode cX1_choose 1 = .ok (.iconst 0, 1) := by decide +kernel
theorem dX1_choose_2 : decode cX1_choose 2 = .ok (.putfield 40, 3) := by decide +kernel
theorem dX1_choose_5 : decode cX1_choose 5 = .ok (.aload_n 0, 1) := by decide +kernel
theorem dX1_choose_6 : decode cX1_choose 6 = .ok (.lconst 0, 1) := by decide +kernel
theorem dX1_choose_7 : decode cX1_choose 7 = .ok (.putfield 82, 3) := by decide +kernel
theorem dX1_choose_10 : decode cX1_choose 10 = .ok (.aload_n 0, 1) := by decide +kernel
theorem dX1_choose_11 : decode cX1_choose 11 = .ok (.iconst 0, 1) := by decide +kernel
theorem dX1_choose_12 : decode cX1_choose 12 = .ok (.iconst 0, 1) := by decide +kernel
theorem dX1_choose_13 : decode cX1_choose 13 = .ok (.lload_n 1, 1) := by decide +kernel
theorem dX1_choose_14 : decode cX1_choose 14 = .ok (.invokevirtual 86, 3) := by decide +kernel
theorem dX1_choose_17 : decode cX1_choose 17 = .ok (.ifCond .ne 13, 3) := by decide +kernel
theorem dX1_choose_20 : decode cX1_choose 20 = .ok (.aload_n 0, 1) := by decide +kernel
theorem dX1_choose_21 : decode cX1_choose 21 = .ok (.iconst (-1), 1) := by decide +kernel
theorem dX1_choose_22 : decode cX1_choose 22 = .ok (.putfield 40, 3) := by decide +kernel
theorem dX1_choose_25 : decode cX1_choose 25 = .ok (.aload_n 0, 1) := by decide +kernel
theorem dX1_choose_26 : decode cX1_choose 26 = .ok (.getfield 40, 3) := by decide +kernel
theorem dX1_choose_29 : decode cX1_choose 29 = .ok (.ireturn, 1) := by decide +kernel
theorem dX1_choose_30 : decode cX1_choose 30 = .ok (.aload_n 0, 1) := by decide +kernel
theorem dX1_choose_31 : decode cX1_choose 31 = .ok (.getfield 30, 3) := by decide +kernel
theorem dX1_choose_34 : decode cX1_choose 34 = .ok (.iconst 0, 1) := by decide +kernel
theorem dX1_choose_35 : decode cX1_choose 35 = .ok (.iaload, 1) := by decide +kernel
theorem dX1_choose_36 : decode cX1_choose 36 = .ok (.istore_n 3, 1) := by decide +kernel
theorem dX1_choose_37 : decode cX1_choose 37 = .ok (.iload_n 3, 1) := by decide +kernel
theorem dX1_choose_38 : decode cX1_choose 38 = .ok (.ifCond .le 20, 3) := by decide +kernel
theorem dX1_choose_41 : decode cX1_choose 41 = .ok (.aload_n 0, 1) := by decide +kernel
theorem dX1_choose_42 : decode cX1_choose 42 = .ok (.iconst 0, 1) := by decide +kernel
theorem dX1_choose_43 : decode cX1_choose 43 = .ok (.iconst 0, 1) := by decide +kernel
theorem dX1_choose_44 : decode cX1_choose 44 = .ok (.lload_n 1, 1) := by decide +kernel
theorem dX1_choose_45 : decode cX1_choose 45 = .ok (.iload_n 3, 1) := by decide +kernel
theorem dX1_choose_46 : decode cX1_choose 46 = .ok (.invokevirtual 90, 3) := by decide +kernel
theorem dX1_choose_49 : decode cX1_choose 49 = .ok (.ifCond .ne 9, 3) := by decide +kernel
theorem dX1_choose_52 : decode cX1_choose 52 = .ok (.iinc 3 (-1), 3) := by decide +kernel
theorem dX1_choose_55 : decode cX1_choose 55 = .ok (.goto (-18), 3) := by decide +kernel
theorem dX1_choose_58 : decode cX1_choose 58 = .ok (.iconst 0, 1) := by decide +kernel
theorem dX1_choose_59 : decode cX1_choose 59 = .ok (.istore 4, 2) := by decide +kernel
theorem dX1_choose_61 : decode cX1_choose 61 = .ok (.iconst 0, 1) := by decide +kernel
theorem dX1_choose_62 : decode cX1_choose 62 = .ok (.istore 5, 2) := by decide +kernel
theorem dX1_choose_64 : decode cX1_choose 64 = .ok (.iload 5, 2) := by decide +kernel
theorem dX1_choose_66 : decode cX1_choose 66 = .ok (.bipush 8, 2) := by decide +kernel
theorem dX1_choose_68 : decode cX1_choose 68 = .ok (.if_icmp .ge 47, 3) := by decide +kernel
theorem dX1_choose_71 : decode cX1_choose 71 = .ok (.iload 4, 2) := by decide +kernel
theorem dX1_choose_73 : decode cX1_choose 73 = .ok (.aload_n 0, 1) := by decide +kernel
theorem dX1_choose_74 : decode cX1_choose 74 = .ok (.getfield 58, 3) := by decide +kernel
theorem dX1_choose_77 : decode cX1_choose 77 = .ok (.if_icmp .ge 38, 3) := by decide +kernel
theorem dX1_choose_80 : decode cX1_choose 80 = .ok (.aload_n 0, 1) := by decide +kernel
theorem dX1_choose_81 : decode cX1_choose 81 = .ok (.iload 4, 2) := by decide +kernel
theorem dX1_choose_83 : decode cX1_choose 83 = .ok (.lload_n 1, 1) := by decide +kernel
theorem dX1_choose_84 : decode cX1_choose 84 = .ok (.aload_n 0, 1) := by decide +kernel
theorem dX1_choose_85 : decode cX1_choose 85 = .ok (.getfield 82, 3) := by decide +kernel
theorem dX1_choose_88 : decode cX1_choose 88 = .ok (.lor, 1) := by decide +kernel
theorem dX1_choose_89 : decode cX1_choose 89 = .ok (.iload_n 3, 1) := by decide +kernel
theorem dX1_choose_90 : decode cX1_choose 90 = .ok (.invokevirtual 94, 3) := by decide +kernel
theorem dX1_choose_93 : decode cX1_choose 93 = .ok (.istore 6, 2) := by decide +kernel
theorem dX1_choose_95 : decode cX1_choose 95 = .ok (.iload_n 3, 1) := by decide +kernel
theorem dX1_choose_96 : decode cX1_choose 96 = .ok (.iload 6, 2) := by decide +kernel
theorem dX1_choose_98 : decode cX1_choose 98 = .ok (.iconst 1, 1) := by decide +kernel
theorem dX1_choose_99 : decode cX1_choose 99 = .ok (.isub, 1) := by decide +kernel
theorem dX1_choose_100 : decode cX1_choose 100 = .ok (.isub, 1) := by decide +kernel
theorem dX1_choose_101 : decode cX1_choose 101 = .ok (.istore_n 3, 1) := by decide +kernel
theorem dX1_choose_102 : decode cX1_choose 102 = .ok (.iload 4, 2) := by decide +kernel
theorem dX1_choose_104 : decode cX1_choose 104 = .ok (.iload 6, 2) := by decide +kernel
theorem dX1_choose_106 : decode cX1_choose 106 = .ok (.iadd, 1) := by decide +kernel
theorem dX1_choose_107 : decode cX1_choose 107 = .ok (.istore 4, 2) := by decide +kernel
theorem dX1_choose_109 : decode cX1_choose 109 = .ok (.iinc 5 1, 3) := by decide +kernel
theorem dX1_choose_112 : decode cX1_choose 112 = .ok (.goto (-48), 3) := by decide +kernel
theorem dX1_choose_115 : decode cX1_choose 115 = .ok (.aload_n 0, 1) := by decide +kernel
theorem dX1_choose_116 : decode cX1_choose 116 = .ok (.getfield 40, 3) := by decide +kernel
theorem dX1_choose_119 : decode cX1_choose 119 = .ok (.ireturn, 1) := by decide +kernel
theorem dX1_chooseCut_0 : decode cX1_chooseCut 0 = .ok (.aload_n 0, 1) := by decide +kernel
theorem dX1_chooseCut_1 : decode cX1_chooseCut 1 = .ok (.getfield 58, 3) := by decide +kernel
theorem dX1_chooseCut_4 : decode cX1_chooseCut 4 = .ok (.iload_n 1, 1) := by decide +kernel
theorem dX1_chooseCut_5 : decode cX1_chooseCut 5 = .ok (.isub, 1) := by decide +kernel
theorem dX1_chooseCut_6 : decode cX1_chooseCut 6 = .ok (.istore 5, 2) := by decide +kernel
theorem dX1_chooseCut_8 : decode cX1_chooseCut 8 = .ok (.iload 5, 2) := by decide +kernel
theorem dX1_chooseCut_10 : decode cX1_chooseCut 10 = .ok (.iconst 1, 1) := by decide +kernel
theorem dX1_chooseCut_11 : decode cX1_chooseCut 11 = .ok (.if_icmp .lt 122, 3) := by decide +kernel
theorem dX1_chooseCut_14 : decode cX1_chooseCut 14 = .ok (.iconst 0, 1) := by decide +kernel
theorem dX1_chooseCut_15 : decode cX1_chooseCut 15 = .ok (.istore 6, 2) := by decide +kernel
theorem dX1_chooseCut_17 : decode cX1_chooseCut 17 = .ok (.iload 6, 2) := by decide +kernel
theorem dX1_chooseCut_19 : decode cX1_chooseCut 19 = .ok (.bipush 96, 2) := by decide +kernel
theorem dX1_chooseCut_21 : decode cX1_chooseCut 21 = .ok (.if_icmp .ge 106, 3) := by decide +kernel
theorem dX1_chooseCut_24 : decode cX1_chooseCut 24 = .ok (.aload_n 0, 1) := by decide +kernel
theorem dX1_chooseCut_25 : decode cX1_chooseCut 25 = .ok (.iload_n 1, 1) := by decide +kernel
theorem dX1_chooseCut_26 : decode cX1_chooseCut 26 = .ok (.iload 6, 2) := by decide +kernel
theorem dX1_chooseCut_28 : decode cX1_chooseCut 28 = .ok (.iload 5, 2) := by decide +kernel
theorem dX1_chooseCut_30 : decode cX1_chooseCut 30 = .ok (.lload_n 2, 1) := by decide +kernel
theorem dX1_chooseCut_31 : decode cX1_chooseCut 31 = .ok (.invokevirtual 98, 3) := by decide +kernel
theorem dX1_chooseCut_34 : decode cX1_chooseCut 34 = .ok (.lstore 7, 2) := by decide +kernel
theorem dX1_chooseCut_36 : decode cX1_chooseCut 36 = .ok (.lload 7, 2) := by decide +kernel
theorem dX1_chooseCut_38 : decode cX1_chooseCut 38 = .ok (.lconst 0, 1) := by decide +kernel
theorem dX1_chooseCut_39 : decode cX1_chooseCut 39 = .ok (.lcmp, 1) := by decide +kernel
theorem dX1_chooseCut_40 : decode cX1_chooseCut 40 = .ok (.ifCond .eq 81, 3) := by decide +kernel
theorem dX1_chooseCut_43 : decode cX1_chooseCut 43 = .ok (.aload_n 0, 1) := by decide +kernel
theorem dX1_chooseCut_44 : decode cX1_chooseCut 44 = .ok (.getfield 40, 3) := by decide +kernel
theorem dX1_chooseCut_47 : decode cX1_chooseCut 47 = .ok (.bipush 8, 2) := by decide +kernel
theorem dX1_chooseCut_49 : decode cX1_chooseCut 49 = .ok (.if_icmp .ge 72, 3) := by decide +kernel
theorem dX1_chooseCut_52 : decode cX1_chooseCut 52 = .ok (.aload_n 0, 1) := by decide +kernel
theorem dX1_chooseCut_53 : decode cX1_chooseCut 53 = .ok (.iload_n 1, 1) := by decide +kernel
theorem dX1_chooseCut_54 : decode cX1_chooseCut 54 = .ok (.iload 5, 2) := by decide +kernel
theorem dX1_chooseCut_56 : decode cX1_chooseCut 56 = .ok (.iadd, 1) := by decide +kernel
theorem dX1_chooseCut_57 : decode cX1_chooseCut 57 = .ok (.iconst 0, 1) := by decide +kernel
theorem dX1_chooseCut_58 : decode cX1_chooseCut 58 = .ok (.lload_n 2, 1) := by decide +kernel
theorem dX1_chooseCut_59 : decode cX1_chooseCut 59 = .ok (.lload 7, 2) := by decide +kernel
theorem dX1_chooseCut_61 : decode cX1_chooseCut 61 = .ok (.lor, 1) := by decide +kernel
theorem dX1_chooseCut_62 : decode cX1_chooseCut 62 = .ok (.iload 4, 2) := by decide +kernel
theorem dX1_chooseCut_64 : decode cX1_chooseCut 64 = .ok (.iload 5, 2) := by decide +kernel
theorem dX1_chooseCut_66 : decode cX1_chooseCut 66 = .ok (.isub, 1) := by decide +kernel
theorem dX1_chooseCut_67 : decode cX1_chooseCut 67 = .ok (.iconst 1, 1) := by decide +kernel
theorem dX1_chooseCut_68 : decode cX1_chooseCut 68 = .ok (.iadd, 1) := by decide +kernel
theorem dX1_chooseCut_69 : decode cX1_chooseCut 69 = .ok (.invokevirtual 90, 3) := by decide +kernel
theorem dX1_chooseCut_72 : decode cX1_chooseCut 72 = .ok (.ifCond .eq 49, 3) := by decide +kernel
theorem dX1_chooseCut_75 : decode cX1_chooseCut 75 = .ok (.aload_n 0, 1) := by decide +kernel
theorem dX1_chooseCut_76 : decode cX1_chooseCut 76 = .ok (.getfield 34, 3) := by decide +kernel
theorem dX1_chooseCut_79 : decode cX1_chooseCut 79 = .ok (.aload_n 0, 1) := by decide +kernel
theorem dX1_chooseCut_80 : decode cX1_chooseCut 80 = .ok (.getfield 40, 3) := by decide +kernel
theorem dX1_chooseCut_83 : decode cX1_chooseCut 83 = .ok (.iload 6, 2) := by decide +kernel
theorem dX1_chooseCut_85 : decode cX1_chooseCut 85 = .ok (.iastore, 1) := by decide +kernel
theorem dX1_chooseCut_86 : decode cX1_chooseCut 86 = .ok (.aload_n 0, 1) := by decide +kernel
theorem dX1_chooseCut_87 : decode cX1_chooseCut 87 = .ok (.getfield 37, 3) := by decide +kernel
theorem dX1_chooseCut_90 : decode cX1_chooseCut 90 = .ok (.aload_n 0, 1) := by decide +kernel
theorem dX1_chooseCut_91 : decode cX1_chooseCut 91 = .ok (.getfield 40, 3) := by decide +kernel
theorem dX1_chooseCut_94 : decode cX1_chooseCut 94 = .ok (.iload 5, 2) := by decide +kernel
theorem dX1_chooseCut_96 : decode cX1_chooseCut 96 = .ok (.iastore, 1) := by decide +kernel
theorem dX1_chooseCut_97 : decode cX1_chooseCut 97 = .ok (.aload_n 0, 1) := by decide +kernel
theorem dX1_chooseCut_98 : decode cX1_chooseCut 98 = .ok (.dup, 1) := by decide +kernel
theorem dX1_chooseCut_99 : decode cX1_chooseCut 99 = .ok (.getfield 40, 3) := by decide +kernel
theorem dX1_chooseCut_102 : decode cX1_chooseCut 102 = .ok (.iconst 1, 1) := by decide +kernel
theorem dX1_chooseCut_103 : decode cX1_chooseCut 103 = .ok (.iadd, 1) := by decide +kernel
theorem dX1_chooseCut_104 : decode cX1_chooseCut 104 = .ok (.putfield 40, 3) := by decide +kernel
theorem dX1_chooseCut_107 : decode cX1_chooseCut 107 = .ok (.aload_n 0, 1) := by decide +kernel
theorem dX1_chooseCut_108 : decode cX1_chooseCut 108 = .ok (.dup, 1) := by decide +kernel
theorem dX1_chooseCut_109 : decode cX1_chooseCut 109 = .ok (.getfield 82, 3) := by decide +kernel
theorem dX1_chooseCut_112 : decode cX1_chooseCut 112 = .ok (.lload 7, 2) := by decide +kernel
theorem dX1_chooseCut_114 : decode cX1_chooseCut 114 = .ok (.lor, 1) := by decide +kernel
theorem dX1_chooseCut_115 : decode cX1_chooseCut 115 = .ok (.putfield 82, 3) := by decide +kernel
theorem dX1_chooseCut_118 : decode cX1_chooseCut 118 = .ok (.iload 5, 2) := by decide +kernel
theorem dX1_chooseCut_120 : decode cX1_chooseCut 120 = .ok (.ireturn, 1) := by decide +kernel
theorem dX1_chooseCut_121 : decode cX1_chooseCut 121 = .ok (.iinc 6 1, 3) := by decide +kernel
theorem dX1_chooseCut_124 : decode cX1_chooseCut 124 = .ok (.goto (-107), 3) := by decide +kernel
theorem dX1_chooseCut_127 : decode cX1_chooseCut 127 = .ok (.iinc 5 (-1), 3) := by decide +kernel
theorem dX1_chooseCut_130 : decode cX1_chooseCut 130 = .ok (.goto (-122), 3) := by decide +kernel
theorem dX1_chooseCut_133 : decode cX1_chooseCut 133 = .ok (.iconst 0, 1) := by decide +kernel
theorem dX1_chooseCut_134 : decode cX1_chooseCut 134 = .ok (.ireturn, 1) := by decide +kernel
theorem dX1_freeStrip_0 : decode cX1_freeStrip 0 = .ok (.iload_n 1, 1) := by decide +kernel
theorem dX1_freeStrip_1 : decode cX1_freeStrip 1 = .ok (.ifCond .lt 33, 3) := by decide +kernel
theorem dX1_freeStrip_4 : decode cX1_freeStrip 4 = .ok (.iload_n 1, 1) := by decide +kernel
theorem dX1_freeStrip_5 : decode cX1_freeStrip 5 = .ok (.bipush 8, 2) := by decide +kernel
theorem dX1_freeStrip_7 : decode cX1_freeStrip 7 = .ok (.if_icmp .ge 27, 3) := by decide +kernel
theorem dX1_freeStrip_10 : decode cX1_freeStrip 10 = .ok (.iload_n 2, 1) := by decide +kernel
theorem dX1_freeStrip_11 : decode cX1_freeStrip 11 = .ok (.ifCond .lt 23, 3) := by decide +kernel
theorem dX1_freeStrip_14 : decode cX1_freeStrip 14 = .ok (.iload_n 2, 1) := by decide +kernel
theorem dX1_freeStrip_15 : decode cX1_freeStrip 15 = .ok (.iload_n 3, 1) := by decide +kernel
theorem dX1_freeStrip_16 : decode cX1_freeStrip 16 = .ok (.iadd, 1) := by decide +kernel
theorem dX1_freeStrip_17 : decode cX1_freeStrip 17 = .ok (.bipush 96, 2) := by decide +kernel
theorem dX1_freeStrip_19 : decode cX1_freeStrip 19 = .ok (.if_icmp .gt 15, 3) := by decide +kernel
theorem dX1_freeStrip_22 : decode cX1_freeStrip 22 = .ok (.aload_n 0, 1) := by decide +kernel
theorem dX1_freeStrip_23 : decode cX1_freeStrip 23 = .ok (.getfield 27, 3) := by decide +kernel
theorem dX1_freeStrip_26 : decode cX1_freeStrip 26 = .ok (.iload_n 1, 1) := by decide +kernel
theorem dX1_freeStrip_27 : decode cX1_freeStrip 27 = .ok (.aaload, 1) := by decide +kernel
theorem dX1_freeStrip_28 : decode cX1_freeStrip 28 = .ok (.iload_n 2, 1) := by decide +kernel
theorem dX1_freeStrip_29 : decode cX1_freeStrip 29 = .ok (.iaload, 1) := by decide +kernel
theorem dX1_freeStrip_30 : decode cX1_freeStrip 30 = .ok (.iload_n 3, 1) := by decide +kernel
theorem dX1_freeStrip_31 : decode cX1_freeStrip 31 = .ok (.if_icmp .ge 5, 3) := by decide +kernel
theorem dX1_freeStrip_34 : decode cX1_freeStrip 34 = .ok (.lconst 0, 1) := by decide +kernel
theorem dX1_freeStrip_35 : decode cX1_freeStrip 35 = .ok (.lreturn, 1) := by decide +kernel
theorem dX1_freeStrip_36 : decode cX1_freeStrip 36 = .ok (.lconst 0, 1) := by decide +kernel
theorem dX1_freeStrip_37 : decode cX1_freeStrip 37 = .ok (.lstore 6, 2) := by decide +kernel
theorem dX1_freeStrip_39 : decode cX1_freeStrip 39 = .ok (.iconst 0, 1) := by decide +kernel
theorem dX1_freeStrip_40 : decode cX1_freeStrip 40 = .ok (.istore 8, 2) := by decide +kernel
theorem dX1_freeStrip_42 : decode cX1_freeStrip 42 = .ok (.iload 8, 2) := by decide +kernel
theorem dX1_freeStrip_44 : decode cX1_freeStrip 44 = .ok (.iload_n 3, 1) := by decide +kernel
theorem dX1_freeStrip_45 : decode cX1_freeStrip 45 = .ok (.if_icmp .ge 23, 3) := by decide +kernel
theorem dX1_freeStrip_48 : decode cX1_freeStrip 48 = .ok (.lload 6, 2) := by decide +kernel
theorem dX1_freeStrip_50 : decode cX1_freeStrip 50 = .ok (.aload_n 0, 1) := by decide +kernel
theorem dX1_freeStrip_51 : decode cX1_freeStrip 51 = .ok (.getfield 22, 3) := by decide +kernel
theorem dX1_freeStrip_54 : decode cX1_freeStrip 54 = .ok (.iload_n 2, 1) := by decide +kernel
theorem dX1_freeStrip_55 : decode cX1_freeStrip 55 = .ok (.iload 8, 2) := by decide +kernel
theorem dX1_freeStrip_57 : decode cX1_freeStrip 57 = .ok (.iadd, 1) := by decide +kernel
theorem dX1_freeStrip_58 : decode cX1_freeStrip 58 = .ok (.laload, 1) := by decide +kernel
theorem dX1_freeStrip_59 : decode cX1_freeStrip 59 = .ok (.lor, 1) := by decide +kernel
theorem dX1_freeStrip_60 : decode cX1_freeStrip 60 = .ok (.lstore 6, 2) := by decide +kernel
theorem dX1_freeStrip_62 : decode cX1_freeStrip 62 = .ok (.iinc 8 1, 3) := by decide +kernel
theorem dX1_freeStrip_65 : decode cX1_freeStrip 65 = .ok (.goto (-23), 3) := by decide +kernel
theorem dX1_freeStrip_68 : decode cX1_freeStrip 68 = .ok (.lload 6, 2) := by decide +kernel
theorem dX1_freeStrip_70 : decode cX1_freeStrip 70 = .ok (.lload 4, 2) := by decide +kernel
theorem dX1_freeStrip_72 : decode cX1_freeStrip 72 = .ok (.land, 1) := by decide +kernel
theorem dX1_freeStrip_73 : decode cX1_freeStrip 73 = .ok (.lconst 0, 1) := by decide +kernel
theorem dX1_freeStrip_74 : decode cX1_freeStrip 74 = .ok (.lcmp, 1) := by decide +kernel
theorem dX1_freeStrip_75 : decode cX1_freeStrip 75 = .ok (.ifCond .ne 8, 3) := by decide +kernel
theorem dX1_freeStrip_78 : decode cX1_freeStrip 78 = .ok (.lload 6, 2) := by decide +kernel
theorem dX1_freeStrip_80 : decode cX1_freeStrip 80 = .ok (.goto 4, 3) := by decide +kernel
theorem dX1_freeStrip_83 : decode cX1_freeStrip 83 = .ok (.lconst 0, 1) := by decide +kernel
theorem dX1_freeStrip_84 : decode cX1_freeStrip 84 = .ok (.lreturn, 1) := by decide +kernel
theorem dX1_canSave_0 : decode cX1_canSave 0 = .ok (.aload_n 0, 1) := by decide +kernel
theorem dX1_canSave_1 : decode cX1_canSave 1 = .ok (.iload_n 1, 1) := by decide +kernel
theorem dX1_canSave_2 : decode cX1_canSave 2 = .ok (.iload_n 2, 1) := by decide +kernel
theorem dX1_canSave_3 : decode cX1_canSave 3 = .ok (.lload_n 3, 1) := by decide +kernel
theorem dX1_canSave_4 : decode cX1_canSave 4 = .ok (.invokevirtual 86, 3) := by decide +kernel
theorem dX1_canSave_7 : decode cX1_canSave 7 = .ok (.ifCond .ne 5, 3) := by decide +kernel
theorem dX1_canSave_10 : decode cX1_canSave 10 = .ok (.iconst 0, 1) := by decide +kernel
theorem dX1_canSave_11 : decode cX1_canSave 11 = .ok (.ireturn, 1) := by decide +kernel
theorem dX1_canSave_12 : decode cX1_canSave 12 = .ok (.iload_n 2, 1) := by decide +kernel
theorem dX1_canSave_13 : decode cX1_canSave 13 = .ok (.istore 6, 2) := by decide +kernel
theorem dX1_canSave_15 : decode cX1_canSave 15 = .ok (.iload_n 1, 1) := by decide +kernel
theorem dX1_canSave_16 : decode cX1_canSave 16 = .ok (.istore 7, 2) := by decide +kernel
theorem dX1_canSave_18 : decode cX1_canSave 18 = .ok (.iload 5, 2) := by decide +kernel
theorem dX1_canSave_20 : decode cX1_canSave 20 = .ok (.ifCond .le 55, 3) := by decide +kernel
theorem dX1_canSave_23 : decode cX1_canSave 23 = .ok (.iload 7, 2) := by decide +kernel
theorem dX1_canSave_25 : decode cX1_canSave 25 = .ok (.aload_n 0, 1) := by decide +kernel
theorem dX1_canSave_26 : decode cX1_canSave 26 = .ok (.getfield 58, 3) := by decide +kernel
theorem dX1_canSave_29 : decode cX1_canSave 29 = .ok (.if_icmp .ge 46, 3) := by decide +kernel
theorem dX1_canSave_32 : decode cX1_canSave 32 = .ok (.aload_n 0, 1) := by decide +kernel
theorem dX1_canSave_33 : decode cX1_canSave 33 = .ok (.getfield 30, 3) := by decide +kernel
theorem dX1_canSave_36 : decode cX1_canSave 36 = .ok (.iload 7, 2) := by decide +kernel
theorem dX1_canSave_38 : decode cX1_canSave 38 = .ok (.iaload, 1) := by decide +kernel
theorem dX1_canSave_39 : decode cX1_canSave 39 = .ok (.iload 5, 2) := by decide +kernel
theorem dX1_canSave_41 : decode cX1_canSave 41 = .ok (.if_icmp .lt 34, 3) := by decide +kernel
theorem dX1_canSave_44 : decode cX1_canSave 44 = .ok (.aload_n 0, 1) := by decide +kernel
theorem dX1_canSave_45 : decode cX1_canSave 45 = .ok (.iload 7, 2) := by decide +kernel
theorem dX1_canSave_47 : decode cX1_canSave 47 = .ok (.iload 6, 2) := by decide +kernel
theorem dX1_canSave_49 : decode cX1_canSave 49 = .ok (.lload_n 3, 1) := by decide +kernel
theorem dX1_canSave_50 : decode cX1_canSave 50 = .ok (.iload 5, 2) := by decide +kernel
theorem dX1_canSave_52 : decode cX1_canSave 52 = .ok (.invokevirtual 102, 3) := by decide +kernel
theorem dX1_canSave_55 : decode cX1_canSave 55 = .ok (.ifCond .eq 5, 3) := by decide +kernel
theorem dX1_canSave_58 : decode cX1_canSave 58 = .ok (.iconst 1, 1) := by decide +kernel
theorem dX1_canSave_59 : decode cX1_canSave 59 = .ok (.ireturn, 1) := by decide +kernel
theorem dX1_canSave_60 : decode cX1_canSave 60 = .ok (.iload 6, 2) := by decide +kernel
theorem dX1_canSave_62 : decode cX1_canSave 62 = .ok (.iconst 1, 1) := by decide +kernel
theorem dX1_canSave_63 : decode cX1_canSave 63 = .ok (.iload 7, 2) := by decide +kernel
theorem dX1_canSave_65 : decode cX1_canSave 65 = .ok (.ishl, 1) := by decide +kernel
theorem dX1_canSave_66 : decode cX1_canSave 66 = .ok (.ior, 1) := by decide +kernel
theorem dX1_canSave_67 : decode cX1_canSave 67 = .ok (.istore 6, 2) := by decide +kernel
theorem dX1_canSave_69 : decode cX1_canSave 69 = .ok (.iinc 7 1, 3) := by decide +kernel
theorem dX1_canSave_72 : decode cX1_canSave 72 = .ok (.goto (-54), 3) := by decide +kernel
theorem dX1_canSave_75 : decode cX1_canSave 75 = .ok (.iload 5, 2) := by decide +kernel
theorem dX1_canSave_77 : decode cX1_canSave 77 = .ok (.ifCond .gt 7, 3) := by decide +kernel
theorem dX1_canSave_80 : decode cX1_canSave 80 = .ok (.iconst 1, 1) := by decide +kernel
theorem dX1_canSave_81 : decode cX1_canSave 81 = .ok (.goto 4, 3) := by decide +kernel
theorem dX1_canSave_84 : decode cX1_canSave 84 = .ok (.iconst 0, 1) := by decide +kernel
theorem dX1_canSave_85 : decode cX1_canSave 85 = .ok (.ireturn, 1) := by decide +kernel
theorem dX1_canSaveAt_0 : decode cX1_canSaveAt 0 = .ok (.iload_n 1, 1) := by decide +kernel
theorem dX1_canSaveAt_1 : decode cX1_canSaveAt 1 = .ok (.ifCond .lt 11, 3) := by decide +kernel
theorem dX1_canSaveAt_4 : decode cX1_canSaveAt 4 = .ok (.iload_n 1, 1) := by decide +kernel
theorem dX1_canSaveAt_5 : decode cX1_canSaveAt 5 = .ok (.aload_n 0, 1) := by decide +kernel
theorem dX1_canSaveAt_6 : decode cX1_canSaveAt 6 = .ok (.getfield 58, 3) := by decide +kernel
theorem dX1_canSaveAt_9 : decode cX1_canSaveAt 9 = .ok (.if_icmp .lt 5, 3) := by decide +kernel
theorem dX1_canSaveAt_12 : decode cX1_canSaveAt 12 = .ok (.iconst 0, 1) := by decide +kernel
theorem dX1_canSaveAt_13 : decode cX1_canSaveAt 13 = .ok (.ireturn, 1) := by decide +kernel
theorem dX1_canSaveAt_14 : decode cX1_canSaveAt 14 = .ok (.iconst 0, 1) := by decide +kernel
theorem dX1_canSaveAt_15 : decode cX1_canSaveAt 15 = .ok (.istore 6, 2) := by decide +kernel
theorem dX1_canSaveAt_17 : decode cX1_canSaveAt 17 = .ok (.iload 6, 2) := by decide +kernel
theorem dX1_canSaveAt_19 : decode cX1_canSaveAt 19 = .ok (.bipush 96, 2) := by decide +kernel
theorem dX1_canSaveAt_21 : decode cX1_canSaveAt 21 = .ok (.if_icmp .ge 76, 3) := by decide +kernel
theorem dX1_canSaveAt_24 : decode cX1_canSaveAt 24 = .ok (.aload_n 0, 1) := by decide +kernel
theorem dX1_canSaveAt_25 : decode cX1_canSaveAt 25 = .ok (.getfield 27, 3) := by decide +kernel
theorem dX1_canSaveAt_28 : decode cX1_canSaveAt 28 = .ok (.iload_n 1, 1) := by decide +kernel
theorem dX1_canSaveAt_29 : decode cX1_canSaveAt 29 = .ok (.aaload, 1) := by decide +kernel
theorem dX1_canSaveAt_30 : decode cX1_canSaveAt 30 = .ok (.iload 6, 2) := by decide +kernel
theorem dX1_canSaveAt_32 : decode cX1_canSaveAt 32 = .ok (.iaload, 1) := by decide +kernel
theorem dX1_canSaveAt_33 : decode cX1_canSaveAt 33 = .ok (.istore 7, 2) := by decide +kernel
theorem dX1_canSaveAt_35 : decode cX1_canSaveAt 35 = .ok (.iload 7, 2) := by decide +kernel
theorem dX1_canSaveAt_37 : decode cX1_canSaveAt 37 = .ok (.iconst 2, 1) := by decide +kernel
theorem dX1_canSaveAt_38 : decode cX1_canSaveAt 38 = .ok (.if_icmp .lt 53, 3) := by decide +kernel
theorem dX1_canSaveAt_41 : decode cX1_canSaveAt 41 = .ok (.aload_n 0, 1) := by decide +kernel
theorem dX1_canSaveAt_42 : decode cX1_canSaveAt 42 = .ok (.iload_n 1, 1) := by decide +kernel
theorem dX1_canSaveAt_43 : decode cX1_canSaveAt 43 = .ok (.iload 6, 2) := by decide +kernel
theorem dX1_canSaveAt_45 : decode cX1_canSaveAt 45 = .ok (.iload 7, 2) := by decide +kernel
theorem dX1_canSaveAt_47 : decode cX1_canSaveAt 47 = .ok (.lload_n 3, 1) := by decide +kernel
theorem dX1_canSaveAt_48 : decode cX1_canSaveAt 48 = .ok (.invokevirtual 98, 3) := by decide +kernel
theorem dX1_canSaveAt_51 : decode cX1_canSaveAt 51 = .ok (.lstore 8, 2) := by decide +kernel
theorem dX1_canSaveAt_53 : decode cX1_canSaveAt 53 = .ok (.lload 8, 2) := by decide +kernel
theorem dX1_canSaveAt_55 : decode cX1_canSaveAt 55 = .ok (.lconst 0, 1) := by decide +kernel
theorem dX1_canSaveAt_56 : decode cX1_canSaveAt 56 = .ok (.lcmp, 1) := by decide +kernel
theorem dX1_canSaveAt_57 : decode cX1_canSaveAt 57 = .ok (.ifCond .eq 28, 3) := by decide +kernel
theorem dX1_canSaveAt_60 : decode cX1_canSaveAt 60 = .ok (.aload_n 0, 1) := by decide +kernel
theorem dX1_canSaveAt_61 : decode cX1_canSaveAt 61 = .ok (.iload_n 1, 1) := by decide +kernel
theorem dX1_canSaveAt_62 : decode cX1_canSaveAt 62 = .ok (.iload 7, 2) := by decide +kernel
theorem dX1_canSaveAt_64 : decode cX1_canSaveAt 64 = .ok (.iadd, 1) := by decide +kernel
theorem dX1_canSaveAt_65 : decode cX1_canSaveAt 65 = .ok (.iload_n 2, 1) := by decide +kernel
theorem dX1_canSaveAt_66 : decode cX1_canSaveAt 66 = .ok (.lload_n 3, 1) := by decide +kernel
theorem dX1_canSaveAt_67 : decode cX1_canSaveAt 67 = .ok (.lload 8, 2) := by decide +kernel
theorem dX1_canSaveAt_69 : decode cX1_canSaveAt 69 = .ok (.lor, 1) := by decide +kernel
theorem dX1_canSaveAt_70 : decode cX1_canSaveAt 70 = .ok (.iload 5, 2) := by decide +kernel
theorem dX1_canSaveAt_72 : decode cX1_canSaveAt 72 = .ok (.iload 7, 2) := by decide +kernel
theorem dX1_canSaveAt_74 : decode cX1_canSaveAt 74 = .ok (.isub, 1) := by decide +kernel
theorem dX1_canSaveAt_75 : decode cX1_canSaveAt 75 = .ok (.iconst 1, 1) := by decide +kernel
theorem dX1_canSaveAt_76 : decode cX1_canSaveAt 76 = .ok (.iadd, 1) := by decide +kernel
theorem dX1_canSaveAt_77 : decode cX1_canSaveAt 77 = .ok (.invokevirtual 90, 3) := by decide +kernel
theorem dX1_canSaveAt_80 : decode cX1_canSaveAt 80 = .ok (.ifCond .eq 5, 3) := by decide +kernel
theorem dX1_canSaveAt_83 : decode cX1_canSaveAt 83 = .ok (.iconst 1, 1) := by decide +kernel
theorem dX1_canSaveAt_84 : decode cX1_canSaveAt 84 = .ok (.ireturn, 1) := by decide +kernel
theorem dX1_canSaveAt_85 : decode cX1_canSaveAt 85 = .ok (.iinc 7 (-1), 3) := by decide +kernel
theorem dX1_canSaveAt_88 : decode cX1_canSaveAt 88 = .ok (.goto (-53), 3) := by decide +kernel
theorem dX1_canSaveAt_91 : decode cX1_canSaveAt 91 = .ok (.iinc 6 1, 3) := by decide +kernel
theorem dX1_canSaveAt_94 : decode cX1_canSaveAt 94 = .ok (.goto (-77), 3) := by decide +kernel
theorem dX1_canSaveAt_97 : decode cX1_canSaveAt 97 = .ok (.iconst 0, 1) := by decide +kernel
theorem dX1_canSaveAt_98 : decode cX1_canSaveAt 98 = .ok (.ireturn, 1) := by decide +kernel
theorem dX1_canSpell_0 : decode cX1_canSpell 0 = .ok (.aload_n 0, 1) := by decide +kernel
theorem dX1_canSpell_1 : decode cX1_canSpell 1 = .ok (.getfield 12, 3) := by decide +kernel
theorem dX1_canSpell_4 : decode cX1_canSpell 4 = .ok (.invokevirtual 105, 3) := by decide +kernel
theorem dX1_canSpell_7 : decode cX1_canSpell 7 = .ok (.iconst 0, 1) := by decide +kernel
theorem dX1_canSpell_8 : decode cX1_canSpell 8 = .ok (.istore 5, 2) := by decide +kernel
theorem dX1_canSpell_10 : decode cX1_canSpell 10 = .ok (.iload 5, 2) := by decide +kernel
theorem dX1_canSpell_12 : decode cX1_canSpell 12 = .ok (.aload_n 0, 1) := by decide +kernel
theorem dX1_canSpell_13 : decode cX1_canSpell 13 = .ok (.getfield 58, 3) := by decide +kernel
theorem dX1_canSpell_16 : decode cX1_canSpell 16 = .ok (.if_icmp .ge 61, 3) := by decide +kernel
theorem dX1_canSpell_19 : decode cX1_canSpell 19 = .ok (.iload 5, 2) := by decide +kernel
theorem dX1_canSpell_21 : decode cX1_canSpell 21 = .ok (.iload_n 1, 1) := by decide +kernel
theorem dX1_canSpell_22 : decode cX1_canSpell 22 = .ok (.if_icmp .ge 12, 3) := by decide +kernel
theorem dX1_canSpell_25 : decode cX1_canSpell 25 = .ok (.iload_n 2, 1) := by decide +kernel
theorem dX1_canSpell_26 : decode cX1_canSpell 26 = .ok (.iconst 1, 1) := by decide +kernel
theorem dX1_canSpell_27 : decode cX1_canSpell 27 = .ok (.iload 5, 2) := by decide +kernel
theorem dX1_canSpell_29 : decode cX1_canSpell 29 = .ok (.ishl, 1) := by decide +kernel
theorem dX1_canSpell_30 : decode cX1_canSpell 30 = .ok (.iand, 1) := by decide +kernel
theorem dX1_canSpell_31 : decode cX1_canSpell 31 = .ok (.ifCond .eq 7, 3) := by decide +kernel
theorem dX1_canSpell_34 : decode cX1_canSpell 34 = .ok (.iconst 1, 1) := by decide +kernel
theorem dX1_canSpell_35 : decode cX1_canSpell 35 = .ok (.goto 4, 3) := by decide +kernel
theorem dX1_canSpell_38 : decode cX1_canSpell 38 = .ok (.iconst 0, 1) := by decide +kernel
theorem dX1_canSpell_39 : decode cX1_canSpell 39 = .ok (.istore 6, 2) := by decide +kernel
theorem dX1_canSpell_41 : decode cX1_canSpell 41 = .ok (.iload 6, 2) := by decide +kernel
theorem dX1_canSpell_43 : decode cX1_canSpell 43 = .ok (.ifCond .eq 28, 3) := by decide +kernel
theorem dX1_canSpell_46 : decode cX1_canSpell 46 = .ok (.aload_n 0, 1) := by decide +kernel
theorem dX1_canSpell_47 : decode cX1_canSpell 47 = .ok (.getfield 12, 3) := by decide +kernel
theorem dX1_canSpell_50 : decode cX1_canSpell 50 = .ok (.aload_n 0, 1) := by decide +kernel
theorem dX1_canSpell_51 : decode cX1_canSpell 51 = .ok (.getfield 18, 3) := by decide +kernel
theorem dX1_canSpell_54 : decode cX1_canSpell 54 = .ok (.iload 5, 2) := by decide +kernel
theorem dX1_canSpell_56 : decode cX1_canSpell 56 = .ok (.laload, 1) := by decide +kernel
theorem dX1_canSpell_57 : decode cX1_canSpell 57 = .ok (.lload_n 3, 1) := by decide +kernel
theorem dX1_canSpell_58 : decode cX1_canSpell 58 = .ok (.ldc2_w 108, 3) := by decide +kernel
theorem dX1_canSpell_61 : decode cX1_canSpell 61 = .ok (.lxor, 1) := by decide +kernel
theorem dX1_canSpell_62 : decode cX1_canSpell 62 = .ok (.land, 1) := by decide +kernel
theorem dX1_canSpell_63 : decode cX1_canSpell 63 = .ok (.invokevirtual 110, 3) := by decide +kernel
theorem dX1_canSpell_66 : decode cX1_canSpell 66 = .ok (.ifCond .ne 5, 3) := by decide +kernel
theorem dX1_canSpell_69 : decode cX1_canSpell 69 = .ok (.iconst 0, 1) := by decide +kernel
theorem dX1_canSpell_70 : decode cX1_canSpell 70 = .ok (.ireturn, 1) := by decide +kernel
theorem dX1_canSpell_71 : decode cX1_canSpell 71 = .ok (.iinc 5 1, 3) := by decide +kernel
theorem dX1_canSpell_74 : decode cX1_canSpell 74 = .ok (.goto (-64), 3) := by decide +kernel
theorem dX1_canSpell_77 : decode cX1_canSpell 77 = .ok (.iconst 1, 1) := by decide +kernel
theorem dX1_canSpell_78 : decode cX1_canSpell 78 = .ok (.ireturn, 1) := by decide +kernel
theorem dX2_init_0 : decode cX2_init 0 = .ok (.aload_n 0, 1) := by decide +kernel
theorem dX2_init_1 : decode cX2_init 1 = .ok (.invokespecial 3, 3) := by decide +kernel
theorem dX2_init_4 : decode cX2_init 4 = .ok (.aload_n 0, 1) := by decide +kernel
theorem dX2_init_5 : decode cX2_init 5 = .ok (.new 9, 3) := by decide +kernel
theorem dX2_init_8 : decode cX2_init 8 = .ok (.dup, 1) := by decide +kernel
theorem dX2_init_9 : decode cX2_init 9 = .ok (.invokespecial 11, 3) := by decide +kernel
theorem dX2_init_12 : decode cX2_init 12 = .ok (.putfield 12, 3) := by decide +kernel
theorem dX2_init_15 : decode cX2_init 15 = .ok (.aload_n 0, 1) := by decide +kernel
theorem dX2_init_16 : decode cX2_init 16 = .ok (.sipush 400, 3) := by decide +kernel
theorem dX2_init_19 : decode cX2_init 19 = .ok (.newarray .byte, 2) := by decide +kernel
theorem dX2_init_21 : decode cX2_init 21 = .ok (.putfield 18, 3) := by decide +kernel
theorem dX2_init_24 : decode cX2_init 24 = .ok (.aload_n 0, 1) := by decide +kernel
theorem dX2_init_25 : decode cX2_init 25 = .ok (.iconst (-1), 1) := by decide +kernel
theorem dX2_init_26 : decode cX2_init 26 = .ok (.putfield 22, 3) := by decide +kernel
theorem dX2_init_29 : decode cX2_init 29 = .ok (.return_, 1) := by decide +kernel
theorem dX2_read_0 : decode cX2_read 0 = .ok (.aload_n 0, 1) := by decide +kernel
theorem dX2_read_1 : decode cX2_read 1 = .ok (.iconst 0, 1) := by decide +kernel
theorem dX2_read_2 : decode cX2_read 2 = .ok (.iload_n 2, 1) := by decide +kernel
theorem dX2_read_3 : decode cX2_read 3 = .ok (.sipush 400, 3) := by decide +kernel
theorem dX2_read_6 : decode cX2_read 6 = .ok (.aload_n 1, 1) := by decide +kernel
theorem dX2_read_7 : decode cX2_read 7 = .ok (.arraylength, 1) := by decide +kernel
theorem dX2_read_8 : decode cX2_read 8 = .ok (.invokestatic 26, 3) := by decide +kernel
theorem dX2_read_11 : decode cX2_read 11 = .ok (.invokestatic 26, 3) := by decide +kernel
theorem dX2_read_14 : decode cX2_read 14 = .ok (.invokestatic 32, 3) := by decide +kernel
theorem dX2_read_17 : decode cX2_read 17 = .ok (.putfield 35, 3) := by decide +kernel
theorem dX2_read_20 : decode cX2_read 20 = .ok (.aload_n 1, 1) := by decide +kernel
theorem dX2_read_21 : decode cX2_read 21 = .ok (.iconst 0, 1) := by decide +kernel
theorem dX2_read_22 : decode cX2_read 22 = .ok (.aload_n 0, 1) := by decide +kernel
theorem dX2_read_23 : decode cX2_read 23 = .ok (.getfield 18, 3) := by decide +kernel
theorem dX2_read_26 : decode cX2_read 26 = .ok (.iconst 0, 1) := by decide +kernel
theorem dX2_read_27 : decode cX2_read 27 = .ok (.aload_n 0, 1) := by decide +kernel
theorem dX2_read_28 : decode cX2_read 28 = .ok (.getfield 35, 3) := by decide +kernel
theorem dX2_read_31 : decode cX2_read 31 = .ok (.invokestatic 38, 3) := by decide +kernel
theorem dX2_read_34 : decode cX2_read 34 = .ok (.aload_n 0, 1) := by decide +kernel
theorem dX2_read_35 : decode cX2_read 35 = .ok (.iconst 0, 1) := by decide +kernel
theorem dX2_read_36 : decode cX2_read 36 = .ok (.putfield 44, 3) := by decide +kernel
theorem dX2_read_39 : decode cX2_read 39 = .ok (.aload_n 0, 1) := by decide +kernel
theorem dX2_read_40 : decode cX2_read 40 = .ok (.iconst 0, 1) := by decide +kernel
theorem dX2_read_41 : decode cX2_read 41 = .ok (.putfield 47, 3) := by decide +kernel
theorem dX2_read_44 : decode cX2_read 44 = .ok (.aload_n 0, 1) := by decide +kernel
theorem dX2_read_45 : decode cX2_read 45 = .ok (.iconst (-1), 1) := by decide +kernel
theorem dX2_read_46 : decode cX2_read 46 = .ok (.putfield 22, 3) := by decide +kernel
theorem dX2_read_49 : decode cX2_read 49 = .ok (.aload_n 0, 1) := by decide +kernel
theorem dX2_read_50 : decode cX2_read 50 = .ok (.iconst 0, 1) := by decide +kernel
theorem dX2_read_51 : decode cX2_read 51 = .ok (.putfield 50, 3) := by decide +kernel
theorem dX2_read_54 : decode cX2_read 54 = .ok (.aload_n 0, 1) := by decide +kernel
theorem dX2_read_55 : decode cX2_read 55 = .ok (.iconst 0, 1) := by decide +kernel
theorem dX2_read_56 : decode cX2_read 56 = .ok (.putfield 54, 3) := by decide +kernel
theorem dX2_read_59 : decode cX2_read 59 = .ok (.aload_n 0, 1) := by decide +kernel
theorem dX2_read_60 : decode cX2_read 60 = .ok (.iconst 0, 1) := by decide +kernel
theorem dX2_read_61 : decode cX2_read 61 = .ok (.putfield 57, 3) := by decide +kernel
theorem dX2_read_64 : decode cX2_read 64 = .ok (.aload_n 0, 1) := by decide +kernel
theorem dX2_read_65 : decode cX2_read 65 = .ok (.iconst 0, 1) := by decide +kernel
theorem dX2_read_66 : decode cX2_read 66 = .ok (.putfield 60, 3) := by decide +kernel
theorem dX2_read_69 : decode cX2_read 69 = .ok (.aload_n 0, 1) := by decide +kernel
theorem dX2_read_70 : decode cX2_read 70 = .ok (.invokevirtual 63, 3) := by decide +kernel
theorem dX2_read_73 : decode cX2_read 73 = .ok (.iconst 0, 1) := by decide +kernel
theorem dX2_read_74 : decode cX2_read 74 = .ok (.istore_n 3, 1) := by decide +kernel
theorem dX2_read_75 : decode cX2_read 75 = .ok (.iload_n 3, 1) := by decide +kernel
theorem dX2_read_76 : decode cX2_read 76 = .ok (.iconst 4, 1) := by decide +kernel
theorem dX2_read_77 : decode cX2_read 77 = .ok (.if_icmp .gt 27, 3) := by decide +kernel
theorem dX2_read_80 : decode cX2_read 80 = .ok (.aload_n 0, 1) := by decide +kernel
theorem dX2_read_81 : decode cX2_read 81 = .ok (.getfield 47, 3) := by decide +kernel
theorem dX2_read_84 : decode cX2_read 84 = .ok (.ifCond .ne 20, 3) := by decide +kernel
theorem dX2_read_87 : decode cX2_read 87 = .ok (.aload_n 0, 1) := by decide +kernel
theorem dX2_read_88 : decode cX2_read 88 = .ok (.invokevirtual 66, 3) := by decide +kernel
theorem dX2_read_91 : decode cX2_read 91 = .ok (.ifCond .eq 13, 3) := by decide +kernel
theorem dX2_read_94 : decode cX2_read 94 = .ok (.aload_n 0, 1) := by decide +kernel
theorem dX2_read_95 : decode cX2_read 95 = .ok (.invokevirtual 70, 3) := by decide +kernel
theorem dX2_read_98 : decode cX2_read 98 = .ok (.iinc 3 1, 3) := by decide +kernel
theorem dX2_read_101 : decode cX2_read 101 = .ok (.goto (-26), 3) := by decide +kernel
theorem dX2_read_104 : decode cX2_read 104 = .ok (.aload_n 0, 1) := by decide +kernel
theorem dX2_read_105 : decode cX2_read 105 = .ok (.getfield 47, 3) := by decide +kernel
theorem dX2_read_108 : decode cX2_read 108 = .ok (.ireturn, 1) := by decide +kernel
theorem dX2_readPage_0 : decode cX2_readPage 0 = .ok (.aload_n 0, 1) := by decide +kernel
theorem dX2_readPage_1 : decode cX2_readPage 1 = .ok (.invokevirtual 73, 3) := by decide +kernel
theorem dX2_readPage_4 : decode cX2_readPage 4 = .ok (.aload_n 0, 1) := by decide +kernel
theorem dX2_readPage_5 : decode cX2_readPage 5 = .ok (.getfield 44, 3) := by decide +kernel
theorem dX2_readPage_8 : decode cX2_readPage 8 = .ok (.istore_n 1, 1) := by decide +kernel
theorem dX2_readPage_9 : decode cX2_readPage 9 = .ok (.aload_n 0, 1) := by decide +kernel
theorem dX2_readPage_10 : decode cX2_readPage 10 = .ok (.invokevirtual 76, 3) := by decide +kernel
theorem dX2_readPage_13 : decode cX2_readPage 13 = .ok (.aload_n 0, 1) := by decide +kernel
theorem dX2_readPage_14 : decode cX2_readPage 14 = .ok (.iload_n 1, 1) := by decide +kernel
theorem dX2_readPage_15 : decode cX2_readPage 15 = .ok (.ldc 79, 2) := by decide +kernel
theorem dX2_readPage_17 : decode cX2_readPage 17 = .ok (.invokevirtual 81, 3) := by decide +kernel
theorem dX2_readPage_20 : decode cX2_readPage 20 = .ok (.ifCond .ne 10, 3) := by decide +kernel
theorem dX2_readPage_23 : decode cX2_readPage 23 = .ok (.aload_n 0, 1) := by decide +kernel
theorem dX2_readPage_24 : decode cX2_readPage 24 = .ok (.bipush (-2), 2) := by decide +kernel
theorem dX2_readPage_26 : decode cX2_readPage 26 = .ok (.iload_n 1, 1) := by decide +kernel
theorem dX2_readPage_27 : decode cX2_readPage 27 = .ok (.invokevirtual 85, 3) := by decide +kernel
theorem dX2_readPage_30 : decode cX2_readPage 30 = .ok (.aload_n 0, 1) := by decide +kernel
theorem dX2_readPage_31 : decode cX2_readPage 31 = .ok (.bipush 8, 2) := by decide +kernel
theorem dX2_readPage_33 : decode cX2_readPage 33 = .ok (.invokevirtual 89, 3) := by decide +kernel
theorem dX2_readPage_36 : decode cX2_readPage 36 = .ok (.istore_n 2, 1) := by decide +kernel
theorem dX2_readPage_37 : decode cX2_readPage 37 = .ok (.aload_n 0, 1) := by decide +kernel
theorem dX2_readPage_38 : decode cX2_readPage 38 = .ok (.bipush 6, 2) := by decide +kernel
theorem dX2_readPage_40 : decode cX2_readPage 40 = .ok (.invokevirtual 89, 3) := by decide +kernel
theorem dX2_readPage_43 : decode cX2_readPage 43 = .ok (.istore_n 3, 1) := by decide +kernel
theorem dX2_readPage_44 : decode cX2_readPage 44 = .ok (.aload_n 0, 1) := by decide +kernel
theorem dX2_readPage_45 : decode cX2_readPage 45 = .ok (.invokevirtual 93, 3) := by decide +kernel
theorem dX2_readPage_48 : decode cX2_readPage 48 = .ok (.aload_n 0, 1) := by decide +kernel
theorem dX2_readPage_49 : decode cX2_readPage 49 = .ok (.getfield 47, 3) := by decide +kernel
theorem dX2_readPage_52 : decode cX2_readPage 52 = .ok (.ifCond .ne 12, 3) := by decide +kernel
theorem dX2_readPage_55 : decode cX2_readPage 55 = .ok (.aload_n 0, 1) := by decide +kernel
theorem dX2_readPage_56 : decode cX2_readPage 56 = .ok (.getfield 12, 3) := by decide +kernel
theorem dX2_readPage_59 : decode cX2_readPage 59 = .ok (.iload_n 2, 1) := by decide +kernel
theorem dX2_readPage_60 : decode cX2_readPage 60 = .ok (.iload_n 3, 1) := by decide +kernel
theorem dX2_readPage_61 : decode cX2_readPage 61 = .ok (.invokevirtual 96, 3) := by decide +kernel
theorem dX2_readPage_64 : decode cX2_readPage 64 = .ok (.return_, 1) := by decide +kernel
theorem dX2_readStatement_0 : decode cX2_readStatement 0 = .ok (.aload_n 0, 1) := by decide +kernel
theorem dX2_readStatement_1 : decode cX2_readStatement 1 = .ok (.getfield 44, 3) := by decide +kernel
theorem dX2_readStatement_4 : decode cX2_readStatement 4 = .ok (.istore_n 1, 1) := by decide +kernel
theorem dX2_readStatement_5 : decode cX2_readStatement 5 = .ok (.aload_n 0, 1) := by decide +kernel
theorem dX2_readStatement_6 : decode cX2_readStatement 6 = .ok (.invokevirtual 76, 3) := by decide +kernel
theorem dX2_readStatement_9 : decode cX2_readStatement 9 = .ok (.aload_n 0, 1) := by decide +kernel
theorem dX2_readStatement_10 : decode cX2_readStatement 10 = .ok (.iload_n 1, 1) := by decide +kernel
theorem dX2_readStatement_11 : decode cX2_readStatement 11 = .ok (.ldc 99, 2) := by decide +kernel
theorem dX2_readStatement_13 : decode cX2_readStatement 13 = .ok (.invokevirtual 81, 3) := by decide +kernel
theorem dX2_readStatement_16 : decode cX2_readStatement 16 = .ok (.ifCond .eq 23, 3) := by decide +kernel
theorem dX2_readStatement_19 : decode cX2_readStatement 19 = .ok (.aload_n 0, 1) := by decide +kernel
theorem dX2_readStatement_20 : decode cX2_readStatement 20 = .ok (.getfield 50, 3) := by decide +kernel
theorem dX2_readStatement_23 : decode cX2_readStatement 23 = .ok (.ifCond .ne 16, 3) := by decide +kernel
theorem dX2_readStatement_26 : decode cX2_readStatement 26 = .ok (.aload_n 0, 1) := by decide +kernel
theorem dX2_readStatement_27 : decode cX2_readStatement 27 = .ok (.iconst 1, 1) := by decide +kernel
theorem dX2_readStatement_28 : decode cX2_readStatement 28 = .ok (.putfield 50, 3) := by decide +kernel
theorem dX2_readStatement_31 : decode cX2_readStatement 31 = .ok (.aload_n 0, 1) := by decide +kernel
theorem dX2_readStatement_32 : decode cX2_readStatement 32 = .ok (.iconst 0, 1) := by decide +kernel
theorem dX2_readStatement_33 : decode cX2_readStatement 33 = .ok (.invokevirtual 101, 3) := by decide +kernel
theorem dX2_readStatement_36 : decode cX2_readStatement 36 = .ok (.goto 107, 3) := by decide +kernel
theorem dX2_readStatement_39 : decode cX2_readStatement 39 = .ok (.aload_n 0, 1) := by decide +kernel
theorem dX2_readStatement_40 : decode cX2_readStatement 40 = .ok (.iload_n 1, 1) := by decide +kernel
theorem dX2_readStatement_41 : decode cX2_readStatement 41 = .ok (.ldc 105, 2) := by decide +kernel
theorem dX2_readStatement_43 : decode cX2_readStatement 43 = .ok (.invokevirtual 81, 3) := by decide +kernel
theorem dX2_readStatement_46 : decode cX2_readStatement 46 = .ok (.ifCond .eq 23, 3) := by decide +kernel
theorem dX2_readStatement_49 : decode cX2_readStatement 49 = .ok (.aload_n 0, 1) := by decide +kernel
theorem dX2_readStatement_50 : decode cX2_readStatement 50 = .ok (.getfield 54, 3) := by decide +kernel
theorem dX2_readStatement_53 : decode cX2_readStatement 53 = .ok (.ifCond .ne 16, 3) := by decide +kernel
theorem dX2_readStatement_56 : decode cX2_readStatement 56 = .ok (.aload_n 0, 1) := by decide +kernel
theorem dX2_readStatement_57 : decode cX2_readStatement 57 = .ok (.iconst 1, 1) := by decide +kernel
theorem dX2_readStatement_58 : decode cX2_readStatement 58 = .ok (.putfield 54, 3) := by decide +kernel
theorem dX2_readStatement_61 : decode cX2_readStatement 61 = .ok (.aload_n 0, 1) := by decide +kernel
theorem dX2_readStatement_62 : decode cX2_readStatement 62 = .ok (.iconst 1, 1) := by decide +kernel
theorem dX2_readStatement_63 : decode cX2_readStatement 63 = .ok (.invokevirtual 101, 3) := by decide +kernel
theorem dX2_readStatement_66 : decode cX2_readStatement 66 = .ok (.goto 77, 3) := by decide +kernel
theorem dX2_readStatement_69 : decode cX2_readStatement 69 = .ok (.aload_n 0, 1) := by decide +kernel
theorem dX2_readStatement_70 : decode cX2_readStatement 70 = .ok (.iload_n 1, 1) := by decide +kernel
theorem dX2_readStatement_71 : decode cX2_readStatement 71 = .ok (.ldc 107, 2) := by decide +kernel
theorem dX2_readStatement_73 : decode cX2_readStatement 73 = .ok (.invokevirtual 81, 3) := by decide +kernel
theorem dX2_readStatement_76 : decode cX2_readStatement 76 = .ok (.ifCond .eq 22, 3) := by decide +kernel
theorem dX2_readStatement_79 : decode cX2_readStatement 79 = .ok (.aload_n 0, 1) := by decide +kernel
theorem dX2_readStatement_80 : decode cX2_readStatement 80 = .ok (.getfield 57, 3) := by decide +kernel
theorem dX2_readStatement_83 : decode cX2_readStatement 83 = .ok (.ifCond .ne 15, 3) := by decide +kernel
theorem dX2_readStatement_86 : decode cX2_readStatement 86 = .ok (.aload_n 0, 1) := by decide +kernel
theorem dX2_readStatement_87 : decode cX2_readStatement 87 = .ok (.iconst 1, 1) := by decide +kernel
theorem dX2_readStatement_88 : decode cX2_readStatement 88 = .ok (.putfield 57, 3) := by decide +kernel
theorem dX2_readStatement_91 : decode cX2_readStatement 91 = .ok (.aload_n 0, 1) := by decide +kernel
theorem dX2_readStatement_92 : decode cX2_readStatement 92 = .ok (.invokevirtual 109, 3) := by decide +kernel
theorem dX2_readStatement_95 : decode cX2_readStatement 95 = .ok (.goto 48, 3) := by decide +kernel
theorem dX2_readStatement_98 : decode cX2_readStatement 98 = .ok (.aload_n 0, 1) := by decide +kernel
theorem dX2_readStatement_99 : decode cX2_readStatement 99 = .ok (.iload_n 1, 1) := by decide +kernel
theorem dX2_readStatement_100 : decode cX2_readStatement 100 = .ok (.ldc 112, 2) := by decide +kernel
theorem dX2_readStatement_102 : decode cX2_readStatement 102 = .ok (.invokevirtual 81, 3) := by decide +kernel
theorem dX2_readStatement_105 : decode cX2_readStatement 105 = .ok (.ifCond .eq 31, 3) := by decide +kernel
theorem dX2_readStatement_108 : decode cX2_readStatement 108 = .ok (.aload_n 0, 1) := by decide +kernel
theorem dX2_readStatement_109 : decode cX2_readStatement 109 = .ok (.getfield 60, 3) := by decide +kernel
theorem dX2_readStatement_112 : decode cX2_readStatement 112 = .ok (.ifCond .ne 24, 3) := by decide +kernel
theorem dX2_readStatement_115 : decode cX2_readStatement 115 = .ok (.aload_n 0, 1) := by decide +kernel
theorem dX2_readStatement_116 : decode cX2_readStatement 116 = .ok (.iconst 1, 1) := by decide +kernel
theorem dX2_readStatement_117 : decode cX2_readStatement 117 = .ok (.putfield 60, 3) := by decide +kernel
theorem dX2_readStatement_120 : decode cX2_readStatement 120 = .ok (.aload_n 0, 1) := by decide +kernel
theorem dX2_readStatement_121 : decode cX2_readStatement 121 = .ok (.getfield 12, 3) := by decide +kernel
theorem dX2_readStatement_124 : decode cX2_readStatement 124 = .ok (.aload_n 0, 1) := by decide +kernel
theorem dX2_readStatement_125 : decode cX2_readStatement 125 = .ok (.bipush 9, 2) := by decide +kernel
theorem dX2_readStatement_127 : decode cX2_readStatement 127 = .ok (.invokevirtual 89, 3) := by decide +kernel
theorem dX2_readStatement_130 : decode cX2_readStatement 130 = .ok (.putfield 114, 3) := by decide +kernel
theorem dX2_readStatement_133 : decode cX2_readStatement 133 = .ok (.goto 10, 3) := by decide +kernel
theorem dX2_readStatement_136 : decode cX2_readStatement 136 = .ok (.aload_n 0, 1) := by decide +kernel
theorem dX2_readStatement_137 : decode cX2_readStatement 137 = .ok (.bipush (-2), 2) := by decide +kernel
theorem dX2_readStatement_139 : decode cX2_readStatement 139 = .ok (.iload_n 1, 1) := by decide +kernel
theorem dX2_readStatement_140 : decode cX2_readStatement 140 = .ok (.invokevirtual 85, 3) := by decide +kernel
theorem dX2_readStatement_143 : decode cX2_readStatement 143 = .ok (.aload_n 0, 1) := by decide +kernel
theorem dX2_readStatement_144 : decode cX2_readStatement 144 = .ok (.invokevirtual 93, 3) := by decide +kernel
theorem dX2_readStatement_147 : decode cX2_readStatement 147 = .ok (.return_, 1) := by decide +kernel
theorem dX2_readLines_0 : decode cX2_readLines 0 = .ok (.iconst 0, 1) := by decide +kernel
theorem dX2_readLines_1 : decode cX2_readLines 1 = .ok (.istore_n 2, 1) := by decide +kernel
theorem dX2_readLines_2 : decode cX2_readLines 2 = .ok (.iload_n 2, 1) := by decide +kernel
theorem dX2_readLines_3 : decode cX2_readLines 3 = .ok (.aload_n 0, 1) := by decide +kernel
theorem dX2_readLines_4 : decode cX2_readLines 4 = .ok (.getfield 12, 3) := by decide +kernel
theorem dX2_readLines_7 : decode cX2_readLines 7 = .ok (.getfield 117, 3) := by decide +kernel
theorem dX2_readLines_10 : decode cX2_readLines 10 = .ok (.if_icmp .ge 22, 3) := by decide +kernel
theorem dX2_readLines_13 : decode cX2_readLines 13 = .ok (.aload_n 0, 1) := by decide +kernel
theorem dX2_readLines_14 : decode cX2_readLines 14 = .ok (.iload_n 1, 1) := by decide +kernel
theorem dX2_readLines_15 : decode cX2_readLines 15 = .ok (.bipush 48, 2) := by decide +kernel
theorem dX2_readLines_17 : decode cX2_readLines 17 = .ok (.imul, 1) := by decide +kernel
theorem dX2_readLines_18 : decode cX2_readLines 18 = .ok (.iload_n 2, 1) := by decide +kernel
theorem dX2_readLines_19 : decode cX2_readLines 19 = .ok (.bipush 8, 2) := by decide +kernel
theorem dX2_readLines_21 : decode cX2_readLines 21 = .ok (.imul, 1) := by decide +kernel
theorem dX2_readLines_22 : decode cX2_readLines 22 = .ok (.iadd, 1) := by decide +kernel
theorem dX2_readLines_23 : decode cX2_readLines 23 = .ok (.invokevirtual 120, 3) := by decide +kernel
theorem dX2_readLines_26 : decode cX2_readLines 26 = .ok (.iinc 2 1, 3) := by decide +kernel
theorem dX2_readLines_29 : decode cX2_readLines 29 = .ok (.goto (-27), 3) := by decide +kernel
theorem dX2_readLines_32 : decode cX2_readLines 32 = .ok (.return_, 1) := by decide +kernel
theorem dX2_readLine_0 : decode cX2_readLine 0 = .ok (.aload_n 0, 1) := by decide +kernel
theorem dX2_readLine_1 : decode cX2_readLine 1 = .ok (.invokevirtual 73, 3) := by decide +kernel
theorem dX2_readLine_4 : decode cX2_readLine 4 = .ok (.aload_n 0, 1) := by decide +kernel
theorem dX2_readLine_5 : decode cX2_readLine 5 = .ok (.getfield 44, 3) := by decide +kernel
theorem dX2_readLine_8 : decode cX2_readLine 8 = .ok (.istore_n 2, 1) := by decide +kernel
theorem dX2_readLine_9 : decode cX2_readLine 9 = .ok (.aload_n 0, 1) := by decide +kernel
theorem dX2_readLine_10 : decode cX2_readLine 10 = .ok (.getfield 44, 3) := by decide +kernel
theorem dX2_readLine_13 : decode cX2_readLine 13 = .ok (.aload_n 0, 1) := by decide +kernel
theorem dX2_readLine_14 : decode cX2_readLine 14 = .ok (.getfield 35, 3) := by decide +kernel
theorem dX2_readLine_17 : decode cX2_readLine 17 = .ok (.if_icmp .ge 45, 3) := by decide +kernel
theorem dX2_readLine_20 : decode cX2_readLine 20 = .ok (.aload_n 0, 1) := by decide +kernel
theorem dX2_readLine_21 : decode cX2_readLine 21 = .ok (.getfield 18, 3) := by decide +kernel
theorem dX2_readLine_24 : decode cX2_readLine 24 = .ok (.aload_n 0, 1) := by decide +kernel
theorem dX2_readLine_25 : decode cX2_readLine 25 = .ok (.getfield 44, 3) := by decide +kernel
theorem dX2_readLine_28 : decode cX2_readLine 28 = .ok (.baload, 1) := by decide +kernel
theorem dX2_readLine_29 : decode cX2_readLine 29 = .ok (.invokestatic 123, 3) := by decide +kernel
theorem dX2_readLine_32 : decode cX2_readLine 32 = .ok (.ifCond .ne 17, 3) := by decide +kernel
theorem dX2_readLine_35 : decode cX2_readLine 35 = .ok (.aload_n 0, 1) := by decide +kernel
theorem dX2_readLine_36 : decode cX2_readLine 36 = .ok (.getfield 18, 3) := by decide +kernel
theorem dX2_readLine_39 : decode cX2_readLine 39 = .ok (.aload_n 0, 1) := by decide +kernel
theorem dX2_readLine_40 : decode cX2_readLine 40 = .ok (.getfield 44, 3) := by decide +kernel
theorem dX2_readLine_43 : decode cX2_readLine 43 = .ok (.baload, 1) := by decide +kernel
theorem dX2_readLine_44 : decode cX2_readLine 44 = .ok (.bipush 45, 2) := by decide +kernel
theorem dX2_readLine_46 : decode cX2_readLine 46 = .ok (.if_icmp .ne 16, 3) := by decide +kernel
theorem dX2_readLine_49 : decode cX2_readLine 49 = .ok (.aload_n 0, 1) := by decide +kernel
theorem dX2_readLine_50 : decode cX2_readLine 50 = .ok (.dup, 1) := by decide +kernel
theorem dX2_readLine_51 : decode cX2_readLine 51 = .ok (.getfield 44, 3) := by decide +kernel
theorem dX2_readLine_54 : decode cX2_readLine 54 = .ok (.iconst 1, 1) := by decide +kernel
theorem dX2_readLine_55 : decode cX2_readLine 55 = .ok (.iadd, 1) := by decide +kernel
theorem dX2_readLine_56 : decode cX2_readLine 56 = .ok (.putfield 44, 3) := by decide +kernel
theorem dX2_readLine_59 : decode cX2_readLine 59 = .ok (.goto (-50), 3) := by decide +kernel
theorem dX2_readLine_62 : decode cX2_readLine 62 = .ok (.aload_n 0, 1) := by decide +kernel
theorem dX2_readLine_63 : decode cX2_readLine 63 = .ok (.getfield 44, 3) := by decide +kernel
theorem dX2_readLine_66 : decode cX2_readLine 66 = .ok (.iload_n 2, 1) := by decide +kernel
theorem dX2_readLine_67 : decode cX2_readLine 67 = .ok (.if_icmp .ne 13, 3) := by decide +kernel
theorem dX2_readLine_70 : decode cX2_readLine 70 = .ok (.aload_n 0, 1) := by decide +kernel
theorem dX2_readLine_71 : decode cX2_readLine 71 = .ok (.bipush (-2), 2) := by decide +kernel
theorem dX2_readLine_73 : decode cX2_readLine 73 = .ok (.iload_n 2, 1) := by decide +kernel
theorem dX2_readLine_74 : decode cX2_readLine 74 = .ok (.invokevirtual 85, 3) := by decide +kernel
theorem dX2_readLine_77 : decode cX2_readLine 77 = .ok (.goto 26, 3) := by decide +kernel
theorem dX2_readLine_80 : decode cX2_readLine 80 = .ok (.aload_n 0, 1) := by decide +kernel
theorem dX2_readLine_81 : decode cX2_readLine 81 = .ok (.getfield 44, 3) := by decide +kernel
theorem dX2_readLine_84 : decode cX2_readLine 84 = .ok (.iload_n 2, 1) := by decide +kernel
theorem dX2_readLine_85 : decode cX2_readLine 85 = .ok (.isub, 1) := by decide +kernel
theorem dX2_readLine_86 : decode cX2_readLine 86 = .ok (.aload_n 0, 1) := by decide +kernel
theorem dX2_readLine_87 : decode cX2_readLine 87 = .ok (.getfield 12, 3) := by decide +kernel
theorem dX2_readLine_90 : decode cX2_readLine 90 = .ok (.getfield 127, 3) := by decide +kernel
theorem dX2_readLine_93 : decode cX2_readLine 93 = .ok (.if_icmp .eq 10, 3) := by decide +kernel
theorem dX2_readLine_96 : decode cX2_readLine 96 = .ok (.aload_n 0, 1) := by decide +kernel
theorem dX2_readLine_97 : decode cX2_readLine 97 = .ok (.bipush (-4), 2) := by decide +kernel
theorem dX2_readLine_99 : decode cX2_readLine 99 = .ok (.iload_n 2, 1) := by decide +kernel
theorem dX2_readLine_100 : decode cX2_readLine 100 = .ok (.invokevirtual 85, 3) := by decide +kernel
theorem dX2_readLine_103 : decode cX2_readLine 103 = .ok (.aload_n 0, 1) := by decide +kernel
theorem dX2_readLine_104 : decode cX2_readLine 104 = .ok (.getfield 47, 3) := by decide +kernel
theorem dX2_readLine_107 : decode cX2_readLine 107 = .ok (.ifCond .eq 4, 3) := by decide +kernel
theorem dX2_readLine_110 : decode cX2_readLine 110 = .ok (.return_, 1) := by decide +kernel
theorem dX2_readLine_111 : decode cX2_readLine 111 = .ok (.iconst 0, 1) := by decide +kernel
theorem dX2_readLine_112 : decode cX2_readLine 112 = .ok (.istore_n 3, 1) := by decide +kernel
theorem dX2_readLine_113 : decode cX2_readLine 113 = .ok (.iload_n 3, 1) := by decide +kernel
theorem dX2_readLine_114 : decode cX2_readLine 114 = .ok (.aload_n 0, 1) := by decide +kernel
theorem dX2_readLine_115 : decode cX2_readLine 115 = .ok (.getfield 12, 3) := by decide +kernel
theorem dX2_readLine_118 : decode cX2_readLine 118 = .ok (.getfield 127, 3) := by decide +kernel
theorem dX2_readLine_121 : decode cX2_readLine 121 = .ok (.if_icmp .ge 67, 3) := by decide +kernel
theorem dX2_readLine_124 : decode cX2_readLine 124 = .ok (.iload_n 1, 1) := by decide +kernel
theorem dX2_readLine_125 : decode cX2_readLine 125 = .ok (.iload_n 3, 1) := by decide +kernel
theorem dX2_readLine_126 : decode cX2_readLine 126 = .ok (.iadd, 1) := by decide +kernel
theorem dX2_readLine_127 : decode cX2_readLine 127 = .ok (.bipush 96, 2) := by decide +kernel
theorem dX2_readLine_129 : decode cX2_readLine 129 = .ok (.if_icmp .ge 53, 3) := by decide +kernel
theorem dX2_readLine_132 : decode cX2_readLine 132 = .ok (.iload_n 2, 1) := by decide +kernel
theorem dX2_readLine_133 : decode cX2_readLine 133 = .ok (.iload_n 3, 1) := by decide +kernel
theorem dX2_readLine_134 : decode cX2_readLine 134 = .ok (.iadd, 1) := by decide +kernel
theorem dX2_readLine_135 : decode cX2_readLine 135 = .ok (.aload_n 0, 1) := by decide +kernel
theorem dX2_readLine_136 : decode cX2_readLine 136 = .ok (.getfield 35, 3) := by decide +kernel
theorem dX2_readLine_139 : decode cX2_readLine 139 = .ok (.if_icmp .ge 43, 3) := by decide +kernel
theorem dX2_readLine_142 : decode cX2_readLine 142 = .ok (.aload_n 0, 1) := by decide +kernel
theorem dX2_readLine_143 : decode cX2_readLine 143 = .ok (.getfield 12, 3) := by decide +kernel
theorem dX2_readLine_146 : decode cX2_readLine 146 = .ok (.getfield 130, 3) := by decide +kernel
theorem dX2_readLine_149 : decode cX2_readLine 149 = .ok (.iload_n 1, 1) := by decide +kernel
theorem dX2_readLine_150 : decode cX2_readLine 150 = .ok (.iload_n 3, 1) := by decide +kernel
theorem dX2_readLine_151 : decode cX2_readLine 151 = .ok (.iadd, 1) := by decide +kernel
theorem dX2_readLine_152 : decode cX2_readLine 152 = .ok (.aload_n 0, 1) := by decide +kernel
theorem dX2_readLine_153 : decode cX2_readLine 153 = .ok (.getfield 18, 3) := by decide +kernel
theorem dX2_readLine_156 : decode cX2_readLine 156 = .ok (.iload_n 2, 1) := by decide +kernel
theorem dX2_readLine_157 : decode cX2_readLine 157 = .ok (.iload_n 3, 1) := by decide +kernel
theorem dX2_readLine_158 : decode cX2_readLine 158 = .ok (.iadd, 1) := by decide +kernel
theorem dX2_readLine_159 : decode cX2_readLine 159 = .ok (.baload, 1) := by decide +kernel
theorem dX2_readLine_160 : decode cX2_readLine 160 = .ok (.invokestatic 123, 3) := by decide +kernel
theorem dX2_readLine_163 : decode cX2_readLine 163 = .ok (.ifCond .eq 17, 3) := by decide +kernel
theorem dX2_readLine_166 : decode cX2_readLine 166 = .ok (.aload_n 0, 1) := by decide +kernel
theorem dX2_readLine_167 : decode cX2_readLine 167 = .ok (.getfield 18, 3) := by decide +kernel
theorem dX2_readLine_170 : decode cX2_readLine 170 = .ok (.iload_n 2, 1) := by decide +kernel
theorem dX2_readLine_171 : decode cX2_readLine 171 = .ok (.iload_n 3, 1) := by decide +kernel
theorem dX2_readLine_172 : decode cX2_readLine 172 = .ok (.iadd, 1) := by decide +kernel
theorem dX2_readLine_173 : decode cX2_readLine 173 = .ok (.baload, 1) := by decide +kernel
theorem dX2_readLine_174 : decode cX2_readLine 174 = .ok (.bipush 97, 2) := by decide +kernel
theorem dX2_readLine_176 : decode cX2_readLine 176 = .ok (.isub, 1) := by decide +kernel
theorem dX2_readLine_177 : decode cX2_readLine 177 = .ok (.goto 4, 3) := by decide +kernel
theorem dX2_readLine_180 : decode cX2_readLine 180 = .ok (.iconst (-1), 1) := by decide +kernel
theorem dX2_readLine_181 : decode cX2_readLine 181 = .ok (.iastore, 1) := by decide +kernel
theorem dX2_readLine_182 : decode cX2_readLine 182 = .ok (.iinc 3 1, 3) := by decide +kernel
theorem dX2_readLine_185 : decode cX2_readLine 185 = .ok (.goto (-72), 3) := by decide +kernel
theorem dX2_readLine_188 : decode cX2_readLine 188 = .ok (.return_, 1) := by decide +kernel
theorem dX2_readSizes_0 : decode cX2_readSizes 0 = .ok (.iconst 0, 1) := by decide +kernel
theorem dX2_readSizes_1 : decode cX2_readSizes 1 = .ok (.istore_n 1, 1) := by decide +kernel
theorem dX2_readSizes_2 : decode cX2_readSizes 2 = .ok (.iload_n 1, 1) := by decide +kernel
theorem dX2_readSizes_3 : decode cX2_readSizes 3 = .ok (.iconst 1, 1) := by decide +kernel
theorem dX2_readSizes_4 : decode cX2_readSizes 4 = .ok (.if_icmp .gt 54, 3) := by decide +kernel
theorem dX2_readSizes_7 : decode cX2_readSizes 7 = .ok (.iconst 0, 1) := by decide +kernel
theorem dX2_readSizes_8 : decode cX2_readSizes 8 = .ok (.istore_n 2, 1) := by decide +kernel
theorem dX2_readSizes_9 : decode cX2_readSizes 9 = .ok (.iload_n 2, 1) := by decide +kernel
theorem dX2_readSizes_10 : decode cX2_readSizes 10 = .ok (.aload_n 0, 1) := by decide +kernel
theorem dX2_readSizes_11 : decode cX2_readSizes 11 = .ok (.getfield 12, 3) := by decide +kernel
theorem dX2_readSizes_14 : decode cX2_readSizes 14 = .ok (.getfield 117, 3) := by decide +kernel
theorem dX2_readSizes_17 : decode cX2_readSizes 17 = .ok (.if_icmp .ge 35, 3) := by decide +kernel
theorem dX2_readSizes_20 : decode cX2_readSizes 20 = .ok (.iload_n 2, 1) := by decide +kernel
theorem dX2_readSizes_21 : decode cX2_readSizes 21 = .ok (.bipush 6, 2) := by decide +kernel
theorem dX2_readSizes_23 : decode cX2_readSizes 23 = .ok (.if_icmp .ge 29, 3) := by decide +kernel
theorem dX2_readSizes_26 : decode cX2_readSizes 26 = .ok (.aload_n 0, 1) := by decide +kernel
theorem dX2_readSizes_27 : decode cX2_readSizes 27 = .ok (.getfield 12, 3) := by decide +kernel
theorem dX2_readSizes_30 : decode cX2_readSizes 30 = .ok (.getfield 134, 3) := by decide +kernel
theorem dX2_readSizes_33 : decode cX2_readSizes 33 = .ok (.iload_n 1, 1) := by decide +kernel
theorem dX2_readSizes_34 : decode cX2_readSizes 34 = .ok (.bipush 6, 2) := by decide +kernel
theorem dX2_readSizes_36 : decode cX2_readSizes 36 = .ok (.imul, 1) := by decide +kernel
theorem dX2_readSizes_37 : decode cX2_readSizes 37 = .ok (.iload_n 2, 1) := by decide +kernel
theorem dX2_readSizes_38 : decode cX2_readSizes 38 = .ok (.iadd, 1) := by decide +kernel
theorem dX2_readSizes_39 : decode cX2_readSizes 39 = .ok (.aload_n 0, 1) := by decide +kernel
theorem dX2_readSizes_40 : decode cX2_readSizes 40 = .ok (.bipush 9, 2) := by decide +kernel
theorem dX2_readSizes_42 : decode cX2_readSizes 42 = .ok (.invokevirtual 89, 3) := by decide +kernel
theorem dX2_readSizes_45 : decode cX2_readSizes 45 = .ok (.iastore, 1) := by decide +kernel
theorem dX2_readSizes_46 : decode cX2_readSizes 46 = .ok (.iinc 2 1, 3) := by decide +kernel
theorem dX2_readSizes_49 : decode cX2_readSizes 49 = .ok (.goto (-40), 3) := by decide +kernel
theorem dX2_readSizes_52 : decode cX2_readSizes 52 = .ok (.iinc 1 1, 3) := by decide +kernel
theorem dX2_readSizes_55 : decode cX2_readSizes 55 = .ok (.goto (-53), 3) := by decide +kernel
theorem dX2_readSizes_58 : decode cX2_readSizes 58 = .ok (.return_, 1) := by decide +kernel
theorem dX2_readNumber_0 : decode cX2_readNumber 0 = .ok (.aload_n 0, 1) := by decide +kernel
theorem dX2_readNumber_1 : decode cX2_readNumber 1 = .ok (.invokevirtual 73, 3) := by decide +kernel
theorem dX2_readNumber_4 : decode cX2_readNumber 4 = .ok (.aload_n 0, 1) := by decide +kernel
theorem dX2_readNumber_5 : decode cX2_readNumber 5 = .ok (.getfield 44, 3) := by decide +kernel
theorem dX2_readNumber_8 : decode cX2_readNumber 8 = .ok (.istore_n 2, 1) := by decide +kernel
theorem dX2_readNumber_9 : decode cX2_readNumber 9 = .ok (.iconst 0, 1) := by decide +kernel
theorem dX2_readNumber_10 : decode cX2_readNumber 10 = .ok (.istore_n 3, 1) := by decide +kernel
theorem dX2_readNumber_11 : decode cX2_readNumber 11 = .ok (.aload_n 0, 1) := by decide +kernel
theorem dX2_readNumber_12 : decode cX2_readNumber 12 = .ok (.getfield 44, 3) := by decide +kernel
theorem dX2_readNumber_15 : decode cX2_readNumber 15 = .ok (.aload_n 0, 1) := by decide +kernel
theorem dX2_readNumber_16 : decode cX2_readNumber 16 = .ok (.getfield 35, 3) := by decide +kernel
theorem dX2_readNumber_19 : decode cX2_readNumber 19 = .ok (.if_icmp .ge 68, 3) := by decide +kernel
theorem dX2_readNumber_22 : decode cX2_readNumber 22 = .ok (.aload_n 0, 1) := by decide +kernel
theorem dX2_readNumber_23 : decode cX2_readNumber 23 = .ok (.getfield 18, 3) := by decide +kernel
theorem dX2_readNumber_26 : decode cX2_readNumber 26 = .ok (.aload_n 0, 1) := by decide +kernel
theorem dX2_readNumber_27 : decode cX2_readNumber 27 = .ok (.getfield 44, 3) := by decide +kernel
theorem dX2_readNumber_30 : decode cX2_readNumber 30 = .ok (.baload, 1) := by decide +kernel
theorem dX2_readNumber_31 : decode cX2_readNumber 31 = .ok (.bipush 48, 2) := by decide +kernel
theorem dX2_readNumber_33 : decode cX2_readNumber 33 = .ok (.if_icmp .lt 54, 3) := by decide +kernel
theorem dX2_readNumber_36 : decode cX2_readNumber 36 = .ok (.aload_n 0, 1) := by decide +kernel
theorem dX2_readNumber_37 : decode cX2_readNumber 37 = .ok (.getfield 18, 3) := by decide +kernel
theorem dX2_readNumber_40 : decode cX2_readNumber 40 = .ok (.aload_n 0, 1) := by decide +kernel
theorem dX2_readNumber_41 : decode cX2_readNumber 41 = .ok (.getfield 44, 3) := by decide +kernel
theorem dX2_readNumber_44 : decode cX2_readNumber 44 = .ok (.baload, 1) := by decide +kernel
theorem dX2_readNumber_45 : decode cX2_readNumber 45 = .ok (.bipush 57, 2) := by decide +kernel
theorem dX2_readNumber_47 : decode cX2_readNumber 47 = .ok (.if_icmp .gt 40, 3) := by decide +kernel
theorem dX2_readNumber_50 : decode cX2_readNumber 50 = .ok (.sipush 1000, 3) := by decide +kernel
theorem dX2_readNumber_53 : decode cX2_readNumber 53 = .ok (.iload_n 3, 1) := by decide +kernel
theorem dX2_readNumber_54 : decode cX2_readNumber 54 = .ok (.bipush 10, 2) := by decide +kernel
theorem dX2_readNumber_56 : decode cX2_readNumber 56 = .ok (.imul, 1) := by decide +kernel
theorem dX2_readNumber_57 : decode cX2_readNumber 57 = .ok (.aload_n 0, 1) := by decide +kernel
theorem dX2_readNumber_58 : decode cX2_readNumber 58 = .ok (.getfield 18, 3) := by decide +kernel
theorem dX2_readNumber_61 : decode cX2_readNumber 61 = .ok (.aload_n 0, 1) := by decide +kernel
theorem dX2_readNumber_62 : decode cX2_readNumber 62 = .ok (.getfield 44, 3) := by decide +kernel
theorem dX2_readNumber_65 : decode cX2_readNumber 65 = .ok (.baload, 1) := by decide +kernel
theorem dX2_readNumber_66 : decode cX2_readNumber 66 = .ok (.iadd, 1) := by decide +kernel
theorem dX2_readNumber_67 : decode cX2_readNumber 67 = .ok (.bipush 48, 2) := by decide +kernel
theorem dX2_readNumber_69 : decode cX2_readNumber 69 = .ok (.isub, 1) := by decide +kernel
theorem dX2_readNumber_70 : decode cX2_readNumber 70 = .ok (.invokestatic 26, 3) := by decide +kernel
theorem dX2_readNumber_73 : decode cX2_readNumber 73 = .ok (.istore_n 3, 1) := by decide +kernel
theorem dX2_readNumber_74 : decode cX2_readNumber 74 = .ok (.aload_n 0, 1) := by decide +kernel
theorem dX2_readNumber_75 : decode cX2_readNumber 75 = .ok (.dup, 1) := by decide +kernel
theorem dX2_readNumber_76 : decode cX2_readNumber 76 = .ok (.getfield 44, 3) := by decide +kernel
theorem dX2_readNumber_79 : decode cX2_readNumber 79 = .ok (.iconst 1, 1) := by decide +kernel
theorem dX2_readNumber_80 : decode cX2_readNumber 80 = .ok (.iadd, 1) := by decide +kernel
theorem dX2_readNumber_81 : decode cX2_readNumber 81 = .ok (.putfield 44, 3) := by decide +kernel
theorem dX2_readNumber_84 : decode cX2_readNumber 84 = .ok (.goto (-73), 3) := by decide +kernel
theorem dX2_readNumber_87 : decode cX2_readNumber 87 = .ok (.aload_n 0, 1) := by decide +kernel
theorem dX2_readNumber_88 : decode cX2_readNumber 88 = .ok (.getfield 44, 3) := by decide +kernel
theorem dX2_readNumber_91 : decode cX2_readNumber 91 = .ok (.iload_n 2, 1) := by decide +kernel
theorem dX2_readNumber_92 : decode cX2_readNumber 92 = .ok (.if_icmp .ne 13, 3) := by decide +kernel
theorem dX2_readNumber_95 : decode cX2_readNumber 95 = .ok (.aload_n 0, 1) := by decide +kernel
theorem dX2_readNumber_96 : decode cX2_readNumber 96 = .ok (.bipush (-2), 2) := by decide +kernel
theorem dX2_readNumber_98 : decode cX2_readNumber 98 = .ok (.iload_n 2, 1) := by decide +kernel
theorem dX2_readNumber_99 : decode cX2_readNumber 99 = .ok (.invokevirtual 85, 3) := by decide +kernel
theorem dX2_readNumber_102 : decode cX2_readNumber 102 = .ok (.goto 20, 3) := by decide +kernel
theorem dX2_readNumber_105 : decode cX2_readNumber 105 = .ok (.iload_n 3, 1) := by decide +kernel
theorem dX2_readNumber_106 : decode cX2_readNumber 106 = .ok (.iconst 1, 1) := by decide +kernel
theorem dX2_readNumber_107 : decode cX2_readNumber 107 = .ok (.if_icmp .lt 8, 3) := by decide +kernel
theorem dX2_readNumber_110 : decode cX2_readNumber 110 = .ok (.iload_n 3, 1) := by decide +kernel
theorem dX2_readNumber_111 : decode cX2_readNumber 111 = .ok (.iload_n 1, 1) := by decide +kernel
theorem dX2_readNumber_112 : decode cX2_readNumber 112 = .ok (.if_icmp .le 10, 3) := by decide +kernel
theorem dX2_readNumber_115 : decode cX2_readNumber 115 = .ok (.aload_n 0, 1) := by decide +kernel
theorem dX2_readNumber_116 : decode cX2_readNumber 116 = .ok (.bipush (-3), 2) := by decide +kernel
theorem dX2_readNumber_118 : decode cX2_readNumber 118 = .ok (.iload_n 2, 1) := by decide +kernel
theorem dX2_readNumber_119 : decode cX2_readNumber 119 = .ok (.invokevirtual 85, 3) := by decide +kernel
theorem dX2_readNumber_122 : decode cX2_readNumber 122 = .ok (.iload_n 3, 1) := by decide +kernel
theorem dX2_readNumber_123 : decode cX2_readNumber 123 = .ok (.ireturn, 1) := by decide +kernel
theorem dX2_readSemicolon_0 : decode cX2_readSemicolon 0 = .ok (.aload_n 0, 1) := by decide +kernel
theorem dX2_readSemicolon_1 : decode cX2_readSemicolon 1 = .ok (.invokevirtual 73, 3) := by decide +kernel
theorem dX2_readSemicolon_4 : decode cX2_readSemicolon 4 = .ok (.aload_n 0, 1) := by decide +kernel
theorem dX2_readSemicolon_5 : decode cX2_readSemicolon 5 = .ok (.getfield 44, 3) := by decide +kernel
theorem dX2_readSemicolon_8 : decode cX2_readSemicolon 8 = .ok (.aload_n 0, 1) := by decide +kernel
theorem dX2_readSemicolon_9 : decode cX2_readSemicolon 9 = .ok (.getfield 35, 3) := by decide +kernel
theorem dX2_readSemicolon_12 : decode cX2_readSemicolon 12 = .ok (.if_icmp .ge 30, 3) := by decide +kernel
theorem dX2_readSemicolon_15 : decode cX2_readSemicolon 15 = .ok (.aload_n 0, 1) := by decide +kernel
theorem dX2_readSemicolon_16 : decode cX2_readSemicolon 16 = .ok (.getfield 18, 3) := by decide +kernel
theorem dX2_readSemicolon_19 : decode cX2_readSemicolon 19 = .ok (.aload_n 0, 1) := by decide +kernel
theorem dX2_readSemicolon_20 : decode cX2_readSemicolon 20 = .ok (.getfield 44, 3) := by decide +kernel
theorem dX2_readSemicolon_23 : decode cX2_readSemicolon 23 = .ok (.baload, 1) := by decide +kernel
theorem dX2_readSemicolon_24 : decode cX2_readSemicolon 24 = .ok (.bipush 59, 2) := by decide +kernel
theorem dX2_readSemicolon_26 : decode cX2_readSemicolon 26 = .ok (.if_icmp .ne 16, 3) := by decide +kernel
theorem dX2_readSemicolon_29 : decode cX2_readSemicolon 29 = .ok (.aload_n 0, 1) := by decide +kernel
theorem dX2_readSemicolon_30 : decode cX2_readSemicolon 30 = .ok (.dup, 1) := by decide +kernel
theorem dX2_readSemicolon_31 : decode cX2_readSemicolon 31 = .ok (.getfield 44, 3) := by decide +kernel
theorem dX2_readSemicolon_34 : decode cX2_readSemicolon 34 = .ok (.iconst 1, 1) := by decide +kernel
theorem dX2_readSemicolon_35 : decode cX2_readSemicolon 35 = .ok (.iadd, 1) := by decide +kernel
theorem dX2_readSemicolon_36 : decode cX2_readSemicolon 36 = .ok (.putfield 44, 3) := by decide +kernel
theorem dX2_readSemicolon_39 : decode cX2_readSemicolon 39 = .ok (.goto 13, 3) := by decide +kernel
theorem dX2_readSemicolon_42 : decode cX2_readSemicolon 42 = .ok (.aload_n 0, 1) := by decide +kernel
theorem dX2_readSemicolon_43 : decode cX2_readSemicolon 43 = .ok (.bipush (-2), 2) := by decide +kernel
theorem dX2_readSemicolon_45 : decode cX2_readSemicolon 45 = .ok (.aload_n 0, 1) := by decide +kernel
theorem dX2_readSemicolon_46 : decode cX2_readSemicolon 46 = .ok (.getfield 44, 3) := by decide +kernel
theorem dX2_readSemicolon_49 : decode cX2_readSemicolon 49 = .ok (.invokevirtual 85, 3) := by decide +kernel
theorem dX2_readSemicolon_52 : decode cX2_readSemicolon 52 = .ok (.return_, 1) := by decide +kernel
theorem dX2_skipSpaces_0 : decode cX2_skipSpaces 0 = .ok (.aload_n 0, 1) := by decide +kernel
theorem dX2_skipSpaces_1 : decode cX2_skipSpaces 1 = .ok (.getfield 44, 3) := by decide +kernel
theorem dX2_skipSpaces_4 : decode cX2_skipSpaces 4 = .ok (.aload_n 0, 1) := by decide +kernel
theorem dX2_skipSpaces_5 : decode cX2_skipSpaces 5 = .ok (.getfield 35, 3) := by decide +kernel
theorem dX2_skipSpaces_8 : decode cX2_skipSpaces 8 = .ok (.if_icmp .ge 30, 3) := by decide +kernel
theorem dX2_skipSpaces_11 : decode cX2_skipSpaces 11 = .ok (.aload_n 0, 1) := by decide +kernel
theorem dX2_skipSpaces_12 : decode cX2_skipSpaces 12 = .ok (.getfield 18, 3) := by decide +kernel
theorem dX2_skipSpaces_15 : decode cX2_skipSpaces 15 = .ok (.aload_n 0, 1) := by decide +kernel
theorem dX2_skipSpaces_16 : decode cX2_skipSpaces 16 = .ok (.getfield 44, 3) := by decide +kernel
theorem dX2_skipSpaces_19 : decode cX2_skipSpaces 19 = .ok (.baload, 1) := by decide +kernel
theorem dX2_skipSpaces_20 : decode cX2_skipSpaces 20 = .ok (.bipush 32, 2) := by decide +kernel
theorem dX2_skipSpaces_22 : decode cX2_skipSpaces 22 = .ok (.if_icmp .ne 16, 3) := by decide +kernel
theorem dX2_skipSpaces_25 : decode cX2_skipSpaces 25 = .ok (.aload_n 0, 1) := by decide +kernel
theorem dX2_skipSpaces_26 : decode cX2_skipSpaces 26 = .ok (.dup, 1) := by decide +kernel
theorem dX2_skipSpaces_27 : decode cX2_skipSpaces 27 = .ok (.getfield 44, 3) := by decide +kernel
theorem dX2_skipSpaces_30 : decode cX2_skipSpaces 30 = .ok (.iconst 1, 1) := by decide +kernel
theorem dX2_skipSpaces_31 : decode cX2_skipSpaces 31 = .ok (.iadd, 1) := by decide +kernel
theorem dX2_skipSpaces_32 : decode cX2_skipSpaces 32 = .ok (.putfield 44, 3) := by decide +kernel
theorem dX2_skipSpaces_35 : decode cX2_skipSpaces 35 = .ok (.goto (-35), 3) := by decide +kernel
theorem dX2_skipSpaces_38 : decode cX2_skipSpaces 38 = .ok (.return_, 1) := by decide +kernel
theorem dX2_hasMore_0 : decode cX2_hasMore 0 = .ok (.aload_n 0, 1) := by decide +kernel
theorem dX2_hasMore_1 : decode cX2_hasMore 1 = .ok (.invokevirtual 73, 3) := by decide +kernel
theorem dX2_hasMore_4 : decode cX2_hasMore 4 = .ok (.aload_n 0, 1) := by decide +kernel
theorem dX2_hasMore_5 : decode cX2_hasMore 5 = .ok (.getfield 44, 3) := by decide +kernel
theorem dX2_hasMore_8 : decode cX2_hasMore 8 = .ok (.aload_n 0, 1) := by decide +kernel
theorem dX2_hasMore_9 : decode cX2_hasMore 9 = .ok (.getfield 35, 3) := by decide +kernel
theorem dX2_hasMore_12 : decode cX2_hasMore 12 = .ok (.if_icmp .ge 7, 3) := by decide +kernel
theorem dX2_hasMore_15 : decode cX2_hasMore 15 = .ok (.iconst 1, 1) := by decide +kernel
theorem dX2_hasMore_16 : decode cX2_hasMore 16 = .ok (.goto 4, 3) := by decide +kernel
theorem dX2_hasMore_19 : decode cX2_hasMore 19 = .ok (.iconst 0, 1) := by decide +kernel
theorem dX2_hasMore_20 : decode cX2_hasMore 20 = .ok (.ireturn, 1) := by decide +kernel
theorem dX2_skipWord_0 : decode cX2_skipWord 0 = .ok (.aload_n 0, 1) := by decide +kernel
theorem dX2_skipWord_1 : decode cX2_skipWord 1 = .ok (.getfield 44, 3) := by decide +kernel
theorem dX2_skipWord_4 : decode cX2_skipWord 4 = .ok (.aload_n 0, 1) := by decide +kernel
theorem dX2_skipWord_5 : decode cX2_skipWord 5 = .ok (.getfield 35, 3) := by decide +kernel
theorem dX2_skipWord_8 : decode cX2_skipWord 8 = .ok (.if_icmp .ge 31, 3) := by decide +kernel
theorem dX2_skipWord_11 : decode cX2_skipWord 11 = .ok (.aload_n 0, 1) := by decide +kernel
theorem dX2_skipWord_12 : decode cX2_skipWord 12 = .ok (.getfield 18, 3) := by decide +kernel
theorem dX2_skipWord_15 : decode cX2_skipWord 15 = .ok (.aload_n 0, 1) := by decide +kernel
theorem dX2_skipWord_16 : decode cX2_skipWord 16 = .ok (.getfield 44, 3) := by decide +kernel
theorem dX2_skipWord_19 : decode cX2_skipWord 19 = .ok (.baload, 1) := by decide +kernel
theorem dX2_skipWord_20 : decode cX2_skipWord 20 = .ok (.invokestatic 123, 3) := by decide +kernel
theorem dX2_skipWord_23 : decode cX2_skipWord 23 = .ok (.ifCond .eq 16, 3) := by decide +kernel
theorem dX2_skipWord_26 : decode cX2_skipWord 26 = .ok (.aload_n 0, 1) := by decide +kernel
theorem dX2_skipWord_27 : decode cX2_skipWord 27 = .ok (.dup, 1) := by decide +kernel
theorem dX2_skipWord_28 : decode cX2_skipWord 28 = .ok (.getfield 44, 3) := by decide +kernel
theorem dX2_skipWord_31 : decode cX2_skipWord 31 = .ok (.iconst 1, 1) := by decide +kernel
theorem dX2_skipWord_32 : decode cX2_skipWord 32 = .ok (.iadd, 1) := by decide +kernel
theorem dX2_skipWord_33 : decode cX2_skipWord 33 = .ok (.putfield 44, 3) := by decide +kernel
theorem dX2_skipWord_36 : decode cX2_skipWord 36 = .ok (.goto (-36), 3) := by decide +kernel
theorem dX2_skipWord_39 : decode cX2_skipWord 39 = .ok (.return_, 1) := by decide +kernel
theorem dX2_isWord_0 : decode cX2_isWord 0 = .ok (.iload_n 1, 1) := by decide +kernel
theorem dX2_isWord_1 : decode cX2_isWord 1 = .ok (.ifCond .lt 16, 3) := by decide +kernel
theorem dX2_isWord_4 : decode cX2_isWord 4 = .ok (.aload_n 0, 1) := by decide +kernel
theorem dX2_isWord_5 : decode cX2_isWord 5 = .ok (.getfield 44, 3) := by decide +kernel
theorem dX2_isWord_8 : decode cX2_isWord 8 = .ok (.iload_n 1, 1) := by decide +kernel
theorem dX2_isWord_9 : decode cX2_isWord 9 = .ok (.isub, 1) := by decide +kernel
theorem dX2_isWord_10 : decode cX2_isWord 10 = .ok (.aload_n 2, 1) := by decide +kernel
theorem dX2_isWord_11 : decode cX2_isWord 11 = .ok (.invokevirtual 136, 3) := by decide +kernel
theorem dX2_isWord_14 : decode cX2_isWord 14 = .ok (.if_icmp .eq 5, 3) := by decide +kernel
theorem dX2_isWord_17 : decode cX2_isWord 17 = .ok (.iconst 0, 1) := by decide +kernel
theorem dX2_isWord_18 : decode cX2_isWord 18 = .ok (.ireturn, 1) := by decide +kernel
theorem dX2_isWord_19 : decode cX2_isWord 19 = .ok (.iconst 0, 1) := by decide +kernel
theorem dX2_isWord_20 : decode cX2_isWord 20 = .ok (.istore_n 3, 1) := by decide +kernel
theorem dX2_isWord_21 : decode cX2_isWord 21 = .ok (.iload_n 3, 1) := by decide +kernel
theorem dX2_isWord_22 : decode cX2_isWord 22 = .ok (.aload_n 2, 1) := by decide +kernel
theorem dX2_isWord_23 : decode cX2_isWord 23 = .ok (.invokevirtual 136, 3) := by decide +kernel
theorem dX2_isWord_26 : decode cX2_isWord 26 = .ok (.if_icmp .ge 37, 3) := by decide +kernel
theorem dX2_isWord_29 : decode cX2_isWord 29 = .ok (.iload_n 1, 1) := by decide +kernel
theorem dX2_isWord_30 : decode cX2_isWord 30 = .ok (.iload_n 3, 1) := by decide +kernel
theorem dX2_isWord_31 : decode cX2_isWord 31 = .ok (.iadd, 1) := by decide +kernel
theorem dX2_isWord_32 : decode cX2_isWord 32 = .ok (.aload_n 0, 1) := by decide +kernel
theorem dX2_isWord_33 : decode cX2_isWord 33 = .ok (.getfield 35, 3) := by decide +kernel
theorem dX2_isWord_36 : decode cX2_isWord 36 = .ok (.if_icmp .ge 27, 3) := by decide +kernel
theorem dX2_isWord_39 : decode cX2_isWord 39 = .ok (.aload_n 0, 1) := by decide +kernel
theorem dX2_isWord_40 : decode cX2_isWord 40 = .ok (.getfield 18, 3) := by decide +kernel
theorem dX2_isWord_43 : decode cX2_isWord 43 = .ok (.iload_n 1, 1) := by decide +kernel
theorem dX2_isWord_44 : decode cX2_isWord 44 = .ok (.iload_n 3, 1) := by decide +kernel
theorem dX2_isWord_45 : decode cX2_isWord 45 = .ok (.iadd, 1) := by decide +kernel
theorem dX2_isWord_46 : decode cX2_isWord 46 = .ok (.baload, 1) := by decide +kernel
theorem dX2_isWord_47 : decode cX2_isWord 47 = .ok (.aload_n 2, 1) := by decide +kernel
theorem dX2_isWord_48 : decode cX2_isWord 48 = .ok (.iload_n 3, 1) := by decide +kernel
theorem dX2_isWord_49 : decode cX2_isWord 49 = .ok (.invokevirtual 141, 3) := by decide +kernel
theorem dX2_isWord_52 : decode cX2_isWord 52 = .ok (.if_icmp .eq 5, 3) := by decide +kernel
theorem dX2_isWord_55 : decode cX2_isWord 55 = .ok (.iconst 0, 1) := by decide +kernel
theorem dX2_isWord_56 : decode cX2_isWord 56 = .ok (.ireturn, 1) := by decide +kernel
theorem dX2_isWord_57 : decode cX2_isWord 57 = .ok (.iinc 3 1, 3) := by decide +kernel
theorem dX2_isWord_60 : decode cX2_isWord 60 = .ok (.goto (-39), 3) := by decide +kernel
theorem dX2_isWord_63 : decode cX2_isWord 63 = .ok (.iconst 1, 1) := by decide +kernel
theorem dX2_isWord_64 : decode cX2_isWord 64 = .ok (.ireturn, 1) := by decide +kernel
theorem dX2_fail_0 : decode cX2_fail 0 = .ok (.aload_n 0, 1) := by decide +kernel
theorem dX2_fail_1 : decode cX2_fail 1 = .ok (.getfield 47, 3) := by decide +kernel
theorem dX2_fail_4 : decode cX2_fail 4 = .ok (.ifCond .ne 13, 3) := by decide +kernel
theorem dX2_fail_7 : decode cX2_fail 7 = .ok (.aload_n 0, 1) := by decide +kernel
theorem dX2_fail_8 : decode cX2_fail 8 = .ok (.iload_n 1, 1) := by decide +kernel
theorem dX2_fail_9 : decode cX2_fail 9 = .ok (.putfield 47, 3) := by decide +kernel
theorem dX2_fail_12 : decode cX2_fail 12 = .ok (.aload_n 0, 1) := by decide +kernel
theorem dX2_fail_13 : decode cX2_fail 13 = .ok (.iload_n 2, 1) := by decide +kernel
theorem dX2_fail_14 : decode cX2_fail 14 = .ok (.putfield 22, 3) := by decide +kernel
theorem dX2_fail_17 : decode cX2_fail 17 = .ok (.return_, 1) := by decide +kernel
theorem dX3_init_0 : decode cX3_init 0 = .ok (.aload_n 0, 1) := by decide +kernel
theorem dX3_init_1 : decode cX3_init 1 = .ok (.invokespecial 3, 3) := by decide +kernel
theorem dX3_init_4 : decode cX3_init 4 = .ok (.aload_n 0, 1) := by decide +kernel
theorem dX3_init_5 : decode cX3_init 5 = .ok (.bipush 96, 2) := by decide +kernel
theorem dX3_init_7 : decode cX3_init 7 = .ok (.newarray .int, 2) := by decide +kernel
theorem dX3_init_9 : decode cX3_init 9 = .ok (.putfield 9, 3) := by decide +kernel
theorem dX3_init_12 : decode cX3_init 12 = .ok (.aload_n 0, 1) := by decide +kernel
theorem dX3_init_13 : decode cX3_init 13 = .ok (.bipush 12, 2) := by decide +kernel
theorem dX3_init_15 : decode cX3_init 15 = .ok (.newarray .int, 2) := by decide +kernel
theorem dX3_init_17 : decode cX3_init 17 = .ok (.putfield 15, 3) := by decide +kernel
theorem dX3_init_20 : decode cX3_init 20 = .ok (.aload_n 0, 1) := by decide +kernel
theorem dX3_init_21 : decode cX3_init 21 = .ok (.bipush 24, 2) := by decide +kernel
theorem dX3_init_23 : decode cX3_init 23 = .ok (.newarray .int, 2) := by decide +kernel
theorem dX3_init_25 : decode cX3_init 25 = .ok (.putfield 18, 3) := by decide +kernel
theorem dX3_init_28 : decode cX3_init 28 = .ok (.aload_n 0, 1) := by decide +kernel
theorem dX3_init_29 : decode cX3_init 29 = .ok (.iconst 1, 1) := by decide +kernel
theorem dX3_init_30 : decode cX3_init 30 = .ok (.iconst 1, 1) := by decide +kernel
theorem dX3_init_31 : decode cX3_init 31 = .ok (.invokevirtual 21, 3) := by decide +kernel
theorem dX3_init_34 : decode cX3_init 34 = .ok (.return_, 1) := by decide +kernel
theorem dX3_startAnew_0 : decode cX3_startAnew 0 = .ok (.aload_n 0, 1) := by decide +kernel
theorem dX3_startAnew_1 : decode cX3_startAnew 1 = .ok (.iload_n 1, 1) := by decide +kernel
theorem dX3_startAnew_2 : decode cX3_startAnew 2 = .ok (.putfield 25, 3) := by decide +kernel
theorem dX3_startAnew_5 : decode cX3_startAnew 5 = .ok (.aload_n 0, 1) := by decide +kernel
theorem dX3_startAnew_6 : decode cX3_startAnew 6 = .ok (.iload_n 2, 1) := by decide +kernel
theorem dX3_startAnew_7 : decode cX3_startAnew 7 = .ok (.putfield 29, 3) := by decide +kernel
theorem dX3_startAnew_10 : decode cX3_startAnew 10 = .ok (.aload_n 0, 1) := by decide +kernel
theorem dX3_startAnew_11 : decode cX3_startAnew 11 = .ok (.iconst 1, 1) := by decide +kernel
theorem dX3_startAnew_12 : decode cX3_startAnew 12 = .ok (.putfield 32, 3) := by decide +kernel
theorem dX3_startAnew_15 : decode cX3_startAnew 15 = .ok (.aload_n 0, 1) := by decide +kernel
theorem dX3_startAnew_16 : decode cX3_startAnew 16 = .ok (.getfield 9, 3) := by decide +kernel
theorem dX3_startAnew_19 : decode cX3_startAnew 19 = .ok (.iconst (-1), 1) := by decide +kernel
theorem dX3_startAnew_20 : decode cX3_startAnew 20 = .ok (.invokestatic 35, 3) := by decide +kernel
theorem dX3_startAnew_23 : decode cX3_startAnew 23 = .ok (.aload_n 0, 1) := by decide +kernel
theorem dX3_startAnew_24 : decode cX3_startAnew 24 = .ok (.getfield 15, 3) := by decide +kernel
theorem dX3_startAnew_27 : decode cX3_startAnew 27 = .ok (.iconst 1, 1) := by decide +kernel
theorem dX3_startAnew_28 : decode cX3_startAnew 28 = .ok (.invokestatic 35, 3) := by decide +kernel
theorem dX3_startAnew_31 : decode cX3_startAnew 31 = .ok (.aload_n 0, 1) := by decide +kernel
theorem dX3_startAnew_32 : decode cX3_startAnew 32 = .ok (.lconst 0, 1) := by decide +kernel
theorem dX3_startAnew_33 : decode cX3_startAnew 33 = .ok (.putfield 41, 3) := by decide +kernel
theorem dX3_startAnew_36 : decode cX3_startAnew 36 = .ok (.aload_n 0, 1) := by decide +kernel
theorem dX3_startAnew_37 : decode cX3_startAnew 37 = .ok (.iconst 0, 1) := by decide +kernel
theorem dX3_startAnew_38 : decode cX3_startAnew 38 = .ok (.putfield 45, 3) := by decide +kernel
theorem dX3_startAnew_41 : decode cX3_startAnew 41 = .ok (.aload_n 0, 1) := by decide +kernel
theorem dX3_startAnew_42 : decode cX3_startAnew 42 = .ok (.iconst 0, 1) := by decide +kernel
theorem dX3_startAnew_43 : decode cX3_startAnew 43 = .ok (.putfield 48, 3) := by decide +kernel
theorem dX3_startAnew_46 : decode cX3_startAnew 46 = .ok (.aload_n 0, 1) := by decide +kernel
theorem dX3_startAnew_47 : decode cX3_startAnew 47 = .ok (.iconst 0, 1) := by decide +kernel
theorem dX3_startAnew_48 : decode cX3_startAnew 48 = .ok (.putfield 51, 3) := by decide +kernel
theorem dX3_startAnew_51 : decode cX3_startAnew 51 = .ok (.return_, 1) := by decide +kernel
theorem dX3_copyFrom_0 : decode cX3_copyFrom 0 = .ok (.aload_n 0, 1) := by decide +kernel
theorem dX3_copyFrom_1 : decode cX3_copyFrom 1 = .ok (.aload_n 1, 1) := by decide +kernel
theorem dX3_copyFrom_2 : decode cX3_copyFrom 2 = .ok (.getfield 25, 3) := by decide +kernel
theorem dX3_copyFrom_5 : decode cX3_copyFrom 5 = .ok (.putfield 25, 3) := by decide +kernel
theorem dX3_copyFrom_8 : decode cX3_copyFrom 8 = .ok (.aload_n 0, 1) := by decide +kernel
theorem dX3_copyFrom_9 : decode cX3_copyFrom 9 = .ok (.aload_n 1, 1) := by decide +kernel
theorem dX3_copyFrom_10 : decode cX3_copyFrom 10 = .ok (.getfield 29, 3) := by decide +kernel
theorem dX3_copyFrom_13 : decode cX3_copyFrom 13 = .ok (.putfield 29, 3) := by decide +kernel
theorem dX3_copyFrom_16 : decode cX3_copyFrom 16 = .ok (.aload_n 0, 1) := by decide +kernel
theorem dX3_copyFrom_17 : decode cX3_copyFrom 17 = .ok (.aload_n 1, 1) := by decide +kernel
theorem dX3_copyFrom_18 : decode cX3_copyFrom 18 = .ok (.getfield 32, 3) := by decide +kernel
theorem dX3_copyFrom_21 : decode cX3_copyFrom 21 = .ok (.putfield 32, 3) := by decide +kernel
theorem dX3_copyFrom_24 : decode cX3_copyFrom 24 = .ok (.aload_n 1, 1) := by decide +kernel
theorem dX3_copyFrom_25 : decode cX3_copyFrom 25 = .ok (.getfield 9, 3) := by decide +kernel
theorem dX3_copyFrom_28 : decode cX3_copyFrom 28 = .ok (.iconst 0, 1) := by decide +kernel
theorem dX3_copyFrom_29 : decode cX3_copyFrom 29 = .ok (.aload_n 0, 1) := by decide +kernel
theorem dX3_copyFrom_30 : decode cX3_copyFrom 30 = .ok (.getfield 9, 3) := by decide +kernel
theorem dX3_copyFrom_33 : decode cX3_copyFrom 33 = .ok (.iconst 0, 1) := by decide +kernel
theorem dX3_copyFrom_34 : decode cX3_copyFrom 34 = .ok (.bipush 96, 2) := by decide +kernel
theorem dX3_copyFrom_36 : decode cX3_copyFrom 36 = .ok (.invokestatic 54, 3) := by decide +kernel
theorem dX3_copyFrom_39 : decode cX3_copyFrom 39 = .ok (.aload_n 1, 1) := by decide +kernel
theorem dX3_copyFrom_40 : decode cX3_copyFrom 40 = .ok (.getfield 15, 3) := by decide +kernel
theorem dX3_copyFrom_43 : decode cX3_copyFrom 43 = .ok (.iconst 0, 1) := by decide +kernel
theorem dX3_copyFrom_44 : decode cX3_copyFrom 44 = .ok (.aload_n 0, 1) := by decide +kernel
theorem dX3_copyFrom_45 : decode cX3_copyFrom 45 = .ok (.getfield 15, 3) := by decide +kernel
theorem dX3_copyFrom_48 : decode cX3_copyFrom 48 = .ok (.iconst 0, 1) := by decide +kernel
theorem dX3_copyFrom_49 : decode cX3_copyFrom 49 = .ok (.bipush 12, 2) := by decide +kernel
theorem dX3_copyFrom_51 : decode cX3_copyFrom 51 = .ok (.invokestatic 54, 3) := by decide +kernel
theorem dX3_copyFrom_54 : decode cX3_copyFrom 54 = .ok (.aload_n 0, 1) := by decide +kernel
theorem dX3_copyFrom_55 : decode cX3_copyFrom 55 = .ok (.aload_n 1, 1) := by decide +kernel
theorem dX3_copyFrom_56 : decode cX3_copyFrom 56 = .ok (.getfield 41, 3) := by decide +kernel
theorem dX3_copyFrom_59 : decode cX3_copyFrom 59 = .ok (.putfield 41, 3) := by decide +kernel
theorem dX3_copyFrom_62 : decode cX3_copyFrom 62 = .ok (.aload_n 1, 1) := by decide +kernel
theorem dX3_copyFrom_63 : decode cX3_copyFrom 63 = .ok (.getfield 18, 3) := by decide +kernel
theorem dX3_copyFrom_66 : decode cX3_copyFrom 66 = .ok (.iconst 0, 1) := by decide +kernel
theorem dX3_copyFrom_67 : decode cX3_copyFrom 67 = .ok (.aload_n 0, 1) := by decide +kernel
theorem dX3_copyFrom_68 : decode cX3_copyFrom 68 = .ok (.getfield 18, 3) := by decide +kernel
theorem dX3_copyFrom_71 : decode cX3_copyFrom 71 = .ok (.iconst 0, 1) := by decide +kernel
theorem dX3_copyFrom_72 : decode cX3_copyFrom 72 = .ok (.bipush 24, 2) := by decide +kernel
theorem dX3_copyFrom_74 : decode cX3_copyFrom 74 = .ok (.invokestatic 54, 3) := by decide +kernel
theorem dX3_copyFrom_77 : decode cX3_copyFrom 77 = .ok (.aload_n 0, 1) := by decide +kernel
theorem dX3_copyFrom_78 : decode cX3_copyFrom 78 = .ok (.aload_n 1, 1) := by decide +kernel
theorem dX3_copyFrom_79 : decode cX3_copyFrom 79 = .ok (.getfield 45, 3) := by decide +kernel
theorem dX3_copyFrom_82 : decode cX3_copyFrom 82 = .ok (.putfield 45, 3) := by decide +kernel
theorem dX3_copyFrom_85 : decode cX3_copyFrom 85 = .ok (.aload_n 0, 1) := by decide +kernel
theorem dX3_copyFrom_86 : decode cX3_copyFrom 86 = .ok (.aload_n 1, 1) := by decide +kernel
theorem dX3_copyFrom_87 : decode cX3_copyFrom 87 = .ok (.getfield 48, 3) := by decide +kernel
theorem dX3_copyFrom_90 : decode cX3_copyFrom 90 = .ok (.putfield 48, 3) := by decide +kernel
theorem dX3_copyFrom_93 : decode cX3_copyFrom 93 = .ok (.aload_n 0, 1) := by decide +kernel
theorem dX3_copyFrom_94 : decode cX3_copyFrom 94 = .ok (.aload_n 1, 1) := by decide +kernel
theorem dX3_copyFrom_95 : decode cX3_copyFrom 95 = .ok (.getfield 51, 3) := by decide +kernel
theorem dX3_copyFrom_98 : decode cX3_copyFrom 98 = .ok (.putfield 51, 3) := by decide +kernel
theorem dX3_copyFrom_101 : decode cX3_copyFrom 101 = .ok (.return_, 1) := by decide +kernel
theorem dX3_countCells_0 : decode cX3_countCells 0 = .ok (.aload_n 0, 1) := by decide +kernel
theorem dX3_countCells_1 : decode cX3_countCells 1 = .ok (.getfield 25, 3) := by decide +kernel
theorem dX3_countCells_4 : decode cX3_countCells 4 = .ok (.aload_n 0, 1) := by decide +kernel
theorem dX3_countCells_5 : decode cX3_countCells 5 = .ok (.getfield 29, 3) := by decide +kernel
theorem dX3_countCells_8 : decode cX3_countCells 8 = .ok (.imul, 1) := by decide +kernel
theorem dX3_countCells_9 : decode cX3_countCells 9 = .ok (.ireturn, 1) := by decide +kernel
theorem dX3_hasPlace_0 : decode cX3_hasPlace 0 = .ok (.iload_n 1, 1) := by decide +kernel
theorem dX3_hasPlace_1 : decode cX3_hasPlace 1 = .ok (.ifCond .eq 8, 3) := by decide +kernel
theorem dX3_hasPlace_4 : decode cX3_hasPlace 4 = .ok (.iload_n 1, 1) := by decide +kernel
theorem dX3_hasPlace_5 : decode cX3_hasPlace 5 = .ok (.iconst 1, 1) := by decide +kernel
theorem dX3_hasPlace_6 : decode cX3_hasPlace 6 = .ok (.if_icmp .ne 19, 3) := by decide +kernel
theorem dX3_hasPlace_9 : decode cX3_hasPlace 9 = .ok (.iload_n 2, 1) := by decide +kernel
theorem dX3_hasPlace_10 : decode cX3_hasPlace 10 = .ok (.ifCond .lt 15, 3) := by decide +kernel
theorem dX3_hasPlace_13 : decode cX3_hasPlace 13 = .ok (.iload_n 2, 1) := by decide +kernel
theorem dX3_hasPlace_14 : decode cX3_hasPlace 14 = .ok (.aload_n 0, 1) := by decide +kernel
theorem dX3_hasPlace_15 : decode cX3_hasPlace 15 = .ok (.invokevirtual 60, 3) := by decide +kernel
theorem dX3_hasPlace_18 : decode cX3_hasPlace 18 = .ok (.if_icmp .ge 7, 3) := by decide +kernel
theorem dX3_hasPlace_21 : decode cX3_hasPlace 21 = .ok (.iconst 1, 1) := by decide +kernel
theorem dX3_hasPlace_22 : decode cX3_hasPlace 22 = .ok (.goto 4, 3) := by decide +kernel
theorem dX3_hasPlace_25 : decode cX3_hasPlace 25 = .ok (.iconst 0, 1) := by decide +kernel
theorem dX3_hasPlace_26 : decode cX3_hasPlace 26 = .ok (.ireturn, 1) := by decide +kernel
theorem dX3_hasSpot_0 : decode cX3_hasSpot 0 = .ok (.iload_n 1, 1) := by decide +kernel
theorem dX3_hasSpot_1 : decode cX3_hasSpot 1 = .ok (.ifCond .lt 35, 3) := by decide +kernel
theorem dX3_hasSpot_4 : decode cX3_hasSpot 4 = .ok (.iload_n 1, 1) := by decide +kernel
theorem dX3_hasSpot_5 : decode cX3_hasSpot 5 = .ok (.bipush 96, 2) := by decide +kernel
theorem dX3_hasSpot_7 : decode cX3_hasSpot 7 = .ok (.if_icmp .ge 29, 3) := by decide +kernel
theorem dX3_hasSpot_10 : decode cX3_hasSpot 10 = .ok (.iload_n 1, 1) := by decide +kernel
theorem dX3_hasSpot_11 : decode cX3_hasSpot 11 = .ok (.invokestatic 64, 3) := by decide +kernel
theorem dX3_hasSpot_14 : decode cX3_hasSpot 14 = .ok (.aload_n 0, 1) := by decide +kernel
theorem dX3_hasSpot_15 : decode cX3_hasSpot 15 = .ok (.getfield 29, 3) := by decide +kernel
theorem dX3_hasSpot_18 : decode cX3_hasSpot 18 = .ok (.if_icmp .ge 18, 3) := by decide +kernel
theorem dX3_hasSpot_21 : decode cX3_hasSpot 21 = .ok (.iload_n 1, 1) := by decide +kernel
theorem dX3_hasSpot_22 : decode cX3_hasSpot 22 = .ok (.invokestatic 68, 3) := by decide +kernel
theorem dX3_hasSpot_25 : decode cX3_hasSpot 25 = .ok (.aload_n 0, 1) := by decide +kernel
theorem dX3_hasSpot_26 : decode cX3_hasSpot 26 = .ok (.getfield 25, 3) := by decide +kernel
theorem dX3_hasSpot_29 : decode cX3_hasSpot 29 = .ok (.if_icmp .ge 7, 3) := by decide +kernel
theorem dX3_hasSpot_32 : decode cX3_hasSpot 32 = .ok (.iconst 1, 1) := by decide +kernel
theorem dX3_hasSpot_33 : decode cX3_hasSpot 33 = .ok (.goto 4, 3) := by decide +kernel
theorem dX3_hasSpot_36 : decode cX3_hasSpot 36 = .ok (.iconst 0, 1) := by decide +kernel
theorem dX3_hasSpot_37 : decode cX3_hasSpot 37 = .ok (.ireturn, 1) := by decide +kernel
theorem dX3_spotOf_0 : decode cX3_spotOf 0 = .ok (.aload_n 0, 1) := by decide +kernel
theorem dX3_spotOf_1 : decode cX3_spotOf 1 = .ok (.getfield 25, 3) := by decide +kernel
theorem dX3_spotOf_4 : decode cX3_spotOf 4 = .ok (.ifCond .le 12, 3) := by decide +kernel
theorem dX3_spotOf_7 : decode cX3_spotOf 7 = .ok (.iload_n 2, 1) := by decide +kernel
theorem dX3_spotOf_8 : decode cX3_spotOf 8 = .ok (.aload_n 0, 1) := by decide +kernel
theorem dX3_spotOf_9 : decode cX3_spotOf 9 = .ok (.getfield 25, 3) := by decide +kernel
theorem dX3_spotOf_12 : decode cX3_spotOf 12 = .ok (.idiv, 1) := by decide +kernel
theorem dX3_spotOf_13 : decode cX3_spotOf 13 = .ok (.goto 4, 3) := by decide +kernel
theorem dX3_spotOf_16 : decode cX3_spotOf 16 = .ok (.iconst 0, 1) := by decide +kernel
theorem dX3_spotOf_17 : decode cX3_spotOf 17 = .ok (.istore_n 3, 1) := by decide +kernel
theorem dX3_spotOf_18 : decode cX3_spotOf 18 = .ok (.iload_n 1, 1) := by decide +kernel
theorem dX3_spotOf_19 : decode cX3_spotOf 19 = .ok (.bipush 48, 2) := by decide +kernel
theorem dX3_spotOf_21 : decode cX3_spotOf 21 = .ok (.imul, 1) := by decide +kernel
theorem dX3_spotOf_22 : decode cX3_spotOf 22 = .ok (.iload_n 3, 1) := by decide +kernel
theorem dX3_spotOf_23 : decode cX3_spotOf 23 = .ok (.bipush 8, 2) := by decide +kernel
theorem dX3_spotOf_25 : decode cX3_spotOf 25 = .ok (.imul, 1) := by decide +kernel
theorem dX3_spotOf_26 : decode cX3_spotOf 26 = .ok (.iadd, 1) := by decide +kernel
theorem dX3_spotOf_27 : decode cX3_spotOf 27 = .ok (.iload_n 2, 1) := by decide +kernel
theorem dX3_spotOf_28 : decode cX3_spotOf 28 = .ok (.iadd, 1) := by decide +kernel
theorem dX3_spotOf_29 : decode cX3_spotOf 29 = .ok (.iload_n 3, 1) := by decide +kernel
theorem dX3_spotOf_30 : decode cX3_spotOf 30 = .ok (.aload_n 0, 1) := by decide +kernel
theorem dX3_spotOf_31 : decode cX3_spotOf 31 = .ok (.getfield 25, 3) := by decide +kernel
theorem dX3_spotOf_34 : decode cX3_spotOf 34 = .ok (.imul, 1) := by decide +kernel
theorem dX3_spotOf_35 : decode cX3_spotOf 35 = .ok (.isub, 1) := by decide +kernel
theorem dX3_spotOf_36 : decode cX3_spotOf 36 = .ok (.ireturn, 1) := by decide +kernel
theorem dX3_placeOf_0 : decode cX3_placeOf 0 = .ok (.iload_n 1, 1) := by decide +kernel
theorem dX3_placeOf_1 : decode cX3_placeOf 1 = .ok (.invokestatic 64, 3) := by decide +kernel
theorem dX3_placeOf_4 : decode cX3_placeOf 4 = .ok (.aload_n 0, 1) := by decide +kernel
theorem dX3_placeOf_5 : decode cX3_placeOf 5 = .ok (.getfield 25, 3) := by decide +kernel
theorem dX3_placeOf_8 : decode cX3_placeOf 8 = .ok (.imul, 1) := by decide +kernel
theorem dX3_placeOf_9 : decode cX3_placeOf 9 = .ok (.iload_n 1, 1) := by decide +kernel
theorem dX3_placeOf_10 : decode cX3_placeOf 10 = .ok (.invokestatic 68, 3) := by decide +kernel
theorem dX3_placeOf_13 : decode cX3_placeOf 13 = .ok (.iadd, 1) := by decide +kernel
theorem dX3_placeOf_14 : decode cX3_placeOf 14 = .ok (.ireturn, 1) := by decide +kernel
theorem dX3_spotBehind_0 : decode cX3_spotBehind 0 = .ok (.iload_n 1, 1) := by decide +kernel
theorem dX3_spotBehind_1 : decode cX3_spotBehind 1 = .ok (.invokestatic 71, 3) := by decide +kernel
theorem dX3_spotBehind_4 : decode cX3_spotBehind 4 = .ok (.ifCond .ne 10, 3) := by decide +kernel
theorem dX3_spotBehind_7 : decode cX3_spotBehind 7 = .ok (.iload_n 1, 1) := by decide +kernel
theorem dX3_spotBehind_8 : decode cX3_spotBehind 8 = .ok (.bipush 48, 2) := by decide +kernel
theorem dX3_spotBehind_10 : decode cX3_spotBehind 10 = .ok (.iadd, 1) := by decide +kernel
theorem dX3_spotBehind_11 : decode cX3_spotBehind 11 = .ok (.goto 7, 3) := by decide +kernel
theorem dX3_spotBehind_14 : decode cX3_spotBehind 14 = .ok (.iload_n 1, 1) := by decide +kernel
theorem dX3_spotBehind_15 : decode cX3_spotBehind 15 = .ok (.bipush 48, 2) := by decide +kernel
theorem dX3_spotBehind_17 : decode cX3_spotBehind 17 = .ok (.isub, 1) := by decide +kernel
theorem dX3_spotBehind_18 : decode cX3_spotBehind 18 = .ok (.istore_n 2, 1) := by decide +kernel
theorem dX3_spotBehind_19 : decode cX3_spotBehind 19 = .ok (.iload_n 2, 1) := by decide +kernel
theorem dX3_spotBehind_20 : decode cX3_spotBehind 20 = .ok (.iload_n 1, 1) := by decide +kernel
theorem dX3_spotBehind_21 : decode cX3_spotBehind 21 = .ok (.invokestatic 68, 3) := by decide +kernel
theorem dX3_spotBehind_24 : decode cX3_spotBehind 24 = .ok (.isub, 1) := by decide +kernel
theorem dX3_spotBehind_25 : decode cX3_spotBehind 25 = .ok (.aload_n 0, 1) := by decide +kernel
theorem dX3_spotBehind_26 : decode cX3_spotBehind 26 = .ok (.getfield 25, 3) := by decide +kernel
theorem dX3_spotBehind_29 : decode cX3_spotBehind 29 = .ok (.iadd, 1) := by decide +kernel
theorem dX3_spotBehind_30 : decode cX3_spotBehind 30 = .ok (.iconst 1, 1) := by decide +kernel
theorem dX3_spotBehind_31 : decode cX3_spotBehind 31 = .ok (.isub, 1) := by decide +kernel
theorem dX3_spotBehind_32 : decode cX3_spotBehind 32 = .ok (.iload_n 1, 1) := by decide +kernel
theorem dX3_spotBehind_33 : decode cX3_spotBehind 33 = .ok (.invokestatic 68, 3) := by decide +kernel
theorem dX3_spotBehind_36 : decode cX3_spotBehind 36 = .ok (.isub, 1) := by decide +kernel
theorem dX3_spotBehind_37 : decode cX3_spotBehind 37 = .ok (.ireturn, 1) := by decide +kernel
theorem dX3_cellOf_0 : decode cX3_cellOf 0 = .ok (.iload_n 1, 1) := by decide +kernel
theorem dX3_cellOf_1 : decode cX3_cellOf 1 = .ok (.invokestatic 71, 3) := by decide +kernel
theorem dX3_cellOf_4 : decode cX3_cellOf 4 = .ok (.ifCond .ne 7, 3) := by decide +kernel
theorem dX3_cellOf_7 : decode cX3_cellOf 7 = .ok (.iload_n 1, 1) := by decide +kernel
theorem dX3_cellOf_8 : decode cX3_cellOf 8 = .ok (.goto 8, 3) := by decide +kernel
theorem dX3_cellOf_11 : decode cX3_cellOf 11 = .ok (.aload_n 0, 1) := by decide +kernel
theorem dX3_cellOf_12 : decode cX3_cellOf 12 = .ok (.iload_n 1, 1) := by decide +kernel
theorem dX3_cellOf_13 : decode cX3_cellOf 13 = .ok (.invokevirtual 74, 3) := by decide +kernel
theorem dX3_cellOf_16 : decode cX3_cellOf 16 = .ok (.ireturn, 1) := by decide +kernel
theorem dX3_letterAt_0 : decode cX3_letterAt 0 = .ok (.aload_n 0, 1) := by decide +kernel
theorem dX3_letterAt_1 : decode cX3_letterAt 1 = .ok (.iload_n 1, 1) := by decide +kernel
theorem dX3_letterAt_2 : decode cX3_letterAt 2 = .ok (.invokevirtual 77, 3) := by decide +kernel
theorem dX3_letterAt_5 : decode cX3_letterAt 5 = .ok (.ifCond .eq 12, 3) := by decide +kernel
theorem dX3_letterAt_8 : decode cX3_letterAt 8 = .ok (.aload_n 0, 1) := by decide +kernel
theorem dX3_letterAt_9 : decode cX3_letterAt 9 = .ok (.getfield 9, 3) := by decide +kernel
theorem dX3_letterAt_12 : decode cX3_letterAt 12 = .ok (.iload_n 1, 1) := by decide +kernel
theorem dX3_letterAt_13 : decode cX3_letterAt 13 = .ok (.iaload, 1) := by decide +kernel
theorem dX3_letterAt_14 : decode cX3_letterAt 14 = .ok (.goto 4, 3) := by decide +kernel
theorem dX3_letterAt_17 : decode cX3_letterAt 17 = .ok (.iconst (-1), 1) := by decide +kernel
theorem dX3_letterAt_18 : decode cX3_letterAt 18 = .ok (.ireturn, 1) := by decide +kernel
theorem dX3_sizeAt_0 : decode cX3_sizeAt 0 = .ok (.aload_n 0, 1) := by decide +kernel
theorem dX3_sizeAt_1 : decode cX3_sizeAt 1 = .ok (.iload_n 1, 1) := by decide +kernel
theorem dX3_sizeAt_2 : decode cX3_sizeAt 2 = .ok (.invokevirtual 77, 3) := by decide +kernel
theorem dX3_sizeAt_5 : decode cX3_sizeAt 5 = .ok (.ifCond .eq 15, 3) := by decide +kernel
theorem dX3_sizeAt_8 : decode cX3_sizeAt 8 = .ok (.aload_n 0, 1) := by decide +kernel
theorem dX3_sizeAt_9 : decode cX3_sizeAt 9 = .ok (.getfield 15, 3) := by decide +kernel
theorem dX3_sizeAt_12 : decode cX3_sizeAt 12 = .ok (.iload_n 1, 1) := by decide +kernel
theorem dX3_sizeAt_13 : decode cX3_sizeAt 13 = .ok (.bipush 8, 2) := by decide +kernel
theorem dX3_sizeAt_15 : decode cX3_sizeAt 15 = .ok (.idiv, 1) := by decide +kernel
theorem dX3_sizeAt_16 : decode cX3_sizeAt 16 = .ok (.iaload, 1) := by decide +kernel
theorem dX3_sizeAt_17 : decode cX3_sizeAt 17 = .ok (.goto 4, 3) := by decide +kernel
theorem dX3_sizeAt_20 : decode cX3_sizeAt 20 = .ok (.iconst 1, 1) := by decide +kernel
theorem dX3_sizeAt_21 : decode cX3_sizeAt 21 = .ok (.ireturn, 1) := by decide +kernel
theorem dX3_isThere_0 : decode cX3_isThere 0 = .ok (.aload_n 0, 1) := by decide +kernel
theorem dX3_isThere_1 : decode cX3_isThere 1 = .ok (.getfield 41, 3) := by decide +kernel
theorem dX3_isThere_4 : decode cX3_isThere 4 = .ok (.lconst 1, 1) := by decide +kernel
theorem dX3_isThere_5 : decode cX3_isThere 5 = .ok (.iload_n 1, 1) := by decide +kernel
theorem dX3_isThere_6 : decode cX3_isThere 6 = .ok (.lshl, 1) := by decide +kernel
theorem dX3_isThere_7 : decode cX3_isThere 7 = .ok (.land, 1) := by decide +kernel
theorem dX3_isThere_8 : decode cX3_isThere 8 = .ok (.lconst 0, 1) := by decide +kernel
theorem dX3_isThere_9 : decode cX3_isThere 9 = .ok (.lcmp, 1) := by decide +kernel
theorem dX3_isThere_10 : decode cX3_isThere 10 = .ok (.ifCond .ne 7, 3) := by decide +kernel
theorem dX3_isThere_13 : decode cX3_isThere 13 = .ok (.iconst 1, 1) := by decide +kernel
theorem dX3_isThere_14 : decode cX3_isThere 14 = .ok (.goto 4, 3) := by decide +kernel
theorem dX3_isThere_17 : decode cX3_isThere 17 = .ok (.iconst 0, 1) := by decide +kernel
theorem dX3_isThere_18 : decode cX3_isThere 18 = .ok (.ireturn, 1) := by decide +kernel
theorem dX3_canUse_0 : decode cX3_canUse 0 = .ok (.aload_n 0, 1) := by decide +kernel
theorem dX3_canUse_1 : decode cX3_canUse 1 = .ok (.iload_n 1, 1) := by decide +kernel
theorem dX3_canUse_2 : decode cX3_canUse 2 = .ok (.invokevirtual 81, 3) := by decide +kernel
theorem dX3_canUse_5 : decode cX3_canUse 5 = .ok (.iconst (-1), 1) := by decide +kernel
theorem dX3_canUse_6 : decode cX3_canUse 6 = .ok (.if_icmp .eq 31, 3) := by decide +kernel
theorem dX3_canUse_9 : decode cX3_canUse 9 = .ok (.aload_n 0, 1) := by decide +kernel
theorem dX3_canUse_10 : decode cX3_canUse 10 = .ok (.aload_n 0, 1) := by decide +kernel
theorem dX3_canUse_11 : decode cX3_canUse 11 = .ok (.iload_n 1, 1) := by decide +kernel
theorem dX3_canUse_12 : decode cX3_canUse 12 = .ok (.invokevirtual 84, 3) := by decide +kernel
theorem dX3_canUse_15 : decode cX3_canUse 15 = .ok (.invokevirtual 87, 3) := by decide +kernel
theorem dX3_canUse_18 : decode cX3_canUse 18 = .ok (.ifCond .eq 19, 3) := by decide +kernel
theorem dX3_canUse_21 : decode cX3_canUse 21 = .ok (.aload_n 0, 1) := by decide +kernel
theorem dX3_canUse_22 : decode cX3_canUse 22 = .ok (.iload_n 1, 1) := by decide +kernel
theorem dX3_canUse_23 : decode cX3_canUse 23 = .ok (.invokevirtual 90, 3) := by decide +kernel
theorem dX3_canUse_26 : decode cX3_canUse 26 = .ok (.aload_n 0, 1) := by decide +kernel
theorem dX3_canUse_27 : decode cX3_canUse 27 = .ok (.getfield 32, 3) := by decide +kernel
theorem dX3_canUse_30 : decode cX3_canUse 30 = .ok (.if_icmp .lt 7, 3) := by decide +kernel
theorem dX3_canUse_33 : decode cX3_canUse 33 = .ok (.iconst 1, 1) := by decide +kernel
theorem dX3_canUse_34 : decode cX3_canUse 34 = .ok (.goto 4, 3) := by decide +kernel
theorem dX3_canUse_37 : decode cX3_canUse 37 = .ok (.iconst 0, 1) := by decide +kernel
theorem dX3_canUse_38 : decode cX3_canUse 38 = .ok (.ireturn, 1) := by decide +kernel
theorem dX3_countThere_0 : decode cX3_countThere 0 = .ok (.aload_n 0, 1) := by decide +kernel
theorem dX3_countThere_1 : decode cX3_countThere 1 = .ok (.invokevirtual 60, 3) := by decide +kernel
theorem dX3_countThere_4 : decode cX3_countThere 4 = .ok (.aload_n 0, 1) := by decide +kernel
theorem dX3_countThere_5 : decode cX3_countThere 5 = .ok (.getfield 41, 3) := by decide +kernel
theorem dX3_countThere_8 : decode cX3_countThere 8 = .ok (.invokestatic 93, 3) := by decide +kernel
theorem dX3_countThere_11 : decode cX3_countThere 11 = .ok (.isub, 1) := by decide +kernel
theorem dX3_countThere_12 : decode cX3_countThere 12 = .ok (.ireturn, 1) := by decide +kernel
theorem dX3_countUsable_0 : decode cX3_countUsable 0 = .ok (.iconst 0, 1) := by decide +kernel
theorem dX3_countUsable_1 : decode cX3_countUsable 1 = .ok (.istore_n 1, 1) := by decide +kernel
theorem dX3_countUsable_2 : decode cX3_countUsable 2 = .ok (.iconst 0, 1) := by decide +kernel
theorem dX3_countUsable_3 : decode cX3_countUsable 3 = .ok (.istore_n 2, 1) := by decide +kernel
theorem dX3_countUsable_4 : decode cX3_countUsable 4 = .ok (.iload_n 2, 1) := by decide +kernel
theorem dX3_countUsable_5 : decode cX3_countUsable 5 = .ok (.bipush 96, 2) := by decide +kernel
theorem dX3_countUsable_7 : decode cX3_countUsable 7 = .ok (.if_icmp .ge 20, 3) := by decide +kernel
theorem dX3_countUsable_10 : decode cX3_countUsable 10 = .ok (.aload_n 0, 1) := by decide +kernel
theorem dX3_countUsable_11 : decode cX3_countUsable 11 = .ok (.iload_n 2, 1) := by decide +kernel
theorem dX3_countUsable_12 : decode cX3_countUsable 12 = .ok (.invokevirtual 99, 3) := by decide +kernel
theorem dX3_countUsable_15 : decode cX3_countUsable 15 = .ok (.ifCond .eq 6, 3) := by decide +kernel
theorem dX3_countUsable_18 : decode cX3_countUsable 18 = .ok (.iinc 1 1, 3) := by decide +kernel
theorem dX3_countUsable_21 : decode cX3_countUsable 21 = .ok (.iinc 2 1, 3) := by decide +kernel
theorem dX3_countUsable_24 : decode cX3_countUsable 24 = .ok (.goto (-20), 3) := by decide +kernel
theorem dX3_countUsable_27 : decode cX3_countUsable 27 = .ok (.iload_n 1, 1) := by decide +kernel
theorem dX3_countUsable_28 : decode cX3_countUsable 28 = .ok (.ireturn, 1) := by decide +kernel
theorem dX3_countUsableOf_0 : decode cX3_countUsableOf 0 = .ok (.iconst 0, 1) := by decide +kernel
theorem dX3_countUsableOf_1 : decode cX3_countUsableOf 1 = .ok (.istore_n 2, 1) := by decide +kernel
theorem dX3_countUsableOf_2 : decode cX3_countUsableOf 2 = .ok (.iconst 0, 1) := by decide +kernel
theorem dX3_countUsableOf_3 : decode cX3_countUsableOf 3 = .ok (.istore_n 3, 1) := by decide +kernel
theorem dX3_countUsableOf_4 : decode cX3_countUsableOf 4 = .ok (.iload_n 3, 1) := by decide +kernel
theorem dX3_countUsableOf_5 : decode cX3_countUsableOf 5 = .ok (.bipush 96, 2) := by decide +kernel
theorem dX3_countUsableOf_7 : decode cX3_countUsableOf 7 = .ok (.if_icmp .ge 29, 3) := by decide +kernel
theorem dX3_countUsableOf_10 : decode cX3_countUsableOf 10 = .ok (.aload_n 0, 1) := by decide +kernel
theorem dX3_countUsableOf_11 : decode cX3_countUsableOf 11 = .ok (.iload_n 3, 1) := by decide +kernel
theorem dX3_countUsableOf_12 : decode cX3_countUsableOf 12 = .ok (.invokevirtual 81, 3) := by decide +kernel
theorem dX3_countUsableOf_15 : decode cX3_countUsableOf 15 = .ok (.iload_n 1, 1) := by decide +kernel
theorem dX3_countUsableOf_16 : decode cX3_countUsableOf 16 = .ok (.if_icmp .ne 14, 3) := by decide +kernel
theorem dX3_countUsableOf_19 : decode cX3_countUsableOf 19 = .ok (.aload_n 0, 1) := by decide +kernel
theorem dX3_countUsableOf_20 : decode cX3_countUsableOf 20 = .ok (.iload_n 3, 1) := by decide +kernel
theorem dX3_countUsableOf_21 : decode cX3_countUsableOf 21 = .ok (.invokevirtual 99, 3) := by decide +kernel
theorem dX3_countUsableOf_24 : decode cX3_countUsableOf 24 = .ok (.ifCond .eq 6, 3) := by decide +kernel
theorem dX3_countUsableOf_27 : decode cX3_countUsableOf 27 = .ok (.iinc 2 1, 3) := by decide +kernel
theorem dX3_countUsableOf_30 : decode cX3_countUsableOf 30 = .ok (.iinc 3 1, 3) := by decide +kernel
theorem dX3_countUsableOf_33 : decode cX3_countUsableOf 33 = .ok (.goto (-29), 3) := by decide +kernel
theorem dX3_countUsableOf_36 : decode cX3_countUsableOf 36 = .ok (.iload_n 2, 1) := by decide +kernel
theorem dX3_countUsableOf_37 : decode cX3_countUsableOf 37 = .ok (.ireturn, 1) := by decide +kernel
theorem dX3_cellsWith_0 : decode cX3_cellsWith 0 = .ok (.lconst 0, 1) := by decide +kernel
theorem dX3_cellsWith_1 : decode cX3_cellsWith 1 = .ok (.lstore_n 2, 1) := by decide +kernel
theorem dX3_cellsWith_2 : decode cX3_cellsWith 2 = .ok (.iconst 0, 1) := by decide +kernel
theorem dX3_cellsWith_3 : decode cX3_cellsWith 3 = .ok (.istore 4, 2) := by decide +kernel
theorem dX3_cellsWith_5 : decode cX3_cellsWith 5 = .ok (.iload 4, 2) := by decide +kernel
theorem dX3_cellsWith_7 : decode cX3_cellsWith 7 = .ok (.bipush 96, 2) := by decide +kernel
theorem dX3_cellsWith_9 : decode cX3_cellsWith 9 = .ok (.if_icmp .ge 39, 3) := by decide +kernel
theorem dX3_cellsWith_12 : decode cX3_cellsWith 12 = .ok (.aload_n 0, 1) := by decide +kernel
theorem dX3_cellsWith_13 : decode cX3_cellsWith 13 = .ok (.iload 4, 2) := by decide +kernel
theorem dX3_cellsWith_15 : decode cX3_cellsWith 15 = .ok (.invokevirtual 81, 3) := by decide +kernel
theorem dX3_cellsWith_18 : decode cX3_cellsWith 18 = .ok (.iload_n 1, 1) := by decide +kernel
theorem dX3_cellsWith_19 : decode cX3_cellsWith 19 = .ok (.if_icmp .ne 23, 3) := by decide +kernel
theorem dX3_cellsWith_22 : decode cX3_cellsWith 22 = .ok (.aload_n 0, 1) := by decide +kernel
theorem dX3_cellsWith_23 : decode cX3_cellsWith 23 = .ok (.iload 4, 2) := by decide +kernel
theorem dX3_cellsWith_25 : decode cX3_cellsWith 25 = .ok (.invokevirtual 99, 3) := by decide +kernel
theorem dX3_cellsWith_28 : decode cX3_cellsWith 28 = .ok (.ifCond .eq 14, 3) := by decide +kernel
theorem dX3_cellsWith_31 : decode cX3_cellsWith 31 = .ok (.lload_n 2, 1) := by decide +kernel
theorem dX3_cellsWith_32 : decode cX3_cellsWith 32 = .ok (.lconst 1, 1) := by decide +kernel
theorem dX3_cellsWith_33 : decode cX3_cellsWith 33 = .ok (.aload_n 0, 1) := by decide +kernel
theorem dX3_cellsWith_34 : decode cX3_cellsWith 34 = .ok (.iload 4, 2) := by decide +kernel
theorem dX3_cellsWith_36 : decode cX3_cellsWith 36 = .ok (.invokevirtual 84, 3) := by decide +kernel
theorem dX3_cellsWith_39 : decode cX3_cellsWith 39 = .ok (.lshl, 1) := by decide +kernel
theorem dX3_cellsWith_40 : decode cX3_cellsWith 40 = .ok (.lor, 1) := by decide +kernel
theorem dX3_cellsWith_41 : decode cX3_cellsWith 41 = .ok (.lstore_n 2, 1) := by decide +kernel
theorem dX3_cellsWith_42 : decode cX3_cellsWith 42 = .ok (.iinc 4 1, 3) := by decide +kernel
theorem dX3_cellsWith_45 : decode cX3_cellsWith 45 = .ok (.goto (-40), 3) := by decide +kernel
theorem dX3_cellsWith_48 : decode cX3_cellsWith 48 = .ok (.lload_n 2, 1) := by decide +kernel
theorem dX3_cellsWith_49 : decode cX3_cellsWith 49 = .ok (.lreturn, 1) := by decide +kernel
theorem dX3_hasMessageLetter_0 : decode cX3_hasMessageLetter 0 = .ok (.iload_n 1, 1) := by decide +kernel
theorem dX3_hasMessageLetter_1 : decode cX3_hasMessageLetter 1 = .ok (.ifCond .lt 21, 3) := by decide +kernel
theorem dX3_hasMessageLetter_4 : decode cX3_hasMessageLetter 4 = .ok (.iload_n 1, 1) := by decide +kernel
theorem dX3_hasMessageLetter_5 : decode cX3_hasMessageLetter 5 = .ok (.aload_n 0, 1) := by decide +kernel
theorem dX3_hasMessageLetter_6 : decode cX3_hasMessageLetter 6 = .ok (.getfield 45, 3) := by decide +kernel
theorem dX3_hasMessageLetter_9 : decode cX3_hasMessageLetter 9 = .ok (.if_icmp .ge 13, 3) := by decide +kernel
theorem dX3_hasMessageLetter_12 : decode cX3_hasMessageLetter 12 = .ok (.iload_n 1, 1) := by decide +kernel
theorem dX3_hasMessageLetter_13 : decode cX3_hasMessageLetter 13 = .ok (.bipush 24, 2) := by decide +kernel
theorem dX3_hasMessageLetter_15 : decode cX3_hasMessageLetter 15 = .ok (.if_icmp .ge 7, 3) := by decide +kernel
theorem dX3_hasMessageLetter_18 : decode cX3_hasMessageLetter 18 = .ok (.iconst 1, 1) := by decide +kernel
theorem dX3_hasMessageLetter_19 : decode cX3_hasMessageLetter 19 = .ok (.goto 4, 3) := by decide +kernel
theorem dX3_hasMessageLetter_22 : decode cX3_hasMessageLetter 22 = .ok (.iconst 0, 1) := by decide +kernel
theorem dX3_hasMessageLetter_23 : decode cX3_hasMessageLetter 23 = .ok (.ireturn, 1) := by decide +kernel
theorem dX3_messageAt_0 : decode cX3_messageAt 0 = .ok (.aload_n 0, 1) := by decide +kernel
theorem dX3_messageAt_1 : decode cX3_messageAt 1 = .ok (.iload_n 1, 1) := by decide +kernel
theorem dX3_messageAt_2 : decode cX3_messageAt 2 = .ok (.invokevirtual 102, 3) := by decide +kernel
theorem dX3_messageAt_5 : decode cX3_messageAt 5 = .ok (.ifCond .eq 12, 3) := by decide +kernel
theorem dX3_messageAt_8 : decode cX3_messageAt 8 = .ok (.aload_n 0, 1) := by decide +kernel
theorem dX3_messageAt_9 : decode cX3_messageAt 9 = .ok (.getfield 18, 3) := by decide +kernel
theorem dX3_messageAt_12 : decode cX3_messageAt 12 = .ok (.iload_n 1, 1) := by decide +kernel
theorem dX3_messageAt_13 : decode cX3_messageAt 13 = .ok (.iaload, 1) := by decide +kernel
theorem dX3_messageAt_14 : decode cX3_messageAt 14 = .ok (.goto 4, 3) := by decide +kernel
theorem dX3_messageAt_17 : decode cX3_messageAt 17 = .ok (.iconst (-1), 1) := by decide +kernel
theorem dX3_messageAt_18 : decode cX3_messageAt 18 = .ok (.ireturn, 1) := by decide +kernel
theorem dX3_countInMessage_0 : decode cX3_countInMessage 0 = .ok (.iconst 0, 1) := by decide +kernel
theorem dX3_countInMessage_1 : decode cX3_countInMessage 1 = .ok (.istore_n 2, 1) := by decide +kernel
theorem dX3_countInMessage_2 : decode cX3_countInMessage 2 = .ok (.iconst 0, 1) := by decide +kernel
theorem dX3_countInMessage_3 : decode cX3_countInMessage 3 = .ok (.istore_n 3, 1) := by decide +kernel
theorem dX3_countInMessage_4 : decode cX3_countInMessage 4 = .ok (.iload_n 3, 1) := by decide +kernel
theorem dX3_countInMessage_5 : decode cX3_countInMessage 5 = .ok (.aload_n 0, 1) := by decide +kernel
theorem dX3_countInMessage_6 : decode cX3_countInMessage 6 = .ok (.getfield 45, 3) := by decide +kernel
theorem dX3_countInMessage_9 : decode cX3_countInMessage 9 = .ok (.if_icmp .ge 21, 3) := by decide +kernel
theorem dX3_countInMessage_12 : decode cX3_countInMessage 12 = .ok (.aload_n 0, 1) := by decide +kernel
theorem dX3_countInMessage_13 : decode cX3_countInMessage 13 = .ok (.iload_n 3, 1) := by decide +kernel
theorem dX3_countInMessage_14 : decode cX3_countInMessage 14 = .ok (.invokevirtual 105, 3) := by decide +kernel
theorem dX3_countInMessage_17 : decode cX3_countInMessage 17 = .ok (.iload_n 1, 1) := by decide +kernel
theorem dX3_countInMessage_18 : decode cX3_countInMessage 18 = .ok (.if_icmp .ne 6, 3) := by decide +kernel
theorem dX3_countInMessage_21 : decode cX3_countInMessage 21 = .ok (.iinc 2 1, 3) := by decide +kernel
theorem dX3_countInMessage_24 : decode cX3_countInMessage 24 = .ok (.iinc 3 1, 3) := by decide +kernel
theorem dX3_countInMessage_27 : decode cX3_countInMessage 27 = .ok (.goto (-23), 3) := by decide +kernel
theorem dX3_countInMessage_30 : decode cX3_countInMessage 30 = .ok (.iload_n 2, 1) := by decide +kernel
theorem dX3_countInMessage_31 : decode cX3_countInMessage 31 = .ok (.ireturn, 1) := by decide +kernel
theorem dX3_isStrip_0 : decode cX3_isStrip 0 = .ok (.iload_n 1, 1) := by decide +kernel
theorem dX3_isStrip_1 : decode cX3_isStrip 1 = .ok (.invokestatic 68, 3) := by decide +kernel
theorem dX3_isStrip_4 : decode cX3_isStrip 4 = .ok (.iload_n 2, 1) := by decide +kernel
theorem dX3_isStrip_5 : decode cX3_isStrip 5 = .ok (.iadd, 1) := by decide +kernel
theorem dX3_isStrip_6 : decode cX3_isStrip 6 = .ok (.aload_n 0, 1) := by decide +kernel
theorem dX3_isStrip_7 : decode cX3_isStrip 7 = .ok (.getfield 25, 3) := by decide +kernel
theorem dX3_isStrip_10 : decode cX3_isStrip 10 = .ok (.if_icmp .le 5, 3) := by decide +kernel
theorem dX3_isStrip_13 : decode cX3_isStrip 13 = .ok (.iconst 0, 1) := by decide +kernel
theorem dX3_isStrip_14 : decode cX3_isStrip 14 = .ok (.ireturn, 1) := by decide +kernel
theorem dX3_isStrip_15 : decode cX3_isStrip 15 = .ok (.iconst 0, 1) := by decide +kernel
theorem dX3_isStrip_16 : decode cX3_isStrip 16 = .ok (.istore_n 3, 1) := by decide +kernel
theorem dX3_isStrip_17 : decode cX3_isStrip 17 = .ok (.iload_n 3, 1) := by decide +kernel
theorem dX3_isStrip_18 : decode cX3_isStrip 18 = .ok (.iload_n 2, 1) := by decide +kernel
theorem dX3_isStrip_19 : decode cX3_isStrip 19 = .ok (.if_icmp .ge 21, 3) := by decide +kernel
theorem dX3_isStrip_22 : decode cX3_isStrip 22 = .ok (.aload_n 0, 1) := by decide +kernel
theorem dX3_isStrip_23 : decode cX3_isStrip 23 = .ok (.iload_n 1, 1) := by decide +kernel
theorem dX3_isStrip_24 : decode cX3_isStrip 24 = .ok (.iload_n 3, 1) := by decide +kernel
theorem dX3_isStrip_25 : decode cX3_isStrip 25 = .ok (.iadd, 1) := by decide +kernel
theorem dX3_isStrip_26 : decode cX3_isStrip 26 = .ok (.invokevirtual 99, 3) := by decide +kernel
theorem dX3_isStrip_29 : decode cX3_isStrip 29 = .ok (.ifCond .ne 5, 3) := by decide +kernel
theorem dX3_isStrip_32 : decode cX3_isStrip 32 = .ok (.iconst 0, 1) := by decide +kernel
theorem dX3_isStrip_33 : decode cX3_isStrip 33 = .ok (.ireturn, 1) := by decide +kernel
theorem dX3_isStrip_34 : decode cX3_isStrip 34 = .ok (.iinc 3 1, 3) := by decide +kernel
theorem dX3_isStrip_37 : decode cX3_isStrip 37 = .ok (.goto (-20), 3) := by decide +kernel
theorem dX3_isStrip_40 : decode cX3_isStrip 40 = .ok (.iconst 1, 1) := by decide +kernel
theorem dX3_isStrip_41 : decode cX3_isStrip 41 = .ok (.ireturn, 1) := by decide +kernel
theorem dX3_cellsOfStrip_0 : decode cX3_cellsOfStrip 0 = .ok (.lconst 0, 1) := by decide +kernel
theorem dX3_cellsOfStrip_1 : decode cX3_cellsOfStrip 1 = .ok (.lstore_n 3, 1) := by decide +kernel
theorem dX3_cellsOfStrip_2 : decode cX3_cellsOfStrip 2 = .ok (.iconst 0, 1) := by decide +kernel
theorem dX3_cellsOfStrip_3 : decode cX3_cellsOfStrip 3 = .ok (.istore 5, 2) := by decide +kernel
theorem dX3_cellsOfStrip_5 : decode cX3_cellsOfStrip 5 = .ok (.iload 5, 2) := by decide +kernel
theorem dX3_cellsOfStrip_7 : decode cX3_cellsOfStrip 7 = .ok (.iload_n 2, 1) := by decide +kernel
theorem dX3_cellsOfStrip_8 : decode cX3_cellsOfStrip 8 = .ok (.if_icmp .ge 22, 3) := by decide +kernel
theorem dX3_cellsOfStrip_11 : decode cX3_cellsOfStrip 11 = .ok (.lload_n 3, 1) := by decide +kernel
theorem dX3_cellsOfStrip_12 : decode cX3_cellsOfStrip 12 = .ok (.lconst 1, 1) := by decide +kernel
theorem dX3_cellsOfStrip_13 : decode cX3_cellsOfStrip 13 = .ok (.aload_n 0, 1) := by decide +kernel
theorem dX3_cellsOfStrip_14 : decode cX3_cellsOfStrip 14 = .ok (.iload_n 1, 1) := by decide +kernel
theorem dX3_cellsOfStrip_15 : decode cX3_cellsOfStrip 15 = .ok (.iload 5, 2) := by decide +kernel
theorem dX3_cellsOfStrip_17 : decode cX3_cellsOfStrip 17 = .ok (.iadd, 1) := by decide +kernel
theorem dX3_cellsOfStrip_18 : decode cX3_cellsOfStrip 18 = .ok (.invokevirtual 84, 3) := by decide +kernel
theorem dX3_cellsOfStrip_21 : decode cX3_cellsOfStrip 21 = .ok (.lshl, 1) := by decide +kernel
theorem dX3_cellsOfStrip_22 : decode cX3_cellsOfStrip 22 = .ok (.lor, 1) := by decide +kernel
theorem dX3_cellsOfStrip_23 : decode cX3_cellsOfStrip 23 = .ok (.lstore_n 3, 1) := by decide +kernel
theorem dX3_cellsOfStrip_24 : decode cX3_cellsOfStrip 24 = .ok (.iinc 5 1, 3) := by decide +kernel
theorem dX3_cellsOfStrip_27 : decode cX3_cellsOfStrip 27 = .ok (.goto (-22), 3) := by decide +kernel
theorem dX3_cellsOfStrip_30 : decode cX3_cellsOfStrip 30 = .ok (.lload_n 3, 1) := by decide +kernel
theorem dX3_cellsOfStrip_31 : decode cX3_cellsOfStrip 31 = .ok (.lreturn, 1) := by decide +kernel
theorem dX3_lettersFrom_0 : decode cX3_lettersFrom 0 = .ok (.aload_n 0, 1) := by decide +kernel
theorem dX3_lettersFrom_1 : decode cX3_lettersFrom 1 = .ok (.getfield 25, 3) := by decide +kernel
theorem dX3_lettersFrom_4 : decode cX3_lettersFrom 4 = .ok (.iload_n 1, 1) := by decide +kernel
theorem dX3_lettersFrom_5 : decode cX3_lettersFrom 5 = .ok (.invokestatic 68, 3) := by decide +kernel
theorem dX3_lettersFrom_8 : decode cX3_lettersFrom 8 = .ok (.isub, 1) := by decide +kernel
theorem dX3_lettersFrom_9 : decode cX3_lettersFrom 9 = .ok (.istore_n 3, 1) := by decide +kernel
theorem dX3_lettersFrom_10 : decode cX3_lettersFrom 10 = .ok (.iconst 0, 1) := by decide +kernel
theorem dX3_lettersFrom_11 : decode cX3_lettersFrom 11 = .ok (.istore 4, 2) := by decide +kernel
theorem dX3_lettersFrom_13 : decode cX3_lettersFrom 13 = .ok (.iload 4, 2) := by decide +kernel
theorem dX3_lettersFrom_15 : decode cX3_lettersFrom 15 = .ok (.iload_n 3, 1) := by decide +kernel
theorem dX3_lettersFrom_16 : decode cX3_lettersFrom 16 = .ok (.if_icmp .ge 39, 3) := by decide +kernel
theorem dX3_lettersFrom_19 : decode cX3_lettersFrom 19 = .ok (.aload_n 0, 1) := by decide +kernel
theorem dX3_lettersFrom_20 : decode cX3_lettersFrom 20 = .ok (.iload_n 1, 1) := by decide +kernel
theorem dX3_lettersFrom_21 : decode cX3_lettersFrom 21 = .ok (.iload 4, 2) := by decide +kernel
theorem dX3_lettersFrom_23 : decode cX3_lettersFrom 23 = .ok (.iadd, 1) := by decide +kernel
theorem dX3_lettersFrom_24 : decode cX3_lettersFrom 24 = .ok (.invokevirtual 81, 3) := by decide +kernel
theorem dX3_lettersFrom_27 : decode cX3_lettersFrom 27 = .ok (.aload_n 0, 1) := by decide +kernel
theorem dX3_lettersFrom_28 : decode cX3_lettersFrom 28 = .ok (.iload_n 2, 1) := by decide +kernel
theorem dX3_lettersFrom_29 : decode cX3_lettersFrom 29 = .ok (.iload 4, 2) := by decide +kernel
theorem dX3_lettersFrom_31 : decode cX3_lettersFrom 31 = .ok (.iadd, 1) := by decide +kernel
theorem dX3_lettersFrom_32 : decode cX3_lettersFrom 32 = .ok (.invokevirtual 105, 3) := by decide +kernel
theorem dX3_lettersFrom_35 : decode cX3_lettersFrom 35 = .ok (.if_icmp .ne 20, 3) := by decide +kernel
theorem dX3_lettersFrom_38 : decode cX3_lettersFrom 38 = .ok (.aload_n 0, 1) := by decide +kernel
theorem dX3_lettersFrom_39 : decode cX3_lettersFrom 39 = .ok (.iload_n 1, 1) := by decide +kernel
theorem dX3_lettersFrom_40 : decode cX3_lettersFrom 40 = .ok (.iload 4, 2) := by decide +kernel
theorem dX3_lettersFrom_42 : decode cX3_lettersFrom 42 = .ok (.iadd, 1) := by decide +kernel
theorem dX3_lettersFrom_43 : decode cX3_lettersFrom 43 = .ok (.invokevirtual 99, 3) := by decide +kernel
theorem dX3_lettersFrom_46 : decode cX3_lettersFrom 46 = .ok (.ifCond .eq 9, 3) := by decide +kernel
theorem dX3_lettersFrom_49 : decode cX3_lettersFrom 49 = .ok (.iinc 4 1, 3) := by decide +kernel
theorem dX3_lettersFrom_52 : decode cX3_lettersFrom 52 = .ok (.goto (-39), 3) := by decide +kernel
theorem dX3_lettersFrom_55 : decode cX3_lettersFrom 55 = .ok (.iload 4, 2) := by decide +kernel
theorem dX3_lettersFrom_57 : decode cX3_lettersFrom 57 = .ok (.ireturn, 1) := by decide +kernel
theorem dX3_take_0 : decode cX3_take 0 = .ok (.aload_n 0, 1) := by decide +kernel
theorem dX3_take_1 : decode cX3_take 1 = .ok (.dup, 1) := by decide +kernel
theorem dX3_take_2 : decode cX3_take 2 = .ok (.getfield 41, 3) := by decide +kernel
theorem dX3_take_5 : decode cX3_take 5 = .ok (.lload_n 1, 1) := by decide +kernel
theorem dX3_take_6 : decode cX3_take 6 = .ok (.lor, 1) := by decide +kernel
theorem dX3_take_7 : decode cX3_take 7 = .ok (.putfield 41, 3) := by decide +kernel
theorem dX3_take_10 : decode cX3_take 10 = .ok (.aload_n 0, 1) := by decide +kernel
theorem dX3_take_11 : decode cX3_take 11 = .ok (.dup, 1) := by decide +kernel
theorem dX3_take_12 : decode cX3_take 12 = .ok (.getfield 48, 3) := by decide +kernel
theorem dX3_take_15 : decode cX3_take 15 = .ok (.iload_n 3, 1) := by decide +kernel
theorem dX3_take_16 : decode cX3_take 16 = .ok (.iadd, 1) := by decide +kernel
theorem dX3_take_17 : decode cX3_take 17 = .ok (.putfield 48, 3) := by decide +kernel
theorem dX3_take_20 : decode cX3_take 20 = .ok (.aload_n 0, 1) := by decide +kernel
theorem dX3_take_21 : decode cX3_take 21 = .ok (.dup, 1) := by decide +kernel
theorem dX3_take_22 : decode cX3_take 22 = .ok (.getfield 51, 3) := by decide +kernel
theorem dX3_take_25 : decode cX3_take 25 = .ok (.lload_n 1, 1) := by decide +kernel
theorem dX3_take_26 : decode cX3_take 26 = .ok (.invokestatic 93, 3) := by decide +kernel
theorem dX3_take_29 : decode cX3_take 29 = .ok (.iadd, 1) := by decide +kernel
theorem dX3_take_30 : decode cX3_take 30 = .ok (.putfield 51, 3) := by decide +kernel
theorem dX3_take_33 : decode cX3_take 33 = .ok (.return_, 1) := by decide +kernel
theorem dX4_init_0 : decode cX4_init 0 = .ok (.aload_n 0, 1) := by decide +kernel
theorem dX4_init_1 : decode cX4_init 1 = .ok (.invokespecial 3, 3) := by decide +kernel
theorem dX4_init_4 : decode cX4_init 4 = .ok (.aload_n 0, 1) := by decide +kernel
theorem dX4_init_5 : decode cX4_init 5 = .ok (.sipush 400, 3) := by decide +kernel
theorem dX4_init_8 : decode cX4_init 8 = .ok (.newarray .byte, 2) := by decide +kernel
theorem dX4_init_10 : decode cX4_init 10 = .ok (.putfield 9, 3) := by decide +kernel
theorem dX4_init_13 : decode cX4_init 13 = .ok (.aload_n 0, 1) := by decide +kernel
theorem dX4_init_14 : decode cX4_init 14 = .ok (.iconst 0, 1) := by decide +kernel
theorem dX4_init_15 : decode cX4_init 15 = .ok (.putfield 13, 3) := by decide +kernel
theorem dX4_init_18 : decode cX4_init 18 = .ok (.aload_n 0, 1) := by decide +kernel
theorem dX4_init_19 : decode cX4_init 19 = .ok (.iconst (-1), 1) := by decide +kernel
theorem dX4_init_20 : decode cX4_init 20 = .ok (.putfield 17, 3) := by decide +kernel
theorem dX4_init_23 : decode cX4_init 23 = .ok (.aload_n 0, 1) := by decide +kernel
theorem dX4_init_24 : decode cX4_init 24 = .ok (.new 20, 3) := by decide +kernel
theorem dX4_init_27 : decode cX4_init 27 = .ok (.dup, 1) := by decide +kernel
theorem dX4_init_28 : decode cX4_init 28 = .ok (.invokespecial 22, 3) := by decide +kernel
theorem dX4_init_31 : decode cX4_init 31 = .ok (.putfield 23, 3) := by decide +kernel
theorem dX4_init_34 : decode cX4_init 34 = .ok (.aload_n 0, 1) := by decide +kernel
theorem dX4_init_35 : decode cX4_init 35 = .ok (.bipush 8, 2) := by decide +kernel
theorem dX4_init_37 : decode cX4_init 37 = .ok (.anewarray 20, 3) := by decide +kernel
theorem dX4_init_40 : decode cX4_init 40 = .ok (.putfield 27, 3) := by decide +kernel
theorem dX4_init_43 : decode cX4_init 43 = .ok (.aload_n 0, 1) := by decide +kernel
theorem dX4_init_44 : decode cX4_init 44 = .ok (.iconst 0, 1) := by decide +kernel
theorem dX4_init_45 : decode cX4_init 45 = .ok (.putfield 31, 3) := by decide +kernel
theorem dX4_init_48 : decode cX4_init 48 = .ok (.aload_n 0, 1) := by decide +kernel
theorem dX4_init_49 : decode cX4_init 49 = .ok (.new 34, 3) := by decide +kernel
theorem dX4_init_52 : decode cX4_init 52 = .ok (.dup, 1) := by decide +kernel
theorem dX4_init_53 : decode cX4_init 53 = .ok (.invokespecial 36, 3) := by decide +kernel
theorem dX4_init_56 : decode cX4_init 56 = .ok (.putfield 37, 3) := by decide +kernel
theorem dX4_init_59 : decode cX4_init 59 = .ok (.aload_n 0, 1) := by decide +kernel
theorem dX4_init_60 : decode cX4_init 60 = .ok (.new 41, 3) := by decide +kernel
theorem dX4_init_63 : decode cX4_init 63 = .ok (.dup, 1) := by decide +kernel
theorem dX4_init_64 : decode cX4_init 64 = .ok (.invokespecial 43, 3) := by decide +kernel
theorem dX4_init_67 : decode cX4_init 67 = .ok (.putfield 44, 3) := by decide +kernel
theorem dX4_init_70 : decode cX4_init 70 = .ok (.aload_n 0, 1) := by decide +kernel
theorem dX4_init_71 : decode cX4_init 71 = .ok (.new 48, 3) := by decide +kernel
theorem dX4_init_74 : decode cX4_init 74 = .ok (.dup, 1) := by decide +kernel
theorem dX4_init_75 : decode cX4_init 75 = .ok (.invokespecial 50, 3) := by decide +kernel
theorem dX4_init_78 : decode cX4_init 78 = .ok (.putfield 51, 3) := by decide +kernel
theorem dX4_init_81 : decode cX4_init 81 = .ok (.aload_n 0, 1) := by decide +kernel
theorem dX4_init_82 : decode cX4_init 82 = .ok (.iconst 0, 1) := by decide +kernel
theorem dX4_init_83 : decode cX4_init 83 = .ok (.putfield 55, 3) := by decide +kernel
theorem dX4_init_86 : decode cX4_init 86 = .ok (.iconst 0, 1) := by decide +kernel
theorem dX4_init_87 : decode cX4_init 87 = .ok (.istore_n 1, 1) := by decide +kernel
theorem dX4_init_88 : decode cX4_init 88 = .ok (.iload_n 1, 1) := by decide +kernel
theorem dX4_init_89 : decode cX4_init 89 = .ok (.bipush 8, 2) := by decide +kernel
theorem dX4_init_91 : decode cX4_init 91 = .ok (.if_icmp .ge 22, 3) := by decide +kernel
theorem dX4_init_94 : decode cX4_init 94 = .ok (.aload_n 0, 1) := by decide +kernel
theorem dX4_init_95 : decode cX4_init 95 = .ok (.getfield 27, 3) := by decide +kernel
theorem dX4_init_98 : decode cX4_init 98 = .ok (.iload_n 1, 1) := by decide +kernel
theorem dX4_init_99 : decode cX4_init 99 = .ok (.new 20, 3) := by decide +kernel
theorem dX4_init_102 : decode cX4_init 102 = .ok (.dup, 1) := by decide +kernel
theorem dX4_init_103 : decode cX4_init 103 = .ok (.invokespecial 22, 3) := by decide +kernel
theorem dX4_init_106 : decode cX4_init 106 = .ok (.aastore, 1) := by decide +kernel
theorem dX4_init_107 : decode cX4_init 107 = .ok (.iinc 1 1, 3) := by decide +kernel
theorem dX4_init_110 : decode cX4_init 110 = .ok (.goto (-22), 3) := by decide +kernel
theorem dX4_init_113 : decode cX4_init 113 = .ok (.return_, 1) := by decide +kernel
theorem dX4_append_0 : decode cX4_append 0 = .ok (.aload_n 0, 1) := by decide +kernel
theorem dX4_append_1 : decode cX4_append 1 = .ok (.getfield 13, 3) := by decide +kernel
theorem dX4_append_4 : decode cX4_append 4 = .ok (.bipush 20, 2) := by decide +kernel
theorem dX4_append_6 : decode cX4_append 6 = .ok (.iadd, 1) := by decide +kernel
theorem dX4_append_7 : decode cX4_append 7 = .ok (.sipush 400, 3) := by decide +kernel
theorem dX4_append_10 : decode cX4_append 10 = .ok (.if_icmp .le 5, 3) := by decide +kernel
theorem dX4_append_13 : decode cX4_append 13 = .ok (.iconst (-1), 1) := by decide +kernel
theorem dX4_append_14 : decode cX4_append 14 = .ok (.ireturn, 1) := by decide +kernel
theorem dX4_append_15 : decode cX4_append 15 = .ok (.aload_n 0, 1) := by decide +kernel
theorem dX4_append_16 : decode cX4_append 16 = .ok (.iload_n 1, 1) := by decide +kernel
theorem dX4_append_17 : decode cX4_append 17 = .ok (.invokevirtual 59, 3) := by decide +kernel
theorem dX4_append_20 : decode cX4_append 20 = .ok (.aload_n 0, 1) := by decide +kernel
theorem dX4_append_21 : decode cX4_append 21 = .ok (.iload_n 2, 1) := by decide +kernel
theorem dX4_append_22 : decode cX4_append 22 = .ok (.invokevirtual 59, 3) := by decide +kernel
theorem dX4_append_25 : decode cX4_append 25 = .ok (.aload_n 0, 1) := by decide +kernel
theorem dX4_append_26 : decode cX4_append 26 = .ok (.iload_n 3, 1) := by decide +kernel
theorem dX4_append_27 : decode cX4_append 27 = .ok (.invokevirtual 59, 3) := by decide +kernel
theorem dX4_append_30 : decode cX4_append 30 = .ok (.aload_n 0, 1) := by decide +kernel
theorem dX4_append_31 : decode cX4_append 31 = .ok (.iload 4, 2) := by decide +kernel
theorem dX4_append_33 : decode cX4_append 33 = .ok (.invokevirtual 59, 3) := by decide +kernel
theorem dX4_append_36 : decode cX4_append 36 = .ok (.aload_n 0, 1) := by decide +kernel
theorem dX4_append_37 : decode cX4_append 37 = .ok (.iload 5, 2) := by decide +kernel
theorem dX4_append_39 : decode cX4_append 39 = .ok (.invokevirtual 59, 3) := by decide +kernel
theorem dX4_append_42 : decode cX4_append 42 = .ok (.aload_n 0, 1) := by decide +kernel
theorem dX4_append_43 : decode cX4_append 43 = .ok (.getfield 13, 3) := by decide +kernel
theorem dX4_append_46 : decode cX4_append 46 = .ok (.ireturn, 1) := by decide +kernel
theorem dX4_load_0 : decode cX4_load 0 = .ok (.iload_n 1, 1) := by decide +kernel
theorem dX4_load_1 : decode cX4_load 1 = .ok (.ifCond .lt 11, 3) := by decide +kernel
theorem dX4_load_4 : decode cX4_load 4 = .ok (.iload_n 1, 1) := by decide +kernel
theorem dX4_load_5 : decode cX4_load 5 = .ok (.aload_n 0, 1) := by decide +kernel
theorem dX4_load_6 : decode cX4_load 6 = .ok (.getfield 13, 3) := by decide +kernel
theorem dX4_load_9 : decode cX4_load 9 = .ok (.if_icmp .le 11, 3) := by decide +kernel
theorem dX4_load_12 : decode cX4_load 12 = .ok (.new 63, 3) := by decide +kernel
theorem dX4_load_15 : decode cX4_load 15 = .ok (.dup, 1) := by decide +kernel
theorem dX4_load_16 : decode cX4_load 16 = .ok (.invokespecial 65, 3) := by decide +kernel
theorem dX4_load_19 : decode cX4_load 19 = .ok (.athrow, 1) := by decide +kernel
theorem dX4_load_20 : decode cX4_load 20 = .ok (.aload_n 0, 1) := by decide +kernel
theorem dX4_load_21 : decode cX4_load 21 = .ok (.getfield 37, 3) := by decide +kernel
theorem dX4_load_24 : decode cX4_load 24 = .ok (.aload_n 0, 1) := by decide +kernel
theorem dX4_load_25 : decode cX4_load 25 = .ok (.getfield 9, 3) := by decide +kernel
theorem dX4_load_28 : decode cX4_load 28 = .ok (.iload_n 1, 1) := by decide +kernel
theorem dX4_load_29 : decode cX4_load 29 = .ok (.invokevirtual 66, 3) := by decide +kernel
theorem dX4_load_32 : decode cX4_load 32 = .ok (.istore_n 2, 1) := by decide +kernel
theorem dX4_load_33 : decode cX4_load 33 = .ok (.aload_n 0, 1) := by decide +kernel
theorem dX4_load_34 : decode cX4_load 34 = .ok (.iconst 0, 1) := by decide +kernel
theorem dX4_load_35 : decode cX4_load 35 = .ok (.putfield 13, 3) := by decide +kernel
theorem dX4_load_38 : decode cX4_load 38 = .ok (.aload_n 0, 1) := by decide +kernel
theorem dX4_load_39 : decode cX4_load 39 = .ok (.aload_n 0, 1) := by decide +kernel
theorem dX4_load_40 : decode cX4_load 40 = .ok (.getfield 37, 3) := by decide +kernel
theorem dX4_load_43 : decode cX4_load 43 = .ok (.getfield 70, 3) := by decide +kernel
theorem dX4_load_46 : decode cX4_load 46 = .ok (.putfield 17, 3) := by decide +kernel
theorem dX4_load_49 : decode cX4_load 49 = .ok (.iload_n 2, 1) := by decide +kernel
theorem dX4_load_50 : decode cX4_load 50 = .ok (.ifCond .ge 5, 3) := by decide +kernel
theorem dX4_load_53 : decode cX4_load 53 = .ok (.iload_n 2, 1) := by decide +kernel
theorem dX4_load_54 : decode cX4_load 54 = .ok (.ireturn, 1) := by decide +kernel
theorem dX4_load_55 : decode cX4_load 55 = .ok (.aload_n 0, 1) := by decide +kernel
theorem dX4_load_56 : decode cX4_load 56 = .ok (.invokevirtual 73, 3) := by decide +kernel
theorem dX4_load_59 : decode cX4_load 59 = .ok (.aload_n 0, 1) := by decide +kernel
theorem dX4_load_60 : decode cX4_load 60 = .ok (.getfield 23, 3) := by decide +kernel
theorem dX4_load_63 : decode cX4_load 63 = .ok (.aload_n 0, 1) := by decide +kernel
theorem dX4_load_64 : decode cX4_load 64 = .ok (.getfield 37, 3) := by decide +kernel
theorem dX4_load_67 : decode cX4_load 67 = .ok (.getfield 76, 3) := by decide +kernel
theorem dX4_load_70 : decode cX4_load 70 = .ok (.invokevirtual 79, 3) := by decide +kernel
theorem dX4_load_73 : decode cX4_load 73 = .ok (.aload_n 0, 1) := by decide +kernel
theorem dX4_load_74 : decode cX4_load 74 = .ok (.getfield 23, 3) := by decide +kernel
theorem dX4_load_77 : decode cX4_load 77 = .ok (.invokevirtual 83, 3) := by decide +kernel
theorem dX4_load_80 : decode cX4_load 80 = .ok (.ireturn, 1) := by decide +kernel
theorem dX4_errorOffset_0 : decode cX4_errorOffset 0 = .ok (.aload_n 0, 1) := by decide +kernel
theorem dX4_errorOffset_1 : decode cX4_errorOffset 1 = .ok (.getfield 17, 3) := by decide +kernel
theorem dX4_errorOffset_4 : decode cX4_errorOffset 4 = .ok (.ireturn, 1) := by decide +kernel
theorem dX4_state_0 : decode cX4_state 0 = .ok (.iload_n 1, 1) := by decide +kernel
theorem dX4_state_1 : decode cX4_state 1 = .ok (.tableswitch 111 0 7 #[47, 55, 63, 71, 79, 87, 95, 103], 47) := by decide +kernel
theorem dX4_state_48 : decode cX4_state 48 = .ok (.aload_n 0, 1) := by decide +kernel
theorem dX4_state_49 : decode cX4_state 49 = .ok (.getfield 23, 3) := by decide +kernel
theorem dX4_state_52 : decode cX4_state 52 = .ok (.getfield 87, 3) := by decide +kernel
theorem dX4_state_55 : decode cX4_state 55 = .ok (.ireturn, 1) := by decide +kernel
theorem dX4_state_56 : decode cX4_state 56 = .ok (.aload_n 0, 1) := by decide +kernel
theorem dX4_state_57 : decode cX4_state 57 = .ok (.getfield 23, 3) := by decide +kernel
theorem dX4_state_60 : decode cX4_state 60 = .ok (.getfield 90, 3) := by decide +kernel
theorem dX4_state_63 : decode cX4_state 63 = .ok (.ireturn, 1) := by decide +kernel
theorem dX4_state_64 : decode cX4_state 64 = .ok (.aload_n 0, 1) := by decide +kernel
theorem dX4_state_65 : decode cX4_state 65 = .ok (.getfield 23, 3) := by decide +kernel
theorem dX4_state_68 : decode cX4_state 68 = .ok (.getfield 93, 3) := by decide +kernel
theorem dX4_state_71 : decode cX4_state 71 = .ok (.ireturn, 1) := by decide +kernel
theorem dX4_state_72 : decode cX4_state 72 = .ok (.aload_n 0, 1) := by decide +kernel
theorem dX4_state_73 : decode cX4_state 73 = .ok (.getfield 23, 3) := by decide +kernel
theorem dX4_state_76 : decode cX4_state 76 = .ok (.invokevirtual 96, 3) := by decide +kernel
theorem dX4_state_79 : decode cX4_state 79 = .ok (.ireturn, 1) := by decide +kernel
theorem dX4_state_80 : decode cX4_state 80 = .ok (.aload_n 0, 1) := by decide +kernel
theorem dX4_state_81 : decode cX4_state 81 = .ok (.getfield 23, 3) := by decide +kernel
theorem dX4_state_84 : decode cX4_state 84 = .ok (.getfield 99, 3) := by decide +kernel
theorem dX4_state_87 : decode cX4_state 87 = .ok (.ireturn, 1) := by decide +kernel
theorem dX4_state_88 : decode cX4_state 88 = .ok (.aload_n 0, 1) := by decide +kernel
theorem dX4_state_89 : decode cX4_state 89 = .ok (.getfield 23, 3) := by decide +kernel
theorem dX4_state_92 : decode cX4_state 92 = .ok (.getfield 102, 3) := by decide +kernel
theorem dX4_state_95 : decode cX4_state 95 = .ok (.ireturn, 1) := by decide +kernel
theorem dX4_state_96 : decode cX4_state 96 = .ok (.aload_n 0, 1) := by decide +kernel
theorem dX4_state_97 : decode cX4_state 97 = .ok (.getfield 23, 3) := by decide +kernel
theorem dX4_state_100 : decode cX4_state 100 = .ok (.getfield 105, 3) := by decide +kernel
theorem dX4_state_103 : decode cX4_state 103 = .ok (.ireturn, 1) := by decide +kernel
theorem dX4_state_104 : decode cX4_state 104 = .ok (.aload_n 0, 1) := by decide +kernel
theorem dX4_state_105 : decode cX4_state 105 = .ok (.getfield 23, 3) := by decide +kernel
theorem dX4_state_108 : decode cX4_state 108 = .ok (.invokevirtual 108, 3) := by decide +kernel
theorem dX4_state_111 : decode cX4_state 111 = .ok (.ireturn, 1) := by decide +kernel
theorem dX4_state_112 : decode cX4_state 112 = .ok (.new 63, 3) := by decide +kernel
theorem dX4_state_115 : decode cX4_state 115 = .ok (.dup, 1) := by decide +kernel
theorem dX4_state_116 : decode cX4_state 116 = .ok (.invokespecial 65, 3) := by decide +kernel
theorem dX4_state_119 : decode cX4_state 119 = .ok (.athrow, 1) := by decide +kernel
theorem dX4_letter_0 : decode cX4_letter 0 = .ok (.aload_n 0, 1) := by decide +kernel
theorem dX4_letter_1 : decode cX4_letter 1 = .ok (.getfield 23, 3) := by decide +kernel
theorem dX4_letter_4 : decode cX4_letter 4 = .ok (.iload_n 1, 1) := by decide +kernel
theorem dX4_letter_5 : decode cX4_letter 5 = .ok (.iload_n 2, 1) := by decide +kernel
theorem dX4_letter_6 : decode cX4_letter 6 = .ok (.invokevirtual 111, 3) := by decide +kernel
theorem dX4_letter_9 : decode cX4_letter 9 = .ok (.ifCond .ne 11, 3) := by decide +kernel
theorem dX4_letter_12 : decode cX4_letter 12 = .ok (.new 115, 3) := by decide +kernel
theorem dX4_letter_15 : decode cX4_letter 15 = .ok (.dup, 1) := by decide +kernel
theorem dX4_letter_16 : decode cX4_letter 16 = .ok (.invokespecial 117, 3) := by decide +kernel
theorem dX4_letter_19 : decode cX4_letter 19 = .ok (.athrow, 1) := by decide +kernel
theorem dX4_letter_20 : decode cX4_letter 20 = .ok (.aload_n 0, 1) := by decide +kernel
theorem dX4_letter_21 : decode cX4_letter 21 = .ok (.aload_n 0, 1) := by decide +kernel
theorem dX4_letter_22 : decode cX4_letter 22 = .ok (.getfield 23, 3) := by decide +kernel
theorem dX4_letter_25 : decode cX4_letter 25 = .ok (.iload_n 1, 1) := by decide +kernel
theorem dX4_letter_26 : decode cX4_letter 26 = .ok (.iload_n 2, 1) := by decide +kernel
theorem dX4_letter_27 : decode cX4_letter 27 = .ok (.invokevirtual 118, 3) := by decide +kernel
theorem dX4_letter_30 : decode cX4_letter 30 = .ok (.invokevirtual 122, 3) := by decide +kernel
theorem dX4_letter_33 : decode cX4_letter 33 = .ok (.ireturn, 1) := by decide +kernel
theorem dX4_place_0 : decode cX4_place 0 = .ok (.aload_n 0, 1) := by decide +kernel
theorem dX4_place_1 : decode cX4_place 1 = .ok (.getfield 23, 3) := by decide +kernel
theorem dX4_place_4 : decode cX4_place 4 = .ok (.iload_n 1, 1) := by decide +kernel
theorem dX4_place_5 : decode cX4_place 5 = .ok (.iload_n 2, 1) := by decide +kernel
theorem dX4_place_6 : decode cX4_place 6 = .ok (.invokevirtual 111, 3) := by decide +kernel
theorem dX4_place_9 : decode cX4_place 9 = .ok (.ifCond .ne 11, 3) := by decide +kernel
theorem dX4_place_12 : decode cX4_place 12 = .ok (.new 115, 3) := by decide +kernel
theorem dX4_place_15 : decode cX4_place 15 = .ok (.dup, 1) := by decide +kernel
theorem dX4_place_16 : decode cX4_place 16 = .ok (.invokespecial 117, 3) := by decide +kernel
theorem dX4_place_19 : decode cX4_place 19 = .ok (.athrow, 1) := by decide +kernel
theorem dX4_place_20 : decode cX4_place 20 = .ok (.aload_n 0, 1) := by decide +kernel
theorem dX4_place_21 : decode cX4_place 21 = .ok (.getfield 23, 3) := by decide +kernel
theorem dX4_place_24 : decode cX4_place 24 = .ok (.iload_n 1, 1) := by decide +kernel
theorem dX4_place_25 : decode cX4_place 25 = .ok (.iload_n 2, 1) := by decide +kernel
theorem dX4_place_26 : decode cX4_place 26 = .ok (.invokevirtual 118, 3) := by decide +kernel
theorem dX4_place_29 : decode cX4_place 29 = .ok (.istore 4, 2) := by decide +kernel
theorem dX4_place_31 : decode cX4_place 31 = .ok (.iload_n 3, 1) := by decide +kernel
theorem dX4_place_32 : decode cX4_place 32 = .ok (.tableswitch 115 0 4 #[36, 53, 63, 80, 98], 36) := by decide +kernel
theorem dX4_place_68 : decode cX4_place 68 = .ok (.aload_n 0, 1) := by decide +kernel
theorem dX4_place_69 : decode cX4_place 69 = .ok (.getfield 23, 3) := by decide +kernel
theorem dX4_place_72 : decode cX4_place 72 = .ok (.aload_n 0, 1) := by decide +kernel
theorem dX4_place_73 : decode cX4_place 73 = .ok (.getfield 23, 3) := by decide +kernel
theorem dX4_place_76 : decode cX4_place 76 = .ok (.iload 4, 2) := by decide +kernel
theorem dX4_place_78 : decode cX4_place 78 = .ok (.invokevirtual 126, 3) := by decide +kernel
theorem dX4_place_81 : decode cX4_place 81 = .ok (.invokevirtual 129, 3) := by decide +kernel
theorem dX4_place_84 : decode cX4_place 84 = .ok (.ireturn, 1) := by decide +kernel
theorem dX4_place_85 : decode cX4_place 85 = .ok (.aload_n 0, 1) := by decide +kernel
theorem dX4_place_86 : decode cX4_place 86 = .ok (.getfield 23, 3) := by decide +kernel
theorem dX4_place_89 : decode cX4_place 89 = .ok (.iload 4, 2) := by decide +kernel
theorem dX4_place_91 : decode cX4_place 91 = .ok (.invokevirtual 132, 3) := by decide +kernel
theorem dX4_place_94 : decode cX4_place 94 = .ok (.ireturn, 1) := by decide +kernel
theorem dX4_place_95 : decode cX4_place 95 = .ok (.aload_n 0, 1) := by decide +kernel
theorem dX4_place_96 : decode cX4_place 96 = .ok (.getfield 23, 3) := by decide +kernel
theorem dX4_place_99 : decode cX4_place 99 = .ok (.aload_n 0, 1) := by decide +kernel
theorem dX4_place_100 : decode cX4_place 100 = .ok (.getfield 23, 3) := by decide +kernel
theorem dX4_place_103 : decode cX4_place 103 = .ok (.iload 4, 2) := by decide +kernel
theorem dX4_place_105 : decode cX4_place 105 = .ok (.invokevirtual 135, 3) := by decide +kernel
theorem dX4_place_108 : decode cX4_place 108 = .ok (.invokevirtual 129, 3) := by decide +kernel
theorem dX4_place_111 : decode cX4_place 111 = .ok (.ireturn, 1) := by decide +kernel
theorem dX4_place_112 : decode cX4_place 112 = .ok (.aload_n 0, 1) := by decide +kernel
theorem dX4_place_113 : decode cX4_place 113 = .ok (.getfield 23, 3) := by decide +kernel
theorem dX4_place_116 : decode cX4_place 116 = .ok (.iload 4, 2) := by decide +kernel
theorem dX4_place_118 : decode cX4_place 118 = .ok (.invokevirtual 138, 3) := by decide +kernel
theorem dX4_place_121 : decode cX4_place 121 = .ok (.ifCond .eq 7, 3) := by decide +kernel
theorem dX4_place_124 : decode cX4_place 124 = .ok (.iconst 1, 1) := by decide +kernel
theorem dX4_place_125 : decode cX4_place 125 = .ok (.goto 4, 3) := by decide +kernel
theorem dX4_place_128 : decode cX4_place 128 = .ok (.iconst 0, 1) := by decide +kernel
theorem dX4_place_129 : decode cX4_place 129 = .ok (.ireturn, 1) := by decide +kernel
theorem dX4_place_130 : decode cX4_place 130 = .ok (.aload_n 0, 1) := by decide +kernel
theorem dX4_place_131 : decode cX4_place 131 = .ok (.getfield 23, 3) := by decide +kernel
theorem dX4_place_134 : decode cX4_place 134 = .ok (.aload_n 0, 1) := by decide +kernel
theorem dX4_place_135 : decode cX4_place 135 = .ok (.getfield 23, 3) := by decide +kernel
theorem dX4_place_138 : decode cX4_place 138 = .ok (.iload 4, 2) := by decide +kernel
theorem dX4_place_140 : decode cX4_place 140 = .ok (.invokevirtual 142, 3) := by decide +kernel
theorem dX4_place_143 : decode cX4_place 143 = .ok (.invokevirtual 145, 3) := by decide +kernel
theorem dX4_place_146 : decode cX4_place 146 = .ok (.ireturn, 1) := by decide +kernel
theorem dX4_place_147 : decode cX4_place 147 = .ok (.new 63, 3) := by decide +kernel
theorem dX4_place_150 : decode cX4_place 150 = .ok (.dup, 1) := by decide +kernel
theorem dX4_place_151 : decode cX4_place 151 = .ok (.invokespecial 65, 3) := by decide +kernel
theorem dX4_place_154 : decode cX4_place 154 = .ok (.athrow, 1) := by decide +kernel
theorem dX4_stock_0 : decode cX4_stock 0 = .ok (.iload_n 1, 1) := by decide +kernel
theorem dX4_stock_1 : decode cX4_stock 1 = .ok (.ifCond .lt 9, 3) := by decide +kernel
theorem dX4_stock_4 : decode cX4_stock 4 = .ok (.iload_n 1, 1) := by decide +kernel
theorem dX4_stock_5 : decode cX4_stock 5 = .ok (.bipush 26, 2) := by decide +kernel
theorem dX4_stock_7 : decode cX4_stock 7 = .ok (.if_icmp .lt 11, 3) := by decide +kernel
theorem dX4_stock_10 : decode cX4_stock 10 = .ok (.new 63, 3) := by decide +kernel
theorem dX4_stock_13 : decode cX4_stock 13 = .ok (.dup, 1) := by decide +kernel
theorem dX4_stock_14 : decode cX4_stock 14 = .ok (.invokespecial 65, 3) := by decide +kernel
theorem dX4_stock_17 : decode cX4_stock 17 = .ok (.athrow, 1) := by decide +kernel
theorem dX4_stock_18 : decode cX4_stock 18 = .ok (.iload_n 2, 1) := by decide +kernel
theorem dX4_stock_19 : decode cX4_stock 19 = .ok (.tableswitch 55 0 2 #[25, 34, 46], 25) := by decide +kernel
theorem dX4_stock_44 : decode cX4_stock 44 = .ok (.aload_n 0, 1) := by decide +kernel
theorem dX4_stock_45 : decode cX4_stock 45 = .ok (.getfield 23, 3) := by decide +kernel
theorem dX4_stock_48 : decode cX4_stock 48 = .ok (.iload_n 1, 1) := by decide +kernel
theorem dX4_stock_49 : decode cX4_stock 49 = .ok (.invokevirtual 148, 3) := by decide +kernel
theorem dX4_stock_52 : decode cX4_stock 52 = .ok (.ireturn, 1) := by decide +kernel
theorem dX4_stock_53 : decode cX4_stock 53 = .ok (.aload_n 0, 1) := by decide +kernel
theorem dX4_stock_54 : decode cX4_stock 54 = .ok (.getfield 23, 3) := by decide +kernel
theorem dX4_stock_57 : decode cX4_stock 57 = .ok (.iload_n 1, 1) := by decide +kernel
theorem dX4_stock_58 : decode cX4_stock 58 = .ok (.invokevirtual 151, 3) := by decide +kernel
theorem dX4_stock_61 : decode cX4_stock 61 = .ok (.invokestatic 155, 3) := by decide +kernel
theorem dX4_stock_64 : decode cX4_stock 64 = .ok (.ireturn, 1) := by decide +kernel
theorem dX4_stock_65 : decode cX4_stock 65 = .ok (.aload_n 0, 1) := by decide +kernel
theorem dX4_stock_66 : decode cX4_stock 66 = .ok (.getfield 23, 3) := by decide +kernel
theorem dX4_stock_69 : decode cX4_stock 69 = .ok (.iload_n 1, 1) := by decide +kernel
theorem dX4_stock_70 : decode cX4_stock 70 = .ok (.invokevirtual 145, 3) := by decide +kernel
theorem dX4_stock_73 : decode cX4_stock 73 = .ok (.ireturn, 1) := by decide +kernel
theorem dX4_stock_74 : decode cX4_stock 74 = .ok (.new 63, 3) := by decide +kernel
theorem dX4_stock_77 : decode cX4_stock 77 = .ok (.dup, 1) := by decide +kernel
theorem dX4_stock_78 : decode cX4_stock 78 = .ok (.invokespecial 65, 3) := by decide +kernel
theorem dX4_stock_81 : decode cX4_stock 81 = .ok (.athrow, 1) := by decide +kernel
theorem dX4_message_0 : decode cX4_message 0 = .ok (.aload_n 0, 1) := by decide +kernel
theorem dX4_message_1 : decode cX4_message 1 = .ok (.getfield 23, 3) := by decide +kernel
theorem dX4_message_4 : decode cX4_message 4 = .ok (.iload_n 1, 1) := by decide +kernel
theorem dX4_message_5 : decode cX4_message 5 = .ok (.invokevirtual 161, 3) := by decide +kernel
theorem dX4_message_8 : decode cX4_message 8 = .ok (.ifCond .ne 11, 3) := by decide +kernel
theorem dX4_message_11 : decode cX4_message 11 = .ok (.new 164, 3) := by decide +kernel
theorem dX4_message_14 : decode cX4_message 14 = .ok (.dup, 1) := by decide +kernel
theorem dX4_message_15 : decode cX4_message 15 = .ok (.invokespecial 166, 3) := by decide +kernel
theorem dX4_message_18 : decode cX4_message 18 = .ok (.athrow, 1) := by decide +kernel
theorem dX4_message_19 : decode cX4_message 19 = .ok (.aload_n 0, 1) := by decide +kernel
theorem dX4_message_20 : decode cX4_message 20 = .ok (.getfield 23, 3) := by decide +kernel
theorem dX4_message_23 : decode cX4_message 23 = .ok (.iload_n 1, 1) := by decide +kernel
theorem dX4_message_24 : decode cX4_message 24 = .ok (.invokevirtual 167, 3) := by decide +kernel
theorem dX4_message_27 : decode cX4_message 27 = .ok (.ireturn, 1) := by decide +kernel
theorem dX4_missing_0 : decode cX4_missing 0 = .ok (.iconst 0, 1) := by decide +kernel
theorem dX4_missing_1 : decode cX4_missing 1 = .ok (.istore_n 1, 1) := by decide +kernel
theorem dX4_missing_2 : decode cX4_missing 2 = .ok (.aload_n 0, 1) := by decide +kernel
theorem dX4_missing_3 : decode cX4_missing 3 = .ok (.getfield 44, 3) := by decide +kernel
theorem dX4_missing_6 : decode cX4_missing 6 = .ok (.invokevirtual 170, 3) := by decide +kernel
theorem dX4_missing_9 : decode cX4_missing 9 = .ok (.iconst 0, 1) := by decide +kernel
theorem dX4_missing_10 : decode cX4_missing 10 = .ok (.istore_n 2, 1) := by decide +kernel
theorem dX4_missing_11 : decode cX4_missing 11 = .ok (.iload_n 2, 1) := by decide +kernel
theorem dX4_missing_12 : decode cX4_missing 12 = .ok (.aload_n 0, 1) := by decide +kernel
theorem dX4_missing_13 : decode cX4_missing 13 = .ok (.getfield 23, 3) := by decide +kernel
theorem dX4_missing_16 : decode cX4_missing 16 = .ok (.getfield 99, 3) := by decide +kernel
theorem dX4_missing_19 : decode cX4_missing 19 = .ok (.if_icmp .ge 37, 3) := by decide +kernel
theorem dX4_missing_22 : decode cX4_missing 22 = .ok (.aload_n 0, 1) := by decide +kernel
theorem dX4_missing_23 : decode cX4_missing 23 = .ok (.getfield 44, 3) := by decide +kernel
theorem dX4_missing_26 : decode cX4_missing 26 = .ok (.aload_n 0, 1) := by decide +kernel
theorem dX4_missing_27 : decode cX4_missing 27 = .ok (.getfield 23, 3) := by decide +kernel
theorem dX4_missing_30 : decode cX4_missing 30 = .ok (.aload_n 0, 1) := by decide +kernel
theorem dX4_missing_31 : decode cX4_missing 31 = .ok (.getfield 23, 3) := by decide +kernel
theorem dX4_missing_34 : decode cX4_missing 34 = .ok (.iload_n 2, 1) := by decide +kernel
theorem dX4_missing_35 : decode cX4_missing 35 = .ok (.invokevirtual 167, 3) := by decide +kernel
theorem dX4_missing_38 : decode cX4_missing 38 = .ok (.invokevirtual 151, 3) := by decide +kernel
theorem dX4_missing_41 : decode cX4_missing 41 = .ok (.invokevirtual 173, 3) := by decide +kernel
theorem dX4_missing_44 : decode cX4_missing 44 = .ok (.ifCond .ne 6, 3) := by decide +kernel
theorem dX4_missing_47 : decode cX4_missing 47 = .ok (.iinc 1 1, 3) := by decide +kernel
theorem dX4_missing_50 : decode cX4_missing 50 = .ok (.iinc 2 1, 3) := by decide +kernel
theorem dX4_missing_53 : decode cX4_missing 53 = .ok (.goto (-42), 3) := by decide +kernel
theorem dX4_missing_56 : decode cX4_missing 56 = .ok (.iload_n 1, 1) := by decide +kernel
theorem dX4_missing_57 : decode cX4_missing 57 = .ok (.ireturn, 1) := by decide +kernel
theorem dX4_fewest_0 : decode cX4_fewest 0 = .ok (.aload_n 0, 1) := by decide +kernel
theorem dX4_fewest_1 : decode cX4_fewest 1 = .ok (.invokevirtual 177, 3) := by decide +kernel
theorem dX4_fewest_4 : decode cX4_fewest 4 = .ok (.ireturn, 1) := by decide +kernel
theorem dX4_cutOf_0 : decode cX4_cutOf 0 = .ok (.iload_n 1, 1) := by decide +kernel
theorem dX4_cutOf_1 : decode cX4_cutOf 1 = .ok (.ifCond .lt 11, 3) := by decide +kernel
theorem dX4_cutOf_4 : decode cX4_cutOf 4 = .ok (.iload_n 1, 1) := by decide +kernel
theorem dX4_cutOf_5 : decode cX4_cutOf 5 = .ok (.aload_n 0, 1) := by decide +kernel
theorem dX4_cutOf_6 : decode cX4_cutOf 6 = .ok (.invokevirtual 177, 3) := by decide +kernel
theorem dX4_cutOf_9 : decode cX4_cutOf 9 = .ok (.if_icmp .lt 11, 3) := by decide +kernel
theorem dX4_cutOf_12 : decode cX4_cutOf 12 = .ok (.new 164, 3) := by decide +kernel
theorem dX4_cutOf_15 : decode cX4_cutOf 15 = .ok (.dup, 1) := by decide +kernel
theorem dX4_cutOf_16 : decode cX4_cutOf 16 = .ok (.invokespecial 166, 3) := by decide +kernel
theorem dX4_cutOf_19 : decode cX4_cutOf 19 = .ok (.athrow, 1) := by decide +kernel
theorem dX4_cutOf_20 : decode cX4_cutOf 20 = .ok (.iload_n 2, 1) := by decide +kernel
theorem dX4_cutOf_21 : decode cX4_cutOf 21 = .ok (.tableswitch 74 0 3 #[31, 40, 52, 68], 31) := by decide +kernel
theorem dX4_cutOf_52 : decode cX4_cutOf 52 = .ok (.aload_n 0, 1) := by decide +kernel
theorem dX4_cutOf_53 : decode cX4_cutOf 53 = .ok (.getfield 51, 3) := by decide +kernel
theorem dX4_cutOf_56 : decode cX4_cutOf 56 = .ok (.iload_n 1, 1) := by decide +kernel
theorem dX4_cutOf_57 : decode cX4_cutOf 57 = .ok (.invokevirtual 180, 3) := by decide +kernel
theorem dX4_cutOf_60 : decode cX4_cutOf 60 = .ok (.ireturn, 1) := by decide +kernel
theorem dX4_cutOf_61 : decode cX4_cutOf 61 = .ok (.aload_n 0, 1) := by decide +kernel
theorem dX4_cutOf_62 : decode cX4_cutOf 62 = .ok (.getfield 51, 3) := by decide +kernel
theorem dX4_cutOf_65 : decode cX4_cutOf 65 = .ok (.iload_n 1, 1) := by decide +kernel
theorem dX4_cutOf_66 : decode cX4_cutOf 66 = .ok (.invokevirtual 183, 3) := by decide +kernel
theorem dX4_cutOf_69 : decode cX4_cutOf 69 = .ok (.invokestatic 186, 3) := by decide +kernel
theorem dX4_cutOf_72 : decode cX4_cutOf 72 = .ok (.ireturn, 1) := by decide +kernel
theorem dX4_cutOf_73 : decode cX4_cutOf 73 = .ok (.aload_n 0, 1) := by decide +kernel
theorem dX4_cutOf_74 : decode cX4_cutOf 74 = .ok (.getfield 23, 3) := by decide +kernel
theorem dX4_cutOf_77 : decode cX4_cutOf 77 = .ok (.aload_n 0, 1) := by decide +kernel
theorem dX4_cutOf_78 : decode cX4_cutOf 78 = .ok (.getfield 51, 3) := by decide +kernel
theorem dX4_cutOf_81 : decode cX4_cutOf 81 = .ok (.iload_n 1, 1) := by decide +kernel
theorem dX4_cutOf_82 : decode cX4_cutOf 82 = .ok (.invokevirtual 183, 3) := by decide +kernel
theorem dX4_cutOf_85 : decode cX4_cutOf 85 = .ok (.invokevirtual 129, 3) := by decide +kernel
theorem dX4_cutOf_88 : decode cX4_cutOf 88 = .ok (.ireturn, 1) := by decide +kernel
theorem dX4_cutOf_89 : decode cX4_cutOf 89 = .ok (.aload_n 0, 1) := by decide +kernel
theorem dX4_cutOf_90 : decode cX4_cutOf 90 = .ok (.iload_n 1, 1) := by decide +kernel
theorem dX4_cutOf_91 : decode cX4_cutOf 91 = .ok (.invokevirtual 189, 3) := by decide +kernel
theorem dX4_cutOf_94 : decode cX4_cutOf 94 = .ok (.ireturn, 1) := by decide +kernel
theorem dX4_cutOf_95 : decode cX4_cutOf 95 = .ok (.new 63, 3) := by decide +kernel
theorem dX4_cutOf_98 : decode cX4_cutOf 98 = .ok (.dup, 1) := by decide +kernel
theorem dX4_cutOf_99 : decode cX4_cutOf 99 = .ok (.invokespecial 65, 3) := by decide +kernel
theorem dX4_cutOf_102 : decode cX4_cutOf 102 = .ok (.athrow, 1) := by decide +kernel
theorem dX4_unevenness_0 : decode cX4_unevenness 0 = .ok (.aload_n 0, 1) := by decide +kernel
theorem dX4_unevenness_1 : decode cX4_unevenness 1 = .ok (.invokevirtual 177, 3) := by decide +kernel
theorem dX4_unevenness_4 : decode cX4_unevenness 4 = .ok (.istore_n 1, 1) := by decide +kernel
theorem dX4_unevenness_5 : decode cX4_unevenness 5 = .ok (.iload_n 1, 1) := by decide +kernel
theorem dX4_unevenness_6 : decode cX4_unevenness 6 = .ok (.ifCond .ge 5, 3) := by decide +kernel
theorem dX4_unevenness_9 : decode cX4_unevenness 9 = .ok (.iconst (-1), 1) := by decide +kernel
theorem dX4_unevenness_10 : decode cX4_unevenness 10 = .ok (.ireturn, 1) := by decide +kernel
theorem dX4_unevenness_11 : decode cX4_unevenness 11 = .ok (.iconst 0, 1) := by decide +kernel
theorem dX4_unevenness_12 : decode cX4_unevenness 12 = .ok (.istore_n 2, 1) := by decide +kernel
theorem dX4_unevenness_13 : decode cX4_unevenness 13 = .ok (.iconst 1, 1) := by decide +kernel
theorem dX4_unevenness_14 : decode cX4_unevenness 14 = .ok (.istore_n 3, 1) := by decide +kernel
theorem dX4_unevenness_15 : decode cX4_unevenness 15 = .ok (.iload_n 3, 1) := by decide +kernel
theorem dX4_unevenness_16 : decode cX4_unevenness 16 = .ok (.iload_n 1, 1) := by decide +kernel
theorem dX4_unevenness_17 : decode cX4_unevenness 17 = .ok (.if_icmp .ge 28, 3) := by decide +kernel
theorem dX4_unevenness_20 : decode cX4_unevenness 20 = .ok (.iload_n 2, 1) := by decide +kernel
theorem dX4_unevenness_21 : decode cX4_unevenness 21 = .ok (.aload_n 0, 1) := by decide +kernel
theorem dX4_unevenness_22 : decode cX4_unevenness 22 = .ok (.iload_n 3, 1) := by decide +kernel
theorem dX4_unevenness_23 : decode cX4_unevenness 23 = .ok (.invokevirtual 192, 3) := by decide +kernel
theorem dX4_unevenness_26 : decode cX4_unevenness 26 = .ok (.aload_n 0, 1) := by decide +kernel
theorem dX4_unevenness_27 : decode cX4_unevenness 27 = .ok (.iload_n 3, 1) := by decide +kernel
theorem dX4_unevenness_28 : decode cX4_unevenness 28 = .ok (.iconst 1, 1) := by decide +kernel
theorem dX4_unevenness_29 : decode cX4_unevenness 29 = .ok (.isub, 1) := by decide +kernel
theorem dX4_unevenness_30 : decode cX4_unevenness 30 = .ok (.invokevirtual 192, 3) := by decide +kernel
theorem dX4_unevenness_33 : decode cX4_unevenness 33 = .ok (.isub, 1) := by decide +kernel
theorem dX4_unevenness_34 : decode cX4_unevenness 34 = .ok (.invokestatic 195, 3) := by decide +kernel
theorem dX4_unevenness_37 : decode cX4_unevenness 37 = .ok (.iadd, 1) := by decide +kernel
theorem dX4_unevenness_38 : decode cX4_unevenness 38 = .ok (.istore_n 2, 1) := by decide +kernel
theorem dX4_unevenness_39 : decode cX4_unevenness 39 = .ok (.iinc 3 1, 3) := by decide +kernel
theorem dX4_unevenness_42 : decode cX4_unevenness 42 = .ok (.goto (-27), 3) := by decide +kernel
theorem dX4_unevenness_45 : decode cX4_unevenness 45 = .ok (.iload_n 2, 1) := by decide +kernel
theorem dX4_unevenness_46 : decode cX4_unevenness 46 = .ok (.ireturn, 1) := by decide +kernel
theorem dX4_copies_0 : decode cX4_copies 0 = .ok (.aload_n 0, 1) := by decide +kernel
theorem dX4_copies_1 : decode cX4_copies 1 = .ok (.invokevirtual 177, 3) := by decide +kernel
theorem dX4_copies_4 : decode cX4_copies 4 = .ok (.ifCond .gt 5, 3) := by decide +kernel
theorem dX4_copies_7 : decode cX4_copies 7 = .ok (.iconst 0, 1) := by decide +kernel
theorem dX4_copies_8 : decode cX4_copies 8 = .ok (.ireturn, 1) := by decide +kernel
theorem dX4_copies_9 : decode cX4_copies 9 = .ok (.aload_n 0, 1) := by decide +kernel
theorem dX4_copies_10 : decode cX4_copies 10 = .ok (.iconst 0, 1) := by decide +kernel
theorem dX4_copies_11 : decode cX4_copies 11 = .ok (.putfield 55, 3) := by decide +kernel
theorem dX4_copies_14 : decode cX4_copies 14 = .ok (.lconst 0, 1) := by decide +kernel
theorem dX4_copies_15 : decode cX4_copies 15 = .ok (.lstore_n 1, 1) := by decide +kernel
theorem dX4_copies_16 : decode cX4_copies 16 = .ok (.iconst 0, 1) := by decide +kernel
theorem dX4_copies_17 : decode cX4_copies 17 = .ok (.istore_n 3, 1) := by decide +kernel
theorem dX4_copies_18 : decode cX4_copies 18 = .ok (.iload_n 3, 1) := by decide +kernel
theorem dX4_copies_19 : decode cX4_copies 19 = .ok (.bipush 48, 2) := by decide +kernel
theorem dX4_copies_21 : decode cX4_copies 21 = .ok (.if_icmp .ge 30, 3) := by decide +kernel
theorem dX4_copies_24 : decode cX4_copies 24 = .ok (.aload_n 0, 1) := by decide +kernel
theorem dX4_copies_25 : decode cX4_copies 25 = .ok (.getfield 51, 3) := by decide +kernel
theorem dX4_copies_28 : decode cX4_copies 28 = .ok (.lload_n 1, 1) := by decide +kernel
theorem dX4_copies_29 : decode cX4_copies 29 = .ok (.invokevirtual 200, 3) := by decide +kernel
theorem dX4_copies_32 : decode cX4_copies 32 = .ok (.ifCond .le 19, 3) := by decide +kernel
theorem dX4_copies_35 : decode cX4_copies 35 = .ok (.lload_n 1, 1) := by decide +kernel
theorem dX4_copies_36 : decode cX4_copies 36 = .ok (.aload_n 0, 1) := by decide +kernel
theorem dX4_copies_37 : decode cX4_copies 37 = .ok (.getfield 51, 3) := by decide +kernel
theorem dX4_copies_40 : decode cX4_copies 40 = .ok (.getfield 203, 3) := by decide +kernel
theorem dX4_copies_43 : decode cX4_copies 43 = .ok (.lor, 1) := by decide +kernel
theorem dX4_copies_44 : decode cX4_copies 44 = .ok (.lstore_n 1, 1) := by decide +kernel
theorem dX4_copies_45 : decode cX4_copies 45 = .ok (.iinc 3 1, 3) := by decide +kernel
theorem dX4_copies_48 : decode cX4_copies 48 = .ok (.goto (-30), 3) := by decide +kernel
theorem dX4_copies_51 : decode cX4_copies 51 = .ok (.iload_n 3, 1) := by decide +kernel
theorem dX4_copies_52 : decode cX4_copies 52 = .ok (.ireturn, 1) := by decide +kernel
theorem dX4_longest_0 : decode cX4_longest 0 = .ok (.aload_n 0, 1) := by decide +kernel
theorem dX4_longest_1 : decode cX4_longest 1 = .ok (.getfield 23, 3) := by decide +kernel
theorem dX4_longest_4 : decode cX4_longest 4 = .ok (.iload_n 1, 1) := by decide +kernel
theorem dX4_longest_5 : decode cX4_longest 5 = .ok (.invokevirtual 161, 3) := by decide +kernel
theorem dX4_longest_8 : decode cX4_longest 8 = .ok (.ifCond .ne 11, 3) := by decide +kernel
theorem dX4_longest_11 : decode cX4_longest 11 = .ok (.new 164, 3) := by decide +kernel
theorem dX4_longest_14 : decode cX4_longest 14 = .ok (.dup, 1) := by decide +kernel
theorem dX4_longest_15 : decode cX4_longest 15 = .ok (.invokespecial 166, 3) := by decide +kernel
theorem dX4_longest_18 : decode cX4_longest 18 = .ok (.athrow, 1) := by decide +kernel
theorem dX4_longest_19 : decode cX4_longest 19 = .ok (.iconst 0, 1) := by decide +kernel
theorem dX4_longest_20 : decode cX4_longest 20 = .ok (.istore_n 2, 1) := by decide +kernel
theorem dX4_longest_21 : decode cX4_longest 21 = .ok (.iconst 0, 1) := by decide +kernel
theorem dX4_longest_22 : decode cX4_longest 22 = .ok (.istore_n 3, 1) := by decide +kernel
theorem dX4_longest_23 : decode cX4_longest 23 = .ok (.iload_n 3, 1) := by decide +kernel
theorem dX4_longest_24 : decode cX4_longest 24 = .ok (.bipush 96, 2) := by decide +kernel
theorem dX4_longest_26 : decode cX4_longest 26 = .ok (.if_icmp .ge 23, 3) := by decide +kernel
theorem dX4_longest_29 : decode cX4_longest 29 = .ok (.iload_n 2, 1) := by decide +kernel
theorem dX4_longest_30 : decode cX4_longest 30 = .ok (.aload_n 0, 1) := by decide +kernel
theorem dX4_longest_31 : decode cX4_longest 31 = .ok (.getfield 23, 3) := by decide +kernel
theorem dX4_longest_34 : decode cX4_longest 34 = .ok (.iload_n 3, 1) := by decide +kernel
theorem dX4_longest_35 : decode cX4_longest 35 = .ok (.iload_n 1, 1) := by decide +kernel
theorem dX4_longest_36 : decode cX4_longest 36 = .ok (.invokevirtual 207, 3) := by decide +kernel
theorem dX4_longest_39 : decode cX4_longest 39 = .ok (.invokestatic 210, 3) := by decide +kernel
theorem dX4_longest_42 : decode cX4_longest 42 = .ok (.istore_n 2, 1) := by decide +kernel
theorem dX4_longest_43 : decode cX4_longest 43 = .ok (.iinc 3 1, 3) := by decide +kernel
theorem dX4_longest_46 : decode cX4_longest 46 = .ok (.goto (-23), 3) := by decide +kernel
theorem dX4_longest_49 : decode cX4_longest 49 = .ok (.iload_n 2, 1) := by decide +kernel
theorem dX4_longest_50 : decode cX4_longest 50 = .ok (.ireturn, 1) := by decide +kernel
theorem dX4_clashes_0 : decode cX4_clashes 0 = .ok (.iconst 0, 1) := by decide +kernel
theorem dX4_clashes_1 : decode cX4_clashes 1 = .ok (.istore_n 1, 1) := by decide +kernel
theorem dX4_clashes_2 : decode cX4_clashes 2 = .ok (.iconst 0, 1) := by decide +kernel
theorem dX4_clashes_3 : decode cX4_clashes 3 = .ok (.istore_n 2, 1) := by decide +kernel
theorem dX4_clashes_4 : decode cX4_clashes 4 = .ok (.iload_n 2, 1) := by decide +kernel
theorem dX4_clashes_5 : decode cX4_clashes 5 = .ok (.bipush 48, 2) := by decide +kernel
theorem dX4_clashes_7 : decode cX4_clashes 7 = .ok (.if_icmp .ge 35, 3) := by decide +kernel
theorem dX4_clashes_10 : decode cX4_clashes 10 = .ok (.aload_n 0, 1) := by decide +kernel
theorem dX4_clashes_11 : decode cX4_clashes 11 = .ok (.iload_n 2, 1) := by decide +kernel
theorem dX4_clashes_12 : decode cX4_clashes 12 = .ok (.invokevirtual 213, 3) := by decide +kernel
theorem dX4_clashes_15 : decode cX4_clashes 15 = .ok (.ifCond .eq 21, 3) := by decide +kernel
theorem dX4_clashes_18 : decode cX4_clashes 18 = .ok (.aload_n 0, 1) := by decide +kernel
theorem dX4_clashes_19 : decode cX4_clashes 19 = .ok (.aload_n 0, 1) := by decide +kernel
theorem dX4_clashes_20 : decode cX4_clashes 20 = .ok (.getfield 23, 3) := by decide +kernel
theorem dX4_clashes_23 : decode cX4_clashes 23 = .ok (.iload_n 2, 1) := by decide +kernel
theorem dX4_clashes_24 : decode cX4_clashes 24 = .ok (.invokevirtual 135, 3) := by decide +kernel
theorem dX4_clashes_27 : decode cX4_clashes 27 = .ok (.invokevirtual 213, 3) := by decide +kernel
theorem dX4_clashes_30 : decode cX4_clashes 30 = .ok (.ifCond .eq 6, 3) := by decide +kernel
theorem dX4_clashes_33 : decode cX4_clashes 33 = .ok (.iinc 1 1, 3) := by decide +kernel
theorem dX4_clashes_36 : decode cX4_clashes 36 = .ok (.iinc 2 1, 3) := by decide +kernel
theorem dX4_clashes_39 : decode cX4_clashes 39 = .ok (.goto (-35), 3) := by decide +kernel
theorem dX4_clashes_42 : decode cX4_clashes 42 = .ok (.iload_n 1, 1) := by decide +kernel
theorem dX4_clashes_43 : decode cX4_clashes 43 = .ok (.ireturn, 1) := by decide +kernel
theorem dX4_meanSize_0 : decode cX4_meanSize 0 = .ok (.aload_n 0, 1) := by decide +kernel
theorem dX4_meanSize_1 : decode cX4_meanSize 1 = .ok (.invokevirtual 177, 3) := by decide +kernel
theorem dX4_meanSize_4 : decode cX4_meanSize 4 = .ok (.istore_n 1, 1) := by decide +kernel
theorem dX4_meanSize_5 : decode cX4_meanSize 5 = .ok (.iload_n 1, 1) := by decide +kernel
theorem dX4_meanSize_6 : decode cX4_meanSize 6 = .ok (.ifCond .le 13, 3) := by decide +kernel
theorem dX4_meanSize_9 : decode cX4_meanSize 9 = .ok (.aload_n 0, 1) := by decide +kernel
theorem dX4_meanSize_10 : decode cX4_meanSize 10 = .ok (.getfield 23, 3) := by decide +kernel
theorem dX4_meanSize_13 : decode cX4_meanSize 13 = .ok (.getfield 99, 3) := by decide +kernel
theorem dX4_meanSize_16 : decode cX4_meanSize 16 = .ok (.ifCond .gt 5, 3) := by decide +kernel
theorem dX4_meanSize_19 : decode cX4_meanSize 19 = .ok (.dconst 0, 1) := by decide +kernel
theorem dX4_meanSize_20 : decode cX4_meanSize 20 = .ok (.dreturn, 1) := by decide +kernel
theorem dX4_meanSize_21 : decode cX4_meanSize 21 = .ok (.iconst 0, 1) := by decide +kernel
theorem dX4_meanSize_22 : decode cX4_meanSize 22 = .ok (.istore_n 2, 1) := by decide +kernel
theorem dX4_meanSize_23 : decode cX4_meanSize 23 = .ok (.iconst 0, 1) := by decide +kernel
theorem dX4_meanSize_24 : decode cX4_meanSize 24 = .ok (.istore_n 3, 1) := by decide +kernel
theorem dX4_meanSize_25 : decode cX4_meanSize 25 = .ok (.iload_n 3, 1) := by decide +kernel
theorem dX4_meanSize_26 : decode cX4_meanSize 26 = .ok (.iload_n 1, 1) := by decide +kernel
theorem dX4_meanSize_27 : decode cX4_meanSize 27 = .ok (.if_icmp .ge 17, 3) := by decide +kernel
theorem dX4_meanSize_30 : decode cX4_meanSize 30 = .ok (.iload_n 2, 1) := by decide +kernel
theorem dX4_meanSize_31 : decode cX4_meanSize 31 = .ok (.aload_n 0, 1) := by decide +kernel
theorem dX4_meanSize_32 : decode cX4_meanSize 32 = .ok (.iload_n 3, 1) := by decide +kernel
theorem dX4_meanSize_33 : decode cX4_meanSize 33 = .ok (.invokevirtual 189, 3) := by decide +kernel
theorem dX4_meanSize_36 : decode cX4_meanSize 36 = .ok (.iadd, 1) := by decide +kernel
theorem dX4_meanSize_37 : decode cX4_meanSize 37 = .ok (.istore_n 2, 1) := by decide +kernel
theorem dX4_meanSize_38 : decode cX4_meanSize 38 = .ok (.iinc 3 1, 3) := by decide +kernel
theorem dX4_meanSize_41 : decode cX4_meanSize 41 = .ok (.goto (-16), 3) := by decide +kernel
theorem dX4_meanSize_44 : decode cX4_meanSize 44 = .ok (.iload_n 2, 1) := by decide +kernel
theorem dX4_meanSize_45 : decode cX4_meanSize 45 = .ok (.i2d, 1) := by decide +kernel
theorem dX4_meanSize_46 : decode cX4_meanSize 46 = .ok (.aload_n 0, 1) := by decide +kernel
theorem dX4_meanSize_47 : decode cX4_meanSize 47 = .ok (.getfield 23, 3) := by decide +kernel
theorem dX4_meanSize_50 : decode cX4_meanSize 50 = .ok (.getfield 99, 3) := by decide +kernel
theorem dX4_meanSize_53 : decode cX4_meanSize 53 = .ok (.i2d, 1) := by decide +kernel
theorem dX4_meanSize_54 : decode cX4_meanSize 54 = .ok (.ddiv, 1) := by decide +kernel
theorem dX4_meanSize_55 : decode cX4_meanSize 55 = .ok (.dreturn, 1) := by decide +kernel
theorem dX4_tell_0 : decode cX4_tell 0 = .ok (.iload_n 1, 1) := by decide +kernel
theorem dX4_tell_1 : decode cX4_tell 1 = .ok (.iconst 1, 1) := by decide +kernel
theorem dX4_tell_2 : decode cX4_tell 2 = .ok (.if_icmp .lt 25, 3) := by decide +kernel
theorem dX4_tell_5 : decode cX4_tell 5 = .ok (.iload_n 1, 1) := by decide +kernel
theorem dX4_tell_6 : decode cX4_tell 6 = .ok (.bipush 24, 2) := by decide +kernel
theorem dX4_tell_8 : decode cX4_tell 8 = .ok (.if_icmp .gt 19, 3) := by decide +kernel
theorem dX4_tell_11 : decode cX4_tell 11 = .ok (.iload_n 1, 1) := by decide +kernel
theorem dX4_tell_12 : decode cX4_tell 12 = .ok (.aload_n 0, 1) := by decide +kernel
theorem dX4_tell_13 : decode cX4_tell 13 = .ok (.getfield 13, 3) := by decide +kernel
theorem dX4_tell_16 : decode cX4_tell 16 = .ok (.if_icmp .gt 11, 3) := by decide +kernel
theorem dX4_tell_19 : decode cX4_tell 19 = .ok (.aload_n 0, 1) := by decide +kernel
theorem dX4_tell_20 : decode cX4_tell 20 = .ok (.iload_n 1, 1) := by decide +kernel
theorem dX4_tell_21 : decode cX4_tell 21 = .ok (.invokevirtual 216, 3) := by decide +kernel
theorem dX4_tell_24 : decode cX4_tell 24 = .ok (.ifCond .ne 11, 3) := by decide +kernel
theorem dX4_tell_27 : decode cX4_tell 27 = .ok (.new 63, 3) := by decide +kernel
theorem dX4_tell_30 : decode cX4_tell 30 = .ok (.dup, 1) := by decide +kernel
theorem dX4_tell_31 : decode cX4_tell 31 = .ok (.invokespecial 65, 3) := by decide +kernel
theorem dX4_tell_34 : decode cX4_tell 34 = .ok (.athrow, 1) := by decide +kernel
theorem dX4_tell_35 : decode cX4_tell 35 = .ok (.aload_n 0, 1) := by decide +kernel
theorem dX4_tell_36 : decode cX4_tell 36 = .ok (.invokevirtual 73, 3) := by decide +kernel
theorem dX4_tell_39 : decode cX4_tell 39 = .ok (.iconst 0, 1) := by decide +kernel
theorem dX4_tell_40 : decode cX4_tell 40 = .ok (.istore_n 2, 1) := by decide +kernel
theorem dX4_tell_41 : decode cX4_tell 41 = .ok (.iload_n 2, 1) := by decide +kernel
theorem dX4_tell_42 : decode cX4_tell 42 = .ok (.iload_n 1, 1) := by decide +kernel
theorem dX4_tell_43 : decode cX4_tell 43 = .ok (.if_icmp .ge 27, 3) := by decide +kernel
theorem dX4_tell_46 : decode cX4_tell 46 = .ok (.aload_n 0, 1) := by decide +kernel
theorem dX4_tell_47 : decode cX4_tell 47 = .ok (.getfield 23, 3) := by decide +kernel
theorem dX4_tell_50 : decode cX4_tell 50 = .ok (.getfield 219, 3) := by decide +kernel
theorem dX4_tell_53 : decode cX4_tell 53 = .ok (.iload_n 2, 1) := by decide +kernel
theorem dX4_tell_54 : decode cX4_tell 54 = .ok (.aload_n 0, 1) := by decide +kernel
theorem dX4_tell_55 : decode cX4_tell 55 = .ok (.getfield 9, 3) := by decide +kernel
theorem dX4_tell_58 : decode cX4_tell 58 = .ok (.iload_n 2, 1) := by decide +kernel
theorem dX4_tell_59 : decode cX4_tell 59 = .ok (.baload, 1) := by decide +kernel
theorem dX4_tell_60 : decode cX4_tell 60 = .ok (.bipush 97, 2) := by decide +kernel
theorem dX4_tell_62 : decode cX4_tell 62 = .ok (.isub, 1) := by decide +kernel
theorem dX4_tell_63 : decode cX4_tell 63 = .ok (.iastore, 1) := by decide +kernel
theorem dX4_tell_64 : decode cX4_tell 64 = .ok (.iinc 2 1, 3) := by decide +kernel
theorem dX4_tell_67 : decode cX4_tell 67 = .ok (.goto (-26), 3) := by decide +kernel
theorem dX4_tell_70 : decode cX4_tell 70 = .ok (.aload_n 0, 1) := by decide +kernel
theorem dX4_tell_71 : decode cX4_tell 71 = .ok (.getfield 23, 3) := by decide +kernel
theorem dX4_tell_74 : decode cX4_tell 74 = .ok (.iload_n 1, 1) := by decide +kernel
theorem dX4_tell_75 : decode cX4_tell 75 = .ok (.putfield 99, 3) := by decide +kernel
theorem dX4_tell_78 : decode cX4_tell 78 = .ok (.aload_n 0, 1) := by decide +kernel
theorem dX4_tell_79 : decode cX4_tell 79 = .ok (.iconst 0, 1) := by decide +kernel
theorem dX4_tell_80 : decode cX4_tell 80 = .ok (.putfield 13, 3) := by decide +kernel
theorem dX4_tell_83 : decode cX4_tell 83 = .ok (.aload_n 0, 1) := by decide +kernel
theorem dX4_tell_84 : decode cX4_tell 84 = .ok (.invokevirtual 223, 3) := by decide +kernel
theorem dX4_tell_87 : decode cX4_tell 87 = .ok (.ireturn, 1) := by decide +kernel
theorem dX4_cut_0 : decode cX4_cut 0 = .ok (.aload_n 0, 1) := by decide +kernel
theorem dX4_cut_1 : decode cX4_cut 1 = .ok (.invokevirtual 177, 3) := by decide +kernel
theorem dX4_cut_4 : decode cX4_cut 4 = .ok (.istore_n 1, 1) := by decide +kernel
theorem dX4_cut_5 : decode cX4_cut 5 = .ok (.iload_n 1, 1) := by decide +kernel
theorem dX4_cut_6 : decode cX4_cut 6 = .ok (.ifCond .gt 11, 3) := by decide +kernel
theorem dX4_cut_9 : decode cX4_cut 9 = .ok (.new 226, 3) := by decide +kernel
theorem dX4_cut_12 : decode cX4_cut 12 = .ok (.dup, 1) := by decide +kernel
theorem dX4_cut_13 : decode cX4_cut 13 = .ok (.invokespecial 228, 3) := by decide +kernel
theorem dX4_cut_16 : decode cX4_cut 16 = .ok (.athrow, 1) := by decide +kernel
theorem dX4_cut_17 : decode cX4_cut 17 = .ok (.aload_n 0, 1) := by decide +kernel
theorem dX4_cut_18 : decode cX4_cut 18 = .ok (.invokevirtual 73, 3) := by decide +kernel
theorem dX4_cut_21 : decode cX4_cut 21 = .ok (.aload_n 0, 1) := by decide +kernel
theorem dX4_cut_22 : decode cX4_cut 22 = .ok (.getfield 23, 3) := by decide +kernel
theorem dX4_cut_25 : decode cX4_cut 25 = .ok (.aload_n 0, 1) := by decide +kernel
theorem dX4_cut_26 : decode cX4_cut 26 = .ok (.getfield 51, 3) := by decide +kernel
theorem dX4_cut_29 : decode cX4_cut 29 = .ok (.getfield 203, 3) := by decide +kernel
theorem dX4_cut_32 : decode cX4_cut 32 = .ok (.iload_n 1, 1) := by decide +kernel
theorem dX4_cut_33 : decode cX4_cut 33 = .ok (.invokevirtual 229, 3) := by decide +kernel
theorem dX4_cut_36 : decode cX4_cut 36 = .ok (.iload_n 1, 1) := by decide +kernel
theorem dX4_cut_37 : decode cX4_cut 37 = .ok (.ireturn, 1) := by decide +kernel
theorem dX4_snip_0 : decode cX4_snip 0 = .ok (.aload_n 0, 1) := by decide +kernel
theorem dX4_snip_1 : decode cX4_snip 1 = .ok (.getfield 23, 3) := by decide +kernel
theorem dX4_snip_4 : decode cX4_snip 4 = .ok (.iload_n 1, 1) := by decide +kernel
theorem dX4_snip_5 : decode cX4_snip 5 = .ok (.iload_n 2, 1) := by decide +kernel
theorem dX4_snip_6 : decode cX4_snip 6 = .ok (.invokevirtual 111, 3) := by decide +kernel
theorem dX4_snip_9 : decode cX4_snip 9 = .ok (.ifCond .ne 11, 3) := by decide +kernel
theorem dX4_snip_12 : decode cX4_snip 12 = .ok (.new 115, 3) := by decide +kernel
theorem dX4_snip_15 : decode cX4_snip 15 = .ok (.dup, 1) := by decide +kernel
theorem dX4_snip_16 : decode cX4_snip 16 = .ok (.invokespecial 117, 3) := by decide +kernel
theorem dX4_snip_19 : decode cX4_snip 19 = .ok (.athrow, 1) := by decide +kernel
theorem dX4_snip_20 : decode cX4_snip 20 = .ok (.iload_n 3, 1) := by decide +kernel
theorem dX4_snip_21 : decode cX4_snip 21 = .ok (.iconst 1, 1) := by decide +kernel
theorem dX4_snip_22 : decode cX4_snip 22 = .ok (.if_icmp .lt 9, 3) := by decide +kernel
theorem dX4_snip_25 : decode cX4_snip 25 = .ok (.iload_n 3, 1) := by decide +kernel
theorem dX4_snip_26 : decode cX4_snip 26 = .ok (.bipush 8, 2) := by decide +kernel
theorem dX4_snip_28 : decode cX4_snip 28 = .ok (.if_icmp .le 11, 3) := by decide +kernel
theorem dX4_snip_31 : decode cX4_snip 31 = .ok (.new 63, 3) := by decide +kernel
theorem dX4_snip_34 : decode cX4_snip 34 = .ok (.dup, 1) := by decide +kernel
theorem dX4_snip_35 : decode cX4_snip 35 = .ok (.invokespecial 65, 3) := by decide +kernel
theorem dX4_snip_38 : decode cX4_snip 38 = .ok (.athrow, 1) := by decide +kernel
theorem dX4_snip_39 : decode cX4_snip 39 = .ok (.aload_n 0, 1) := by decide +kernel
theorem dX4_snip_40 : decode cX4_snip 40 = .ok (.getfield 23, 3) := by decide +kernel
theorem dX4_snip_43 : decode cX4_snip 43 = .ok (.iload_n 1, 1) := by decide +kernel
theorem dX4_snip_44 : decode cX4_snip 44 = .ok (.iload_n 2, 1) := by decide +kernel
theorem dX4_snip_45 : decode cX4_snip 45 = .ok (.invokevirtual 118, 3) := by decide +kernel
theorem dX4_snip_48 : decode cX4_snip 48 = .ok (.istore 4, 2) := by decide +kernel
theorem dX4_snip_50 : decode cX4_snip 50 = .ok (.aload_n 0, 1) := by decide +kernel
theorem dX4_snip_51 : decode cX4_snip 51 = .ok (.getfield 23, 3) := by decide +kernel
theorem dX4_snip_54 : decode cX4_snip 54 = .ok (.iload 4, 2) := by decide +kernel
theorem dX4_snip_56 : decode cX4_snip 56 = .ok (.iload_n 3, 1) := by decide +kernel
theorem dX4_snip_57 : decode cX4_snip 57 = .ok (.invokevirtual 233, 3) := by decide +kernel
theorem dX4_snip_60 : decode cX4_snip 60 = .ok (.ifCond .ne 11, 3) := by decide +kernel
theorem dX4_snip_63 : decode cX4_snip 63 = .ok (.new 226, 3) := by decide +kernel
theorem dX4_snip_66 : decode cX4_snip 66 = .ok (.dup, 1) := by decide +kernel
theorem dX4_snip_67 : decode cX4_snip 67 = .ok (.invokespecial 228, 3) := by decide +kernel
theorem dX4_snip_70 : decode cX4_snip 70 = .ok (.athrow, 1) := by decide +kernel
theorem dX4_snip_71 : decode cX4_snip 71 = .ok (.aload_n 0, 1) := by decide +kernel
theorem dX4_snip_72 : decode cX4_snip 72 = .ok (.invokevirtual 73, 3) := by decide +kernel
theorem dX4_snip_75 : decode cX4_snip 75 = .ok (.aload_n 0, 1) := by decide +kernel
theorem dX4_snip_76 : decode cX4_snip 76 = .ok (.getfield 23, 3) := by decide +kernel
theorem dX4_snip_79 : decode cX4_snip 79 = .ok (.aload_n 0, 1) := by decide +kernel
theorem dX4_snip_80 : decode cX4_snip 80 = .ok (.getfield 23, 3) := by decide +kernel
theorem dX4_snip_83 : decode cX4_snip 83 = .ok (.iload 4, 2) := by decide +kernel
theorem dX4_snip_85 : decode cX4_snip 85 = .ok (.iload_n 3, 1) := by decide +kernel
theorem dX4_snip_86 : decode cX4_snip 86 = .ok (.invokevirtual 236, 3) := by decide +kernel
theorem dX4_snip_89 : decode cX4_snip 89 = .ok (.iconst 1, 1) := by decide +kernel
theorem dX4_snip_90 : decode cX4_snip 90 = .ok (.invokevirtual 229, 3) := by decide +kernel
theorem dX4_snip_93 : decode cX4_snip 93 = .ok (.aload_n 0, 1) := by decide +kernel
theorem dX4_snip_94 : decode cX4_snip 94 = .ok (.getfield 23, 3) := by decide +kernel
theorem dX4_snip_97 : decode cX4_snip 97 = .ok (.invokevirtual 96, 3) := by decide +kernel
theorem dX4_snip_100 : decode cX4_snip 100 = .ok (.ireturn, 1) := by decide +kernel
theorem dX4_least_0 : decode cX4_least 0 = .ok (.iload_n 1, 1) := by decide +kernel
theorem dX4_least_1 : decode cX4_least 1 = .ok (.iconst 1, 1) := by decide +kernel
theorem dX4_least_2 : decode cX4_least 2 = .ok (.if_icmp .lt 9, 3) := by decide +kernel
theorem dX4_least_5 : decode cX4_least 5 = .ok (.iload_n 1, 1) := by decide +kernel
theorem dX4_least_6 : decode cX4_least 6 = .ok (.bipush 9, 2) := by decide +kernel
theorem dX4_least_8 : decode cX4_least 8 = .ok (.if_icmp .le 11, 3) := by decide +kernel
theorem dX4_least_11 : decode cX4_least 11 = .ok (.new 63, 3) := by decide +kernel
theorem dX4_least_14 : decode cX4_least 14 = .ok (.dup, 1) := by decide +kernel
theorem dX4_least_15 : decode cX4_least 15 = .ok (.invokespecial 65, 3) := by decide +kernel
theorem dX4_least_18 : decode cX4_least 18 = .ok (.athrow, 1) := by decide +kernel
theorem dX4_least_19 : decode cX4_least 19 = .ok (.aload_n 0, 1) := by decide +kernel
theorem dX4_least_20 : decode cX4_least 20 = .ok (.invokevirtual 73, 3) := by decide +kernel
theorem dX4_least_23 : decode cX4_least 23 = .ok (.aload_n 0, 1) := by decide +kernel
theorem dX4_least_24 : decode cX4_least 24 = .ok (.getfield 23, 3) := by decide +kernel
theorem dX4_least_27 : decode cX4_least 27 = .ok (.getfield 93, 3) := by decide +kernel
theorem dX4_least_30 : decode cX4_least 30 = .ok (.istore_n 2, 1) := by decide +kernel
theorem dX4_least_31 : decode cX4_least 31 = .ok (.aload_n 0, 1) := by decide +kernel
theorem dX4_least_32 : decode cX4_least 32 = .ok (.getfield 23, 3) := by decide +kernel
theorem dX4_least_35 : decode cX4_least 35 = .ok (.iload_n 1, 1) := by decide +kernel
theorem dX4_least_36 : decode cX4_least 36 = .ok (.putfield 93, 3) := by decide +kernel
theorem dX4_least_39 : decode cX4_least 39 = .ok (.iload_n 2, 1) := by decide +kernel
theorem dX4_least_40 : decode cX4_least 40 = .ok (.ireturn, 1) := by decide +kernel
theorem dX4_mend_0 : decode cX4_mend 0 = .ok (.iload_n 1, 1) := by decide +kernel
theorem dX4_mend_1 : decode cX4_mend 1 = .ok (.ifCond .lt 14, 3) := by decide +kernel
theorem dX4_mend_4 : decode cX4_mend 4 = .ok (.iload_n 1, 1) := by decide +kernel
theorem dX4_mend_5 : decode cX4_mend 5 = .ok (.aload_n 0, 1) := by decide +kernel
theorem dX4_mend_6 : decode cX4_mend 6 = .ok (.getfield 23, 3) := by decide +kernel
theorem dX4_mend_9 : decode cX4_mend 9 = .ok (.invokevirtual 83, 3) := by decide +kernel
theorem dX4_mend_12 : decode cX4_mend 12 = .ok (.if_icmp .lt 11, 3) := by decide +kernel
theorem dX4_mend_15 : decode cX4_mend 15 = .ok (.new 115, 3) := by decide +kernel
theorem dX4_mend_18 : decode cX4_mend 18 = .ok (.dup, 1) := by decide +kernel
theorem dX4_mend_19 : decode cX4_mend 19 = .ok (.invokespecial 117, 3) := by decide +kernel
theorem dX4_mend_22 : decode cX4_mend 22 = .ok (.athrow, 1) := by decide +kernel
theorem dX4_mend_23 : decode cX4_mend 23 = .ok (.aload_n 0, 1) := by decide +kernel
theorem dX4_mend_24 : decode cX4_mend 24 = .ok (.getfield 23, 3) := by decide +kernel
theorem dX4_mend_27 : decode cX4_mend 27 = .ok (.iconst 0, 1) := by decide +kernel
theorem dX4_mend_28 : decode cX4_mend 28 = .ok (.iload_n 1, 1) := by decide +kernel
theorem dX4_mend_29 : decode cX4_mend 29 = .ok (.invokevirtual 118, 3) := by decide +kernel
theorem dX4_mend_32 : decode cX4_mend 32 = .ok (.istore_n 2, 1) := by decide +kernel
theorem dX4_mend_33 : decode cX4_mend 33 = .ok (.aload_n 0, 1) := by decide +kernel
theorem dX4_mend_34 : decode cX4_mend 34 = .ok (.getfield 23, 3) := by decide +kernel
theorem dX4_mend_37 : decode cX4_mend 37 = .ok (.iload_n 2, 1) := by decide +kernel
theorem dX4_mend_38 : decode cX4_mend 38 = .ok (.invokevirtual 240, 3) := by decide +kernel
theorem dX4_mend_41 : decode cX4_mend 41 = .ok (.ifCond .eq 11, 3) := by decide +kernel
theorem dX4_mend_44 : decode cX4_mend 44 = .ok (.new 226, 3) := by decide +kernel
theorem dX4_mend_47 : decode cX4_mend 47 = .ok (.dup, 1) := by decide +kernel
theorem dX4_mend_48 : decode cX4_mend 48 = .ok (.invokespecial 228, 3) := by decide +kernel
theorem dX4_mend_51 : decode cX4_mend 51 = .ok (.athrow, 1) := by decide +kernel
theorem dX4_mend_52 : decode cX4_mend 52 = .ok (.aload_n 0, 1) := by decide +kernel
theorem dX4_mend_53 : decode cX4_mend 53 = .ok (.invokevirtual 73, 3) := by decide +kernel
theorem dX4_mend_56 : decode cX4_mend 56 = .ok (.aload_n 0, 1) := by decide +kernel
theorem dX4_mend_57 : decode cX4_mend 57 = .ok (.getfield 23, 3) := by decide +kernel
theorem dX4_mend_60 : decode cX4_mend 60 = .ok (.dup, 1) := by decide +kernel
theorem dX4_mend_61 : decode cX4_mend 61 = .ok (.getfield 243, 3) := by decide +kernel
theorem dX4_mend_64 : decode cX4_mend 64 = .ok (.lconst 1, 1) := by decide +kernel
theorem dX4_mend_65 : decode cX4_mend 65 = .ok (.iload_n 2, 1) := by decide +kernel
theorem dX4_mend_66 : decode cX4_mend 66 = .ok (.lshl, 1) := by decide +kernel
theorem dX4_mend_67 : decode cX4_mend 67 = .ok (.ldc2_w 246, 3) := by decide +kernel
theorem dX4_mend_70 : decode cX4_mend 70 = .ok (.lxor, 1) := by decide +kernel
theorem dX4_mend_71 : decode cX4_mend 71 = .ok (.land, 1) := by decide +kernel
theorem dX4_mend_72 : decode cX4_mend 72 = .ok (.putfield 243, 3) := by decide +kernel
theorem dX4_mend_75 : decode cX4_mend 75 = .ok (.aload_n 0, 1) := by decide +kernel
theorem dX4_mend_76 : decode cX4_mend 76 = .ok (.getfield 23, 3) := by decide +kernel
theorem dX4_mend_79 : decode cX4_mend 79 = .ok (.invokevirtual 96, 3) := by decide +kernel
theorem dX4_mend_82 : decode cX4_mend 82 = .ok (.ireturn, 1) := by decide +kernel
theorem dX4_undo_0 : decode cX4_undo 0 = .ok (.aload_n 0, 1) := by decide +kernel
theorem dX4_undo_1 : decode cX4_undo 1 = .ok (.getfield 31, 3) := by decide +kernel
theorem dX4_undo_4 : decode cX4_undo 4 = .ok (.ifCond .le 12, 3) := by decide +kernel
theorem dX4_undo_7 : decode cX4_undo 7 = .ok (.aload_n 0, 1) := by decide +kernel
theorem dX4_undo_8 : decode cX4_undo 8 = .ok (.getfield 31, 3) := by decide +kernel
theorem dX4_undo_11 : decode cX4_undo 11 = .ok (.bipush 8, 2) := by decide +kernel
theorem dX4_undo_13 : decode cX4_undo 13 = .ok (.if_icmp .le 5, 3) := by decide +kernel
theorem dX4_undo_16 : decode cX4_undo 16 = .ok (.iconst (-1), 1) := by decide +kernel
theorem dX4_undo_17 : decode cX4_undo 17 = .ok (.ireturn, 1) := by decide +kernel
theorem dX4_undo_18 : decode cX4_undo 18 = .ok (.aload_n 0, 1) := by decide +kernel
theorem dX4_undo_19 : decode cX4_undo 19 = .ok (.dup, 1) := by decide +kernel
theorem dX4_undo_20 : decode cX4_undo 20 = .ok (.getfield 31, 3) := by decide +kernel
theorem dX4_undo_23 : decode cX4_undo 23 = .ok (.iconst 1, 1) := by decide +kernel
theorem dX4_undo_24 : decode cX4_undo 24 = .ok (.isub, 1) := by decide +kernel
theorem dX4_undo_25 : decode cX4_undo 25 = .ok (.putfield 31, 3) := by decide +kernel
theorem dX4_undo_28 : decode cX4_undo 28 = .ok (.aload_n 0, 1) := by decide +kernel
theorem dX4_undo_29 : decode cX4_undo 29 = .ok (.getfield 27, 3) := by decide +kernel
theorem dX4_undo_32 : decode cX4_undo 32 = .ok (.aload_n 0, 1) := by decide +kernel
theorem dX4_undo_33 : decode cX4_undo 33 = .ok (.getfield 31, 3) := by decide +kernel
theorem dX4_undo_36 : decode cX4_undo 36 = .ok (.aaload, 1) := by decide +kernel
theorem dX4_undo_37 : decode cX4_undo 37 = .ok (.astore_n 1, 1) := by decide +kernel
theorem dX4_undo_38 : decode cX4_undo 38 = .ok (.aload_n 1, 1) := by decide +kernel
theorem dX4_undo_39 : decode cX4_undo 39 = .ok (.ifnull 11, 3) := by decide +kernel
theorem dX4_undo_42 : decode cX4_undo 42 = .ok (.aload_n 0, 1) := by decide +kernel
theorem dX4_undo_43 : decode cX4_undo 43 = .ok (.getfield 23, 3) := by decide +kernel
theorem dX4_undo_46 : decode cX4_undo 46 = .ok (.aload_n 1, 1) := by decide +kernel
theorem dX4_undo_47 : decode cX4_undo 47 = .ok (.invokevirtual 79, 3) := by decide +kernel
theorem dX4_undo_50 : decode cX4_undo 50 = .ok (.aload_n 0, 1) := by decide +kernel
theorem dX4_undo_51 : decode cX4_undo 51 = .ok (.iconst 0, 1) := by decide +kernel
theorem dX4_undo_52 : decode cX4_undo 52 = .ok (.putfield 55, 3) := by decide +kernel
theorem dX4_undo_55 : decode cX4_undo 55 = .ok (.aload_n 0, 1) := by decide +kernel
theorem dX4_undo_56 : decode cX4_undo 56 = .ok (.getfield 31, 3) := by decide +kernel
theorem dX4_undo_59 : decode cX4_undo 59 = .ok (.ireturn, 1) := by decide +kernel
theorem dX4_checksum_0 : decode cX4_checksum 0 = .ok (.lconst 0, 1) := by decide +kernel
theorem dX4_checksum_1 : decode cX4_checksum 1 = .ok (.lstore_n 1, 1) := by decide +kernel
theorem dX4_checksum_2 : decode cX4_checksum 2 = .ok (.iconst 0, 1) := by decide +kernel
theorem dX4_checksum_3 : decode cX4_checksum 3 = .ok (.istore_n 3, 1) := by decide +kernel
theorem dX4_checksum_4 : decode cX4_checksum 4 = .ok (.iload_n 3, 1) := by decide +kernel
theorem dX4_checksum_5 : decode cX4_checksum 5 = .ok (.bipush 7, 2) := by decide +kernel
theorem dX4_checksum_7 : decode cX4_checksum 7 = .ok (.if_icmp .gt 22, 3) := by decide +kernel
theorem dX4_checksum_10 : decode cX4_checksum 10 = .ok (.ldc2_w 248, 3) := by decide +kernel
theorem dX4_checksum_13 : decode cX4_checksum 13 = .ok (.lload_n 1, 1) := by decide +kernel
theorem dX4_checksum_14 : decode cX4_checksum 14 = .ok (.lmul, 1) := by decide +kernel
theorem dX4_checksum_15 : decode cX4_checksum 15 = .ok (.aload_n 0, 1) := by decide +kernel
theorem dX4_checksum_16 : decode cX4_checksum 16 = .ok (.iload_n 3, 1) := by decide +kernel
theorem dX4_checksum_17 : decode cX4_checksum 17 = .ok (.invokevirtual 250, 3) := by decide +kernel
theorem dX4_checksum_20 : decode cX4_checksum 20 = .ok (.i2l, 1) := by decide +kernel
theorem dX4_checksum_21 : decode cX4_checksum 21 = .ok (.ladd, 1) := by decide +kernel
theorem dX4_checksum_22 : decode cX4_checksum 22 = .ok (.lstore_n 1, 1) := by decide +kernel
theorem dX4_checksum_23 : decode cX4_checksum 23 = .ok (.iinc 3 1, 3) := by decide +kernel
theorem dX4_checksum_26 : decode cX4_checksum 26 = .ok (.goto (-22), 3) := by decide +kernel
theorem dX4_checksum_29 : decode cX4_checksum 29 = .ok (.iconst 0, 1) := by decide +kernel
theorem dX4_checksum_30 : decode cX4_checksum 30 = .ok (.istore_n 3, 1) := by decide +kernel
theorem dX4_checksum_31 : decode cX4_checksum 31 = .ok (.iload_n 3, 1) := by decide +kernel
theorem dX4_checksum_32 : decode cX4_checksum 32 = .ok (.bipush 96, 2) := by decide +kernel
theorem dX4_checksum_34 : decode cX4_checksum 34 = .ok (.if_icmp .ge 49, 3) := by decide +kernel
theorem dX4_checksum_37 : decode cX4_checksum 37 = .ok (.aload_n 0, 1) := by decide +kernel
theorem dX4_checksum_38 : decode cX4_checksum 38 = .ok (.getfield 23, 3) := by decide +kernel
theorem dX4_checksum_41 : decode cX4_checksum 41 = .ok (.iload_n 3, 1) := by decide +kernel
theorem dX4_checksum_42 : decode cX4_checksum 42 = .ok (.invokevirtual 253, 3) := by decide +kernel
theorem dX4_checksum_45 : decode cX4_checksum 45 = .ok (.ifCond .eq 32, 3) := by decide +kernel
theorem dX4_checksum_48 : decode cX4_checksum 48 = .ok (.ldc2_w 248, 3) := by decide +kernel
theorem dX4_checksum_51 : decode cX4_checksum 51 = .ok (.lload_n 1, 1) := by decide +kernel
theorem dX4_checksum_52 : decode cX4_checksum 52 = .ok (.lmul, 1) := by decide +kernel
theorem dX4_checksum_53 : decode cX4_checksum 53 = .ok (.aload_n 0, 1) := by decide +kernel
theorem dX4_checksum_54 : decode cX4_checksum 54 = .ok (.iload_n 3, 1) := by decide +kernel
theorem dX4_checksum_55 : decode cX4_checksum 55 = .ok (.invokevirtual 122, 3) := by decide +kernel
theorem dX4_checksum_58 : decode cX4_checksum 58 = .ok (.i2l, 1) := by decide +kernel
theorem dX4_checksum_59 : decode cX4_checksum 59 = .ok (.ladd, 1) := by decide +kernel
theorem dX4_checksum_60 : decode cX4_checksum 60 = .ok (.lstore_n 1, 1) := by decide +kernel
theorem dX4_checksum_61 : decode cX4_checksum 61 = .ok (.ldc2_w 248, 3) := by decide +kernel
theorem dX4_checksum_64 : decode cX4_checksum 64 = .ok (.lload_n 1, 1) := by decide +kernel
theorem dX4_checksum_65 : decode cX4_checksum 65 = .ok (.lmul, 1) := by decide +kernel
theorem dX4_checksum_66 : decode cX4_checksum 66 = .ok (.aload_n 0, 1) := by decide +kernel
theorem dX4_checksum_67 : decode cX4_checksum 67 = .ok (.getfield 23, 3) := by decide +kernel
theorem dX4_checksum_70 : decode cX4_checksum 70 = .ok (.iload_n 3, 1) := by decide +kernel
theorem dX4_checksum_71 : decode cX4_checksum 71 = .ok (.invokevirtual 132, 3) := by decide +kernel
theorem dX4_checksum_74 : decode cX4_checksum 74 = .ok (.i2l, 1) := by decide +kernel
theorem dX4_checksum_75 : decode cX4_checksum 75 = .ok (.ladd, 1) := by decide +kernel
theorem dX4_checksum_76 : decode cX4_checksum 76 = .ok (.lstore_n 1, 1) := by decide +kernel
theorem dX4_checksum_77 : decode cX4_checksum 77 = .ok (.iinc 3 1, 3) := by decide +kernel
theorem dX4_checksum_80 : decode cX4_checksum 80 = .ok (.goto (-49), 3) := by decide +kernel
theorem dX4_checksum_83 : decode cX4_checksum 83 = .ok (.iconst 0, 1) := by decide +kernel
theorem dX4_checksum_84 : decode cX4_checksum 84 = .ok (.istore_n 3, 1) := by decide +kernel
theorem dX4_checksum_85 : decode cX4_checksum 85 = .ok (.iload_n 3, 1) := by decide +kernel
theorem dX4_checksum_86 : decode cX4_checksum 86 = .ok (.aload_n 0, 1) := by decide +kernel
theorem dX4_checksum_87 : decode cX4_checksum 87 = .ok (.getfield 23, 3) := by decide +kernel
theorem dX4_checksum_90 : decode cX4_checksum 90 = .ok (.getfield 99, 3) := by decide +kernel
theorem dX4_checksum_93 : decode cX4_checksum 93 = .ok (.if_icmp .ge 25, 3) := by decide +kernel
theorem dX4_checksum_96 : decode cX4_checksum 96 = .ok (.ldc2_w 248, 3) := by decide +kernel
theorem dX4_checksum_99 : decode cX4_checksum 99 = .ok (.lload_n 1, 1) := by decide +kernel
theorem dX4_checksum_100 : decode cX4_checksum 100 = .ok (.lmul, 1) := by decide +kernel
theorem dX4_checksum_101 : decode cX4_checksum 101 = .ok (.aload_n 0, 1) := by decide +kernel
theorem dX4_checksum_102 : decode cX4_checksum 102 = .ok (.getfield 23, 3) := by decide +kernel
theorem dX4_checksum_105 : decode cX4_checksum 105 = .ok (.iload_n 3, 1) := by decide +kernel
theorem dX4_checksum_106 : decode cX4_checksum 106 = .ok (.invokevirtual 167, 3) := by decide +kernel
theorem dX4_checksum_109 : decode cX4_checksum 109 = .ok (.i2l, 1) := by decide +kernel
theorem dX4_checksum_110 : decode cX4_checksum 110 = .ok (.ladd, 1) := by decide +kernel
theorem dX4_checksum_111 : decode cX4_checksum 111 = .ok (.lstore_n 1, 1) := by decide +kernel
theorem dX4_checksum_112 : decode cX4_checksum 112 = .ok (.iinc 3 1, 3) := by decide +kernel
theorem dX4_checksum_115 : decode cX4_checksum 115 = .ok (.goto (-30), 3) := by decide +kernel
theorem dX4_checksum_118 : decode cX4_checksum 118 = .ok (.ldc2_w 248, 3) := by decide +kernel
theorem dX4_checksum_121 : decode cX4_checksum 121 = .ok (.lload_n 1, 1) := by decide +kernel
theorem dX4_checksum_122 : decode cX4_checksum 122 = .ok (.lmul, 1) := by decide +kernel
theorem dX4_checksum_123 : decode cX4_checksum 123 = .ok (.aload_n 0, 1) := by decide +kernel
theorem dX4_checksum_124 : decode cX4_checksum 124 = .ok (.invokevirtual 223, 3) := by decide +kernel
theorem dX4_checksum_127 : decode cX4_checksum 127 = .ok (.i2l, 1) := by decide +kernel
theorem dX4_checksum_128 : decode cX4_checksum 128 = .ok (.ladd, 1) := by decide +kernel
theorem dX4_checksum_129 : decode cX4_checksum 129 = .ok (.lstore_n 1, 1) := by decide +kernel
theorem dX4_checksum_130 : decode cX4_checksum 130 = .ok (.ldc2_w 248, 3) := by decide +kernel
theorem dX4_checksum_133 : decode cX4_checksum 133 = .ok (.lload_n 1, 1) := by decide +kernel
theorem dX4_checksum_134 : decode cX4_checksum 134 = .ok (.lmul, 1) := by decide +kernel
theorem dX4_checksum_135 : decode cX4_checksum 135 = .ok (.aload_n 0, 1) := by decide +kernel
theorem dX4_checksum_136 : decode cX4_checksum 136 = .ok (.invokevirtual 177, 3) := by decide +kernel
theorem dX4_checksum_139 : decode cX4_checksum 139 = .ok (.i2l, 1) := by decide +kernel
theorem dX4_checksum_140 : decode cX4_checksum 140 = .ok (.ladd, 1) := by decide +kernel
theorem dX4_checksum_141 : decode cX4_checksum 141 = .ok (.lstore_n 1, 1) := by decide +kernel
theorem dX4_checksum_142 : decode cX4_checksum 142 = .ok (.ldc2_w 248, 3) := by decide +kernel
theorem dX4_checksum_145 : decode cX4_checksum 145 = .ok (.lload_n 1, 1) := by decide +kernel
theorem dX4_checksum_146 : decode cX4_checksum 146 = .ok (.lmul, 1) := by decide +kernel
theorem dX4_checksum_147 : decode cX4_checksum 147 = .ok (.aload_n 0, 1) := by decide +kernel
theorem dX4_checksum_148 : decode cX4_checksum 148 = .ok (.invokevirtual 256, 3) := by decide +kernel
theorem dX4_checksum_151 : decode cX4_checksum 151 = .ok (.i2l, 1) := by decide +kernel
theorem dX4_checksum_152 : decode cX4_checksum 152 = .ok (.ladd, 1) := by decide +kernel
theorem dX4_checksum_153 : decode cX4_checksum 153 = .ok (.lreturn, 1) := by decide +kernel
theorem dX4_putWord_0 : decode cX4_putWord 0 = .ok (.bipush 24, 2) := by decide +kernel
theorem dX4_putWord_2 : decode cX4_putWord 2 = .ok (.istore_n 2, 1) := by decide +kernel
theorem dX4_putWord_3 : decode cX4_putWord 3 = .ok (.iload_n 2, 1) := by decide +kernel
theorem dX4_putWord_4 : decode cX4_putWord 4 = .ok (.ifCond .lt 49, 3) := by decide +kernel
theorem dX4_putWord_7 : decode cX4_putWord 7 = .ok (.aload_n 0, 1) := by decide +kernel
theorem dX4_putWord_8 : decode cX4_putWord 8 = .ok (.getfield 13, 3) := by decide +kernel
theorem dX4_putWord_11 : decode cX4_putWord 11 = .ok (.ifCond .lt 36, 3) := by decide +kernel
theorem dX4_putWord_14 : decode cX4_putWord 14 = .ok (.aload_n 0, 1) := by decide +kernel
theorem dX4_putWord_15 : decode cX4_putWord 15 = .ok (.getfield 13, 3) := by decide +kernel
theorem dX4_putWord_18 : decode cX4_putWord 18 = .ok (.sipush 400, 3) := by decide +kernel
theorem dX4_putWord_21 : decode cX4_putWord 21 = .ok (.if_icmp .ge 26, 3) := by decide +kernel
theorem dX4_putWord_24 : decode cX4_putWord 24 = .ok (.aload_n 0, 1) := by decide +kernel
theorem dX4_putWord_25 : decode cX4_putWord 25 = .ok (.getfield 9, 3) := by decide +kernel
theorem dX4_putWord_28 : decode cX4_putWord 28 = .ok (.aload_n 0, 1) := by decide +kernel
theorem dX4_putWord_29 : decode cX4_putWord 29 = .ok (.getfield 13, 3) := by decide +kernel
theorem dX4_putWord_32 : decode cX4_putWord 32 = .ok (.iload_n 1, 1) := by decide +kernel
theorem dX4_putWord_33 : decode cX4_putWord 33 = .ok (.iload_n 2, 1) := by decide +kernel
theorem dX4_putWord_34 : decode cX4_putWord 34 = .ok (.ishr, 1) := by decide +kernel
theorem dX4_putWord_35 : decode cX4_putWord 35 = .ok (.i2b, 1) := by decide +kernel
theorem dX4_putWord_36 : decode cX4_putWord 36 = .ok (.bastore, 1) := by decide +kernel
theorem dX4_putWord_37 : decode cX4_putWord 37 = .ok (.aload_n 0, 1) := by decide +kernel
theorem dX4_putWord_38 : decode cX4_putWord 38 = .ok (.dup, 1) := by decide +kernel
theorem dX4_putWord_39 : decode cX4_putWord 39 = .ok (.getfield 13, 3) := by decide +kernel
theorem dX4_putWord_42 : decode cX4_putWord 42 = .ok (.iconst 1, 1) := by decide +kernel
theorem dX4_putWord_43 : decode cX4_putWord 43 = .ok (.iadd, 1) := by decide +kernel
theorem dX4_putWord_44 : decode cX4_putWord 44 = .ok (.putfield 13, 3) := by decide +kernel
theorem dX4_putWord_47 : decode cX4_putWord 47 = .ok (.iinc 2 (-8), 3) := by decide +kernel
theorem dX4_putWord_50 : decode cX4_putWord 50 = .ok (.goto (-47), 3) := by decide +kernel
theorem dX4_putWord_53 : decode cX4_putWord 53 = .ok (.return_, 1) := by decide +kernel
theorem dX4_startsWithLetters_0 : decode cX4_startsWithLetters 0 = .ok (.iconst 0, 1) := by decide +kernel
theorem dX4_startsWithLetters_1 : decode cX4_startsWithLetters 1 = .ok (.istore_n 2, 1) := by decide +kernel
theorem dX4_startsWithLetters_2 : decode cX4_startsWithLetters 2 = .ok (.iload_n 2, 1) := by decide +kernel
theorem dX4_startsWithLetters_3 : decode cX4_startsWithLetters 3 = .ok (.iload_n 1, 1) := by decide +kernel
theorem dX4_startsWithLetters_4 : decode cX4_startsWithLetters 4 = .ok (.if_icmp .ge 30, 3) := by decide +kernel
theorem dX4_startsWithLetters_7 : decode cX4_startsWithLetters 7 = .ok (.iload_n 2, 1) := by decide +kernel
theorem dX4_startsWithLetters_8 : decode cX4_startsWithLetters 8 = .ok (.sipush 400, 3) := by decide +kernel
theorem dX4_startsWithLetters_11 : decode cX4_startsWithLetters 11 = .ok (.if_icmp .ge 23, 3) := by decide +kernel
theorem dX4_startsWithLetters_14 : decode cX4_startsWithLetters 14 = .ok (.aload_n 0, 1) := by decide +kernel
theorem dX4_startsWithLetters_15 : decode cX4_startsWithLetters 15 = .ok (.getfield 9, 3) := by decide +kernel
theorem dX4_startsWithLetters_18 : decode cX4_startsWithLetters 18 = .ok (.iload_n 2, 1) := by decide +kernel
theorem dX4_startsWithLetters_19 : decode cX4_startsWithLetters 19 = .ok (.baload, 1) := by decide +kernel
theorem dX4_startsWithLetters_20 : decode cX4_startsWithLetters 20 = .ok (.invokestatic 259, 3) := by decide +kernel
theorem dX4_startsWithLetters_23 : decode cX4_startsWithLetters 23 = .ok (.ifCond .ne 5, 3) := by decide +kernel
theorem dX4_startsWithLetters_26 : decode cX4_startsWithLetters 26 = .ok (.iconst 0, 1) := by decide +kernel
theorem dX4_startsWithLetters_27 : decode cX4_startsWithLetters 27 = .ok (.ireturn, 1) := by decide +kernel
theorem dX4_startsWithLetters_28 : decode cX4_startsWithLetters 28 = .ok (.iinc 2 1, 3) := by decide +kernel
theorem dX4_startsWithLetters_31 : decode cX4_startsWithLetters 31 = .ok (.goto (-29), 3) := by decide +kernel
theorem dX4_startsWithLetters_34 : decode cX4_startsWithLetters 34 = .ok (.iconst 1, 1) := by decide +kernel
theorem dX4_startsWithLetters_35 : decode cX4_startsWithLetters 35 = .ok (.ireturn, 1) := by decide +kernel
theorem dX4_remember_0 : decode cX4_remember 0 = .ok (.aload_n 0, 1) := by decide +kernel
theorem dX4_remember_1 : decode cX4_remember 1 = .ok (.iconst 0, 1) := by decide +kernel
theorem dX4_remember_2 : decode cX4_remember 2 = .ok (.putfield 55, 3) := by decide +kernel
theorem dX4_remember_5 : decode cX4_remember 5 = .ok (.aload_n 0, 1) := by decide +kernel
theorem dX4_remember_6 : decode cX4_remember 6 = .ok (.getfield 31, 3) := by decide +kernel
theorem dX4_remember_9 : decode cX4_remember 9 = .ok (.bipush 8, 2) := by decide +kernel
theorem dX4_remember_11 : decode cX4_remember 11 = .ok (.if_icmp .lt 7, 3) := by decide +kernel
theorem dX4_remember_14 : decode cX4_remember 14 = .ok (.aload_n 0, 1) := by decide +kernel
theorem dX4_remember_15 : decode cX4_remember 15 = .ok (.invokevirtual 262, 3) := by decide +kernel
theorem dX4_remember_18 : decode cX4_remember 18 = .ok (.aload_n 0, 1) := by decide +kernel
theorem dX4_remember_19 : decode cX4_remember 19 = .ok (.getfield 31, 3) := by decide +kernel
theorem dX4_remember_22 : decode cX4_remember 22 = .ok (.ifCond .lt 24, 3) := by decide +kernel
theorem dX4_remember_25 : decode cX4_remember 25 = .ok (.aload_n 0, 1) := by decide +kernel
theorem dX4_remember_26 : decode cX4_remember 26 = .ok (.getfield 31, 3) := by decide +kernel
theorem dX4_remember_29 : decode cX4_remember 29 = .ok (.bipush 8, 2) := by decide +kernel
theorem dX4_remember_31 : decode cX4_remember 31 = .ok (.if_icmp .ge 15, 3) := by decide +kernel
theorem dX4_remember_34 : decode cX4_remember 34 = .ok (.aload_n 0, 1) := by decide +kernel
theorem dX4_remember_35 : decode cX4_remember 35 = .ok (.getfield 27, 3) := by decide +kernel
theorem dX4_remember_38 : decode cX4_remember 38 = .ok (.aload_n 0, 1) := by decide +kernel
theorem dX4_remember_39 : decode cX4_remember 39 = .ok (.getfield 31, 3) := by decide +kernel
theorem dX4_remember_42 : decode cX4_remember 42 = .ok (.aaload, 1) := by decide +kernel
theorem dX4_remember_43 : decode cX4_remember 43 = .ok (.goto 4, 3) := by decide +kernel
theorem dX4_remember_46 : decode cX4_remember 46 = .ok (.aconst_null, 1) := by decide +kernel
theorem dX4_remember_47 : decode cX4_remember 47 = .ok (.astore_n 1, 1) := by decide +kernel
theorem dX4_remember_48 : decode cX4_remember 48 = .ok (.aload_n 1, 1) := by decide +kernel
theorem dX4_remember_49 : decode cX4_remember 49 = .ok (.ifnull 21, 3) := by decide +kernel
theorem dX4_remember_52 : decode cX4_remember 52 = .ok (.aload_n 1, 1) := by decide +kernel
theorem dX4_remember_53 : decode cX4_remember 53 = .ok (.aload_n 0, 1) := by decide +kernel
theorem dX4_remember_54 : decode cX4_remember 54 = .ok (.getfield 23, 3) := by decide +kernel
theorem dX4_remember_57 : decode cX4_remember 57 = .ok (.invokevirtual 79, 3) := by decide +kernel
theorem dX4_remember_60 : decode cX4_remember 60 = .ok (.aload_n 0, 1) := by decide +kernel
theorem dX4_remember_61 : decode cX4_remember 61 = .ok (.dup, 1) := by decide +kernel
theorem dX4_remember_62 : decode cX4_remember 62 = .ok (.getfield 31, 3) := by decide +kernel
theorem dX4_remember_65 : decode cX4_remember 65 = .ok (.iconst 1, 1) := by decide +kernel
theorem dX4_remember_66 : decode cX4_remember 66 = .ok (.iadd, 1) := by decide +kernel
theorem dX4_remember_67 : decode cX4_remember 67 = .ok (.putfield 31, 3) := by decide +kernel
theorem dX4_remember_70 : decode cX4_remember 70 = .ok (.return_, 1) := by decide +kernel
theorem dX4_makeOldestFinal_0 : decode cX4_makeOldestFinal 0 = .ok (.aload_n 0, 1) := by decide +kernel
theorem dX4_makeOldestFinal_1 : decode cX4_makeOldestFinal 1 = .ok (.getfield 27, 3) := by decide +kernel
theorem dX4_makeOldestFinal_4 : decode cX4_makeOldestFinal 4 = .ok (.iconst 0, 1) := by decide +kernel
theorem dX4_makeOldestFinal_5 : decode cX4_makeOldestFinal 5 = .ok (.aaload, 1) := by decide +kernel
theorem dX4_makeOldestFinal_6 : decode cX4_makeOldestFinal 6 = .ok (.astore_n 1, 1) := by decide +kernel
theorem dX4_makeOldestFinal_7 : decode cX4_makeOldestFinal 7 = .ok (.iconst 1, 1) := by decide +kernel
theorem dX4_makeOldestFinal_8 : decode cX4_makeOldestFinal 8 = .ok (.istore_n 2, 1) := by decide +kernel
theorem dX4_makeOldestFinal_9 : decode cX4_makeOldestFinal 9 = .ok (.iload_n 2, 1) := by decide +kernel
theorem dX4_makeOldestFinal_10 : decode cX4_makeOldestFinal 10 = .ok (.bipush 8, 2) := by decide +kernel
theorem dX4_makeOldestFinal_12 : decode cX4_makeOldestFinal 12 = .ok (.if_icmp .ge 23, 3) := by decide +kernel
theorem dX4_makeOldestFinal_15 : decode cX4_makeOldestFinal 15 = .ok (.aload_n 0, 1) := by decide +kernel
theorem dX4_makeOldestFinal_16 : decode cX4_makeOldestFinal 16 = .ok (.getfield 27, 3) := by decide +kernel
theorem dX4_makeOldestFinal_19 : decode cX4_makeOldestFinal 19 = .ok (.iload_n 2, 1) := by decide +kernel
theorem dX4_makeOldestFinal_20 : decode cX4_makeOldestFinal 20 = .ok (.iconst 1, 1) := by decide +kernel
theorem dX4_makeOldestFinal_21 : decode cX4_makeOldestFinal 21 = .ok (.isub, 1) := by decide +kernel
theorem dX4_makeOldestFinal_22 : decode cX4_makeOldestFinal 22 = .ok (.aload_n 0, 1) := by decide +kernel
theorem dX4_makeOldestFinal_23 : decode cX4_makeOldestFinal 23 = .ok (.getfield 27, 3) := by decide +kernel
theorem dX4_makeOldestFinal_26 : decode cX4_makeOldestFinal 26 = .ok (.iload_n 2, 1) := by decide +kernel
theorem dX4_makeOldestFinal_27 : decode cX4_makeOldestFinal 27 = .ok (.aaload, 1) := by decide +kernel
theorem dX4_makeOldestFinal_28 : decode cX4_makeOldestFinal 28 = .ok (.aastore, 1) := by decide +kernel
theorem dX4_makeOldestFinal_29 : decode cX4_makeOldestFinal 29 = .ok (.iinc 2 1, 3) := by decide +kernel
theorem dX4_makeOldestFinal_32 : decode cX4_makeOldestFinal 32 = .ok (.goto (-23), 3) := by decide +kernel
theorem dX4_makeOldestFinal_35 : decode cX4_makeOldestFinal 35 = .ok (.aload_n 0, 1) := by decide +kernel
theorem dX4_makeOldestFinal_36 : decode cX4_makeOldestFinal 36 = .ok (.getfield 27, 3) := by decide +kernel
theorem dX4_makeOldestFinal_39 : decode cX4_makeOldestFinal 39 = .ok (.bipush 7, 2) := by decide +kernel
theorem dX4_makeOldestFinal_41 : decode cX4_makeOldestFinal 41 = .ok (.aload_n 1, 1) := by decide +kernel
theorem dX4_makeOldestFinal_42 : decode cX4_makeOldestFinal 42 = .ok (.aastore, 1) := by decide +kernel
theorem dX4_makeOldestFinal_43 : decode cX4_makeOldestFinal 43 = .ok (.aload_n 0, 1) := by decide +kernel
theorem dX4_makeOldestFinal_44 : decode cX4_makeOldestFinal 44 = .ok (.bipush 7, 2) := by decide +kernel
theorem dX4_makeOldestFinal_46 : decode cX4_makeOldestFinal 46 = .ok (.putfield 31, 3) := by decide +kernel
theorem dX4_makeOldestFinal_49 : decode cX4_makeOldestFinal 49 = .ok (.return_, 1) := by decide +kernel
theorem dX4_letterOrGone_0 : decode cX4_letterOrGone 0 = .ok (.aload_n 0, 1) := by decide +kernel
theorem dX4_letterOrGone_1 : decode cX4_letterOrGone 1 = .ok (.getfield 23, 3) := by decide +kernel
theorem dX4_letterOrGone_4 : decode cX4_letterOrGone 4 = .ok (.aload_n 0, 1) := by decide +kernel
theorem dX4_letterOrGone_5 : decode cX4_letterOrGone 5 = .ok (.getfield 23, 3) := by decide +kernel
theorem dX4_letterOrGone_8 : decode cX4_letterOrGone 8 = .ok (.iload_n 1, 1) := by decide +kernel
theorem dX4_letterOrGone_9 : decode cX4_letterOrGone 9 = .ok (.invokevirtual 126, 3) := by decide +kernel
theorem dX4_letterOrGone_12 : decode cX4_letterOrGone 12 = .ok (.invokevirtual 240, 3) := by decide +kernel
theorem dX4_letterOrGone_15 : decode cX4_letterOrGone 15 = .ok (.ifCond .eq 14, 3) := by decide +kernel
theorem dX4_letterOrGone_18 : decode cX4_letterOrGone 18 = .ok (.aload_n 0, 1) := by decide +kernel
theorem dX4_letterOrGone_19 : decode cX4_letterOrGone 19 = .ok (.getfield 23, 3) := by decide +kernel
theorem dX4_letterOrGone_22 : decode cX4_letterOrGone 22 = .ok (.iload_n 1, 1) := by decide +kernel
theorem dX4_letterOrGone_23 : decode cX4_letterOrGone 23 = .ok (.invokevirtual 142, 3) := by decide +kernel
theorem dX4_letterOrGone_26 : decode cX4_letterOrGone 26 = .ok (.goto 5, 3) := by decide +kernel
theorem dX4_letterOrGone_29 : decode cX4_letterOrGone 29 = .ok (.bipush (-2), 2) := by decide +kernel
theorem dX4_letterOrGone_31 : decode cX4_letterOrGone 31 = .ok (.ireturn, 1) := by decide +kernel
theorem dX4_isUsedByMessage_0 : decode cX4_isUsedByMessage 0 = .ok (.aload_n 0, 1) := by decide +kernel
theorem dX4_isUsedByMessage_1 : decode cX4_isUsedByMessage 1 = .ok (.getfield 23, 3) := by decide +kernel
theorem dX4_isUsedByMessage_4 : decode cX4_isUsedByMessage 4 = .ok (.iload_n 1, 1) := by decide +kernel
theorem dX4_isUsedByMessage_5 : decode cX4_isUsedByMessage 5 = .ok (.invokevirtual 138, 3) := by decide +kernel
theorem dX4_isUsedByMessage_8 : decode cX4_isUsedByMessage 8 = .ok (.ifCond .eq 25, 3) := by decide +kernel
theorem dX4_isUsedByMessage_11 : decode cX4_isUsedByMessage 11 = .ok (.aload_n 0, 1) := by decide +kernel
theorem dX4_isUsedByMessage_12 : decode cX4_isUsedByMessage 12 = .ok (.getfield 23, 3) := by decide +kernel
theorem dX4_isUsedByMessage_15 : decode cX4_isUsedByMessage 15 = .ok (.aload_n 0, 1) := by decide +kernel
theorem dX4_isUsedByMessage_16 : decode cX4_isUsedByMessage 16 = .ok (.getfield 23, 3) := by decide +kernel
theorem dX4_isUsedByMessage_19 : decode cX4_isUsedByMessage 19 = .ok (.iload_n 1, 1) := by decide +kernel
theorem dX4_isUsedByMessage_20 : decode cX4_isUsedByMessage 20 = .ok (.invokevirtual 142, 3) := by decide +kernel
theorem dX4_isUsedByMessage_23 : decode cX4_isUsedByMessage 23 = .ok (.invokevirtual 145, 3) := by decide +kernel
theorem dX4_isUsedByMessage_26 : decode cX4_isUsedByMessage 26 = .ok (.ifCond .le 7, 3) := by decide +kernel
theorem dX4_isUsedByMessage_29 : decode cX4_isUsedByMessage 29 = .ok (.iconst 1, 1) := by decide +kernel
theorem dX4_isUsedByMessage_30 : decode cX4_isUsedByMessage 30 = .ok (.goto 4, 3) := by decide +kernel
theorem dX4_isUsedByMessage_33 : decode cX4_isUsedByMessage 33 = .ok (.iconst 0, 1) := by decide +kernel
theorem dX4_isUsedByMessage_34 : decode cX4_isUsedByMessage 34 = .ok (.ireturn, 1) := by decide +kernel
theorem dX4_bestCuts_0 : decode cX4_bestCuts 0 = .ok (.aload_n 0, 1) := by decide +kernel
theorem dX4_bestCuts_1 : decode cX4_bestCuts 1 = .ok (.getfield 23, 3) := by decide +kernel
theorem dX4_bestCuts_4 : decode cX4_bestCuts 4 = .ok (.getfield 99, 3) := by decide +kernel
theorem dX4_bestCuts_7 : decode cX4_bestCuts 7 = .ok (.bipush 8, 2) := by decide +kernel
theorem dX4_bestCuts_9 : decode cX4_bestCuts 9 = .ok (.if_icmp .le 6, 3) := by decide +kernel
theorem dX4_bestCuts_12 : decode cX4_bestCuts 12 = .ok (.bipush (-2), 2) := by decide +kernel
theorem dX4_bestCuts_14 : decode cX4_bestCuts 14 = .ok (.ireturn, 1) := by decide +kernel
theorem dX4_bestCuts_15 : decode cX4_bestCuts 15 = .ok (.aload_n 0, 1) := by decide +kernel
theorem dX4_bestCuts_16 : decode cX4_bestCuts 16 = .ok (.getfield 55, 3) := by decide +kernel
theorem dX4_bestCuts_19 : decode cX4_bestCuts 19 = .ok (.ifCond .ne 28, 3) := by decide +kernel
theorem dX4_bestCuts_22 : decode cX4_bestCuts 22 = .ok (.aload_n 0, 1) := by decide +kernel
theorem dX4_bestCuts_23 : decode cX4_bestCuts 23 = .ok (.getfield 51, 3) := by decide +kernel
theorem dX4_bestCuts_26 : decode cX4_bestCuts 26 = .ok (.aload_n 0, 1) := by decide +kernel
theorem dX4_bestCuts_27 : decode cX4_bestCuts 27 = .ok (.getfield 23, 3) := by decide +kernel
theorem dX4_bestCuts_30 : decode cX4_bestCuts 30 = .ok (.invokevirtual 265, 3) := by decide +kernel
theorem dX4_bestCuts_33 : decode cX4_bestCuts 33 = .ok (.aload_n 0, 1) := by decide +kernel
theorem dX4_bestCuts_34 : decode cX4_bestCuts 34 = .ok (.getfield 51, 3) := by decide +kernel
theorem dX4_bestCuts_37 : decode cX4_bestCuts 37 = .ok (.lconst 0, 1) := by decide +kernel
theorem dX4_bestCuts_38 : decode cX4_bestCuts 38 = .ok (.invokevirtual 200, 3) := by decide +kernel
theorem dX4_bestCuts_41 : decode cX4_bestCuts 41 = .ok (.pop, 1) := by decide +kernel
theorem dX4_bestCuts_42 : decode cX4_bestCuts 42 = .ok (.aload_n 0, 1) := by decide +kernel
theorem dX4_bestCuts_43 : decode cX4_bestCuts 43 = .ok (.iconst 1, 1) := by decide +kernel
theorem dX4_bestCuts_44 : decode cX4_bestCuts 44 = .ok (.putfield 55, 3) := by decide +kernel
theorem dX4_bestCuts_47 : decode cX4_bestCuts 47 = .ok (.aload_n 0, 1) := by decide +kernel
theorem dX4_bestCuts_48 : decode cX4_bestCuts 48 = .ok (.getfield 51, 3) := by decide +kernel
theorem dX4_bestCuts_51 : decode cX4_bestCuts 51 = .ok (.getfield 268, 3) := by decide +kernel
theorem dX4_bestCuts_54 : decode cX4_bestCuts 54 = .ok (.ireturn, 1) := by decide +kernel
theorem dX4_sizeOfCut_0 : decode cX4_sizeOfCut 0 = .ok (.aload_n 0, 1) := by decide +kernel
theorem dX4_sizeOfCut_1 : decode cX4_sizeOfCut 1 = .ok (.getfield 23, 3) := by decide +kernel
theorem dX4_sizeOfCut_4 : decode cX4_sizeOfCut 4 = .ok (.aload_n 0, 1) := by decide +kernel
theorem dX4_sizeOfCut_5 : decode cX4_sizeOfCut 5 = .ok (.getfield 51, 3) := by decide +kernel
theorem dX4_sizeOfCut_8 : decode cX4_sizeOfCut 8 = .ok (.iload_n 1, 1) := by decide +kernel
theorem dX4_sizeOfCut_9 : decode cX4_sizeOfCut 9 = .ok (.invokevirtual 183, 3) := by decide +kernel
theorem dX4_sizeOfCut_12 : decode cX4_sizeOfCut 12 = .ok (.invokevirtual 132, 3) := by decide +kernel
theorem dX4_sizeOfCut_15 : decode cX4_sizeOfCut 15 = .ok (.ireturn, 1) := by decide +kernel
theorem dX4_sizesOfCut_0 : decode cX4_sizesOfCut 0 = .ok (.aload_n 0, 1) := by decide +kernel
theorem dX4_sizesOfCut_1 : decode cX4_sizesOfCut 1 = .ok (.getfield 51, 3) := by decide +kernel
theorem dX4_sizesOfCut_4 : decode cX4_sizesOfCut 4 = .ok (.iload_n 1, 1) := by decide +kernel
theorem dX4_sizesOfCut_5 : decode cX4_sizesOfCut 5 = .ok (.invokevirtual 180, 3) := by decide +kernel
theorem dX4_sizesOfCut_8 : decode cX4_sizesOfCut 8 = .ok (.aload_n 0, 1) := by decide +kernel
theorem dX4_sizesOfCut_9 : decode cX4_sizesOfCut 9 = .ok (.iload_n 1, 1) := by decide +kernel
theorem dX4_sizesOfCut_10 : decode cX4_sizesOfCut 10 = .ok (.invokevirtual 192, 3) := by decide +kernel
theorem dX4_sizesOfCut_13 : decode cX4_sizesOfCut 13 = .ok (.imul, 1) := by decide +kernel
theorem dX4_sizesOfCut_14 : decode cX4_sizesOfCut 14 = .ok (.ireturn, 1) := by decide +kernel
theorem dX4_isLetter_0 : decode cX4_isLetter 0 = .ok (.iload_n 0, 1) := by decide +kernel
theorem dX4_isLetter_1 : decode cX4_isLetter 1 = .ok (.bipush 97, 2) := by decide +kernel
theorem dX4_isLetter_3 : decode cX4_isLetter 3 = .ok (.if_icmp .lt 13, 3) := by decide +kernel
theorem dX4_isLetter_6 : decode cX4_isLetter 6 = .ok (.iload_n 0, 1) := by decide +kernel
theorem dX4_isLetter_7 : decode cX4_isLetter 7 = .ok (.bipush 122, 2) := by decide +kernel
theorem dX4_isLetter_9 : decode cX4_isLetter 9 = .ok (.if_icmp .gt 7, 3) := by decide +kernel
theorem dX4_isLetter_12 : decode cX4_isLetter 12 = .ok (.iconst 1, 1) := by decide +kernel
theorem dX4_isLetter_13 : decode cX4_isLetter 13 = .ok (.goto 4, 3) := by decide +kernel
theorem dX4_isLetter_16 : decode cX4_isLetter 16 = .ok (.iconst 0, 1) := by decide +kernel
theorem dX4_isLetter_17 : decode cX4_isLetter 17 = .ok (.ireturn, 1) := by decide +kernel
theorem dX4_sideOf_0 : decode cX4_sideOf 0 = .ok (.iload_n 0, 1) := by decide +kernel
theorem dX4_sideOf_1 : decode cX4_sideOf 1 = .ok (.bipush 48, 2) := by decide +kernel
theorem dX4_sideOf_3 : decode cX4_sideOf 3 = .ok (.if_icmp .ge 7, 3) := by decide +kernel
theorem dX4_sideOf_6 : decode cX4_sideOf 6 = .ok (.iconst 0, 1) := by decide +kernel
theorem dX4_sideOf_7 : decode cX4_sideOf 7 = .ok (.goto 4, 3) := by decide +kernel
theorem dX4_sideOf_10 : decode cX4_sideOf 10 = .ok (.iconst 1, 1) := by decide +kernel
theorem dX4_sideOf_11 : decode cX4_sideOf 11 = .ok (.ireturn, 1) := by decide +kernel
theorem dX4_rowOf_0 : decode cX4_rowOf 0 = .ok (.iload_n 0, 1) := by decide +kernel
theorem dX4_rowOf_1 : decode cX4_rowOf 1 = .ok (.bipush 48, 2) := by decide +kernel
theorem dX4_rowOf_3 : decode cX4_rowOf 3 = .ok (.irem, 1) := by decide +kernel
theorem dX4_rowOf_4 : decode cX4_rowOf 4 = .ok (.bipush 8, 2) := by decide +kernel
theorem dX4_rowOf_6 : decode cX4_rowOf 6 = .ok (.idiv, 1) := by decide +kernel
theorem dX4_rowOf_7 : decode cX4_rowOf 7 = .ok (.ireturn, 1) := by decide +kernel
theorem dX4_columnOf_0 : decode cX4_columnOf 0 = .ok (.iload_n 0, 1) := by decide +kernel
theorem dX4_columnOf_1 : decode cX4_columnOf 1 = .ok (.bipush 8, 2) := by decide +kernel
theorem dX4_columnOf_3 : decode cX4_columnOf 3 = .ok (.irem, 1) := by decide +kernel
theorem dX4_columnOf_4 : decode cX4_columnOf 4 = .ok (.ireturn, 1) := by decide +kernel
theorem dX5_init_0 : decode cX5_init 0 = .ok (.aload_n 0, 1) := by decide +kernel
theorem dX5_init_1 : decode cX5_init 1 = .ok (.invokespecial 3, 3) := by decide +kernel
theorem dX5_init_4 : decode cX5_init 4 = .ok (.aload_n 0, 1) := by decide +kernel
theorem dX5_init_5 : decode cX5_init 5 = .ok (.sipush 400, 3) := by decide +kernel
theorem dX5_init_8 : decode cX5_init 8 = .ok (.newarray .int, 2) := by decide +kernel
theorem dX5_init_10 : decode cX5_init 10 = .ok (.putfield 9, 3) := by decide +kernel
theorem dX5_init_13 : decode cX5_init 13 = .ok (.aload_n 0, 1) := by decide +kernel
theorem dX5_init_14 : decode cX5_init 14 = .ok (.iconst (-1), 1) := by decide +kernel
theorem dX5_init_15 : decode cX5_init 15 = .ok (.putfield 13, 3) := by decide +kernel
theorem dX5_init_18 : decode cX5_init 18 = .ok (.aload_n 0, 1) := by decide +kernel
theorem dX5_init_19 : decode cX5_init 19 = .ok (.sipush 186, 3) := by decide +kernel
theorem dX5_init_22 : decode cX5_init 22 = .ok (.newarray .int, 2) := by decide +kernel
theorem dX5_init_24 : decode cX5_init 24 = .ok (.putfield 17, 3) := by decide +kernel
theorem dX5_init_27 : decode cX5_init 27 = .ok (.aload_n 0, 1) := by decide +kernel
theorem dX5_init_28 : decode cX5_init 28 = .ok (.sipush 186, 3) := by decide +kernel
theorem dX5_init_31 : decode cX5_init 31 = .ok (.newarray .int, 2) := by decide +kernel
theorem dX5_init_33 : decode cX5_init 33 = .ok (.putfield 20, 3) := by decide +kernel
theorem dX5_init_36 : decode cX5_init 36 = .ok (.aload_n 0, 1) := by decide +kernel
theorem dX5_init_37 : decode cX5_init 37 = .ok (.sipush 186, 3) := by decide +kernel
theorem dX5_init_40 : decode cX5_init 40 = .ok (.newarray .int, 2) := by decide +kernel
theorem dX5_init_42 : decode cX5_init 42 = .ok (.putfield 23, 3) := by decide +kernel
theorem dX5_init_45 : decode cX5_init 45 = .ok (.aload_n 0, 1) := by decide +kernel
theorem dX5_init_46 : decode cX5_init 46 = .ok (.bipush 8, 2) := by decide +kernel
theorem dX5_init_48 : decode cX5_init 48 = .ok (.sipush 186, 3) := by decide +kernel
theorem dX5_init_51 : decode cX5_init 51 = .ok (.multianewarray 26 2, 4) := by decide +kernel
theorem dX5_init_55 : decode cX5_init 55 = .ok (.putfield 28, 3) := by decide +kernel
theorem dX5_init_58 : decode cX5_init 58 = .ok (.aload_n 0, 1) := by decide +kernel
theorem dX5_init_59 : decode cX5_init 59 = .ok (.bipush 48, 2) := by decide +kernel
theorem dX5_init_61 : decode cX5_init 61 = .ok (.newarray .int, 2) := by decide +kernel
theorem dX5_init_63 : decode cX5_init 63 = .ok (.putfield 31, 3) := by decide +kernel
theorem dX5_init_66 : decode cX5_init 66 = .ok (.aload_n 0, 1) := by decide +kernel
theorem dX5_init_67 : decode cX5_init 67 = .ok (.bipush 48, 2) := by decide +kernel
theorem dX5_init_69 : decode cX5_init 69 = .ok (.newarray .boolean, 2) := by decide +kernel
theorem dX5_init_71 : decode cX5_init 71 = .ok (.putfield 34, 3) := by decide +kernel
theorem dX5_init_74 : decode cX5_init 74 = .ok (.aload_n 0, 1) := by decide +kernel
theorem dX5_init_75 : decode cX5_init 75 = .ok (.bipush 9, 2) := by decide +kernel
theorem dX5_init_77 : decode cX5_init 77 = .ok (.newarray .int, 2) := by decide +kernel
theorem dX5_init_79 : decode cX5_init 79 = .ok (.putfield 38, 3) := by decide +kernel
theorem dX5_init_82 : decode cX5_init 82 = .ok (.aload_n 0, 1) := by decide +kernel
theorem dX5_init_83 : decode cX5_init 83 = .ok (.bipush 8, 2) := by decide +kernel
theorem dX5_init_85 : decode cX5_init 85 = .ok (.newarray .int, 2) := by decide +kernel
theorem dX5_init_87 : decode cX5_init 87 = .ok (.putfield 41, 3) := by decide +kernel
theorem dX5_init_90 : decode cX5_init 90 = .ok (.aload_n 0, 1) := by decide +kernel
theorem dX5_init_91 : decode cX5_init 91 = .ok (.bipush 8, 2) := by decide +kernel
theorem dX5_init_93 : decode cX5_init 93 = .ok (.newarray .int, 2) := by decide +kernel
theorem dX5_init_95 : decode cX5_init 95 = .ok (.putfield 44, 3) := by decide +kernel
theorem dX5_init_98 : decode cX5_init 98 = .ok (.aload_n 0, 1) := by decide +kernel
theorem dX5_init_99 : decode cX5_init 99 = .ok (.bipush 8, 2) := by decide +kernel
theorem dX5_init_101 : decode cX5_init 101 = .ok (.newarray .int, 2) := by decide +kernel
theorem dX5_init_103 : decode cX5_init 103 = .ok (.putfield 47, 3) := by decide +kernel
theorem dX5_init_106 : decode cX5_init 106 = .ok (.aload_n 0, 1) := by decide +kernel
theorem dX5_init_107 : decode cX5_init 107 = .ok (.bipush 9, 2) := by decide +kernel
theorem dX5_init_109 : decode cX5_init 109 = .ok (.newarray .long, 2) := by decide +kernel
theorem dX5_init_111 : decode cX5_init 111 = .ok (.putfield 50, 3) := by decide +kernel
theorem dX5_init_114 : decode cX5_init 114 = .ok (.aload_n 0, 1) := by decide +kernel
theorem dX5_init_115 : decode cX5_init 115 = .ok (.sipush 4096, 3) := by decide +kernel
theorem dX5_init_118 : decode cX5_init 118 = .ok (.newarray .long, 2) := by decide +kernel
theorem dX5_init_120 : decode cX5_init 120 = .ok (.putfield 54, 3) := by decide +kernel
theorem dX5_init_123 : decode cX5_init 123 = .ok (.aload_n 0, 1) := by decide +kernel
theorem dX5_init_124 : decode cX5_init 124 = .ok (.bipush 8, 2) := by decide +kernel
theorem dX5_init_126 : decode cX5_init 126 = .ok (.newarray .int, 2) := by decide +kernel
theorem dX5_init_128 : decode cX5_init 128 = .ok (.putfield 57, 3) := by decide +kernel
theorem dX5_init_131 : decode cX5_init 131 = .ok (.aload_n 0, 1) := by decide +kernel
theorem dX5_init_132 : decode cX5_init 132 = .ok (.getfield 17, 3) := by decide +kernel
theorem dX5_init_135 : decode cX5_init 135 = .ok (.iconst 1, 1) := by decide +kernel
theorem dX5_init_136 : decode cX5_init 136 = .ok (.iconst 1, 1) := by decide +kernel
theorem dX5_init_137 : decode cX5_init 137 = .ok (.invokestatic 60, 3) := by decide +kernel
theorem dX5_init_140 : decode cX5_init 140 = .ok (.return_, 1) := by decide +kernel
theorem dX5_thrown_0 : decode cX5_thrown 0 = .ok (.aload_n 0, 1) := by decide +kernel
theorem dX5_thrown_1 : decode cX5_thrown 1 = .ok (.getfield 64, 3) := by decide +kernel
theorem dX5_thrown_4 : decode cX5_thrown 4 = .ok (.ireturn, 1) := by decide +kernel
theorem dX5_fails_0 : decode cX5_fails 0 = .ok (.iload_n 1, 1) := by decide +kernel
theorem dX5_fails_1 : decode cX5_fails 1 = .ok (.ifCond .eq 15, 3) := by decide +kernel
theorem dX5_fails_4 : decode cX5_fails 4 = .ok (.aload_n 0, 1) := by decide +kernel
theorem dX5_fails_5 : decode cX5_fails 5 = .ok (.getfield 64, 3) := by decide +kernel
theorem dX5_fails_8 : decode cX5_fails 8 = .ok (.ifCond .ne 8, 3) := by decide +kernel
theorem dX5_fails_11 : decode cX5_fails 11 = .ok (.aload_n 0, 1) := by decide +kernel
theorem dX5_fails_12 : decode cX5_fails 12 = .ok (.iload_n 2, 1) := by decide +kernel
theorem dX5_fails_13 : decode cX5_fails 13 = .ok (.putfield 64, 3) := by decide +kernel
theorem dX5_fails_16 : decode cX5_fails 16 = .ok (.aload_n 0, 1) := by decide +kernel
theorem dX5_fails_17 : decode cX5_fails 17 = .ok (.getfield 64, 3) := by decide +kernel
theorem dX5_fails_20 : decode cX5_fails 20 = .ok (.ifCond .eq 7, 3) := by decide +kernel
theorem dX5_fails_23 : decode cX5_fails 23 = .ok (.iconst 1, 1) := by decide +kernel
theorem dX5_fails_24 : decode cX5_fails 24 = .ok (.goto 4, 3) := by decide +kernel
theorem dX5_fails_27 : decode cX5_fails 27 = .ok (.iconst 0, 1) := by decide +kernel
theorem dX5_fails_28 : decode cX5_fails 28 = .ok (.ireturn, 1) := by decide +kernel
theorem dX5_in_0 : decode cX5_in 0 = .ok (.iload_n 0, 1) := by decide +kernel
theorem dX5_in_1 : decode cX5_in 1 = .ok (.iload_n 1, 1) := by decide +kernel
theorem dX5_in_2 : decode cX5_in 2 = .ok (.if_icmp .lt 12, 3) := by decide +kernel
theorem dX5_in_5 : decode cX5_in 5 = .ok (.iload_n 0, 1) := by decide +kernel
theorem dX5_in_6 : decode cX5_in 6 = .ok (.iload_n 2, 1) := by decide +kernel
theorem dX5_in_7 : decode cX5_in 7 = .ok (.if_icmp .gt 7, 3) := by decide +kernel
theorem dX5_in_10 : decode cX5_in 10 = .ok (.iconst 1, 1) := by decide +kernel
theorem dX5_in_11 : decode cX5_in 11 = .ok (.goto 4, 3) := by decide +kernel
theorem dX5_in_14 : decode cX5_in 14 = .ok (.iconst 0, 1) := by decide +kernel
theorem dX5_in_15 : decode cX5_in 15 = .ok (.ireturn, 1) := by decide +kernel
theorem dX5_min_0 : decode cX5_min 0 = .ok (.iload_n 0, 1) := by decide +kernel
theorem dX5_min_1 : decode cX5_min 1 = .ok (.iload_n 1, 1) := by decide +kernel
theorem dX5_min_2 : decode cX5_min 2 = .ok (.if_icmp .ge 7, 3) := by decide +kernel
theorem dX5_min_5 : decode cX5_min 5 = .ok (.iload_n 0, 1) := by decide +kernel
theorem dX5_min_6 : decode cX5_min 6 = .ok (.goto 4, 3) := by decide +kernel
theorem dX5_min_9 : decode cX5_min 9 = .ok (.iload_n 1, 1) := by decide +kernel
theorem dX5_min_10 : decode cX5_min 10 = .ok (.ireturn, 1) := by decide +kernel
theorem dX5_copy_0 : decode cX5_copy 0 = .ok (.iconst 0, 1) := by decide +kernel
theorem dX5_copy_1 : decode cX5_copy 1 = .ok (.istore_n 2, 1) := by decide +kernel
theorem dX5_copy_2 : decode cX5_copy 2 = .ok (.iload_n 2, 1) := by decide +kernel
theorem dX5_copy_3 : decode cX5_copy 3 = .ok (.sipush 186, 3) := by decide +kernel
theorem dX5_copy_6 : decode cX5_copy 6 = .ok (.if_icmp .ge 15, 3) := by decide +kernel
theorem dX5_copy_9 : decode cX5_copy 9 = .ok (.aload_n 1, 1) := by decide +kernel
theorem dX5_copy_10 : decode cX5_copy 10 = .ok (.iload_n 2, 1) := by decide +kernel
theorem dX5_copy_11 : decode cX5_copy 11 = .ok (.aload_n 0, 1) := by decide +kernel
theorem dX5_copy_12 : decode cX5_copy 12 = .ok (.iload_n 2, 1) := by decide +kernel
theorem dX5_copy_13 : decode cX5_copy 13 = .ok (.iaload, 1) := by decide +kernel
theorem dX5_copy_14 : decode cX5_copy 14 = .ok (.iastore, 1) := by decide +kernel
theorem dX5_copy_15 : decode cX5_copy 15 = .ok (.iinc 2 1, 3) := by decide +kernel
theorem dX5_copy_18 : decode cX5_copy 18 = .ok (.goto (-16), 3) := by decide +kernel
theorem dX5_copy_21 : decode cX5_copy 21 = .ok (.return_, 1) := by decide +kernel
theorem dX5_laySheet_0 : decode cX5_laySheet 0 = .ok (.iconst 0, 1) := by decide +kernel
theorem dX5_laySheet_1 : decode cX5_laySheet 1 = .ok (.istore_n 3, 1) := by decide +kernel
theorem dX5_laySheet_2 : decode cX5_laySheet 2 = .ok (.iload_n 3, 1) := by decide +kernel
theorem dX5_laySheet_3 : decode cX5_laySheet 3 = .ok (.sipush 186, 3) := by decide +kernel
theorem dX5_laySheet_6 : decode cX5_laySheet 6 = .ok (.if_icmp .ge 13, 3) := by decide +kernel
theorem dX5_laySheet_9 : decode cX5_laySheet 9 = .ok (.aload_n 0, 1) := by decide +kernel
theorem dX5_laySheet_10 : decode cX5_laySheet 10 = .ok (.iload_n 3, 1) := by decide +kernel
theorem dX5_laySheet_11 : decode cX5_laySheet 11 = .ok (.iconst 0, 1) := by decide +kernel
theorem dX5_laySheet_12 : decode cX5_laySheet 12 = .ok (.iastore, 1) := by decide +kernel
theorem dX5_laySheet_13 : decode cX5_laySheet 13 = .ok (.iinc 3 1, 3) := by decide +kernel
theorem dX5_laySheet_16 : decode cX5_laySheet 16 = .ok (.goto (-14), 3) := by decide +kernel
theorem dX5_laySheet_19 : decode cX5_laySheet 19 = .ok (.aload_n 0, 1) := by decide +kernel
theorem dX5_laySheet_20 : decode cX5_laySheet 20 = .ok (.iconst 0, 1) := by decide +kernel
theorem dX5_laySheet_21 : decode cX5_laySheet 21 = .ok (.iload_n 1, 1) := by decide +kernel
theorem dX5_laySheet_22 : decode cX5_laySheet 22 = .ok (.iastore, 1) := by decide +kernel
theorem dX5_laySheet_23 : decode cX5_laySheet 23 = .ok (.aload_n 0, 1) := by decide +kernel
theorem dX5_laySheet_24 : decode cX5_laySheet 24 = .ok (.iconst 1, 1) := by decide +kernel
theorem dX5_laySheet_25 : decode cX5_laySheet 25 = .ok (.iload_n 2, 1) := by decide +kernel
theorem dX5_laySheet_26 : decode cX5_laySheet 26 = .ok (.iastore, 1) := by decide +kernel
theorem dX5_laySheet_27 : decode cX5_laySheet 27 = .ok (.aload_n 0, 1) := by decide +kernel
theorem dX5_laySheet_28 : decode cX5_laySheet 28 = .ok (.iconst 2, 1) := by decide +kernel
theorem dX5_laySheet_29 : decode cX5_laySheet 29 = .ok (.iconst 1, 1) := by decide +kernel
theorem dX5_laySheet_30 : decode cX5_laySheet 30 = .ok (.iastore, 1) := by decide +kernel
theorem dX5_laySheet_31 : decode cX5_laySheet 31 = .ok (.iconst 0, 1) := by decide +kernel
theorem dX5_laySheet_32 : decode cX5_laySheet 32 = .ok (.istore_n 3, 1) := by decide +kernel
theorem dX5_laySheet_33 : decode cX5_laySheet 33 = .ok (.iload_n 3, 1) := by decide +kernel
theorem dX5_laySheet_34 : decode cX5_laySheet 34 = .ok (.bipush 96, 2) := by decide +kernel
theorem dX5_laySheet_36 : decode cX5_laySheet 36 = .ok (.if_icmp .ge 16, 3) := by decide +kernel
theorem dX5_laySheet_39 : decode cX5_laySheet 39 = .ok (.aload_n 0, 1) := by decide +kernel
theorem dX5_laySheet_40 : decode cX5_laySheet 40 = .ok (.bipush 6, 2) := by decide +kernel
theorem dX5_laySheet_42 : decode cX5_laySheet 42 = .ok (.iload_n 3, 1) := by decide +kernel
theorem dX5_laySheet_43 : decode cX5_laySheet 43 = .ok (.iadd, 1) := by decide +kernel
theorem dX5_laySheet_44 : decode cX5_laySheet 44 = .ok (.iconst (-1), 1) := by decide +kernel
theorem dX5_laySheet_45 : decode cX5_laySheet 45 = .ok (.iastore, 1) := by decide +kernel
theorem dX5_laySheet_46 : decode cX5_laySheet 46 = .ok (.iinc 3 1, 3) := by decide +kernel
theorem dX5_laySheet_49 : decode cX5_laySheet 49 = .ok (.goto (-16), 3) := by decide +kernel
theorem dX5_laySheet_52 : decode cX5_laySheet 52 = .ok (.iconst 0, 1) := by decide +kernel
theorem dX5_laySheet_53 : decode cX5_laySheet 53 = .ok (.istore_n 3, 1) := by decide +kernel
theorem dX5_laySheet_54 : decode cX5_laySheet 54 = .ok (.iload_n 3, 1) := by decide +kernel
theorem dX5_laySheet_55 : decode cX5_laySheet 55 = .ok (.bipush 12, 2) := by decide +kernel
theorem dX5_laySheet_57 : decode cX5_laySheet 57 = .ok (.if_icmp .ge 16, 3) := by decide +kernel
theorem dX5_laySheet_60 : decode cX5_laySheet 60 = .ok (.aload_n 0, 1) := by decide +kernel
theorem dX5_laySheet_61 : decode cX5_laySheet 61 = .ok (.bipush 102, 2) := by decide +kernel
theorem dX5_laySheet_63 : decode cX5_laySheet 63 = .ok (.iload_n 3, 1) := by decide +kernel
theorem dX5_laySheet_64 : decode cX5_laySheet 64 = .ok (.iadd, 1) := by decide +kernel
theorem dX5_laySheet_65 : decode cX5_laySheet 65 = .ok (.iconst 1, 1) := by decide +kernel
theorem dX5_laySheet_66 : decode cX5_laySheet 66 = .ok (.iastore, 1) := by decide +kernel
theorem dX5_laySheet_67 : decode cX5_laySheet 67 = .ok (.iinc 3 1, 3) := by decide +kernel
theorem dX5_laySheet_70 : decode cX5_laySheet 70 = .ok (.goto (-16), 3) := by decide +kernel
theorem dX5_laySheet_73 : decode cX5_laySheet 73 = .ok (.return_, 1) := by decide +kernel
theorem dX5_append_0 : decode cX5_append 0 = .ok (.aload_n 0, 1) := by decide +kernel
theorem dX5_append_1 : decode cX5_append 1 = .ok (.iconst 0, 1) := by decide +kernel
theorem dX5_append_2 : decode cX5_append 2 = .ok (.putfield 64, 3) := by decide +kernel
theorem dX5_append_5 : decode cX5_append 5 = .ok (.aload_n 0, 1) := by decide +kernel
theorem dX5_append_6 : decode cX5_append 6 = .ok (.getfield 67, 3) := by decide +kernel
theorem dX5_append_9 : decode cX5_append 9 = .ok (.bipush 20, 2) := by decide +kernel
theorem dX5_append_11 : decode cX5_append 11 = .ok (.iadd, 1) := by decide +kernel
theorem dX5_append_12 : decode cX5_append 12 = .ok (.sipush 400, 3) := by decide +kernel
theorem dX5_append_15 : decode cX5_append 15 = .ok (.if_icmp .le 5, 3) := by decide +kernel
theorem dX5_append_18 : decode cX5_append 18 = .ok (.iconst (-1), 1) := by decide +kernel
theorem dX5_append_19 : decode cX5_append 19 = .ok (.ireturn, 1) := by decide +kernel
theorem dX5_append_20 : decode cX5_append 20 = .ok (.iconst 0, 1) := by decide +kernel
theorem dX5_append_21 : decode cX5_append 21 = .ok (.istore 6, 2) := by decide +kernel
theorem dX5_append_23 : decode cX5_append 23 = .ok (.iload 6, 2) := by decide +kernel
theorem dX5_append_25 : decode cX5_append 25 = .ok (.bipush 20, 2) := by decide +kernel
theorem dX5_append_27 : decode cX5_append 27 = .ok (.if_icmp .ge 93, 3) := by decide +kernel
theorem dX5_append_30 : decode cX5_append 30 = .ok (.iload 6, 2) := by decide +kernel
theorem dX5_append_32 : decode cX5_append 32 = .ok (.iconst 4, 1) := by decide +kernel
theorem dX5_append_33 : decode cX5_append 33 = .ok (.if_icmp .ge 7, 3) := by decide +kernel
theorem dX5_append_36 : decode cX5_append 36 = .ok (.iload_n 1, 1) := by decide +kernel
theorem dX5_append_37 : decode cX5_append 37 = .ok (.goto 39, 3) := by decide +kernel
theorem dX5_append_40 : decode cX5_append 40 = .ok (.iload 6, 2) := by decide +kernel
theorem dX5_append_42 : decode cX5_append 42 = .ok (.bipush 8, 2) := by decide +kernel
theorem dX5_append_44 : decode cX5_append 44 = .ok (.if_icmp .ge 7, 3) := by decide +kernel
theorem dX5_append_47 : decode cX5_append 47 = .ok (.iload_n 2, 1) := by decide +kernel
theorem dX5_append_48 : decode cX5_append 48 = .ok (.goto 28, 3) := by decide +kernel
theorem dX5_append_51 : decode cX5_append 51 = .ok (.iload 6, 2) := by decide +kernel
theorem dX5_append_53 : decode cX5_append 53 = .ok (.bipush 12, 2) := by decide +kernel
theorem dX5_append_55 : decode cX5_append 55 = .ok (.if_icmp .ge 7, 3) := by decide +kernel
theorem dX5_append_58 : decode cX5_append 58 = .ok (.iload_n 3, 1) := by decide +kernel
theorem dX5_append_59 : decode cX5_append 59 = .ok (.goto 17, 3) := by decide +kernel
theorem dX5_append_62 : decode cX5_append 62 = .ok (.iload 6, 2) := by decide +kernel
theorem dX5_append_64 : decode cX5_append 64 = .ok (.bipush 16, 2) := by decide +kernel
theorem dX5_append_66 : decode cX5_append 66 = .ok (.if_icmp .ge 8, 3) := by decide +kernel
theorem dX5_append_69 : decode cX5_append 69 = .ok (.iload 4, 2) := by decide +kernel
theorem dX5_append_71 : decode cX5_append 71 = .ok (.goto 5, 3) := by decide +kernel
theorem dX5_append_74 : decode cX5_append 74 = .ok (.iload 5, 2) := by decide +kernel
theorem dX5_append_76 : decode cX5_append 76 = .ok (.istore 7, 2) := by decide +kernel
theorem dX5_append_78 : decode cX5_append 78 = .ok (.aload_n 0, 1) := by decide +kernel
theorem dX5_append_79 : decode cX5_append 79 = .ok (.getfield 9, 3) := by decide +kernel
theorem dX5_append_82 : decode cX5_append 82 = .ok (.aload_n 0, 1) := by decide +kernel
theorem dX5_append_83 : decode cX5_append 83 = .ok (.getfield 67, 3) := by decide +kernel
theorem dX5_append_86 : decode cX5_append 86 = .ok (.iload 7, 2) := by decide +kernel
theorem dX5_append_88 : decode cX5_append 88 = .ok (.bipush 24, 2) := by decide +kernel
theorem dX5_append_90 : decode cX5_append 90 = .ok (.bipush 8, 2) := by decide +kernel
theorem dX5_append_92 : decode cX5_append 92 = .ok (.iload 6, 2) := by decide +kernel
theorem dX5_append_94 : decode cX5_append 94 = .ok (.iconst 4, 1) := by decide +kernel
theorem dX5_append_95 : decode cX5_append 95 = .ok (.irem, 1) := by decide +kernel
theorem dX5_append_96 : decode cX5_append 96 = .ok (.imul, 1) := by decide +kernel
theorem dX5_append_97 : decode cX5_append 97 = .ok (.isub, 1) := by decide +kernel
theorem dX5_append_98 : decode cX5_append 98 = .ok (.ishr, 1) := by decide +kernel
theorem dX5_append_99 : decode cX5_append 99 = .ok (.sipush 255, 3) := by decide +kernel
theorem dX5_append_102 : decode cX5_append 102 = .ok (.iand, 1) := by decide +kernel
theorem dX5_append_103 : decode cX5_append 103 = .ok (.iastore, 1) := by decide +kernel
theorem dX5_append_104 : decode cX5_append 104 = .ok (.aload_n 0, 1) := by decide +kernel
theorem dX5_append_105 : decode cX5_append 105 = .ok (.dup, 1) := by decide +kernel
theorem dX5_append_106 : decode cX5_append 106 = .ok (.getfield 67, 3) := by decide +kernel
theorem dX5_append_109 : decode cX5_append 109 = .ok (.iconst 1, 1) := by decide +kernel
theorem dX5_append_110 : decode cX5_append 110 = .ok (.iadd, 1) := by decide +kernel
theorem dX5_append_111 : decode cX5_append 111 = .ok (.putfield 67, 3) := by decide +kernel
theorem dX5_append_114 : decode cX5_append 114 = .ok (.iinc 6 1, 3) := by decide +kernel
theorem dX5_append_117 : decode cX5_append 117 = .ok (.goto (-94), 3) := by decide +kernel
theorem dX5_append_120 : decode cX5_append 120 = .ok (.aload_n 0, 1) := by decide +kernel
theorem dX5_append_121 : decode cX5_append 121 = .ok (.getfield 67, 3) := by decide +kernel
theorem dX5_append_124 : decode cX5_append 124 = .ok (.ireturn, 1) := by decide +kernel
theorem dX5_byteAt_0 : decode cX5_byteAt 0 = .ok (.iload_n 1, 1) := by decide +kernel
theorem dX5_byteAt_1 : decode cX5_byteAt 1 = .ok (.aload_n 0, 1) := by decide +kernel
theorem dX5_byteAt_2 : decode cX5_byteAt 2 = .ok (.getfield 70, 3) := by decide +kernel
theorem dX5_byteAt_5 : decode cX5_byteAt 5 = .ok (.if_icmp .ge 12, 3) := by decide +kernel
theorem dX5_byteAt_8 : decode cX5_byteAt 8 = .ok (.aload_n 0, 1) := by decide +kernel
theorem dX5_byteAt_9 : decode cX5_byteAt 9 = .ok (.getfield 9, 3) := by decide +kernel
theorem dX5_byteAt_12 : decode cX5_byteAt 12 = .ok (.iload_n 1, 1) := by decide +kernel
theorem dX5_byteAt_13 : decode cX5_byteAt 13 = .ok (.iaload, 1) := by decide +kernel
theorem dX5_byteAt_14 : decode cX5_byteAt 14 = .ok (.goto 4, 3) := by decide +kernel
theorem dX5_byteAt_17 : decode cX5_byteAt 17 = .ok (.iconst (-1), 1) := by decide +kernel
theorem dX5_byteAt_18 : decode cX5_byteAt 18 = .ok (.ireturn, 1) := by decide +kernel
theorem dX5_ahead_0 : decode cX5_ahead 0 = .ok (.aload_n 0, 1) := by decide +kernel
theorem dX5_ahead_1 : decode cX5_ahead 1 = .ok (.aload_n 0, 1) := by decide +kernel
theorem dX5_ahead_2 : decode cX5_ahead 2 = .ok (.getfield 73, 3) := by decide +kernel
theorem dX5_ahead_5 : decode cX5_ahead 5 = .ok (.invokevirtual 76, 3) := by decide +kernel
theorem dX5_ahead_8 : decode cX5_ahead 8 = .ok (.bipush 32, 2) := by decide +kernel
theorem dX5_ahead_10 : decode cX5_ahead 10 = .ok (.if_icmp .ne 16, 3) := by decide +kernel
theorem dX5_ahead_13 : decode cX5_ahead 13 = .ok (.aload_n 0, 1) := by decide +kernel
theorem dX5_ahead_14 : decode cX5_ahead 14 = .ok (.dup, 1) := by decide +kernel
theorem dX5_ahead_15 : decode cX5_ahead 15 = .ok (.getfield 73, 3) := by decide +kernel
theorem dX5_ahead_18 : decode cX5_ahead 18 = .ok (.iconst 1, 1) := by decide +kernel
theorem dX5_ahead_19 : decode cX5_ahead 19 = .ok (.iadd, 1) := by decide +kernel
theorem dX5_ahead_20 : decode cX5_ahead 20 = .ok (.putfield 73, 3) := by decide +kernel
theorem dX5_ahead_23 : decode cX5_ahead 23 = .ok (.goto (-23), 3) := by decide +kernel
theorem dX5_ahead_26 : decode cX5_ahead 26 = .ok (.aload_n 0, 1) := by decide +kernel
theorem dX5_ahead_27 : decode cX5_ahead 27 = .ok (.aload_n 0, 1) := by decide +kernel
theorem dX5_ahead_28 : decode cX5_ahead 28 = .ok (.getfield 73, 3) := by decide +kernel
theorem dX5_ahead_31 : decode cX5_ahead 31 = .ok (.invokevirtual 76, 3) := by decide +kernel
theorem dX5_ahead_34 : decode cX5_ahead 34 = .ok (.ireturn, 1) := by decide +kernel
theorem dX5_isGood_0 : decode cX5_isGood 0 = .ok (.aload_n 0, 1) := by decide +kernel
theorem dX5_isGood_1 : decode cX5_isGood 1 = .ok (.getfield 80, 3) := by decide +kernel
theorem dX5_isGood_4 : decode cX5_isGood 4 = .ok (.ifCond .ne 7, 3) := by decide +kernel
theorem dX5_isGood_7 : decode cX5_isGood 7 = .ok (.iconst 1, 1) := by decide +kernel
theorem dX5_isGood_8 : decode cX5_isGood 8 = .ok (.goto 4, 3) := by decide +kernel
theorem dX5_isGood_11 : decode cX5_isGood 11 = .ok (.iconst 0, 1) := by decide +kernel
theorem dX5_isGood_12 : decode cX5_isGood 12 = .ok (.ireturn, 1) := by decide +kernel
theorem dX5_report_0 : decode cX5_report 0 = .ok (.aload_n 0, 1) := by decide +kernel
theorem dX5_report_1 : decode cX5_report 1 = .ok (.getfield 80, 3) := by decide +kernel
theorem dX5_report_4 : decode cX5_report 4 = .ok (.ifCond .eq 4, 3) := by decide +kernel
theorem dX5_report_7 : decode cX5_report 7 = .ok (.return_, 1) := by decide +kernel
theorem dX5_report_8 : decode cX5_report 8 = .ok (.aload_n 0, 1) := by decide +kernel
theorem dX5_report_9 : decode cX5_report 9 = .ok (.iload_n 1, 1) := by decide +kernel
theorem dX5_report_10 : decode cX5_report 10 = .ok (.putfield 80, 3) := by decide +kernel
theorem dX5_report_13 : decode cX5_report 13 = .ok (.aload_n 0, 1) := by decide +kernel
theorem dX5_report_14 : decode cX5_report 14 = .ok (.iload_n 2, 1) := by decide +kernel
theorem dX5_report_15 : decode cX5_report 15 = .ok (.putfield 83, 3) := by decide +kernel
theorem dX5_report_18 : decode cX5_report 18 = .ok (.return_, 1) := by decide +kernel
theorem dX5_isDigit_0 : decode cX5_isDigit 0 = .ok (.iload_n 0, 1) := by decide +kernel
theorem dX5_isDigit_1 : decode cX5_isDigit 1 = .ok (.bipush 48, 2) := by decide +kernel
theorem dX5_isDigit_3 : decode cX5_isDigit 3 = .ok (.bipush 57, 2) := by decide +kernel
theorem dX5_isDigit_5 : decode cX5_isDigit 5 = .ok (.invokestatic 86, 3) := by decide +kernel
theorem dX5_isDigit_8 : decode cX5_isDigit 8 = .ok (.ireturn, 1) := by decide +kernel
theorem dX5_takeWord_0 : decode cX5_takeWord 0 = .ok (.aload_n 0, 1) := by decide +kernel
theorem dX5_takeWord_1 : decode cX5_takeWord 1 = .ok (.invokevirtual 90, 3) := by decide +kernel
theorem dX5_takeWord_4 : decode cX5_takeWord 4 = .ok (.ifCond .ne 5, 3) := by decide +kernel
theorem dX5_takeWord_7 : decode cX5_takeWord 7 = .ok (.iconst 0, 1) := by decide +kernel
theorem dX5_takeWord_8 : decode cX5_takeWord 8 = .ok (.ireturn, 1) := by decide +kernel
theorem dX5_takeWord_9 : decode cX5_takeWord 9 = .ok (.aload_n 0, 1) := by decide +kernel
theorem dX5_takeWord_10 : decode cX5_takeWord 10 = .ok (.invokevirtual 94, 3) := by decide +kernel
theorem dX5_takeWord_13 : decode cX5_takeWord 13 = .ok (.pop, 1) := by decide +kernel
theorem dX5_takeWord_14 : decode cX5_takeWord 14 = .ok (.iconst 0, 1) := by decide +kernel
theorem dX5_takeWord_15 : decode cX5_takeWord 15 = .ok (.istore_n 2, 1) := by decide +kernel
theorem dX5_takeWord_16 : decode cX5_takeWord 16 = .ok (.iload_n 2, 1) := by decide +kernel
theorem dX5_takeWord_17 : decode cX5_takeWord 17 = .ok (.aload_n 1, 1) := by decide +kernel
theorem dX5_takeWord_18 : decode cX5_takeWord 18 = .ok (.invokevirtual 98, 3) := by decide +kernel
theorem dX5_takeWord_21 : decode cX5_takeWord 21 = .ok (.if_icmp .ge 27, 3) := by decide +kernel
theorem dX5_takeWord_24 : decode cX5_takeWord 24 = .ok (.aload_n 0, 1) := by decide +kernel
theorem dX5_takeWord_25 : decode cX5_takeWord 25 = .ok (.aload_n 0, 1) := by decide +kernel
theorem dX5_takeWord_26 : decode cX5_takeWord 26 = .ok (.getfield 73, 3) := by decide +kernel
theorem dX5_takeWord_29 : decode cX5_takeWord 29 = .ok (.iload_n 2, 1) := by decide +kernel
theorem dX5_takeWord_30 : decode cX5_takeWord 30 = .ok (.iadd, 1) := by decide +kernel
theorem dX5_takeWord_31 : decode cX5_takeWord 31 = .ok (.invokevirtual 76, 3) := by decide +kernel
theorem dX5_takeWord_34 : decode cX5_takeWord 34 = .ok (.aload_n 1, 1) := by decide +kernel
theorem dX5_takeWord_35 : decode cX5_takeWord 35 = .ok (.iload_n 2, 1) := by decide +kernel
theorem dX5_takeWord_36 : decode cX5_takeWord 36 = .ok (.invokevirtual 103, 3) := by decide +kernel
theorem dX5_takeWord_39 : decode cX5_takeWord 39 = .ok (.if_icmp .ne 9, 3) := by decide +kernel
theorem dX5_takeWord_42 : decode cX5_takeWord 42 = .ok (.iinc 2 1, 3) := by decide +kernel
theorem dX5_takeWord_45 : decode cX5_takeWord 45 = .ok (.goto (-29), 3) := by decide +kernel
theorem dX5_takeWord_48 : decode cX5_takeWord 48 = .ok (.iload_n 2, 1) := by decide +kernel
theorem dX5_takeWord_49 : decode cX5_takeWord 49 = .ok (.aload_n 1, 1) := by decide +kernel
theorem dX5_takeWord_50 : decode cX5_takeWord 50 = .ok (.invokevirtual 98, 3) := by decide +kernel
theorem dX5_takeWord_53 : decode cX5_takeWord 53 = .ok (.if_icmp .lt 23, 3) := by decide +kernel
theorem dX5_takeWord_56 : decode cX5_takeWord 56 = .ok (.aload_n 0, 1) := by decide +kernel
theorem dX5_takeWord_57 : decode cX5_takeWord 57 = .ok (.aload_n 0, 1) := by decide +kernel
theorem dX5_takeWord_58 : decode cX5_takeWord 58 = .ok (.getfield 73, 3) := by decide +kernel
theorem dX5_takeWord_61 : decode cX5_takeWord 61 = .ok (.iload_n 2, 1) := by decide +kernel
theorem dX5_takeWord_62 : decode cX5_takeWord 62 = .ok (.iadd, 1) := by decide +kernel
theorem dX5_takeWord_63 : decode cX5_takeWord 63 = .ok (.invokevirtual 76, 3) := by decide +kernel
theorem dX5_takeWord_66 : decode cX5_takeWord 66 = .ok (.bipush 97, 2) := by decide +kernel
theorem dX5_takeWord_68 : decode cX5_takeWord 68 = .ok (.bipush 122, 2) := by decide +kernel
theorem dX5_takeWord_70 : decode cX5_takeWord 70 = .ok (.invokestatic 86, 3) := by decide +kernel
theorem dX5_takeWord_73 : decode cX5_takeWord 73 = .ok (.ifCond .eq 5, 3) := by decide +kernel
theorem dX5_takeWord_76 : decode cX5_takeWord 76 = .ok (.iconst 0, 1) := by decide +kernel
theorem dX5_takeWord_77 : decode cX5_takeWord 77 = .ok (.ireturn, 1) := by decide +kernel
theorem dX5_takeWord_78 : decode cX5_takeWord 78 = .ok (.aload_n 0, 1) := by decide +kernel
theorem dX5_takeWord_79 : decode cX5_takeWord 79 = .ok (.dup, 1) := by decide +kernel
theorem dX5_takeWord_80 : decode cX5_takeWord 80 = .ok (.getfield 73, 3) := by decide +kernel
theorem dX5_takeWord_83 : decode cX5_takeWord 83 = .ok (.iload_n 2, 1) := by decide +kernel
theorem dX5_takeWord_84 : decode cX5_takeWord 84 = .ok (.iadd, 1) := by decide +kernel
theorem dX5_takeWord_85 : decode cX5_takeWord 85 = .ok (.putfield 73, 3) := by decide +kernel
theorem dX5_takeWord_88 : decode cX5_takeWord 88 = .ok (.iconst 1, 1) := by decide +kernel
theorem dX5_takeWord_89 : decode cX5_takeWord 89 = .ok (.ireturn, 1) := by decide +kernel
theorem dX5_expect_0 : decode cX5_expect 0 = .ok (.aload_n 0, 1) := by decide +kernel
theorem dX5_expect_1 : decode cX5_expect 1 = .ok (.invokevirtual 90, 3) := by decide +kernel
theorem dX5_expect_4 : decode cX5_expect 4 = .ok (.ifCond .ne 4, 3) := by decide +kernel
theorem dX5_expect_7 : decode cX5_expect 7 = .ok (.return_, 1) := by decide +kernel
theorem dX5_expect_8 : decode cX5_expect 8 = .ok (.aload_n 0, 1) := by decide +kernel
theorem dX5_expect_9 : decode cX5_expect 9 = .ok (.invokevirtual 94, 3) := by decide +kernel
theorem dX5_expect_12 : decode cX5_expect 12 = .ok (.iload_n 1, 1) := by decide +kernel
theorem dX5_expect_13 : decode cX5_expect 13 = .ok (.if_icmp .ne 16, 3) := by decide +kernel
theorem dX5_expect_16 : decode cX5_expect 16 = .ok (.aload_n 0, 1) := by decide +kernel
theorem dX5_expect_17 : decode cX5_expect 17 = .ok (.dup, 1) := by decide +kernel
theorem dX5_expect_18 : decode cX5_expect 18 = .ok (.getfield 73, 3) := by decide +kernel
theorem dX5_expect_21 : decode cX5_expect 21 = .ok (.iconst 1, 1) := by decide +kernel
theorem dX5_expect_22 : decode cX5_expect 22 = .ok (.iadd, 1) := by decide +kernel
theorem dX5_expect_23 : decode cX5_expect 23 = .ok (.putfield 73, 3) := by decide +kernel
theorem dX5_expect_26 : decode cX5_expect 26 = .ok (.goto 13, 3) := by decide +kernel
theorem dX5_expect_29 : decode cX5_expect 29 = .ok (.aload_n 0, 1) := by decide +kernel
theorem dX5_expect_30 : decode cX5_expect 30 = .ok (.bipush (-2), 2) := by decide +kernel
theorem dX5_expect_32 : decode cX5_expect 32 = .ok (.aload_n 0, 1) := by decide +kernel
theorem dX5_expect_33 : decode cX5_expect 33 = .ok (.getfield 73, 3) := by decide +kernel
theorem dX5_expect_36 : decode cX5_expect 36 = .ok (.invokevirtual 107, 3) := by decide +kernel
theorem dX5_expect_39 : decode cX5_expect 39 = .ok (.return_, 1) := by decide +kernel
theorem dX5_number_0 : decode cX5_number 0 = .ok (.aload_n 0, 1) := by decide +kernel
theorem dX5_number_1 : decode cX5_number 1 = .ok (.invokevirtual 90, 3) := by decide +kernel
theorem dX5_number_4 : decode cX5_number 4 = .ok (.ifCond .ne 5, 3) := by decide +kernel
theorem dX5_number_7 : decode cX5_number 7 = .ok (.iconst 0, 1) := by decide +kernel
theorem dX5_number_8 : decode cX5_number 8 = .ok (.ireturn, 1) := by decide +kernel
theorem dX5_number_9 : decode cX5_number 9 = .ok (.aload_n 0, 1) := by decide +kernel
theorem dX5_number_10 : decode cX5_number 10 = .ok (.invokevirtual 94, 3) := by decide +kernel
theorem dX5_number_13 : decode cX5_number 13 = .ok (.invokestatic 111, 3) := by decide +kernel
theorem dX5_number_16 : decode cX5_number 16 = .ok (.ifCond .ne 15, 3) := by decide +kernel
theorem dX5_number_19 : decode cX5_number 19 = .ok (.aload_n 0, 1) := by decide +kernel
theorem dX5_number_20 : decode cX5_number 20 = .ok (.bipush (-2), 2) := by decide +kernel
theorem dX5_number_22 : decode cX5_number 22 = .ok (.aload_n 0, 1) := by decide +kernel
theorem dX5_number_23 : decode cX5_number 23 = .ok (.getfield 73, 3) := by decide +kernel
theorem dX5_number_26 : decode cX5_number 26 = .ok (.invokevirtual 107, 3) := by decide +kernel
theorem dX5_number_29 : decode cX5_number 29 = .ok (.iconst 0, 1) := by decide +kernel
theorem dX5_number_30 : decode cX5_number 30 = .ok (.ireturn, 1) := by decide +kernel
theorem dX5_number_31 : decode cX5_number 31 = .ok (.aload_n 0, 1) := by decide +kernel
theorem dX5_number_32 : decode cX5_number 32 = .ok (.aload_n 0, 1) := by decide +kernel
theorem dX5_number_33 : decode cX5_number 33 = .ok (.getfield 73, 3) := by decide +kernel
theorem dX5_number_36 : decode cX5_number 36 = .ok (.putfield 115, 3) := by decide +kernel
theorem dX5_number_39 : decode cX5_number 39 = .ok (.iconst 0, 1) := by decide +kernel
theorem dX5_number_40 : decode cX5_number 40 = .ok (.istore_n 3, 1) := by decide +kernel
theorem dX5_number_41 : decode cX5_number 41 = .ok (.aload_n 0, 1) := by decide +kernel
theorem dX5_number_42 : decode cX5_number 42 = .ok (.aload_n 0, 1) := by decide +kernel
theorem dX5_number_43 : decode cX5_number 43 = .ok (.getfield 73, 3) := by decide +kernel
theorem dX5_number_46 : decode cX5_number 46 = .ok (.invokevirtual 76, 3) := by decide +kernel
theorem dX5_number_49 : decode cX5_number 49 = .ok (.invokestatic 111, 3) := by decide +kernel
theorem dX5_number_52 : decode cX5_number 52 = .ok (.ifCond .eq 38, 3) := by decide +kernel
theorem dX5_number_55 : decode cX5_number 55 = .ok (.ldc 118, 2) := by decide +kernel
theorem dX5_number_57 : decode cX5_number 57 = .ok (.bipush 10, 2) := by decide +kernel
theorem dX5_number_59 : decode cX5_number 59 = .ok (.iload_n 3, 1) := by decide +kernel
theorem dX5_number_60 : decode cX5_number 60 = .ok (.imul, 1) := by decide +kernel
theorem dX5_number_61 : decode cX5_number 61 = .ok (.aload_n 0, 1) := by decide +kernel
theorem dX5_number_62 : decode cX5_number 62 = .ok (.aload_n 0, 1) := by decide +kernel
theorem dX5_number_63 : decode cX5_number 63 = .ok (.getfield 73, 3) := by decide +kernel
theorem dX5_number_66 : decode cX5_number 66 = .ok (.invokevirtual 76, 3) := by decide +kernel
theorem dX5_number_69 : decode cX5_number 69 = .ok (.iadd, 1) := by decide +kernel
theorem dX5_number_70 : decode cX5_number 70 = .ok (.bipush 48, 2) := by decide +kernel
theorem dX5_number_72 : decode cX5_number 72 = .ok (.isub, 1) := by decide +kernel
theorem dX5_number_73 : decode cX5_number 73 = .ok (.invokestatic 119, 3) := by decide +kernel
theorem dX5_number_76 : decode cX5_number 76 = .ok (.istore_n 3, 1) := by decide +kernel
theorem dX5_number_77 : decode cX5_number 77 = .ok (.aload_n 0, 1) := by decide +kernel
theorem dX5_number_78 : decode cX5_number 78 = .ok (.dup, 1) := by decide +kernel
theorem dX5_number_79 : decode cX5_number 79 = .ok (.getfield 73, 3) := by decide +kernel
theorem dX5_number_82 : decode cX5_number 82 = .ok (.iconst 1, 1) := by decide +kernel
theorem dX5_number_83 : decode cX5_number 83 = .ok (.iadd, 1) := by decide +kernel
theorem dX5_number_84 : decode cX5_number 84 = .ok (.putfield 73, 3) := by decide +kernel
theorem dX5_number_87 : decode cX5_number 87 = .ok (.goto (-46), 3) := by decide +kernel
theorem dX5_number_90 : decode cX5_number 90 = .ok (.iload_n 3, 1) := by decide +kernel
theorem dX5_number_91 : decode cX5_number 91 = .ok (.iload_n 1, 1) := by decide +kernel
theorem dX5_number_92 : decode cX5_number 92 = .ok (.iload_n 2, 1) := by decide +kernel
theorem dX5_number_93 : decode cX5_number 93 = .ok (.invokestatic 86, 3) := by decide +kernel
theorem dX5_number_96 : decode cX5_number 96 = .ok (.ifCond .ne 13, 3) := by decide +kernel
theorem dX5_number_99 : decode cX5_number 99 = .ok (.aload_n 0, 1) := by decide +kernel
theorem dX5_number_100 : decode cX5_number 100 = .ok (.bipush (-3), 2) := by decide +kernel
theorem dX5_number_102 : decode cX5_number 102 = .ok (.aload_n 0, 1) := by decide +kernel
theorem dX5_number_103 : decode cX5_number 103 = .ok (.getfield 115, 3) := by decide +kernel
theorem dX5_number_106 : decode cX5_number 106 = .ok (.invokevirtual 107, 3) := by decide +kernel
theorem dX5_number_109 : decode cX5_number 109 = .ok (.aload_n 0, 1) := by decide +kernel
theorem dX5_number_110 : decode cX5_number 110 = .ok (.invokevirtual 90, 3) := by decide +kernel
theorem dX5_number_113 : decode cX5_number 113 = .ok (.ifCond .eq 7, 3) := by decide +kernel
theorem dX5_number_116 : decode cX5_number 116 = .ok (.iload_n 3, 1) := by decide +kernel
theorem dX5_number_117 : decode cX5_number 117 = .ok (.goto 4, 3) := by decide +kernel
theorem dX5_number_120 : decode cX5_number 120 = .ok (.iconst 0, 1) := by decide +kernel
theorem dX5_number_121 : decode cX5_number 121 = .ok (.ireturn, 1) := by decide +kernel
theorem dX5_once_0 : decode cX5_once 0 = .ok (.aload_n 0, 1) := by decide +kernel
theorem dX5_once_1 : decode cX5_once 1 = .ok (.getfield 123, 3) := by decide +kernel
theorem dX5_once_4 : decode cX5_once 4 = .ok (.iload_n 1, 1) := by decide +kernel
theorem dX5_once_5 : decode cX5_once 5 = .ok (.ishr, 1) := by decide +kernel
theorem dX5_once_6 : decode cX5_once 6 = .ok (.iconst 1, 1) := by decide +kernel
theorem dX5_once_7 : decode cX5_once 7 = .ok (.iand, 1) := by decide +kernel
theorem dX5_once_8 : decode cX5_once 8 = .ok (.iconst 1, 1) := by decide +kernel
theorem dX5_once_9 : decode cX5_once 9 = .ok (.if_icmp .ne 10, 3) := by decide +kernel
theorem dX5_once_12 : decode cX5_once 12 = .ok (.aload_n 0, 1) := by decide +kernel
theorem dX5_once_13 : decode cX5_once 13 = .ok (.bipush (-2), 2) := by decide +kernel
theorem dX5_once_15 : decode cX5_once 15 = .ok (.iload_n 2, 1) := by decide +kernel
theorem dX5_once_16 : decode cX5_once 16 = .ok (.invokevirtual 107, 3) := by decide +kernel
theorem dX5_once_19 : decode cX5_once 19 = .ok (.aload_n 0, 1) := by decide +kernel
theorem dX5_once_20 : decode cX5_once 20 = .ok (.dup, 1) := by decide +kernel
theorem dX5_once_21 : decode cX5_once 21 = .ok (.getfield 123, 3) := by decide +kernel
theorem dX5_once_24 : decode cX5_once 24 = .ok (.iconst 1, 1) := by decide +kernel
theorem dX5_once_25 : decode cX5_once 25 = .ok (.iload_n 1, 1) := by decide +kernel
theorem dX5_once_26 : decode cX5_once 26 = .ok (.ishl, 1) := by decide +kernel
theorem dX5_once_27 : decode cX5_once 27 = .ok (.ior, 1) := by decide +kernel
theorem dX5_once_28 : decode cX5_once 28 = .ok (.putfield 123, 3) := by decide +kernel
theorem dX5_once_31 : decode cX5_once 31 = .ok (.return_, 1) := by decide +kernel
theorem dX5_isLine_0 : decode cX5_isLine 0 = .ok (.iload_n 0, 1) := by decide +kernel
theorem dX5_isLine_1 : decode cX5_isLine 1 = .ok (.bipush 45, 2) := by decide +kernel
theorem dX5_isLine_3 : decode cX5_isLine 3 = .ok (.if_icmp .eq 14, 3) := by decide +kernel
theorem dX5_isLine_6 : decode cX5_isLine 6 = .ok (.iload_n 0, 1) := by decide +kernel
theorem dX5_isLine_7 : decode cX5_isLine 7 = .ok (.bipush 97, 2) := by decide +kernel
theorem dX5_isLine_9 : decode cX5_isLine 9 = .ok (.bipush 122, 2) := by decide +kernel
theorem dX5_isLine_11 : decode cX5_isLine 11 = .ok (.invokestatic 86, 3) := by decide +kernel
theorem dX5_isLine_14 : decode cX5_isLine 14 = .ok (.ifCond .eq 7, 3) := by decide +kernel
theorem dX5_isLine_17 : decode cX5_isLine 17 = .ok (.iconst 1, 1) := by decide +kernel
theorem dX5_isLine_18 : decode cX5_isLine 18 = .ok (.goto 4, 3) := by decide +kernel
theorem dX5_isLine_21 : decode cX5_isLine 21 = .ok (.iconst 0, 1) := by decide +kernel
theorem dX5_isLine_22 : decode cX5_isLine 22 = .ok (.ireturn, 1) := by decide +kernel
theorem dX5_readLine_0 : decode cX5_readLine 0 = .ok (.aload_n 0, 1) := by decide +kernel
theorem dX5_readLine_1 : decode cX5_readLine 1 = .ok (.invokevirtual 90, 3) := by decide +kernel
theorem dX5_readLine_4 : decode cX5_readLine 4 = .ok (.ifCond .ne 4, 3) := by decide +kernel
theorem dX5_readLine_7 : decode cX5_readLine 7 = .ok (.return_, 1) := by decide +kernel
theorem dX5_readLine_8 : decode cX5_readLine 8 = .ok (.aload_n 0, 1) := by decide +kernel
theorem dX5_readLine_9 : decode cX5_readLine 9 = .ok (.invokevirtual 94, 3) := by decide +kernel
theorem dX5_readLine_12 : decode cX5_readLine 12 = .ok (.invokestatic 126, 3) := by decide +kernel
theorem dX5_readLine_15 : decode cX5_readLine 15 = .ok (.ifCond .ne 14, 3) := by decide +kernel
theorem dX5_readLine_18 : decode cX5_readLine 18 = .ok (.aload_n 0, 1) := by decide +kernel
theorem dX5_readLine_19 : decode cX5_readLine 19 = .ok (.bipush (-2), 2) := by decide +kernel
theorem dX5_readLine_21 : decode cX5_readLine 21 = .ok (.aload_n 0, 1) := by decide +kernel
theorem dX5_readLine_22 : decode cX5_readLine 22 = .ok (.getfield 73, 3) := by decide +kernel
theorem dX5_readLine_25 : decode cX5_readLine 25 = .ok (.invokevirtual 107, 3) := by decide +kernel
theorem dX5_readLine_28 : decode cX5_readLine 28 = .ok (.return_, 1) := by decide +kernel
theorem dX5_readLine_29 : decode cX5_readLine 29 = .ok (.aload_n 0, 1) := by decide +kernel
theorem dX5_readLine_30 : decode cX5_readLine 30 = .ok (.getfield 73, 3) := by decide +kernel
theorem dX5_readLine_33 : decode cX5_readLine 33 = .ok (.istore_n 3, 1) := by decide +kernel
theorem dX5_readLine_34 : decode cX5_readLine 34 = .ok (.iconst 0, 1) := by decide +kernel
theorem dX5_readLine_35 : decode cX5_readLine 35 = .ok (.istore 4, 2) := by decide +kernel
theorem dX5_readLine_37 : decode cX5_readLine 37 = .ok (.aload_n 0, 1) := by decide +kernel
theorem dX5_readLine_38 : decode cX5_readLine 38 = .ok (.aload_n 0, 1) := by decide +kernel
theorem dX5_readLine_39 : decode cX5_readLine 39 = .ok (.getfield 73, 3) := by decide +kernel
theorem dX5_readLine_42 : decode cX5_readLine 42 = .ok (.invokevirtual 76, 3) := by decide +kernel
theorem dX5_readLine_45 : decode cX5_readLine 45 = .ok (.invokestatic 126, 3) := by decide +kernel
theorem dX5_readLine_48 : decode cX5_readLine 48 = .ok (.ifCond .eq 80, 3) := by decide +kernel
theorem dX5_readLine_51 : decode cX5_readLine 51 = .ok (.aload_n 0, 1) := by decide +kernel
theorem dX5_readLine_52 : decode cX5_readLine 52 = .ok (.aload_n 0, 1) := by decide +kernel
theorem dX5_readLine_53 : decode cX5_readLine 53 = .ok (.getfield 73, 3) := by decide +kernel
theorem dX5_readLine_56 : decode cX5_readLine 56 = .ok (.invokevirtual 76, 3) := by decide +kernel
theorem dX5_readLine_59 : decode cX5_readLine 59 = .ok (.istore 5, 2) := by decide +kernel
theorem dX5_readLine_61 : decode cX5_readLine 61 = .ok (.iload 4, 2) := by decide +kernel
theorem dX5_readLine_63 : decode cX5_readLine 63 = .ok (.aload_n 0, 1) := by decide +kernel
theorem dX5_readLine_64 : decode cX5_readLine 64 = .ok (.getfield 20, 3) := by decide +kernel
theorem dX5_readLine_67 : decode cX5_readLine 67 = .ok (.iconst 0, 1) := by decide +kernel
theorem dX5_readLine_68 : decode cX5_readLine 68 = .ok (.iaload, 1) := by decide +kernel
theorem dX5_readLine_69 : decode cX5_readLine 69 = .ok (.if_icmp .ge 43, 3) := by decide +kernel
theorem dX5_readLine_72 : decode cX5_readLine 72 = .ok (.aload_n 0, 1) := by decide +kernel
theorem dX5_readLine_73 : decode cX5_readLine 73 = .ok (.getfield 20, 3) := by decide +kernel
theorem dX5_readLine_76 : decode cX5_readLine 76 = .ok (.bipush 6, 2) := by decide +kernel
theorem dX5_readLine_78 : decode cX5_readLine 78 = .ok (.bipush 48, 2) := by decide +kernel
theorem dX5_readLine_80 : decode cX5_readLine 80 = .ok (.iload_n 1, 1) := by decide +kernel
theorem dX5_readLine_81 : decode cX5_readLine 81 = .ok (.imul, 1) := by decide +kernel
theorem dX5_readLine_82 : decode cX5_readLine 82 = .ok (.iadd, 1) := by decide +kernel
theorem dX5_readLine_83 : decode cX5_readLine 83 = .ok (.iload_n 2, 1) := by decide +kernel
theorem dX5_readLine_84 : decode cX5_readLine 84 = .ok (.aload_n 0, 1) := by decide +kernel
theorem dX5_readLine_85 : decode cX5_readLine 85 = .ok (.getfield 20, 3) := by decide +kernel
theorem dX5_readLine_88 : decode cX5_readLine 88 = .ok (.iconst 0, 1) := by decide +kernel
theorem dX5_readLine_89 : decode cX5_readLine 89 = .ok (.iaload, 1) := by decide +kernel
theorem dX5_readLine_90 : decode cX5_readLine 90 = .ok (.imul, 1) := by decide +kernel
theorem dX5_readLine_91 : decode cX5_readLine 91 = .ok (.iadd, 1) := by decide +kernel
theorem dX5_readLine_92 : decode cX5_readLine 92 = .ok (.iload 4, 2) := by decide +kernel
theorem dX5_readLine_94 : decode cX5_readLine 94 = .ok (.iadd, 1) := by decide +kernel
theorem dX5_readLine_95 : decode cX5_readLine 95 = .ok (.iload 5, 2) := by decide +kernel
theorem dX5_readLine_97 : decode cX5_readLine 97 = .ok (.bipush 45, 2) := by decide +kernel
theorem dX5_readLine_99 : decode cX5_readLine 99 = .ok (.if_icmp .ne 7, 3) := by decide +kernel
theorem dX5_readLine_102 : decode cX5_readLine 102 = .ok (.iconst (-1), 1) := by decide +kernel
theorem dX5_readLine_103 : decode cX5_readLine 103 = .ok (.goto 8, 3) := by decide +kernel
theorem dX5_readLine_106 : decode cX5_readLine 106 = .ok (.iload 5, 2) := by decide +kernel
theorem dX5_readLine_108 : decode cX5_readLine 108 = .ok (.bipush 97, 2) := by decide +kernel
theorem dX5_readLine_110 : decode cX5_readLine 110 = .ok (.isub, 1) := by decide +kernel
theorem dX5_readLine_111 : decode cX5_readLine 111 = .ok (.iastore, 1) := by decide +kernel
theorem dX5_readLine_112 : decode cX5_readLine 112 = .ok (.iinc 4 1, 3) := by decide +kernel
theorem dX5_readLine_115 : decode cX5_readLine 115 = .ok (.aload_n 0, 1) := by decide +kernel
theorem dX5_readLine_116 : decode cX5_readLine 116 = .ok (.dup, 1) := by decide +kernel
theorem dX5_readLine_117 : decode cX5_readLine 117 = .ok (.getfield 73, 3) := by decide +kernel
theorem dX5_readLine_120 : decode cX5_readLine 120 = .ok (.iconst 1, 1) := by decide +kernel
theorem dX5_readLine_121 : decode cX5_readLine 121 = .ok (.iadd, 1) := by decide +kernel
theorem dX5_readLine_122 : decode cX5_readLine 122 = .ok (.putfield 73, 3) := by decide +kernel
theorem dX5_readLine_125 : decode cX5_readLine 125 = .ok (.goto (-88), 3) := by decide +kernel
theorem dX5_readLine_128 : decode cX5_readLine 128 = .ok (.iload 4, 2) := by decide +kernel
theorem dX5_readLine_130 : decode cX5_readLine 130 = .ok (.aload_n 0, 1) := by decide +kernel
theorem dX5_readLine_131 : decode cX5_readLine 131 = .ok (.getfield 20, 3) := by decide +kernel
theorem dX5_readLine_134 : decode cX5_readLine 134 = .ok (.iconst 0, 1) := by decide +kernel
theorem dX5_readLine_135 : decode cX5_readLine 135 = .ok (.iaload, 1) := by decide +kernel
theorem dX5_readLine_136 : decode cX5_readLine 136 = .ok (.if_icmp .eq 10, 3) := by decide +kernel
theorem dX5_readLine_139 : decode cX5_readLine 139 = .ok (.aload_n 0, 1) := by decide +kernel
theorem dX5_readLine_140 : decode cX5_readLine 140 = .ok (.bipush (-4), 2) := by decide +kernel
theorem dX5_readLine_142 : decode cX5_readLine 142 = .ok (.iload_n 3, 1) := by decide +kernel
theorem dX5_readLine_143 : decode cX5_readLine 143 = .ok (.invokevirtual 107, 3) := by decide +kernel
theorem dX5_readLine_146 : decode cX5_readLine 146 = .ok (.return_, 1) := by decide +kernel
theorem dX5_readSide_0 : decode cX5_readSide 0 = .ok (.aload_n 0, 1) := by decide +kernel
theorem dX5_readSide_1 : decode cX5_readSide 1 = .ok (.iload_n 1, 1) := by decide +kernel
theorem dX5_readSide_2 : decode cX5_readSide 2 = .ok (.iload_n 2, 1) := by decide +kernel
theorem dX5_readSide_3 : decode cX5_readSide 3 = .ok (.invokevirtual 129, 3) := by decide +kernel
theorem dX5_readSide_6 : decode cX5_readSide 6 = .ok (.iconst 0, 1) := by decide +kernel
theorem dX5_readSide_7 : decode cX5_readSide 7 = .ok (.istore_n 3, 1) := by decide +kernel
theorem dX5_readSide_8 : decode cX5_readSide 8 = .ok (.iload_n 3, 1) := by decide +kernel
theorem dX5_readSide_9 : decode cX5_readSide 9 = .ok (.aload_n 0, 1) := by decide +kernel
theorem dX5_readSide_10 : decode cX5_readSide 10 = .ok (.getfield 20, 3) := by decide +kernel
theorem dX5_readSide_13 : decode cX5_readSide 13 = .ok (.iconst 1, 1) := by decide +kernel
theorem dX5_readSide_14 : decode cX5_readSide 14 = .ok (.iaload, 1) := by decide +kernel
theorem dX5_readSide_15 : decode cX5_readSide 15 = .ok (.if_icmp .ge 15, 3) := by decide +kernel
theorem dX5_readSide_18 : decode cX5_readSide 18 = .ok (.aload_n 0, 1) := by decide +kernel
theorem dX5_readSide_19 : decode cX5_readSide 19 = .ok (.iload_n 1, 1) := by decide +kernel
theorem dX5_readSide_20 : decode cX5_readSide 20 = .ok (.iload_n 3, 1) := by decide +kernel
theorem dX5_readSide_21 : decode cX5_readSide 21 = .ok (.invokevirtual 132, 3) := by decide +kernel
theorem dX5_readSide_24 : decode cX5_readSide 24 = .ok (.iinc 3 1, 3) := by decide +kernel
theorem dX5_readSide_27 : decode cX5_readSide 27 = .ok (.goto (-19), 3) := by decide +kernel
theorem dX5_readSide_30 : decode cX5_readSide 30 = .ok (.return_, 1) := by decide +kernel
theorem dX5_statement_0 : decode cX5_statement 0 = .ok (.aload_n 0, 1) := by decide +kernel
theorem dX5_statement_1 : decode cX5_statement 1 = .ok (.invokevirtual 94, 3) := by decide +kernel
theorem dX5_statement_4 : decode cX5_statement 4 = .ok (.pop, 1) := by decide +kernel
theorem dX5_statement_5 : decode cX5_statement 5 = .ok (.aload_n 0, 1) := by decide +kernel
theorem dX5_statement_6 : decode cX5_statement 6 = .ok (.getfield 73, 3) := by decide +kernel
theorem dX5_statement_9 : decode cX5_statement 9 = .ok (.istore_n 1, 1) := by decide +kernel
theorem dX5_statement_10 : decode cX5_statement 10 = .ok (.aload_n 0, 1) := by decide +kernel
theorem dX5_statement_11 : decode cX5_statement 11 = .ok (.ldc 135, 2) := by decide +kernel
theorem dX5_statement_13 : decode cX5_statement 13 = .ok (.invokevirtual 137, 3) := by decide +kernel
theorem dX5_statement_16 : decode cX5_statement 16 = .ok (.ifCond .eq 12, 3) := by decide +kernel
theorem dX5_statement_19 : decode cX5_statement 19 = .ok (.aload_n 0, 1) := by decide +kernel
theorem dX5_statement_20 : decode cX5_statement 20 = .ok (.iconst 0, 1) := by decide +kernel
theorem dX5_statement_21 : decode cX5_statement 21 = .ok (.iload_n 1, 1) := by decide +kernel
theorem dX5_statement_22 : decode cX5_statement 22 = .ok (.invokevirtual 141, 3) := by decide +kernel
theorem dX5_statement_25 : decode cX5_statement 25 = .ok (.goto 129, 3) := by decide +kernel
theorem dX5_statement_28 : decode cX5_statement 28 = .ok (.aload_n 0, 1) := by decide +kernel
theorem dX5_statement_29 : decode cX5_statement 29 = .ok (.ldc 144, 2) := by decide +kernel
theorem dX5_statement_31 : decode cX5_statement 31 = .ok (.invokevirtual 137, 3) := by decide +kernel
theorem dX5_statement_34 : decode cX5_statement 34 = .ok (.ifCond .eq 12, 3) := by decide +kernel
theorem dX5_statement_37 : decode cX5_statement 37 = .ok (.aload_n 0, 1) := by decide +kernel
theorem dX5_statement_38 : decode cX5_statement 38 = .ok (.iconst 1, 1) := by decide +kernel
theorem dX5_statement_39 : decode cX5_statement 39 = .ok (.iload_n 1, 1) := by decide +kernel
theorem dX5_statement_40 : decode cX5_statement 40 = .ok (.invokevirtual 141, 3) := by decide +kernel
theorem dX5_statement_43 : decode cX5_statement 43 = .ok (.goto 111, 3) := by decide +kernel
theorem dX5_statement_46 : decode cX5_statement 46 = .ok (.aload_n 0, 1) := by decide +kernel
theorem dX5_statement_47 : decode cX5_statement 47 = .ok (.ldc 146, 2) := by decide +kernel
theorem dX5_statement_49 : decode cX5_statement 49 = .ok (.invokevirtual 137, 3) := by decide +kernel
theorem dX5_statement_52 : decode cX5_statement 52 = .ok (.ifCond .eq 64, 3) := by decide +kernel
theorem dX5_statement_55 : decode cX5_statement 55 = .ok (.aload_n 0, 1) := by decide +kernel
theorem dX5_statement_56 : decode cX5_statement 56 = .ok (.iconst 2, 1) := by decide +kernel
theorem dX5_statement_57 : decode cX5_statement 57 = .ok (.iload_n 1, 1) := by decide +kernel
theorem dX5_statement_58 : decode cX5_statement 58 = .ok (.invokevirtual 129, 3) := by decide +kernel
theorem dX5_statement_61 : decode cX5_statement 61 = .ok (.iconst 0, 1) := by decide +kernel
theorem dX5_statement_62 : decode cX5_statement 62 = .ok (.istore_n 2, 1) := by decide +kernel
theorem dX5_statement_63 : decode cX5_statement 63 = .ok (.iload_n 2, 1) := by decide +kernel
theorem dX5_statement_64 : decode cX5_statement 64 = .ok (.iconst 2, 1) := by decide +kernel
theorem dX5_statement_65 : decode cX5_statement 65 = .ok (.if_icmp .ge 48, 3) := by decide +kernel
theorem dX5_statement_68 : decode cX5_statement 68 = .ok (.iconst 0, 1) := by decide +kernel
theorem dX5_statement_69 : decode cX5_statement 69 = .ok (.istore_n 3, 1) := by decide +kernel
theorem dX5_statement_70 : decode cX5_statement 70 = .ok (.iload_n 3, 1) := by decide +kernel
theorem dX5_statement_71 : decode cX5_statement 71 = .ok (.aload_n 0, 1) := by decide +kernel
theorem dX5_statement_72 : decode cX5_statement 72 = .ok (.getfield 20, 3) := by decide +kernel
theorem dX5_statement_75 : decode cX5_statement 75 = .ok (.iconst 1, 1) := by decide +kernel
theorem dX5_statement_76 : decode cX5_statement 76 = .ok (.iaload, 1) := by decide +kernel
theorem dX5_statement_77 : decode cX5_statement 77 = .ok (.if_icmp .ge 30, 3) := by decide +kernel
theorem dX5_statement_80 : decode cX5_statement 80 = .ok (.aload_n 0, 1) := by decide +kernel
theorem dX5_statement_81 : decode cX5_statement 81 = .ok (.getfield 20, 3) := by decide +kernel
theorem dX5_statement_84 : decode cX5_statement 84 = .ok (.bipush 102, 2) := by decide +kernel
theorem dX5_statement_86 : decode cX5_statement 86 = .ok (.bipush 6, 2) := by decide +kernel
theorem dX5_statement_88 : decode cX5_statement 88 = .ok (.iload_n 2, 1) := by decide +kernel
theorem dX5_statement_89 : decode cX5_statement 89 = .ok (.imul, 1) := by decide +kernel
theorem dX5_statement_90 : decode cX5_statement 90 = .ok (.iadd, 1) := by decide +kernel
theorem dX5_statement_91 : decode cX5_statement 91 = .ok (.iload_n 3, 1) := by decide +kernel
theorem dX5_statement_92 : decode cX5_statement 92 = .ok (.iadd, 1) := by decide +kernel
theorem dX5_statement_93 : decode cX5_statement 93 = .ok (.aload_n 0, 1) := by decide +kernel
theorem dX5_statement_94 : decode cX5_statement 94 = .ok (.iconst 1, 1) := by decide +kernel
theorem dX5_statement_95 : decode cX5_statement 95 = .ok (.bipush 9, 2) := by decide +kernel
theorem dX5_statement_97 : decode cX5_statement 97 = .ok (.invokevirtual 147, 3) := by decide +kernel
theorem dX5_statement_100 : decode cX5_statement 100 = .ok (.iastore, 1) := by decide +kernel
theorem dX5_statement_101 : decode cX5_statement 101 = .ok (.iinc 3 1, 3) := by decide +kernel
theorem dX5_statement_104 : decode cX5_statement 104 = .ok (.goto (-34), 3) := by decide +kernel
theorem dX5_statement_107 : decode cX5_statement 107 = .ok (.iinc 2 1, 3) := by decide +kernel
theorem dX5_statement_110 : decode cX5_statement 110 = .ok (.goto (-47), 3) := by decide +kernel
theorem dX5_statement_113 : decode cX5_statement 113 = .ok (.goto 41, 3) := by decide +kernel
theorem dX5_statement_116 : decode cX5_statement 116 = .ok (.aload_n 0, 1) := by decide +kernel
theorem dX5_statement_117 : decode cX5_statement 117 = .ok (.ldc 150, 2) := by decide +kernel
theorem dX5_statement_119 : decode cX5_statement 119 = .ok (.invokevirtual 137, 3) := by decide +kernel
theorem dX5_statement_122 : decode cX5_statement 122 = .ok (.ifCond .eq 25, 3) := by decide +kernel
theorem dX5_statement_125 : decode cX5_statement 125 = .ok (.aload_n 0, 1) := by decide +kernel
theorem dX5_statement_126 : decode cX5_statement 126 = .ok (.iconst 3, 1) := by decide +kernel
theorem dX5_statement_127 : decode cX5_statement 127 = .ok (.iload_n 1, 1) := by decide +kernel
theorem dX5_statement_128 : decode cX5_statement 128 = .ok (.invokevirtual 129, 3) := by decide +kernel
theorem dX5_statement_131 : decode cX5_statement 131 = .ok (.aload_n 0, 1) := by decide +kernel
theorem dX5_statement_132 : decode cX5_statement 132 = .ok (.getfield 20, 3) := by decide +kernel
theorem dX5_statement_135 : decode cX5_statement 135 = .ok (.iconst 2, 1) := by decide +kernel
theorem dX5_statement_136 : decode cX5_statement 136 = .ok (.aload_n 0, 1) := by decide +kernel
theorem dX5_statement_137 : decode cX5_statement 137 = .ok (.iconst 1, 1) := by decide +kernel
theorem dX5_statement_138 : decode cX5_statement 138 = .ok (.bipush 9, 2) := by decide +kernel
theorem dX5_statement_140 : decode cX5_statement 140 = .ok (.invokevirtual 147, 3) := by decide +kernel
theorem dX5_statement_143 : decode cX5_statement 143 = .ok (.iastore, 1) := by decide +kernel
theorem dX5_statement_144 : decode cX5_statement 144 = .ok (.goto 10, 3) := by decide +kernel
theorem dX5_statement_147 : decode cX5_statement 147 = .ok (.aload_n 0, 1) := by decide +kernel
theorem dX5_statement_148 : decode cX5_statement 148 = .ok (.bipush (-2), 2) := by decide +kernel
theorem dX5_statement_150 : decode cX5_statement 150 = .ok (.iload_n 1, 1) := by decide +kernel
theorem dX5_statement_151 : decode cX5_statement 151 = .ok (.invokevirtual 107, 3) := by decide +kernel
theorem dX5_statement_154 : decode cX5_statement 154 = .ok (.aload_n 0, 1) := by decide +kernel
theorem dX5_statement_155 : decode cX5_statement 155 = .ok (.bipush 59, 2) := by decide +kernel
theorem dX5_statement_157 : decode cX5_statement 157 = .ok (.invokevirtual 152, 3) := by decide +kernel
theorem dX5_statement_160 : decode cX5_statement 160 = .ok (.return_, 1) := by decide +kernel
theorem dX5_load_0 : decode cX5_load 0 = .ok (.aload_n 0, 1) := by decide +kernel
theorem dX5_load_1 : decode cX5_load 1 = .ok (.iconst 0, 1) := by decide +kernel
theorem dX5_load_2 : decode cX5_load 2 = .ok (.putfield 64, 3) := by decide +kernel
theorem dX5_load_5 : decode cX5_load 5 = .ok (.aload_n 0, 1) := by decide +kernel
theorem dX5_load_6 : decode cX5_load 6 = .ok (.iload_n 1, 1) := by decide +kernel
theorem dX5_load_7 : decode cX5_load 7 = .ok (.iconst 0, 1) := by decide +kernel
theorem dX5_load_8 : decode cX5_load 8 = .ok (.aload_n 0, 1) := by decide +kernel
theorem dX5_load_9 : decode cX5_load 9 = .ok (.getfield 67, 3) := by decide +kernel
theorem dX5_load_12 : decode cX5_load 12 = .ok (.invokestatic 86, 3) := by decide +kernel
theorem dX5_load_15 : decode cX5_load 15 = .ok (.ifCond .ne 7, 3) := by decide +kernel
theorem dX5_load_18 : decode cX5_load 18 = .ok (.iconst 1, 1) := by decide +kernel
theorem dX5_load_19 : decode cX5_load 19 = .ok (.goto 4, 3) := by decide +kernel
theorem dX5_load_22 : decode cX5_load 22 = .ok (.iconst 0, 1) := by decide +kernel
theorem dX5_load_23 : decode cX5_load 23 = .ok (.iconst 1, 1) := by decide +kernel
theorem dX5_load_24 : decode cX5_load 24 = .ok (.invokevirtual 156, 3) := by decide +kernel
theorem dX5_load_27 : decode cX5_load 27 = .ok (.ifCond .eq 5, 3) := by decide +kernel
theorem dX5_load_30 : decode cX5_load 30 = .ok (.iconst 0, 1) := by decide +kernel
theorem dX5_load_31 : decode cX5_load 31 = .ok (.ireturn, 1) := by decide +kernel
theorem dX5_load_32 : decode cX5_load 32 = .ok (.aload_n 0, 1) := by decide +kernel
theorem dX5_load_33 : decode cX5_load 33 = .ok (.iconst 0, 1) := by decide +kernel
theorem dX5_load_34 : decode cX5_load 34 = .ok (.putfield 67, 3) := by decide +kernel
theorem dX5_load_37 : decode cX5_load 37 = .ok (.aload_n 0, 1) := by decide +kernel
theorem dX5_load_38 : decode cX5_load 38 = .ok (.iload_n 1, 1) := by decide +kernel
theorem dX5_load_39 : decode cX5_load 39 = .ok (.putfield 70, 3) := by decide +kernel
theorem dX5_load_42 : decode cX5_load 42 = .ok (.aload_n 0, 1) := by decide +kernel
theorem dX5_load_43 : decode cX5_load 43 = .ok (.iconst 0, 1) := by decide +kernel
theorem dX5_load_44 : decode cX5_load 44 = .ok (.putfield 73, 3) := by decide +kernel
theorem dX5_load_47 : decode cX5_load 47 = .ok (.aload_n 0, 1) := by decide +kernel
theorem dX5_load_48 : decode cX5_load 48 = .ok (.iconst 0, 1) := by decide +kernel
theorem dX5_load_49 : decode cX5_load 49 = .ok (.putfield 80, 3) := by decide +kernel
theorem dX5_load_52 : decode cX5_load 52 = .ok (.aload_n 0, 1) := by decide +kernel
theorem dX5_load_53 : decode cX5_load 53 = .ok (.iconst (-1), 1) := by decide +kernel
theorem dX5_load_54 : decode cX5_load 54 = .ok (.putfield 83, 3) := by decide +kernel
theorem dX5_load_57 : decode cX5_load 57 = .ok (.aload_n 0, 1) := by decide +kernel
theorem dX5_load_58 : decode cX5_load 58 = .ok (.iconst 0, 1) := by decide +kernel
theorem dX5_load_59 : decode cX5_load 59 = .ok (.putfield 123, 3) := by decide +kernel
theorem dX5_load_62 : decode cX5_load 62 = .ok (.aload_n 0, 1) := by decide +kernel
theorem dX5_load_63 : decode cX5_load 63 = .ok (.ldc 160, 2) := by decide +kernel
theorem dX5_load_65 : decode cX5_load 65 = .ok (.invokevirtual 137, 3) := by decide +kernel
theorem dX5_load_68 : decode cX5_load 68 = .ok (.ifCond .ne 13, 3) := by decide +kernel
theorem dX5_load_71 : decode cX5_load 71 = .ok (.aload_n 0, 1) := by decide +kernel
theorem dX5_load_72 : decode cX5_load 72 = .ok (.bipush (-2), 2) := by decide +kernel
theorem dX5_load_74 : decode cX5_load 74 = .ok (.aload_n 0, 1) := by decide +kernel
theorem dX5_load_75 : decode cX5_load 75 = .ok (.getfield 73, 3) := by decide +kernel
theorem dX5_load_78 : decode cX5_load 78 = .ok (.invokevirtual 107, 3) := by decide +kernel
theorem dX5_load_81 : decode cX5_load 81 = .ok (.aload_n 0, 1) := by decide +kernel
theorem dX5_load_82 : decode cX5_load 82 = .ok (.iconst 1, 1) := by decide +kernel
theorem dX5_load_83 : decode cX5_load 83 = .ok (.bipush 8, 2) := by decide +kernel
theorem dX5_load_85 : decode cX5_load 85 = .ok (.invokevirtual 147, 3) := by decide +kernel
theorem dX5_load_88 : decode cX5_load 88 = .ok (.istore_n 2, 1) := by decide +kernel
theorem dX5_load_89 : decode cX5_load 89 = .ok (.aload_n 0, 1) := by decide +kernel
theorem dX5_load_90 : decode cX5_load 90 = .ok (.iconst 1, 1) := by decide +kernel
theorem dX5_load_91 : decode cX5_load 91 = .ok (.bipush 6, 2) := by decide +kernel
theorem dX5_load_93 : decode cX5_load 93 = .ok (.invokevirtual 147, 3) := by decide +kernel
theorem dX5_load_96 : decode cX5_load 96 = .ok (.istore_n 3, 1) := by decide +kernel
theorem dX5_load_97 : decode cX5_load 97 = .ok (.aload_n 0, 1) := by decide +kernel
theorem dX5_load_98 : decode cX5_load 98 = .ok (.getfield 20, 3) := by decide +kernel
theorem dX5_load_101 : decode cX5_load 101 = .ok (.iload_n 2, 1) := by decide +kernel
theorem dX5_load_102 : decode cX5_load 102 = .ok (.iload_n 3, 1) := by decide +kernel
theorem dX5_load_103 : decode cX5_load 103 = .ok (.invokestatic 60, 3) := by decide +kernel
theorem dX5_load_106 : decode cX5_load 106 = .ok (.aload_n 0, 1) := by decide +kernel
theorem dX5_load_107 : decode cX5_load 107 = .ok (.bipush 59, 2) := by decide +kernel
theorem dX5_load_109 : decode cX5_load 109 = .ok (.invokevirtual 152, 3) := by decide +kernel
theorem dX5_load_112 : decode cX5_load 112 = .ok (.aload_n 0, 1) := by decide +kernel
theorem dX5_load_113 : decode cX5_load 113 = .ok (.invokevirtual 90, 3) := by decide +kernel
theorem dX5_load_116 : decode cX5_load 116 = .ok (.ifCond .eq 18, 3) := by decide +kernel
theorem dX5_load_119 : decode cX5_load 119 = .ok (.aload_n 0, 1) := by decide +kernel
theorem dX5_load_120 : decode cX5_load 120 = .ok (.invokevirtual 94, 3) := by decide +kernel
theorem dX5_load_123 : decode cX5_load 123 = .ok (.iconst (-1), 1) := by decide +kernel
theorem dX5_load_124 : decode cX5_load 124 = .ok (.if_icmp .eq 10, 3) := by decide +kernel
theorem dX5_load_127 : decode cX5_load 127 = .ok (.aload_n 0, 1) := by decide +kernel
theorem dX5_load_128 : decode cX5_load 128 = .ok (.invokevirtual 162, 3) := by decide +kernel
theorem dX5_load_131 : decode cX5_load 131 = .ok (.goto (-19), 3) := by decide +kernel
theorem dX5_load_134 : decode cX5_load 134 = .ok (.aload_n 0, 1) := by decide +kernel
theorem dX5_load_135 : decode cX5_load 135 = .ok (.aload_n 0, 1) := by decide +kernel
theorem dX5_load_136 : decode cX5_load 136 = .ok (.getfield 83, 3) := by decide +kernel
theorem dX5_load_139 : decode cX5_load 139 = .ok (.putfield 13, 3) := by decide +kernel
theorem dX5_load_142 : decode cX5_load 142 = .ok (.aload_n 0, 1) := by decide +kernel
theorem dX5_load_143 : decode cX5_load 143 = .ok (.invokevirtual 90, 3) := by decide +kernel
theorem dX5_load_146 : decode cX5_load 146 = .ok (.ifCond .ne 8, 3) := by decide +kernel
theorem dX5_load_149 : decode cX5_load 149 = .ok (.aload_n 0, 1) := by decide +kernel
theorem dX5_load_150 : decode cX5_load 150 = .ok (.getfield 80, 3) := by decide +kernel
theorem dX5_load_153 : decode cX5_load 153 = .ok (.ireturn, 1) := by decide +kernel
theorem dX5_load_154 : decode cX5_load 154 = .ok (.aload_n 0, 1) := by decide +kernel
theorem dX5_load_155 : decode cX5_load 155 = .ok (.invokevirtual 165, 3) := by decide +kernel
theorem dX5_load_158 : decode cX5_load 158 = .ok (.aload_n 0, 1) := by decide +kernel
theorem dX5_load_159 : decode cX5_load 159 = .ok (.getfield 20, 3) := by decide +kernel
theorem dX5_load_162 : decode cX5_load 162 = .ok (.aload_n 0, 1) := by decide +kernel
theorem dX5_load_163 : decode cX5_load 163 = .ok (.getfield 17, 3) := by decide +kernel
theorem dX5_load_166 : decode cX5_load 166 = .ok (.invokestatic 168, 3) := by decide +kernel
theorem dX5_load_169 : decode cX5_load 169 = .ok (.aload_n 0, 1) := by decide +kernel
theorem dX5_load_170 : decode cX5_load 170 = .ok (.invokevirtual 172, 3) := by decide +kernel
theorem dX5_load_173 : decode cX5_load 173 = .ok (.ireturn, 1) := by decide +kernel
theorem dX5_errorOffset_0 : decode cX5_errorOffset 0 = .ok (.aload_n 0, 1) := by decide +kernel
theorem dX5_errorOffset_1 : decode cX5_errorOffset 1 = .ok (.iconst 0, 1) := by decide +kernel
theorem dX5_errorOffset_2 : decode cX5_errorOffset 2 = .ok (.putfield 64, 3) := by decide +kernel
theorem dX5_errorOffset_5 : decode cX5_errorOffset 5 = .ok (.aload_n 0, 1) := by decide +kernel
theorem dX5_errorOffset_6 : decode cX5_errorOffset 6 = .ok (.getfield 13, 3) := by decide +kernel
theorem dX5_errorOffset_9 : decode cX5_errorOffset 9 = .ok (.ireturn, 1) := by decide +kernel
theorem dX5_cells_0 : decode cX5_cells 0 = .ok (.aload_n 0, 1) := by decide +kernel
theorem dX5_cells_1 : decode cX5_cells 1 = .ok (.getfield 17, 3) := by decide +kernel
theorem dX5_cells_4 : decode cX5_cells 4 = .ok (.iconst 0, 1) := by decide +kernel
theorem dX5_cells_5 : decode cX5_cells 5 = .ok (.iaload, 1) := by decide +kernel
theorem dX5_cells_6 : decode cX5_cells 6 = .ok (.aload_n 0, 1) := by decide +kernel
theorem dX5_cells_7 : decode cX5_cells 7 = .ok (.getfield 17, 3) := by decide +kernel
theorem dX5_cells_10 : decode cX5_cells 10 = .ok (.iconst 1, 1) := by decide +kernel
theorem dX5_cells_11 : decode cX5_cells 11 = .ok (.iaload, 1) := by decide +kernel
theorem dX5_cells_12 : decode cX5_cells 12 = .ok (.imul, 1) := by decide +kernel
theorem dX5_cells_13 : decode cX5_cells 13 = .ok (.ireturn, 1) := by decide +kernel
theorem dX5_behind_0 : decode cX5_behind 0 = .ok (.iload_n 1, 1) := by decide +kernel
theorem dX5_behind_1 : decode cX5_behind 1 = .ok (.aload_n 0, 1) := by decide +kernel
theorem dX5_behind_2 : decode cX5_behind 2 = .ok (.getfield 17, 3) := by decide +kernel
theorem dX5_behind_5 : decode cX5_behind 5 = .ok (.iconst 0, 1) := by decide +kernel
theorem dX5_behind_6 : decode cX5_behind 6 = .ok (.iaload, 1) := by decide +kernel
theorem dX5_behind_7 : decode cX5_behind 7 = .ok (.idiv, 1) := by decide +kernel
theorem dX5_behind_8 : decode cX5_behind 8 = .ok (.istore_n 2, 1) := by decide +kernel
theorem dX5_behind_9 : decode cX5_behind 9 = .ok (.iload_n 1, 1) := by decide +kernel
theorem dX5_behind_10 : decode cX5_behind 10 = .ok (.aload_n 0, 1) := by decide +kernel
theorem dX5_behind_11 : decode cX5_behind 11 = .ok (.getfield 17, 3) := by decide +kernel
theorem dX5_behind_14 : decode cX5_behind 14 = .ok (.iconst 0, 1) := by decide +kernel
theorem dX5_behind_15 : decode cX5_behind 15 = .ok (.iaload, 1) := by decide +kernel
theorem dX5_behind_16 : decode cX5_behind 16 = .ok (.irem, 1) := by decide +kernel
theorem dX5_behind_17 : decode cX5_behind 17 = .ok (.istore_n 3, 1) := by decide +kernel
theorem dX5_behind_18 : decode cX5_behind 18 = .ok (.iload_n 2, 1) := by decide +kernel
theorem dX5_behind_19 : decode cX5_behind 19 = .ok (.aload_n 0, 1) := by decide +kernel
theorem dX5_behind_20 : decode cX5_behind 20 = .ok (.getfield 17, 3) := by decide +kernel
theorem dX5_behind_23 : decode cX5_behind 23 = .ok (.iconst 0, 1) := by decide +kernel
theorem dX5_behind_24 : decode cX5_behind 24 = .ok (.iaload, 1) := by decide +kernel
theorem dX5_behind_25 : decode cX5_behind 25 = .ok (.imul, 1) := by decide +kernel
theorem dX5_behind_26 : decode cX5_behind 26 = .ok (.aload_n 0, 1) := by decide +kernel
theorem dX5_behind_27 : decode cX5_behind 27 = .ok (.getfield 17, 3) := by decide +kernel
theorem dX5_behind_30 : decode cX5_behind 30 = .ok (.iconst 0, 1) := by decide +kernel
theorem dX5_behind_31 : decode cX5_behind 31 = .ok (.iaload, 1) := by decide +kernel
theorem dX5_behind_32 : decode cX5_behind 32 = .ok (.iadd, 1) := by decide +kernel
theorem dX5_behind_33 : decode cX5_behind 33 = .ok (.iconst 1, 1) := by decide +kernel
theorem dX5_behind_34 : decode cX5_behind 34 = .ok (.isub, 1) := by decide +kernel
theorem dX5_behind_35 : decode cX5_behind 35 = .ok (.iload_n 3, 1) := by decide +kernel
theorem dX5_behind_36 : decode cX5_behind 36 = .ok (.isub, 1) := by decide +kernel
theorem dX5_behind_37 : decode cX5_behind 37 = .ok (.ireturn, 1) := by decide +kernel
theorem dX5_cellOf_0 : decode cX5_cellOf 0 = .ok (.iload_n 1, 1) := by decide +kernel
theorem dX5_cellOf_1 : decode cX5_cellOf 1 = .ok (.ifCond .ne 7, 3) := by decide +kernel
theorem dX5_cellOf_4 : decode cX5_cellOf 4 = .ok (.iload_n 2, 1) := by decide +kernel
theorem dX5_cellOf_5 : decode cX5_cellOf 5 = .ok (.goto 8, 3) := by decide +kernel
theorem dX5_cellOf_8 : decode cX5_cellOf 8 = .ok (.aload_n 0, 1) := by decide +kernel
theorem dX5_cellOf_9 : decode cX5_cellOf 9 = .ok (.iload_n 2, 1) := by decide +kernel
theorem dX5_cellOf_10 : decode cX5_cellOf 10 = .ok (.invokevirtual 175, 3) := by decide +kernel
theorem dX5_cellOf_13 : decode cX5_cellOf 13 = .ok (.ireturn, 1) := by decide +kernel
theorem dX5_letterAt_0 : decode cX5_letterAt 0 = .ok (.aload_n 0, 1) := by decide +kernel
theorem dX5_letterAt_1 : decode cX5_letterAt 1 = .ok (.getfield 17, 3) := by decide +kernel
theorem dX5_letterAt_4 : decode cX5_letterAt 4 = .ok (.bipush 6, 2) := by decide +kernel
theorem dX5_letterAt_6 : decode cX5_letterAt 6 = .ok (.bipush 48, 2) := by decide +kernel
theorem dX5_letterAt_8 : decode cX5_letterAt 8 = .ok (.iload_n 1, 1) := by decide +kernel
theorem dX5_letterAt_9 : decode cX5_letterAt 9 = .ok (.imul, 1) := by decide +kernel
theorem dX5_letterAt_10 : decode cX5_letterAt 10 = .ok (.iadd, 1) := by decide +kernel
theorem dX5_letterAt_11 : decode cX5_letterAt 11 = .ok (.iload_n 2, 1) := by decide +kernel
theorem dX5_letterAt_12 : decode cX5_letterAt 12 = .ok (.iadd, 1) := by decide +kernel
theorem dX5_letterAt_13 : decode cX5_letterAt 13 = .ok (.iaload, 1) := by decide +kernel
theorem dX5_letterAt_14 : decode cX5_letterAt 14 = .ok (.ireturn, 1) := by decide +kernel
theorem dX5_sizeAt_0 : decode cX5_sizeAt 0 = .ok (.aload_n 0, 1) := by decide +kernel
theorem dX5_sizeAt_1 : decode cX5_sizeAt 1 = .ok (.getfield 17, 3) := by decide +kernel
theorem dX5_sizeAt_4 : decode cX5_sizeAt 4 = .ok (.bipush 102, 2) := by decide +kernel
theorem dX5_sizeAt_6 : decode cX5_sizeAt 6 = .ok (.bipush 6, 2) := by decide +kernel
theorem dX5_sizeAt_8 : decode cX5_sizeAt 8 = .ok (.iload_n 1, 1) := by decide +kernel
theorem dX5_sizeAt_9 : decode cX5_sizeAt 9 = .ok (.imul, 1) := by decide +kernel
theorem dX5_sizeAt_10 : decode cX5_sizeAt 10 = .ok (.iadd, 1) := by decide +kernel
theorem dX5_sizeAt_11 : decode cX5_sizeAt 11 = .ok (.iload_n 2, 1) := by decide +kernel
theorem dX5_sizeAt_12 : decode cX5_sizeAt 12 = .ok (.aload_n 0, 1) := by decide +kernel
theorem dX5_sizeAt_13 : decode cX5_sizeAt 13 = .ok (.getfield 17, 3) := by decide +kernel
theorem dX5_sizeAt_16 : decode cX5_sizeAt 16 = .ok (.iconst 0, 1) := by decide +kernel
theorem dX5_sizeAt_17 : decode cX5_sizeAt 17 = .ok (.iaload, 1) := by decide +kernel
theorem dX5_sizeAt_18 : decode cX5_sizeAt 18 = .ok (.idiv, 1) := by decide +kernel
theorem dX5_sizeAt_19 : decode cX5_sizeAt 19 = .ok (.iadd, 1) := by decide +kernel
theorem dX5_sizeAt_20 : decode cX5_sizeAt 20 = .ok (.iaload, 1) := by decide +kernel
theorem dX5_sizeAt_21 : decode cX5_sizeAt 21 = .ok (.ireturn, 1) := by decide +kernel
theorem dX5_isGone_0 : decode cX5_isGone 0 = .ok (.aload_n 0, 1) := by decide +kernel
theorem dX5_isGone_1 : decode cX5_isGone 1 = .ok (.getfield 17, 3) := by decide +kernel
theorem dX5_isGone_4 : decode cX5_isGone 4 = .ok (.bipush 114, 2) := by decide +kernel
theorem dX5_isGone_6 : decode cX5_isGone 6 = .ok (.aload_n 0, 1) := by decide +kernel
theorem dX5_isGone_7 : decode cX5_isGone 7 = .ok (.iload_n 1, 1) := by decide +kernel
theorem dX5_isGone_8 : decode cX5_isGone 8 = .ok (.iload_n 2, 1) := by decide +kernel
theorem dX5_isGone_9 : decode cX5_isGone 9 = .ok (.invokevirtual 178, 3) := by decide +kernel
theorem dX5_isGone_12 : decode cX5_isGone 12 = .ok (.iadd, 1) := by decide +kernel
theorem dX5_isGone_13 : decode cX5_isGone 13 = .ok (.iaload, 1) := by decide +kernel
theorem dX5_isGone_14 : decode cX5_isGone 14 = .ok (.iconst 1, 1) := by decide +kernel
theorem dX5_isGone_15 : decode cX5_isGone 15 = .ok (.if_icmp .ne 7, 3) := by decide +kernel
theorem dX5_isGone_18 : decode cX5_isGone 18 = .ok (.iconst 1, 1) := by decide +kernel
theorem dX5_isGone_19 : decode cX5_isGone 19 = .ok (.goto 4, 3) := by decide +kernel
theorem dX5_isGone_22 : decode cX5_isGone 22 = .ok (.iconst 0, 1) := by decide +kernel
theorem dX5_isGone_23 : decode cX5_isGone 23 = .ok (.ireturn, 1) := by decide +kernel
theorem dX5_canUse_0 : decode cX5_canUse 0 = .ok (.aload_n 0, 1) := by decide +kernel
theorem dX5_canUse_1 : decode cX5_canUse 1 = .ok (.iload_n 1, 1) := by decide +kernel
theorem dX5_canUse_2 : decode cX5_canUse 2 = .ok (.iload_n 2, 1) := by decide +kernel
theorem dX5_canUse_3 : decode cX5_canUse 3 = .ok (.invokevirtual 181, 3) := by decide +kernel
theorem dX5_canUse_6 : decode cX5_canUse 6 = .ok (.iconst (-1), 1) := by decide +kernel
theorem dX5_canUse_7 : decode cX5_canUse 7 = .ok (.if_icmp .eq 31, 3) := by decide +kernel
theorem dX5_canUse_10 : decode cX5_canUse 10 = .ok (.aload_n 0, 1) := by decide +kernel
theorem dX5_canUse_11 : decode cX5_canUse 11 = .ok (.iload_n 1, 1) := by decide +kernel
theorem dX5_canUse_12 : decode cX5_canUse 12 = .ok (.iload_n 2, 1) := by decide +kernel
theorem dX5_canUse_13 : decode cX5_canUse 13 = .ok (.invokevirtual 184, 3) := by decide +kernel
theorem dX5_canUse_16 : decode cX5_canUse 16 = .ok (.ifCond .ne 22, 3) := by decide +kernel
theorem dX5_canUse_19 : decode cX5_canUse 19 = .ok (.aload_n 0, 1) := by decide +kernel
theorem dX5_canUse_20 : decode cX5_canUse 20 = .ok (.iload_n 1, 1) := by decide +kernel
theorem dX5_canUse_21 : decode cX5_canUse 21 = .ok (.iload_n 2, 1) := by decide +kernel
theorem dX5_canUse_22 : decode cX5_canUse 22 = .ok (.invokevirtual 188, 3) := by decide +kernel
theorem dX5_canUse_25 : decode cX5_canUse 25 = .ok (.aload_n 0, 1) := by decide +kernel
theorem dX5_canUse_26 : decode cX5_canUse 26 = .ok (.getfield 17, 3) := by decide +kernel
theorem dX5_canUse_29 : decode cX5_canUse 29 = .ok (.iconst 2, 1) := by decide +kernel
theorem dX5_canUse_30 : decode cX5_canUse 30 = .ok (.iaload, 1) := by decide +kernel
theorem dX5_canUse_31 : decode cX5_canUse 31 = .ok (.if_icmp .lt 7, 3) := by decide +kernel
theorem dX5_canUse_34 : decode cX5_canUse 34 = .ok (.iconst 1, 1) := by decide +kernel
theorem dX5_canUse_35 : decode cX5_canUse 35 = .ok (.goto 4, 3) := by decide +kernel
theorem dX5_canUse_38 : decode cX5_canUse 38 = .ok (.iconst 0, 1) := by decide +kernel
theorem dX5_canUse_39 : decode cX5_canUse 39 = .ok (.ireturn, 1) := by decide +kernel
theorem dX5_isLetter_0 : decode cX5_isLetter 0 = .ok (.aload_n 0, 1) := by decide +kernel
theorem dX5_isLetter_1 : decode cX5_isLetter 1 = .ok (.iload_n 1, 1) := by decide +kernel
theorem dX5_isLetter_2 : decode cX5_isLetter 2 = .ok (.iload_n 2, 1) := by decide +kernel
theorem dX5_isLetter_3 : decode cX5_isLetter 3 = .ok (.invokevirtual 181, 3) := by decide +kernel
theorem dX5_isLetter_6 : decode cX5_isLetter 6 = .ok (.iload_n 3, 1) := by decide +kernel
theorem dX5_isLetter_7 : decode cX5_isLetter 7 = .ok (.if_icmp .ne 16, 3) := by decide +kernel
theorem dX5_isLetter_10 : decode cX5_isLetter 10 = .ok (.aload_n 0, 1) := by decide +kernel
theorem dX5_isLetter_11 : decode cX5_isLetter 11 = .ok (.iload_n 1, 1) := by decide +kernel
theorem dX5_isLetter_12 : decode cX5_isLetter 12 = .ok (.iload_n 2, 1) := by decide +kernel
theorem dX5_isLetter_13 : decode cX5_isLetter 13 = .ok (.invokevirtual 191, 3) := by decide +kernel
theorem dX5_isLetter_16 : decode cX5_isLetter 16 = .ok (.ifCond .eq 7, 3) := by decide +kernel
theorem dX5_isLetter_19 : decode cX5_isLetter 19 = .ok (.iconst 1, 1) := by decide +kernel
theorem dX5_isLetter_20 : decode cX5_isLetter 20 = .ok (.goto 4, 3) := by decide +kernel
theorem dX5_isLetter_23 : decode cX5_isLetter 23 = .ok (.iconst 0, 1) := by decide +kernel
theorem dX5_isLetter_24 : decode cX5_isLetter 24 = .ok (.ireturn, 1) := by decide +kernel
theorem dX5_inMessage_0 : decode cX5_inMessage 0 = .ok (.iconst 0, 1) := by decide +kernel
theorem dX5_inMessage_1 : decode cX5_inMessage 1 = .ok (.istore_n 2, 1) := by decide +kernel
theorem dX5_inMessage_2 : decode cX5_inMessage 2 = .ok (.iconst 0, 1) := by decide +kernel
theorem dX5_inMessage_3 : decode cX5_inMessage 3 = .ok (.istore_n 3, 1) := by decide +kernel
theorem dX5_inMessage_4 : decode cX5_inMessage 4 = .ok (.iload_n 3, 1) := by decide +kernel
theorem dX5_inMessage_5 : decode cX5_inMessage 5 = .ok (.aload_n 0, 1) := by decide +kernel
theorem dX5_inMessage_6 : decode cX5_inMessage 6 = .ok (.getfield 17, 3) := by decide +kernel
theorem dX5_inMessage_9 : decode cX5_inMessage 9 = .ok (.iconst 3, 1) := by decide +kernel
theorem dX5_inMessage_10 : decode cX5_inMessage 10 = .ok (.iaload, 1) := by decide +kernel
theorem dX5_inMessage_11 : decode cX5_inMessage 11 = .ok (.if_icmp .ge 31, 3) := by decide +kernel
theorem dX5_inMessage_14 : decode cX5_inMessage 14 = .ok (.iload_n 2, 1) := by decide +kernel
theorem dX5_inMessage_15 : decode cX5_inMessage 15 = .ok (.aload_n 0, 1) := by decide +kernel
theorem dX5_inMessage_16 : decode cX5_inMessage 16 = .ok (.getfield 17, 3) := by decide +kernel
theorem dX5_inMessage_19 : decode cX5_inMessage 19 = .ok (.sipush 162, 3) := by decide +kernel
theorem dX5_inMessage_22 : decode cX5_inMessage 22 = .ok (.iload_n 3, 1) := by decide +kernel
theorem dX5_inMessage_23 : decode cX5_inMessage 23 = .ok (.iadd, 1) := by decide +kernel
theorem dX5_inMessage_24 : decode cX5_inMessage 24 = .ok (.iaload, 1) := by decide +kernel
theorem dX5_inMessage_25 : decode cX5_inMessage 25 = .ok (.iload_n 1, 1) := by decide +kernel
theorem dX5_inMessage_26 : decode cX5_inMessage 26 = .ok (.if_icmp .ne 7, 3) := by decide +kernel
theorem dX5_inMessage_29 : decode cX5_inMessage 29 = .ok (.iconst 1, 1) := by decide +kernel
theorem dX5_inMessage_30 : decode cX5_inMessage 30 = .ok (.goto 4, 3) := by decide +kernel
theorem dX5_inMessage_33 : decode cX5_inMessage 33 = .ok (.iconst 0, 1) := by decide +kernel
theorem dX5_inMessage_34 : decode cX5_inMessage 34 = .ok (.iadd, 1) := by decide +kernel
theorem dX5_inMessage_35 : decode cX5_inMessage 35 = .ok (.istore_n 2, 1) := by decide +kernel
theorem dX5_inMessage_36 : decode cX5_inMessage 36 = .ok (.iinc 3 1, 3) := by decide +kernel
theorem dX5_inMessage_39 : decode cX5_inMessage 39 = .ok (.goto (-35), 3) := by decide +kernel
theorem dX5_inMessage_42 : decode cX5_inMessage 42 = .ok (.iload_n 2, 1) := by decide +kernel
theorem dX5_inMessage_43 : decode cX5_inMessage 43 = .ok (.ireturn, 1) := by decide +kernel
theorem dX5_hasLetter_0 : decode cX5_hasLetter 0 = .ok (.aload_n 0, 1) := by decide +kernel
theorem dX5_hasLetter_1 : decode cX5_hasLetter 1 = .ok (.iconst 0, 1) := by decide +kernel
theorem dX5_hasLetter_2 : decode cX5_hasLetter 2 = .ok (.iload_n 1, 1) := by decide +kernel
theorem dX5_hasLetter_3 : decode cX5_hasLetter 3 = .ok (.iload_n 2, 1) := by decide +kernel
theorem dX5_hasLetter_4 : decode cX5_hasLetter 4 = .ok (.invokevirtual 194, 3) := by decide +kernel
theorem dX5_hasLetter_7 : decode cX5_hasLetter 7 = .ok (.ifCond .ne 17, 3) := by decide +kernel
theorem dX5_hasLetter_10 : decode cX5_hasLetter 10 = .ok (.aload_n 0, 1) := by decide +kernel
theorem dX5_hasLetter_11 : decode cX5_hasLetter 11 = .ok (.iconst 1, 1) := by decide +kernel
theorem dX5_hasLetter_12 : decode cX5_hasLetter 12 = .ok (.aload_n 0, 1) := by decide +kernel
theorem dX5_hasLetter_13 : decode cX5_hasLetter 13 = .ok (.iload_n 1, 1) := by decide +kernel
theorem dX5_hasLetter_14 : decode cX5_hasLetter 14 = .ok (.invokevirtual 175, 3) := by decide +kernel
theorem dX5_hasLetter_17 : decode cX5_hasLetter 17 = .ok (.iload_n 2, 1) := by decide +kernel
theorem dX5_hasLetter_18 : decode cX5_hasLetter 18 = .ok (.invokevirtual 194, 3) := by decide +kernel
theorem dX5_hasLetter_21 : decode cX5_hasLetter 21 = .ok (.ifCond .eq 7, 3) := by decide +kernel
theorem dX5_hasLetter_24 : decode cX5_hasLetter 24 = .ok (.iconst 1, 1) := by decide +kernel
theorem dX5_hasLetter_25 : decode cX5_hasLetter 25 = .ok (.goto 4, 3) := by decide +kernel
theorem dX5_hasLetter_28 : decode cX5_hasLetter 28 = .ok (.iconst 0, 1) := by decide +kernel
theorem dX5_hasLetter_29 : decode cX5_hasLetter 29 = .ok (.ireturn, 1) := by decide +kernel
theorem dX5_gives_0 : decode cX5_gives 0 = .ok (.iconst 0, 1) := by decide +kernel
theorem dX5_gives_1 : decode cX5_gives 1 = .ok (.istore_n 2, 1) := by decide +kernel
theorem dX5_gives_2 : decode cX5_gives 2 = .ok (.iload_n 2, 1) := by decide +kernel
theorem dX5_gives_3 : decode cX5_gives 3 = .ok (.aload_n 0, 1) := by decide +kernel
theorem dX5_gives_4 : decode cX5_gives 4 = .ok (.invokevirtual 172, 3) := by decide +kernel
theorem dX5_gives_7 : decode cX5_gives 7 = .ok (.if_icmp .ge 94, 3) := by decide +kernel
theorem dX5_gives_10 : decode cX5_gives 10 = .ok (.aload_n 0, 1) := by decide +kernel
theorem dX5_gives_11 : decode cX5_gives 11 = .ok (.getfield 34, 3) := by decide +kernel
theorem dX5_gives_14 : decode cX5_gives 14 = .ok (.iload_n 2, 1) := by decide +kernel
theorem dX5_gives_15 : decode cX5_gives 15 = .ok (.baload, 1) := by decide +kernel
theorem dX5_gives_16 : decode cX5_gives 16 = .ok (.ifCond .ne 79, 3) := by decide +kernel
theorem dX5_gives_19 : decode cX5_gives 19 = .ok (.aload_n 0, 1) := by decide +kernel
theorem dX5_gives_20 : decode cX5_gives 20 = .ok (.getfield 197, 3) := by decide +kernel
theorem dX5_gives_23 : decode cX5_gives 23 = .ok (.iload_n 2, 1) := by decide +kernel
theorem dX5_gives_24 : decode cX5_gives 24 = .ok (.lshr, 1) := by decide +kernel
theorem dX5_gives_25 : decode cX5_gives 25 = .ok (.lconst 1, 1) := by decide +kernel
theorem dX5_gives_26 : decode cX5_gives 26 = .ok (.land, 1) := by decide +kernel
theorem dX5_gives_27 : decode cX5_gives 27 = .ok (.lconst 1, 1) := by decide +kernel
theorem dX5_gives_28 : decode cX5_gives 28 = .ok (.lcmp, 1) := by decide +kernel
theorem dX5_gives_29 : decode cX5_gives 29 = .ok (.ifCond .eq 66, 3) := by decide +kernel
theorem dX5_gives_32 : decode cX5_gives 32 = .ok (.aload_n 0, 1) := by decide +kernel
theorem dX5_gives_33 : decode cX5_gives 33 = .ok (.iload_n 2, 1) := by decide +kernel
theorem dX5_gives_34 : decode cX5_gives 34 = .ok (.aload_n 0, 1) := by decide +kernel
theorem dX5_gives_35 : decode cX5_gives 35 = .ok (.getfield 17, 3) := by decide +kernel
theorem dX5_gives_38 : decode cX5_gives 38 = .ok (.sipush 162, 3) := by decide +kernel
theorem dX5_gives_41 : decode cX5_gives 41 = .ok (.iload_n 1, 1) := by decide +kernel
theorem dX5_gives_42 : decode cX5_gives 42 = .ok (.iadd, 1) := by decide +kernel
theorem dX5_gives_43 : decode cX5_gives 43 = .ok (.iaload, 1) := by decide +kernel
theorem dX5_gives_44 : decode cX5_gives 44 = .ok (.invokevirtual 201, 3) := by decide +kernel
theorem dX5_gives_47 : decode cX5_gives 47 = .ok (.ifCond .ne 6, 3) := by decide +kernel
theorem dX5_gives_50 : decode cX5_gives 50 = .ok (.goto 45, 3) := by decide +kernel
theorem dX5_gives_53 : decode cX5_gives 53 = .ok (.aload_n 0, 1) := by decide +kernel
theorem dX5_gives_54 : decode cX5_gives 54 = .ok (.getfield 34, 3) := by decide +kernel
theorem dX5_gives_57 : decode cX5_gives 57 = .ok (.iload_n 2, 1) := by decide +kernel
theorem dX5_gives_58 : decode cX5_gives 58 = .ok (.iconst 1, 1) := by decide +kernel
theorem dX5_gives_59 : decode cX5_gives 59 = .ok (.bastore, 1) := by decide +kernel
theorem dX5_gives_60 : decode cX5_gives 60 = .ok (.aload_n 0, 1) := by decide +kernel
theorem dX5_gives_61 : decode cX5_gives 61 = .ok (.getfield 31, 3) := by decide +kernel
theorem dX5_gives_64 : decode cX5_gives 64 = .ok (.iload_n 2, 1) := by decide +kernel
theorem dX5_gives_65 : decode cX5_gives 65 = .ok (.iaload, 1) := by decide +kernel
theorem dX5_gives_66 : decode cX5_gives 66 = .ok (.iconst (-1), 1) := by decide +kernel
theorem dX5_gives_67 : decode cX5_gives 67 = .ok (.if_icmp .eq 19, 3) := by decide +kernel
theorem dX5_gives_70 : decode cX5_gives 70 = .ok (.aload_n 0, 1) := by decide +kernel
theorem dX5_gives_71 : decode cX5_gives 71 = .ok (.aload_n 0, 1) := by decide +kernel
theorem dX5_gives_72 : decode cX5_gives 72 = .ok (.getfield 31, 3) := by decide +kernel
theorem dX5_gives_75 : decode cX5_gives 75 = .ok (.iload_n 2, 1) := by decide +kernel
theorem dX5_gives_76 : decode cX5_gives 76 = .ok (.iaload, 1) := by decide +kernel
theorem dX5_gives_77 : decode cX5_gives 77 = .ok (.invokevirtual 204, 3) := by decide +kernel
theorem dX5_gives_80 : decode cX5_gives 80 = .ok (.ifCond .ne 6, 3) := by decide +kernel
theorem dX5_gives_83 : decode cX5_gives 83 = .ok (.goto 12, 3) := by decide +kernel
theorem dX5_gives_86 : decode cX5_gives 86 = .ok (.aload_n 0, 1) := by decide +kernel
theorem dX5_gives_87 : decode cX5_gives 87 = .ok (.getfield 31, 3) := by decide +kernel
theorem dX5_gives_90 : decode cX5_gives 90 = .ok (.iload_n 2, 1) := by decide +kernel
theorem dX5_gives_91 : decode cX5_gives 91 = .ok (.iload_n 1, 1) := by decide +kernel
theorem dX5_gives_92 : decode cX5_gives 92 = .ok (.iastore, 1) := by decide +kernel
theorem dX5_gives_93 : decode cX5_gives 93 = .ok (.iconst 1, 1) := by decide +kernel
theorem dX5_gives_94 : decode cX5_gives 94 = .ok (.ireturn, 1) := by decide +kernel
theorem dX5_gives_95 : decode cX5_gives 95 = .ok (.iinc 2 1, 3) := by decide +kernel
theorem dX5_gives_98 : decode cX5_gives 98 = .ok (.goto (-96), 3) := by decide +kernel
theorem dX5_gives_101 : decode cX5_gives 101 = .ok (.iconst 0, 1) := by decide +kernel
theorem dX5_gives_102 : decode cX5_gives 102 = .ok (.ireturn, 1) := by decide +kernel
theorem dX5_missingNow_0 : decode cX5_missingNow 0 = .ok (.aload_n 0, 1) := by decide +kernel
theorem dX5_missingNow_1 : decode cX5_missingNow 1 = .ok (.lconst 0, 1) := by decide +kernel
theorem dX5_missingNow_2 : decode cX5_missingNow 2 = .ok (.putfield 197, 3) := by decide +kernel
theorem dX5_missingNow_5 : decode cX5_missingNow 5 = .ok (.aload_n 0, 1) := by decide +kernel
theorem dX5_missingNow_6 : decode cX5_missingNow 6 = .ok (.iconst 0, 1) := by decide +kernel
theorem dX5_missingNow_7 : decode cX5_missingNow 7 = .ok (.invokevirtual 207, 3) := by decide +kernel
theorem dX5_missingNow_10 : decode cX5_missingNow 10 = .ok (.ireturn, 1) := by decide +kernel
theorem dX5_missingFrom_0 : decode cX5_missingFrom 0 = .ok (.iconst 0, 1) := by decide +kernel
theorem dX5_missingFrom_1 : decode cX5_missingFrom 1 = .ok (.istore_n 2, 1) := by decide +kernel
theorem dX5_missingFrom_2 : decode cX5_missingFrom 2 = .ok (.iconst 0, 1) := by decide +kernel
theorem dX5_missingFrom_3 : decode cX5_missingFrom 3 = .ok (.istore_n 3, 1) := by decide +kernel
theorem dX5_missingFrom_4 : decode cX5_missingFrom 4 = .ok (.iload_n 3, 1) := by decide +kernel
theorem dX5_missingFrom_5 : decode cX5_missingFrom 5 = .ok (.aload_n 0, 1) := by decide +kernel
theorem dX5_missingFrom_6 : decode cX5_missingFrom 6 = .ok (.invokevirtual 172, 3) := by decide +kernel
theorem dX5_missingFrom_9 : decode cX5_missingFrom 9 = .ok (.if_icmp .ge 16, 3) := by decide +kernel
theorem dX5_missingFrom_12 : decode cX5_missingFrom 12 = .ok (.aload_n 0, 1) := by decide +kernel
theorem dX5_missingFrom_13 : decode cX5_missingFrom 13 = .ok (.getfield 31, 3) := by decide +kernel
theorem dX5_missingFrom_16 : decode cX5_missingFrom 16 = .ok (.iload_n 3, 1) := by decide +kernel
theorem dX5_missingFrom_17 : decode cX5_missingFrom 17 = .ok (.iconst (-1), 1) := by decide +kernel
theorem dX5_missingFrom_18 : decode cX5_missingFrom 18 = .ok (.iastore, 1) := by decide +kernel
theorem dX5_missingFrom_19 : decode cX5_missingFrom 19 = .ok (.iinc 3 1, 3) := by decide +kernel
theorem dX5_missingFrom_22 : decode cX5_missingFrom 22 = .ok (.goto (-18), 3) := by decide +kernel
theorem dX5_missingFrom_25 : decode cX5_missingFrom 25 = .ok (.iload_n 1, 1) := by decide +kernel
theorem dX5_missingFrom_26 : decode cX5_missingFrom 26 = .ok (.istore_n 3, 1) := by decide +kernel
theorem dX5_missingFrom_27 : decode cX5_missingFrom 27 = .ok (.iload_n 3, 1) := by decide +kernel
theorem dX5_missingFrom_28 : decode cX5_missingFrom 28 = .ok (.aload_n 0, 1) := by decide +kernel
theorem dX5_missingFrom_29 : decode cX5_missingFrom 29 = .ok (.getfield 17, 3) := by decide +kernel
theorem dX5_missingFrom_32 : decode cX5_missingFrom 32 = .ok (.iconst 3, 1) := by decide +kernel
theorem dX5_missingFrom_33 : decode cX5_missingFrom 33 = .ok (.iaload, 1) := by decide +kernel
theorem dX5_missingFrom_34 : decode cX5_missingFrom 34 = .ok (.if_icmp .ge 51, 3) := by decide +kernel
theorem dX5_missingFrom_37 : decode cX5_missingFrom 37 = .ok (.iconst 0, 1) := by decide +kernel
theorem dX5_missingFrom_38 : decode cX5_missingFrom 38 = .ok (.istore 4, 2) := by decide +kernel
theorem dX5_missingFrom_40 : decode cX5_missingFrom 40 = .ok (.iload 4, 2) := by decide +kernel
theorem dX5_missingFrom_42 : decode cX5_missingFrom 42 = .ok (.aload_n 0, 1) := by decide +kernel
theorem dX5_missingFrom_43 : decode cX5_missingFrom 43 = .ok (.invokevirtual 172, 3) := by decide +kernel
theorem dX5_missingFrom_46 : decode cX5_missingFrom 46 = .ok (.if_icmp .ge 17, 3) := by decide +kernel
theorem dX5_missingFrom_49 : decode cX5_missingFrom 49 = .ok (.aload_n 0, 1) := by decide +kernel
theorem dX5_missingFrom_50 : decode cX5_missingFrom 50 = .ok (.getfield 34, 3) := by decide +kernel
theorem dX5_missingFrom_53 : decode cX5_missingFrom 53 = .ok (.iload 4, 2) := by decide +kernel
theorem dX5_missingFrom_55 : decode cX5_missingFrom 55 = .ok (.iconst 0, 1) := by decide +kernel
theorem dX5_missingFrom_56 : decode cX5_missingFrom 56 = .ok (.bastore, 1) := by decide +kernel
theorem dX5_missingFrom_57 : decode cX5_missingFrom 57 = .ok (.iinc 4 1, 3) := by decide +kernel
theorem dX5_missingFrom_60 : decode cX5_missingFrom 60 = .ok (.goto (-20), 3) := by decide +kernel
theorem dX5_missingFrom_63 : decode cX5_missingFrom 63 = .ok (.iload_n 2, 1) := by decide +kernel
theorem dX5_missingFrom_64 : decode cX5_missingFrom 64 = .ok (.aload_n 0, 1) := by decide +kernel
theorem dX5_missingFrom_65 : decode cX5_missingFrom 65 = .ok (.iload_n 3, 1) := by decide +kernel
theorem dX5_missingFrom_66 : decode cX5_missingFrom 66 = .ok (.invokevirtual 204, 3) := by decide +kernel
theorem dX5_missingFrom_69 : decode cX5_missingFrom 69 = .ok (.ifCond .eq 7, 3) := by decide +kernel
theorem dX5_missingFrom_72 : decode cX5_missingFrom 72 = .ok (.iconst 0, 1) := by decide +kernel
theorem dX5_missingFrom_73 : decode cX5_missingFrom 73 = .ok (.goto 4, 3) := by decide +kernel
theorem dX5_missingFrom_76 : decode cX5_missingFrom 76 = .ok (.iconst 1, 1) := by decide +kernel
theorem dX5_missingFrom_77 : decode cX5_missingFrom 77 = .ok (.iadd, 1) := by decide +kernel
theorem dX5_missingFrom_78 : decode cX5_missingFrom 78 = .ok (.istore_n 2, 1) := by decide +kernel
theorem dX5_missingFrom_79 : decode cX5_missingFrom 79 = .ok (.iinc 3 1, 3) := by decide +kernel
theorem dX5_missingFrom_82 : decode cX5_missingFrom 82 = .ok (.goto (-55), 3) := by decide +kernel
theorem dX5_missingFrom_85 : decode cX5_missingFrom 85 = .ok (.iload_n 2, 1) := by decide +kernel
theorem dX5_missingFrom_86 : decode cX5_missingFrom 86 = .ok (.ireturn, 1) := by decide +kernel
theorem dX5_isStrip_0 : decode cX5_isStrip 0 = .ok (.iload_n 2, 1) := by decide +kernel
theorem dX5_isStrip_1 : decode cX5_isStrip 1 = .ok (.aload_n 0, 1) := by decide +kernel
theorem dX5_isStrip_2 : decode cX5_isStrip 2 = .ok (.getfield 17, 3) := by decide +kernel
theorem dX5_isStrip_5 : decode cX5_isStrip 5 = .ok (.iconst 0, 1) := by decide +kernel
theorem dX5_isStrip_6 : decode cX5_isStrip 6 = .ok (.iaload, 1) := by decide +kernel
theorem dX5_isStrip_7 : decode cX5_isStrip 7 = .ok (.irem, 1) := by decide +kernel
theorem dX5_isStrip_8 : decode cX5_isStrip 8 = .ok (.iload_n 3, 1) := by decide +kernel
theorem dX5_isStrip_9 : decode cX5_isStrip 9 = .ok (.iadd, 1) := by decide +kernel
theorem dX5_isStrip_10 : decode cX5_isStrip 10 = .ok (.aload_n 0, 1) := by decide +kernel
theorem dX5_isStrip_11 : decode cX5_isStrip 11 = .ok (.getfield 17, 3) := by decide +kernel
theorem dX5_isStrip_14 : decode cX5_isStrip 14 = .ok (.iconst 0, 1) := by decide +kernel
theorem dX5_isStrip_15 : decode cX5_isStrip 15 = .ok (.iaload, 1) := by decide +kernel
theorem dX5_isStrip_16 : decode cX5_isStrip 16 = .ok (.if_icmp .le 5, 3) := by decide +kernel
theorem dX5_isStrip_19 : decode cX5_isStrip 19 = .ok (.iconst 0, 1) := by decide +kernel
theorem dX5_isStrip_20 : decode cX5_isStrip 20 = .ok (.ireturn, 1) := by decide +kernel
theorem dX5_isStrip_21 : decode cX5_isStrip 21 = .ok (.iconst 0, 1) := by decide +kernel
theorem dX5_isStrip_22 : decode cX5_isStrip 22 = .ok (.istore 5, 2) := by decide +kernel
theorem dX5_isStrip_24 : decode cX5_isStrip 24 = .ok (.iload 5, 2) := by decide +kernel
theorem dX5_isStrip_26 : decode cX5_isStrip 26 = .ok (.iload_n 3, 1) := by decide +kernel
theorem dX5_isStrip_27 : decode cX5_isStrip 27 = .ok (.if_icmp .ge 37, 3) := by decide +kernel
theorem dX5_isStrip_30 : decode cX5_isStrip 30 = .ok (.aload_n 0, 1) := by decide +kernel
theorem dX5_isStrip_31 : decode cX5_isStrip 31 = .ok (.iload_n 1, 1) := by decide +kernel
theorem dX5_isStrip_32 : decode cX5_isStrip 32 = .ok (.iload_n 2, 1) := by decide +kernel
theorem dX5_isStrip_33 : decode cX5_isStrip 33 = .ok (.iload 5, 2) := by decide +kernel
theorem dX5_isStrip_35 : decode cX5_isStrip 35 = .ok (.iadd, 1) := by decide +kernel
theorem dX5_isStrip_36 : decode cX5_isStrip 36 = .ok (.aload_n 0, 1) := by decide +kernel
theorem dX5_isStrip_37 : decode cX5_isStrip 37 = .ok (.getfield 17, 3) := by decide +kernel
theorem dX5_isStrip_40 : decode cX5_isStrip 40 = .ok (.sipush 162, 3) := by decide +kernel
theorem dX5_isStrip_43 : decode cX5_isStrip 43 = .ok (.iload 4, 2) := by decide +kernel
theorem dX5_isStrip_45 : decode cX5_isStrip 45 = .ok (.iadd, 1) := by decide +kernel
theorem dX5_isStrip_46 : decode cX5_isStrip 46 = .ok (.iload 5, 2) := by decide +kernel
theorem dX5_isStrip_48 : decode cX5_isStrip 48 = .ok (.iadd, 1) := by decide +kernel
theorem dX5_isStrip_49 : decode cX5_isStrip 49 = .ok (.iaload, 1) := by decide +kernel
theorem dX5_isStrip_50 : decode cX5_isStrip 50 = .ok (.invokevirtual 194, 3) := by decide +kernel
theorem dX5_isStrip_53 : decode cX5_isStrip 53 = .ok (.ifCond .ne 5, 3) := by decide +kernel
theorem dX5_isStrip_56 : decode cX5_isStrip 56 = .ok (.iconst 0, 1) := by decide +kernel
theorem dX5_isStrip_57 : decode cX5_isStrip 57 = .ok (.ireturn, 1) := by decide +kernel
theorem dX5_isStrip_58 : decode cX5_isStrip 58 = .ok (.iinc 5 1, 3) := by decide +kernel
theorem dX5_isStrip_61 : decode cX5_isStrip 61 = .ok (.goto (-37), 3) := by decide +kernel
theorem dX5_isStrip_64 : decode cX5_isStrip 64 = .ok (.iconst 1, 1) := by decide +kernel
theorem dX5_isStrip_65 : decode cX5_isStrip 65 = .ok (.ireturn, 1) := by decide +kernel
theorem dX5_longestFrom_0 : decode cX5_longestFrom 0 = .ok (.aload_n 0, 1) := by decide +kernel
theorem dX5_longestFrom_1 : decode cX5_longestFrom 1 = .ok (.getfield 17, 3) := by decide +kernel
theorem dX5_longestFrom_4 : decode cX5_longestFrom 4 = .ok (.iconst 0, 1) := by decide +kernel
theorem dX5_longestFrom_5 : decode cX5_longestFrom 5 = .ok (.iaload, 1) := by decide +kernel
theorem dX5_longestFrom_6 : decode cX5_longestFrom 6 = .ok (.aload_n 0, 1) := by decide +kernel
theorem dX5_longestFrom_7 : decode cX5_longestFrom 7 = .ok (.getfield 17, 3) := by decide +kernel
theorem dX5_longestFrom_10 : decode cX5_longestFrom 10 = .ok (.iconst 3, 1) := by decide +kernel
theorem dX5_longestFrom_11 : decode cX5_longestFrom 11 = .ok (.iaload, 1) := by decide +kernel
theorem dX5_longestFrom_12 : decode cX5_longestFrom 12 = .ok (.iload_n 1, 1) := by decide +kernel
theorem dX5_longestFrom_13 : decode cX5_longestFrom 13 = .ok (.isub, 1) := by decide +kernel
theorem dX5_longestFrom_14 : decode cX5_longestFrom 14 = .ok (.invokestatic 119, 3) := by decide +kernel
theorem dX5_longestFrom_17 : decode cX5_longestFrom 17 = .ok (.istore_n 2, 1) := by decide +kernel
theorem dX5_longestFrom_18 : decode cX5_longestFrom 18 = .ok (.iload_n 2, 1) := by decide +kernel
theorem dX5_longestFrom_19 : decode cX5_longestFrom 19 = .ok (.istore_n 3, 1) := by decide +kernel
theorem dX5_longestFrom_20 : decode cX5_longestFrom 20 = .ok (.iload_n 3, 1) := by decide +kernel
theorem dX5_longestFrom_21 : decode cX5_longestFrom 21 = .ok (.ifCond .le 57, 3) := by decide +kernel
theorem dX5_longestFrom_24 : decode cX5_longestFrom 24 = .ok (.iconst 0, 1) := by decide +kernel
theorem dX5_longestFrom_25 : decode cX5_longestFrom 25 = .ok (.istore 4, 2) := by decide +kernel
theorem dX5_longestFrom_27 : decode cX5_longestFrom 27 = .ok (.iload 4, 2) := by decide +kernel
theorem dX5_longestFrom_29 : decode cX5_longestFrom 29 = .ok (.iconst 2, 1) := by decide +kernel
theorem dX5_longestFrom_30 : decode cX5_longestFrom 30 = .ok (.if_icmp .ge 42, 3) := by decide +kernel
theorem dX5_longestFrom_33 : decode cX5_longestFrom 33 = .ok (.iconst 0, 1) := by decide +kernel
theorem dX5_longestFrom_34 : decode cX5_longestFrom 34 = .ok (.istore 5, 2) := by decide +kernel
theorem dX5_longestFrom_36 : decode cX5_longestFrom 36 = .ok (.iload 5, 2) := by decide +kernel
theorem dX5_longestFrom_38 : decode cX5_longestFrom 38 = .ok (.aload_n 0, 1) := by decide +kernel
theorem dX5_longestFrom_39 : decode cX5_longestFrom 39 = .ok (.invokevirtual 172, 3) := by decide +kernel
theorem dX5_longestFrom_42 : decode cX5_longestFrom 42 = .ok (.if_icmp .ge 24, 3) := by decide +kernel
theorem dX5_longestFrom_45 : decode cX5_longestFrom 45 = .ok (.aload_n 0, 1) := by decide +kernel
theorem dX5_longestFrom_46 : decode cX5_longestFrom 46 = .ok (.iload 4, 2) := by decide +kernel
theorem dX5_longestFrom_48 : decode cX5_longestFrom 48 = .ok (.iload 5, 2) := by decide +kernel
theorem dX5_longestFrom_50 : decode cX5_longestFrom 50 = .ok (.iload_n 3, 1) := by decide +kernel
theorem dX5_longestFrom_51 : decode cX5_longestFrom 51 = .ok (.iload_n 1, 1) := by decide +kernel
theorem dX5_longestFrom_52 : decode cX5_longestFrom 52 = .ok (.invokevirtual 210, 3) := by decide +kernel
theorem dX5_longestFrom_55 : decode cX5_longestFrom 55 = .ok (.ifCond .eq 5, 3) := by decide +kernel
theorem dX5_longestFrom_58 : decode cX5_longestFrom 58 = .ok (.iload_n 3, 1) := by decide +kernel
theorem dX5_longestFrom_59 : decode cX5_longestFrom 59 = .ok (.ireturn, 1) := by decide +kernel
theorem dX5_longestFrom_60 : decode cX5_longestFrom 60 = .ok (.iinc 5 1, 3) := by decide +kernel
theorem dX5_longestFrom_63 : decode cX5_longestFrom 63 = .ok (.goto (-27), 3) := by decide +kernel
theorem dX5_longestFrom_66 : decode cX5_longestFrom 66 = .ok (.iinc 4 1, 3) := by decide +kernel
theorem dX5_longestFrom_69 : decode cX5_longestFrom 69 = .ok (.goto (-42), 3) := by decide +kernel
theorem dX5_longestFrom_72 : decode cX5_longestFrom 72 = .ok (.iinc 3 (-1), 3) := by decide +kernel
theorem dX5_longestFrom_75 : decode cX5_longestFrom 75 = .ok (.goto (-55), 3) := by decide +kernel
theorem dX5_longestFrom_78 : decode cX5_longestFrom 78 = .ok (.iconst 0, 1) := by decide +kernel
theorem dX5_longestFrom_79 : decode cX5_longestFrom 79 = .ok (.ireturn, 1) := by decide +kernel
theorem dX5_layNeeded_0 : decode cX5_layNeeded 0 = .ok (.aload_n 0, 1) := by decide +kernel
theorem dX5_layNeeded_1 : decode cX5_layNeeded 1 = .ok (.getfield 38, 3) := by decide +kernel
theorem dX5_layNeeded_4 : decode cX5_layNeeded 4 = .ok (.aload_n 0, 1) := by decide +kernel
theorem dX5_layNeeded_5 : decode cX5_layNeeded 5 = .ok (.getfield 17, 3) := by decide +kernel
theorem dX5_layNeeded_8 : decode cX5_layNeeded 8 = .ok (.iconst 3, 1) := by decide +kernel
theorem dX5_layNeeded_9 : decode cX5_layNeeded 9 = .ok (.iaload, 1) := by decide +kernel
theorem dX5_layNeeded_10 : decode cX5_layNeeded 10 = .ok (.iconst 0, 1) := by decide +kernel
theorem dX5_layNeeded_11 : decode cX5_layNeeded 11 = .ok (.iastore, 1) := by decide +kernel
theorem dX5_layNeeded_12 : decode cX5_layNeeded 12 = .ok (.aload_n 0, 1) := by decide +kernel
theorem dX5_layNeeded_13 : decode cX5_layNeeded 13 = .ok (.getfield 50, 3) := by decide +kernel
theorem dX5_layNeeded_16 : decode cX5_layNeeded 16 = .ok (.aload_n 0, 1) := by decide +kernel
theorem dX5_layNeeded_17 : decode cX5_layNeeded 17 = .ok (.getfield 17, 3) := by decide +kernel
theorem dX5_layNeeded_20 : decode cX5_layNeeded 20 = .ok (.iconst 3, 1) := by decide +kernel
theorem dX5_layNeeded_21 : decode cX5_layNeeded 21 = .ok (.iaload, 1) := by decide +kernel
theorem dX5_layNeeded_22 : decode cX5_layNeeded 22 = .ok (.lconst 0, 1) := by decide +kernel
theorem dX5_layNeeded_23 : decode cX5_layNeeded 23 = .ok (.lastore, 1) := by decide +kernel
theorem dX5_layNeeded_24 : decode cX5_layNeeded 24 = .ok (.aload_n 0, 1) := by decide +kernel
theorem dX5_layNeeded_25 : decode cX5_layNeeded 25 = .ok (.getfield 17, 3) := by decide +kernel
theorem dX5_layNeeded_28 : decode cX5_layNeeded 28 = .ok (.iconst 3, 1) := by decide +kernel
theorem dX5_layNeeded_29 : decode cX5_layNeeded 29 = .ok (.iaload, 1) := by decide +kernel
theorem dX5_layNeeded_30 : decode cX5_layNeeded 30 = .ok (.iconst 1, 1) := by decide +kernel
theorem dX5_layNeeded_31 : decode cX5_layNeeded 31 = .ok (.isub, 1) := by decide +kernel
theorem dX5_layNeeded_32 : decode cX5_layNeeded 32 = .ok (.istore_n 1, 1) := by decide +kernel
theorem dX5_layNeeded_33 : decode cX5_layNeeded 33 = .ok (.iload_n 1, 1) := by decide +kernel
theorem dX5_layNeeded_34 : decode cX5_layNeeded 34 = .ok (.ifCond .lt 121, 3) := by decide +kernel
theorem dX5_layNeeded_37 : decode cX5_layNeeded 37 = .ok (.aload_n 0, 1) := by decide +kernel
theorem dX5_layNeeded_38 : decode cX5_layNeeded 38 = .ok (.getfield 50, 3) := by decide +kernel
theorem dX5_layNeeded_41 : decode cX5_layNeeded 41 = .ok (.iload_n 1, 1) := by decide +kernel
theorem dX5_layNeeded_42 : decode cX5_layNeeded 42 = .ok (.aload_n 0, 1) := by decide +kernel
theorem dX5_layNeeded_43 : decode cX5_layNeeded 43 = .ok (.getfield 50, 3) := by decide +kernel
theorem dX5_layNeeded_46 : decode cX5_layNeeded 46 = .ok (.iload_n 1, 1) := by decide +kernel
theorem dX5_layNeeded_47 : decode cX5_layNeeded 47 = .ok (.iconst 1, 1) := by decide +kernel
theorem dX5_layNeeded_48 : decode cX5_layNeeded 48 = .ok (.iadd, 1) := by decide +kernel
theorem dX5_layNeeded_49 : decode cX5_layNeeded 49 = .ok (.laload, 1) := by decide +kernel
theorem dX5_layNeeded_50 : decode cX5_layNeeded 50 = .ok (.lastore, 1) := by decide +kernel
theorem dX5_layNeeded_51 : decode cX5_layNeeded 51 = .ok (.iconst 0, 1) := by decide +kernel
theorem dX5_layNeeded_52 : decode cX5_layNeeded 52 = .ok (.istore_n 2, 1) := by decide +kernel
theorem dX5_layNeeded_53 : decode cX5_layNeeded 53 = .ok (.iload_n 2, 1) := by decide +kernel
theorem dX5_layNeeded_54 : decode cX5_layNeeded 54 = .ok (.aload_n 0, 1) := by decide +kernel
theorem dX5_layNeeded_55 : decode cX5_layNeeded 55 = .ok (.invokevirtual 172, 3) := by decide +kernel
theorem dX5_layNeeded_58 : decode cX5_layNeeded 58 = .ok (.if_icmp .ge 39, 3) := by decide +kernel
theorem dX5_layNeeded_61 : decode cX5_layNeeded 61 = .ok (.aload_n 0, 1) := by decide +kernel
theorem dX5_layNeeded_62 : decode cX5_layNeeded 62 = .ok (.iload_n 2, 1) := by decide +kernel
theorem dX5_layNeeded_63 : decode cX5_layNeeded 63 = .ok (.aload_n 0, 1) := by decide +kernel
theorem dX5_layNeeded_64 : decode cX5_layNeeded 64 = .ok (.getfield 17, 3) := by decide +kernel
theorem dX5_layNeeded_67 : decode cX5_layNeeded 67 = .ok (.sipush 162, 3) := by decide +kernel
theorem dX5_layNeeded_70 : decode cX5_layNeeded 70 = .ok (.iload_n 1, 1) := by decide +kernel
theorem dX5_layNeeded_71 : decode cX5_layNeeded 71 = .ok (.iadd, 1) := by decide +kernel
theorem dX5_layNeeded_72 : decode cX5_layNeeded 72 = .ok (.iaload, 1) := by decide +kernel
theorem dX5_layNeeded_73 : decode cX5_layNeeded 73 = .ok (.invokevirtual 201, 3) := by decide +kernel
theorem dX5_layNeeded_76 : decode cX5_layNeeded 76 = .ok (.ifCond .eq 15, 3) := by decide +kernel
theorem dX5_layNeeded_79 : decode cX5_layNeeded 79 = .ok (.aload_n 0, 1) := by decide +kernel
theorem dX5_layNeeded_80 : decode cX5_layNeeded 80 = .ok (.getfield 50, 3) := by decide +kernel
theorem dX5_layNeeded_83 : decode cX5_layNeeded 83 = .ok (.iload_n 1, 1) := by decide +kernel
theorem dX5_layNeeded_84 : decode cX5_layNeeded 84 = .ok (.dup2, 1) := by decide +kernel
theorem dX5_layNeeded_85 : decode cX5_layNeeded 85 = .ok (.laload, 1) := by decide +kernel
theorem dX5_layNeeded_86 : decode cX5_layNeeded 86 = .ok (.lconst 1, 1) := by decide +kernel
theorem dX5_layNeeded_87 : decode cX5_layNeeded 87 = .ok (.iload_n 2, 1) := by decide +kernel
theorem dX5_layNeeded_88 : decode cX5_layNeeded 88 = .ok (.lshl, 1) := by decide +kernel
theorem dX5_layNeeded_89 : decode cX5_layNeeded 89 = .ok (.lor, 1) := by decide +kernel
theorem dX5_layNeeded_90 : decode cX5_layNeeded 90 = .ok (.lastore, 1) := by decide +kernel
theorem dX5_layNeeded_91 : decode cX5_layNeeded 91 = .ok (.iinc 2 1, 3) := by decide +kernel
theorem dX5_layNeeded_94 : decode cX5_layNeeded 94 = .ok (.goto (-41), 3) := by decide +kernel
theorem dX5_layNeeded_97 : decode cX5_layNeeded 97 = .ok (.aload_n 0, 1) := by decide +kernel
theorem dX5_layNeeded_98 : decode cX5_layNeeded 98 = .ok (.getfield 38, 3) := by decide +kernel
theorem dX5_layNeeded_101 : decode cX5_layNeeded 101 = .ok (.iload_n 1, 1) := by decide +kernel
theorem dX5_layNeeded_102 : decode cX5_layNeeded 102 = .ok (.bipush 99, 2) := by decide +kernel
theorem dX5_layNeeded_104 : decode cX5_layNeeded 104 = .ok (.iastore, 1) := by decide +kernel
theorem dX5_layNeeded_105 : decode cX5_layNeeded 105 = .ok (.aload_n 0, 1) := by decide +kernel
theorem dX5_layNeeded_106 : decode cX5_layNeeded 106 = .ok (.iload_n 1, 1) := by decide +kernel
theorem dX5_layNeeded_107 : decode cX5_layNeeded 107 = .ok (.invokevirtual 214, 3) := by decide +kernel
theorem dX5_layNeeded_110 : decode cX5_layNeeded 110 = .ok (.istore_n 2, 1) := by decide +kernel
theorem dX5_layNeeded_111 : decode cX5_layNeeded 111 = .ok (.iconst 1, 1) := by decide +kernel
theorem dX5_layNeeded_112 : decode cX5_layNeeded 112 = .ok (.istore_n 3, 1) := by decide +kernel
theorem dX5_layNeeded_113 : decode cX5_layNeeded 113 = .ok (.iload_n 3, 1) := by decide +kernel
theorem dX5_layNeeded_114 : decode cX5_layNeeded 114 = .ok (.iload_n 2, 1) := by decide +kernel
theorem dX5_layNeeded_115 : decode cX5_layNeeded 115 = .ok (.if_icmp .gt 34, 3) := by decide +kernel
theorem dX5_layNeeded_118 : decode cX5_layNeeded 118 = .ok (.aload_n 0, 1) := by decide +kernel
theorem dX5_layNeeded_119 : decode cX5_layNeeded 119 = .ok (.getfield 38, 3) := by decide +kernel
theorem dX5_layNeeded_122 : decode cX5_layNeeded 122 = .ok (.iload_n 1, 1) := by decide +kernel
theorem dX5_layNeeded_123 : decode cX5_layNeeded 123 = .ok (.aload_n 0, 1) := by decide +kernel
theorem dX5_layNeeded_124 : decode cX5_layNeeded 124 = .ok (.getfield 38, 3) := by decide +kernel
theorem dX5_layNeeded_127 : decode cX5_layNeeded 127 = .ok (.iload_n 1, 1) := by decide +kernel
theorem dX5_layNeeded_128 : decode cX5_layNeeded 128 = .ok (.iaload, 1) := by decide +kernel
theorem dX5_layNeeded_129 : decode cX5_layNeeded 129 = .ok (.iconst 1, 1) := by decide +kernel
theorem dX5_layNeeded_130 : decode cX5_layNeeded 130 = .ok (.aload_n 0, 1) := by decide +kernel
theorem dX5_layNeeded_131 : decode cX5_layNeeded 131 = .ok (.getfield 38, 3) := by decide +kernel
theorem dX5_layNeeded_134 : decode cX5_layNeeded 134 = .ok (.iload_n 1, 1) := by decide +kernel
theorem dX5_layNeeded_135 : decode cX5_layNeeded 135 = .ok (.iload_n 3, 1) := by decide +kernel
theorem dX5_layNeeded_136 : decode cX5_layNeeded 136 = .ok (.iadd, 1) := by decide +kernel
theorem dX5_layNeeded_137 : decode cX5_layNeeded 137 = .ok (.iaload, 1) := by decide +kernel
theorem dX5_layNeeded_138 : decode cX5_layNeeded 138 = .ok (.iadd, 1) := by decide +kernel
theorem dX5_layNeeded_139 : decode cX5_layNeeded 139 = .ok (.invokestatic 119, 3) := by decide +kernel
theorem dX5_layNeeded_142 : decode cX5_layNeeded 142 = .ok (.iastore, 1) := by decide +kernel
theorem dX5_layNeeded_143 : decode cX5_layNeeded 143 = .ok (.iinc 3 1, 3) := by decide +kernel
theorem dX5_layNeeded_146 : decode cX5_layNeeded 146 = .ok (.goto (-33), 3) := by decide +kernel
theorem dX5_layNeeded_149 : decode cX5_layNeeded 149 = .ok (.iinc 1 (-1), 3) := by decide +kernel
theorem dX5_layNeeded_152 : decode cX5_layNeeded 152 = .ok (.goto (-119), 3) := by decide +kernel
theorem dX5_layNeeded_155 : decode cX5_layNeeded 155 = .ok (.return_, 1) := by decide +kernel
theorem dX5_cellsOf_0 : decode cX5_cellsOf 0 = .ok (.lconst 0, 1) := by decide +kernel
theorem dX5_cellsOf_1 : decode cX5_cellsOf 1 = .ok (.lstore 4, 2) := by decide +kernel
theorem dX5_cellsOf_3 : decode cX5_cellsOf 3 = .ok (.iconst 0, 1) := by decide +kernel
theorem dX5_cellsOf_4 : decode cX5_cellsOf 4 = .ok (.istore 6, 2) := by decide +kernel
theorem dX5_cellsOf_6 : decode cX5_cellsOf 6 = .ok (.iload 6, 2) := by decide +kernel
theorem dX5_cellsOf_8 : decode cX5_cellsOf 8 = .ok (.iload_n 3, 1) := by decide +kernel
theorem dX5_cellsOf_9 : decode cX5_cellsOf 9 = .ok (.if_icmp .ge 25, 3) := by decide +kernel
theorem dX5_cellsOf_12 : decode cX5_cellsOf 12 = .ok (.lload 4, 2) := by decide +kernel
theorem dX5_cellsOf_14 : decode cX5_cellsOf 14 = .ok (.lconst 1, 1) := by decide +kernel
theorem dX5_cellsOf_15 : decode cX5_cellsOf 15 = .ok (.aload_n 0, 1) := by decide +kernel
theorem dX5_cellsOf_16 : decode cX5_cellsOf 16 = .ok (.iload_n 1, 1) := by decide +kernel
theorem dX5_cellsOf_17 : decode cX5_cellsOf 17 = .ok (.iload_n 2, 1) := by decide +kernel
theorem dX5_cellsOf_18 : decode cX5_cellsOf 18 = .ok (.iload 6, 2) := by decide +kernel
theorem dX5_cellsOf_20 : decode cX5_cellsOf 20 = .ok (.iadd, 1) := by decide +kernel
theorem dX5_cellsOf_21 : decode cX5_cellsOf 21 = .ok (.invokevirtual 178, 3) := by decide +kernel
theorem dX5_cellsOf_24 : decode cX5_cellsOf 24 = .ok (.lshl, 1) := by decide +kernel
theorem dX5_cellsOf_25 : decode cX5_cellsOf 25 = .ok (.lor, 1) := by decide +kernel
theorem dX5_cellsOf_26 : decode cX5_cellsOf 26 = .ok (.lstore 4, 2) := by decide +kernel
theorem dX5_cellsOf_28 : decode cX5_cellsOf 28 = .ok (.iinc 6 1, 3) := by decide +kernel
theorem dX5_cellsOf_31 : decode cX5_cellsOf 31 = .ok (.goto (-25), 3) := by decide +kernel
theorem dX5_cellsOf_34 : decode cX5_cellsOf 34 = .ok (.lload 4, 2) := by decide +kernel
theorem dX5_cellsOf_36 : decode cX5_cellsOf 36 = .ok (.lreturn, 1) := by decide +kernel
theorem dX5_keyOf_0 : decode cX5_keyOf 0 = .ok (.aload_n 0, 1) := by decide +kernel
theorem dX5_keyOf_1 : decode cX5_keyOf 1 = .ok (.getfield 197, 3) := by decide +kernel
theorem dX5_keyOf_4 : decode cX5_keyOf 4 = .ok (.aload_n 0, 1) := by decide +kernel
theorem dX5_keyOf_5 : decode cX5_keyOf 5 = .ok (.getfield 50, 3) := by decide +kernel
theorem dX5_keyOf_8 : decode cX5_keyOf 8 = .ok (.iload_n 1, 1) := by decide +kernel
theorem dX5_keyOf_9 : decode cX5_keyOf 9 = .ok (.laload, 1) := by decide +kernel
theorem dX5_keyOf_10 : decode cX5_keyOf 10 = .ok (.land, 1) := by decide +kernel
theorem dX5_keyOf_11 : decode cX5_keyOf 11 = .ok (.ldc2_w 217, 3) := by decide +kernel
theorem dX5_keyOf_14 : decode cX5_keyOf 14 = .ok (.iload_n 1, 1) := by decide +kernel
theorem dX5_keyOf_15 : decode cX5_keyOf 15 = .ok (.i2l, 1) := by decide +kernel
theorem dX5_keyOf_16 : decode cX5_keyOf 16 = .ok (.lmul, 1) := by decide +kernel
theorem dX5_keyOf_17 : decode cX5_keyOf 17 = .ok (.iload_n 2, 1) := by decide +kernel
theorem dX5_keyOf_18 : decode cX5_keyOf 18 = .ok (.i2l, 1) := by decide +kernel
theorem dX5_keyOf_19 : decode cX5_keyOf 19 = .ok (.ladd, 1) := by decide +kernel
theorem dX5_keyOf_20 : decode cX5_keyOf 20 = .ok (.lconst 1, 1) := by decide +kernel
theorem dX5_keyOf_21 : decode cX5_keyOf 21 = .ok (.ladd, 1) := by decide +kernel
theorem dX5_keyOf_22 : decode cX5_keyOf 22 = .ok (.bipush 48, 2) := by decide +kernel
theorem dX5_keyOf_24 : decode cX5_keyOf 24 = .ok (.lshl, 1) := by decide +kernel
theorem dX5_keyOf_25 : decode cX5_keyOf 25 = .ok (.lor, 1) := by decide +kernel
theorem dX5_keyOf_26 : decode cX5_keyOf 26 = .ok (.lreturn, 1) := by decide +kernel
theorem dX5_vainAt_0 : decode cX5_vainAt 0 = .ok (.lload_n 1, 1) := by decide +kernel
theorem dX5_vainAt_1 : decode cX5_vainAt 1 = .ok (.lload_n 1, 1) := by decide +kernel
theorem dX5_vainAt_2 : decode cX5_vainAt 2 = .ok (.bipush 21, 2) := by decide +kernel
theorem dX5_vainAt_4 : decode cX5_vainAt 4 = .ok (.lshr, 1) := by decide +kernel
theorem dX5_vainAt_5 : decode cX5_vainAt 5 = .ok (.lxor, 1) := by decide +kernel
theorem dX5_vainAt_6 : decode cX5_vainAt 6 = .ok (.lload_n 1, 1) := by decide +kernel
theorem dX5_vainAt_7 : decode cX5_vainAt 7 = .ok (.bipush 42, 2) := by decide +kernel
theorem dX5_vainAt_9 : decode cX5_vainAt 9 = .ok (.lshr, 1) := by decide +kernel
theorem dX5_vainAt_10 : decode cX5_vainAt 10 = .ok (.lxor, 1) := by decide +kernel
theorem dX5_vainAt_11 : decode cX5_vainAt 11 = .ok (.ldc2_w 219, 3) := by decide +kernel
theorem dX5_vainAt_14 : decode cX5_vainAt 14 = .ok (.land, 1) := by decide +kernel
theorem dX5_vainAt_15 : decode cX5_vainAt 15 = .ok (.l2i, 1) := by decide +kernel
theorem dX5_vainAt_16 : decode cX5_vainAt 16 = .ok (.istore_n 3, 1) := by decide +kernel
theorem dX5_vainAt_17 : decode cX5_vainAt 17 = .ok (.aload_n 0, 1) := by decide +kernel
theorem dX5_vainAt_18 : decode cX5_vainAt 18 = .ok (.getfield 54, 3) := by decide +kernel
theorem dX5_vainAt_21 : decode cX5_vainAt 21 = .ok (.iload_n 3, 1) := by decide +kernel
theorem dX5_vainAt_22 : decode cX5_vainAt 22 = .ok (.laload, 1) := by decide +kernel
theorem dX5_vainAt_23 : decode cX5_vainAt 23 = .ok (.lconst 0, 1) := by decide +kernel
theorem dX5_vainAt_24 : decode cX5_vainAt 24 = .ok (.lcmp, 1) := by decide +kernel
theorem dX5_vainAt_25 : decode cX5_vainAt 25 = .ok (.ifCond .eq 25, 3) := by decide +kernel
theorem dX5_vainAt_28 : decode cX5_vainAt 28 = .ok (.aload_n 0, 1) := by decide +kernel
theorem dX5_vainAt_29 : decode cX5_vainAt 29 = .ok (.getfield 54, 3) := by decide +kernel
theorem dX5_vainAt_32 : decode cX5_vainAt 32 = .ok (.iload_n 3, 1) := by decide +kernel
theorem dX5_vainAt_33 : decode cX5_vainAt 33 = .ok (.laload, 1) := by decide +kernel
theorem dX5_vainAt_34 : decode cX5_vainAt 34 = .ok (.lload_n 1, 1) := by decide +kernel
theorem dX5_vainAt_35 : decode cX5_vainAt 35 = .ok (.lcmp, 1) := by decide +kernel
theorem dX5_vainAt_36 : decode cX5_vainAt 36 = .ok (.ifCond .eq 14, 3) := by decide +kernel
theorem dX5_vainAt_39 : decode cX5_vainAt 39 = .ok (.iload_n 3, 1) := by decide +kernel
theorem dX5_vainAt_40 : decode cX5_vainAt 40 = .ok (.iconst 1, 1) := by decide +kernel
theorem dX5_vainAt_41 : decode cX5_vainAt 41 = .ok (.iadd, 1) := by decide +kernel
theorem dX5_vainAt_42 : decode cX5_vainAt 42 = .ok (.sipush 4096, 3) := by decide +kernel
theorem dX5_vainAt_45 : decode cX5_vainAt 45 = .ok (.irem, 1) := by decide +kernel
theorem dX5_vainAt_46 : decode cX5_vainAt 46 = .ok (.istore_n 3, 1) := by decide +kernel
theorem dX5_vainAt_47 : decode cX5_vainAt 47 = .ok (.goto (-30), 3) := by decide +kernel
theorem dX5_vainAt_50 : decode cX5_vainAt 50 = .ok (.iload_n 3, 1) := by decide +kernel
theorem dX5_vainAt_51 : decode cX5_vainAt 51 = .ok (.ireturn, 1) := by decide +kernel
theorem dX5_plans_0 : decode cX5_plans 0 = .ok (.iload_n 1, 1) := by decide +kernel
theorem dX5_plans_1 : decode cX5_plans 1 = .ok (.aload_n 0, 1) := by decide +kernel
theorem dX5_plans_2 : decode cX5_plans 2 = .ok (.getfield 17, 3) := by decide +kernel
theorem dX5_plans_5 : decode cX5_plans 5 = .ok (.iconst 3, 1) := by decide +kernel
theorem dX5_plans_6 : decode cX5_plans 6 = .ok (.iaload, 1) := by decide +kernel
theorem dX5_plans_7 : decode cX5_plans 7 = .ok (.if_icmp .ne 14, 3) := by decide +kernel
theorem dX5_plans_10 : decode cX5_plans 10 = .ok (.iload_n 2, 1) := by decide +kernel
theorem dX5_plans_11 : decode cX5_plans 11 = .ok (.iload_n 3, 1) := by decide +kernel
theorem dX5_plans_12 : decode cX5_plans 12 = .ok (.if_icmp .ne 7, 3) := by decide +kernel
theorem dX5_plans_15 : decode cX5_plans 15 = .ok (.iconst 1, 1) := by decide +kernel
theorem dX5_plans_16 : decode cX5_plans 16 = .ok (.goto 4, 3) := by decide +kernel
theorem dX5_plans_19 : decode cX5_plans 19 = .ok (.iconst 0, 1) := by decide +kernel
theorem dX5_plans_20 : decode cX5_plans 20 = .ok (.ireturn, 1) := by decide +kernel
theorem dX5_plans_21 : decode cX5_plans 21 = .ok (.aload_n 0, 1) := by decide +kernel
theorem dX5_plans_22 : decode cX5_plans 22 = .ok (.getfield 38, 3) := by decide +kernel
theorem dX5_plans_25 : decode cX5_plans 25 = .ok (.iload_n 1, 1) := by decide +kernel
theorem dX5_plans_26 : decode cX5_plans 26 = .ok (.iaload, 1) := by decide +kernel
theorem dX5_plans_27 : decode cX5_plans 27 = .ok (.iload_n 3, 1) := by decide +kernel
theorem dX5_plans_28 : decode cX5_plans 28 = .ok (.iload_n 2, 1) := by decide +kernel
theorem dX5_plans_29 : decode cX5_plans 29 = .ok (.isub, 1) := by decide +kernel
theorem dX5_plans_30 : decode cX5_plans 30 = .ok (.if_icmp .gt 31, 3) := by decide +kernel
theorem dX5_plans_33 : decode cX5_plans 33 = .ok (.aload_n 0, 1) := by decide +kernel
theorem dX5_plans_34 : decode cX5_plans 34 = .ok (.iload_n 1, 1) := by decide +kernel
theorem dX5_plans_35 : decode cX5_plans 35 = .ok (.invokevirtual 207, 3) := by decide +kernel
theorem dX5_plans_38 : decode cX5_plans 38 = .ok (.ifCond .gt 23, 3) := by decide +kernel
theorem dX5_plans_41 : decode cX5_plans 41 = .ok (.aload_n 0, 1) := by decide +kernel
theorem dX5_plans_42 : decode cX5_plans 42 = .ok (.getfield 54, 3) := by decide +kernel
theorem dX5_plans_45 : decode cX5_plans 45 = .ok (.aload_n 0, 1) := by decide +kernel
theorem dX5_plans_46 : decode cX5_plans 46 = .ok (.aload_n 0, 1) := by decide +kernel
theorem dX5_plans_47 : decode cX5_plans 47 = .ok (.iload_n 1, 1) := by decide +kernel
theorem dX5_plans_48 : decode cX5_plans 48 = .ok (.iload_n 2, 1) := by decide +kernel
theorem dX5_plans_49 : decode cX5_plans 49 = .ok (.invokevirtual 221, 3) := by decide +kernel
theorem dX5_plans_52 : decode cX5_plans 52 = .ok (.invokevirtual 225, 3) := by decide +kernel
theorem dX5_plans_55 : decode cX5_plans 55 = .ok (.laload, 1) := by decide +kernel
theorem dX5_plans_56 : decode cX5_plans 56 = .ok (.lconst 0, 1) := by decide +kernel
theorem dX5_plans_57 : decode cX5_plans 57 = .ok (.lcmp, 1) := by decide +kernel
theorem dX5_plans_58 : decode cX5_plans 58 = .ok (.ifCond .eq 5, 3) := by decide +kernel
theorem dX5_plans_61 : decode cX5_plans 61 = .ok (.iconst 0, 1) := by decide +kernel
theorem dX5_plans_62 : decode cX5_plans 62 = .ok (.ireturn, 1) := by decide +kernel
theorem dX5_plans_63 : decode cX5_plans 63 = .ok (.aload_n 0, 1) := by decide +kernel
theorem dX5_plans_64 : decode cX5_plans 64 = .ok (.getfield 17, 3) := by decide +kernel
theorem dX5_plans_67 : decode cX5_plans 67 = .ok (.iconst 0, 1) := by decide +kernel
theorem dX5_plans_68 : decode cX5_plans 68 = .ok (.iaload, 1) := by decide +kernel
theorem dX5_plans_69 : decode cX5_plans 69 = .ok (.aload_n 0, 1) := by decide +kernel
theorem dX5_plans_70 : decode cX5_plans 70 = .ok (.getfield 17, 3) := by decide +kernel
theorem dX5_plans_73 : decode cX5_plans 73 = .ok (.iconst 3, 1) := by decide +kernel
theorem dX5_plans_74 : decode cX5_plans 74 = .ok (.iaload, 1) := by decide +kernel
theorem dX5_plans_75 : decode cX5_plans 75 = .ok (.iload_n 1, 1) := by decide +kernel
theorem dX5_plans_76 : decode cX5_plans 76 = .ok (.isub, 1) := by decide +kernel
theorem dX5_plans_77 : decode cX5_plans 77 = .ok (.invokestatic 119, 3) := by decide +kernel
theorem dX5_plans_80 : decode cX5_plans 80 = .ok (.istore 4, 2) := by decide +kernel
theorem dX5_plans_82 : decode cX5_plans 82 = .ok (.iload 4, 2) := by decide +kernel
theorem dX5_plans_84 : decode cX5_plans 84 = .ok (.ifCond .le 182, 3) := by decide +kernel
theorem dX5_plans_87 : decode cX5_plans 87 = .ok (.aload_n 0, 1) := by decide +kernel
theorem dX5_plans_88 : decode cX5_plans 88 = .ok (.getfield 38, 3) := by decide +kernel
theorem dX5_plans_91 : decode cX5_plans 91 = .ok (.iload_n 1, 1) := by decide +kernel
theorem dX5_plans_92 : decode cX5_plans 92 = .ok (.iload 4, 2) := by decide +kernel
theorem dX5_plans_94 : decode cX5_plans 94 = .ok (.iadd, 1) := by decide +kernel
theorem dX5_plans_95 : decode cX5_plans 95 = .ok (.iaload, 1) := by decide +kernel
theorem dX5_plans_96 : decode cX5_plans 96 = .ok (.iload_n 3, 1) := by decide +kernel
theorem dX5_plans_97 : decode cX5_plans 97 = .ok (.iload_n 2, 1) := by decide +kernel
theorem dX5_plans_98 : decode cX5_plans 98 = .ok (.isub, 1) := by decide +kernel
theorem dX5_plans_99 : decode cX5_plans 99 = .ok (.iconst 1, 1) := by decide +kernel
theorem dX5_plans_100 : decode cX5_plans 100 = .ok (.isub, 1) := by decide +kernel
theorem dX5_plans_101 : decode cX5_plans 101 = .ok (.if_icmp .le 6, 3) := by decide +kernel
theorem dX5_plans_104 : decode cX5_plans 104 = .ok (.goto 156, 3) := by decide +kernel
theorem dX5_plans_107 : decode cX5_plans 107 = .ok (.iconst 0, 1) := by decide +kernel
theorem dX5_plans_108 : decode cX5_plans 108 = .ok (.istore 5, 2) := by decide +kernel
theorem dX5_plans_110 : decode cX5_plans 110 = .ok (.iload 5, 2) := by decide +kernel
theorem dX5_plans_112 : decode cX5_plans 112 = .ok (.iconst 2, 1) := by decide +kernel
theorem dX5_plans_113 : decode cX5_plans 113 = .ok (.aload_n 0, 1) := by decide +kernel
theorem dX5_plans_114 : decode cX5_plans 114 = .ok (.invokevirtual 172, 3) := by decide +kernel
theorem dX5_plans_117 : decode cX5_plans 117 = .ok (.imul, 1) := by decide +kernel
theorem dX5_plans_118 : decode cX5_plans 118 = .ok (.if_icmp .ge 142, 3) := by decide +kernel
theorem dX5_plans_121 : decode cX5_plans 121 = .ok (.iload 5, 2) := by decide +kernel
theorem dX5_plans_123 : decode cX5_plans 123 = .ok (.aload_n 0, 1) := by decide +kernel
theorem dX5_plans_124 : decode cX5_plans 124 = .ok (.invokevirtual 172, 3) := by decide +kernel
theorem dX5_plans_127 : decode cX5_plans 127 = .ok (.idiv, 1) := by decide +kernel
theorem dX5_plans_128 : decode cX5_plans 128 = .ok (.istore 6, 2) := by decide +kernel
theorem dX5_plans_130 : decode cX5_plans 130 = .ok (.iload 5, 2) := by decide +kernel
theorem dX5_plans_132 : decode cX5_plans 132 = .ok (.aload_n 0, 1) := by decide +kernel
theorem dX5_plans_133 : decode cX5_plans 133 = .ok (.invokevirtual 172, 3) := by decide +kernel
theorem dX5_plans_136 : decode cX5_plans 136 = .ok (.irem, 1) := by decide +kernel
theorem dX5_plans_137 : decode cX5_plans 137 = .ok (.istore 7, 2) := by decide +kernel
theorem dX5_plans_139 : decode cX5_plans 139 = .ok (.aload_n 0, 1) := by decide +kernel
theorem dX5_plans_140 : decode cX5_plans 140 = .ok (.iload 6, 2) := by decide +kernel
theorem dX5_plans_142 : decode cX5_plans 142 = .ok (.iload 7, 2) := by decide +kernel
theorem dX5_plans_144 : decode cX5_plans 144 = .ok (.iload 4, 2) := by decide +kernel
theorem dX5_plans_146 : decode cX5_plans 146 = .ok (.iload_n 1, 1) := by decide +kernel
theorem dX5_plans_147 : decode cX5_plans 147 = .ok (.invokevirtual 210, 3) := by decide +kernel
theorem dX5_plans_150 : decode cX5_plans 150 = .ok (.ifCond .ne 6, 3) := by decide +kernel
theorem dX5_plans_153 : decode cX5_plans 153 = .ok (.goto 101, 3) := by decide +kernel
theorem dX5_plans_156 : decode cX5_plans 156 = .ok (.aload_n 0, 1) := by decide +kernel
theorem dX5_plans_157 : decode cX5_plans 157 = .ok (.iload 6, 2) := by decide +kernel
theorem dX5_plans_159 : decode cX5_plans 159 = .ok (.iload 7, 2) := by decide +kernel
theorem dX5_plans_161 : decode cX5_plans 161 = .ok (.iload 4, 2) := by decide +kernel
theorem dX5_plans_163 : decode cX5_plans 163 = .ok (.invokevirtual 229, 3) := by decide +kernel
theorem dX5_plans_166 : decode cX5_plans 166 = .ok (.lstore 8, 2) := by decide +kernel
theorem dX5_plans_168 : decode cX5_plans 168 = .ok (.aload_n 0, 1) := by decide +kernel
theorem dX5_plans_169 : decode cX5_plans 169 = .ok (.getfield 197, 3) := by decide +kernel
theorem dX5_plans_172 : decode cX5_plans 172 = .ok (.lload 8, 2) := by decide +kernel
theorem dX5_plans_174 : decode cX5_plans 174 = .ok (.land, 1) := by decide +kernel
theorem dX5_plans_175 : decode cX5_plans 175 = .ok (.lconst 0, 1) := by decide +kernel
theorem dX5_plans_176 : decode cX5_plans 176 = .ok (.lcmp, 1) := by decide +kernel
theorem dX5_plans_177 : decode cX5_plans 177 = .ok (.ifCond .eq 6, 3) := by decide +kernel
theorem dX5_plans_180 : decode cX5_plans 180 = .ok (.goto 74, 3) := by decide +kernel
theorem dX5_plans_183 : decode cX5_plans 183 = .ok (.aload_n 0, 1) := by decide +kernel
theorem dX5_plans_184 : decode cX5_plans 184 = .ok (.dup, 1) := by decide +kernel
theorem dX5_plans_185 : decode cX5_plans 185 = .ok (.getfield 197, 3) := by decide +kernel
theorem dX5_plans_188 : decode cX5_plans 188 = .ok (.lload 8, 2) := by decide +kernel
theorem dX5_plans_190 : decode cX5_plans 190 = .ok (.lor, 1) := by decide +kernel
theorem dX5_plans_191 : decode cX5_plans 191 = .ok (.putfield 197, 3) := by decide +kernel
theorem dX5_plans_194 : decode cX5_plans 194 = .ok (.aload_n 0, 1) := by decide +kernel
theorem dX5_plans_195 : decode cX5_plans 195 = .ok (.getfield 41, 3) := by decide +kernel
theorem dX5_plans_198 : decode cX5_plans 198 = .ok (.iload_n 2, 1) := by decide +kernel
theorem dX5_plans_199 : decode cX5_plans 199 = .ok (.iload 4, 2) := by decide +kernel
theorem dX5_plans_201 : decode cX5_plans 201 = .ok (.iastore, 1) := by decide +kernel
theorem dX5_plans_202 : decode cX5_plans 202 = .ok (.aload_n 0, 1) := by decide +kernel
theorem dX5_plans_203 : decode cX5_plans 203 = .ok (.getfield 44, 3) := by decide +kernel
theorem dX5_plans_206 : decode cX5_plans 206 = .ok (.iload_n 2, 1) := by decide +kernel
theorem dX5_plans_207 : decode cX5_plans 207 = .ok (.iload 6, 2) := by decide +kernel
theorem dX5_plans_209 : decode cX5_plans 209 = .ok (.iastore, 1) := by decide +kernel
theorem dX5_plans_210 : decode cX5_plans 210 = .ok (.aload_n 0, 1) := by decide +kernel
theorem dX5_plans_211 : decode cX5_plans 211 = .ok (.getfield 47, 3) := by decide +kernel
theorem dX5_plans_214 : decode cX5_plans 214 = .ok (.iload_n 2, 1) := by decide +kernel
theorem dX5_plans_215 : decode cX5_plans 215 = .ok (.iload 7, 2) := by decide +kernel
theorem dX5_plans_217 : decode cX5_plans 217 = .ok (.iastore, 1) := by decide +kernel
theorem dX5_plans_218 : decode cX5_plans 218 = .ok (.aload_n 0, 1) := by decide +kernel
theorem dX5_plans_219 : decode cX5_plans 219 = .ok (.iload_n 1, 1) := by decide +kernel
theorem dX5_plans_220 : decode cX5_plans 220 = .ok (.iload 4, 2) := by decide +kernel
theorem dX5_plans_222 : decode cX5_plans 222 = .ok (.iadd, 1) := by decide +kernel
theorem dX5_plans_223 : decode cX5_plans 223 = .ok (.iload_n 2, 1) := by decide +kernel
theorem dX5_plans_224 : decode cX5_plans 224 = .ok (.iconst 1, 1) := by decide +kernel
theorem dX5_plans_225 : decode cX5_plans 225 = .ok (.iadd, 1) := by decide +kernel
theorem dX5_plans_226 : decode cX5_plans 226 = .ok (.iload_n 3, 1) := by decide +kernel
theorem dX5_plans_227 : decode cX5_plans 227 = .ok (.invokevirtual 233, 3) := by decide +kernel
theorem dX5_plans_230 : decode cX5_plans 230 = .ok (.istore 10, 2) := by decide +kernel
theorem dX5_plans_232 : decode cX5_plans 232 = .ok (.aload_n 0, 1) := by decide +kernel
theorem dX5_plans_233 : decode cX5_plans 233 = .ok (.dup, 1) := by decide +kernel
theorem dX5_plans_234 : decode cX5_plans 234 = .ok (.getfield 197, 3) := by decide +kernel
theorem dX5_plans_237 : decode cX5_plans 237 = .ok (.lload 8, 2) := by decide +kernel
theorem dX5_plans_239 : decode cX5_plans 239 = .ok (.ldc2_w 236, 3) := by decide +kernel
theorem dX5_plans_242 : decode cX5_plans 242 = .ok (.lxor, 1) := by decide +kernel
theorem dX5_plans_243 : decode cX5_plans 243 = .ok (.land, 1) := by decide +kernel
theorem dX5_plans_244 : decode cX5_plans 244 = .ok (.putfield 197, 3) := by decide +kernel
theorem dX5_plans_247 : decode cX5_plans 247 = .ok (.iload 10, 2) := by decide +kernel
theorem dX5_plans_249 : decode cX5_plans 249 = .ok (.ifCond .eq 5, 3) := by decide +kernel
theorem dX5_plans_252 : decode cX5_plans 252 = .ok (.iconst 1, 1) := by decide +kernel
theorem dX5_plans_253 : decode cX5_plans 253 = .ok (.ireturn, 1) := by decide +kernel
theorem dX5_plans_254 : decode cX5_plans 254 = .ok (.iinc 5 1, 3) := by decide +kernel
theorem dX5_plans_257 : decode cX5_plans 257 = .ok (.goto (-147), 3) := by decide +kernel
theorem dX5_plans_260 : decode cX5_plans 260 = .ok (.iinc 4 (-1), 3) := by decide +kernel
theorem dX5_plans_263 : decode cX5_plans 263 = .ok (.goto (-181), 3) := by decide +kernel
theorem dX5_plans_266 : decode cX5_plans 266 = .ok (.aload_n 0, 1) := by decide +kernel
theorem dX5_plans_267 : decode cX5_plans 267 = .ok (.getfield 238, 3) := by decide +kernel
theorem dX5_plans_270 : decode cX5_plans 270 = .ok (.sipush 2048, 3) := by decide +kernel
theorem dX5_plans_273 : decode cX5_plans 273 = .ok (.if_icmp .ge 34, 3) := by decide +kernel
theorem dX5_plans_276 : decode cX5_plans 276 = .ok (.aload_n 0, 1) := by decide +kernel
theorem dX5_plans_277 : decode cX5_plans 277 = .ok (.iload_n 1, 1) := by decide +kernel
theorem dX5_plans_278 : decode cX5_plans 278 = .ok (.iload_n 2, 1) := by decide +kernel
theorem dX5_plans_279 : decode cX5_plans 279 = .ok (.invokevirtual 221, 3) := by decide +kernel
theorem dX5_plans_282 : decode cX5_plans 282 = .ok (.lstore 4, 2) := by decide +kernel
theorem dX5_plans_284 : decode cX5_plans 284 = .ok (.aload_n 0, 1) := by decide +kernel
theorem dX5_plans_285 : decode cX5_plans 285 = .ok (.getfield 54, 3) := by decide +kernel
theorem dX5_plans_288 : decode cX5_plans 288 = .ok (.aload_n 0, 1) := by decide +kernel
theorem dX5_plans_289 : decode cX5_plans 289 = .ok (.lload 4, 2) := by decide +kernel
theorem dX5_plans_291 : decode cX5_plans 291 = .ok (.invokevirtual 225, 3) := by decide +kernel
theorem dX5_plans_294 : decode cX5_plans 294 = .ok (.lload 4, 2) := by decide +kernel
theorem dX5_plans_296 : decode cX5_plans 296 = .ok (.lastore, 1) := by decide +kernel
theorem dX5_plans_297 : decode cX5_plans 297 = .ok (.aload_n 0, 1) := by decide +kernel
theorem dX5_plans_298 : decode cX5_plans 298 = .ok (.dup, 1) := by decide +kernel
theorem dX5_plans_299 : decode cX5_plans 299 = .ok (.getfield 238, 3) := by decide +kernel
theorem dX5_plans_302 : decode cX5_plans 302 = .ok (.iconst 1, 1) := by decide +kernel
theorem dX5_plans_303 : decode cX5_plans 303 = .ok (.iadd, 1) := by decide +kernel
theorem dX5_plans_304 : decode cX5_plans 304 = .ok (.putfield 238, 3) := by decide +kernel
theorem dX5_plans_307 : decode cX5_plans 307 = .ok (.iconst 0, 1) := by decide +kernel
theorem dX5_plans_308 : decode cX5_plans 308 = .ok (.ireturn, 1) := by decide +kernel
theorem dX5_plansBy_0 : decode cX5_plansBy 0 = .ok (.aload_n 0, 1) := by decide +kernel
theorem dX5_plansBy_1 : decode cX5_plansBy 1 = .ok (.lconst 0, 1) := by decide +kernel
theorem dX5_plansBy_2 : decode cX5_plansBy 2 = .ok (.putfield 197, 3) := by decide +kernel
theorem dX5_plansBy_5 : decode cX5_plansBy 5 = .ok (.aload_n 0, 1) := by decide +kernel
theorem dX5_plansBy_6 : decode cX5_plansBy 6 = .ok (.iconst 0, 1) := by decide +kernel
theorem dX5_plansBy_7 : decode cX5_plansBy 7 = .ok (.putfield 238, 3) := by decide +kernel
theorem dX5_plansBy_10 : decode cX5_plansBy 10 = .ok (.iconst 0, 1) := by decide +kernel
theorem dX5_plansBy_11 : decode cX5_plansBy 11 = .ok (.istore_n 2, 1) := by decide +kernel
theorem dX5_plansBy_12 : decode cX5_plansBy 12 = .ok (.iload_n 2, 1) := by decide +kernel
theorem dX5_plansBy_13 : decode cX5_plansBy 13 = .ok (.sipush 4096, 3) := by decide +kernel
theorem dX5_plansBy_16 : decode cX5_plansBy 16 = .ok (.if_icmp .ge 16, 3) := by decide +kernel
theorem dX5_plansBy_19 : decode cX5_plansBy 19 = .ok (.aload_n 0, 1) := by decide +kernel
theorem dX5_plansBy_20 : decode cX5_plansBy 20 = .ok (.getfield 54, 3) := by decide +kernel
theorem dX5_plansBy_23 : decode cX5_plansBy 23 = .ok (.iload_n 2, 1) := by decide +kernel
theorem dX5_plansBy_24 : decode cX5_plansBy 24 = .ok (.lconst 0, 1) := by decide +kernel
theorem dX5_plansBy_25 : decode cX5_plansBy 25 = .ok (.lastore, 1) := by decide +kernel
theorem dX5_plansBy_26 : decode cX5_plansBy 26 = .ok (.iinc 2 1, 3) := by decide +kernel
theorem dX5_plansBy_29 : decode cX5_plansBy 29 = .ok (.goto (-17), 3) := by decide +kernel
theorem dX5_plansBy_32 : decode cX5_plansBy 32 = .ok (.aload_n 0, 1) := by decide +kernel
theorem dX5_plansBy_33 : decode cX5_plansBy 33 = .ok (.iconst 0, 1) := by decide +kernel
theorem dX5_plansBy_34 : decode cX5_plansBy 34 = .ok (.iconst 0, 1) := by decide +kernel
theorem dX5_plansBy_35 : decode cX5_plansBy 35 = .ok (.iload_n 1, 1) := by decide +kernel
theorem dX5_plansBy_36 : decode cX5_plansBy 36 = .ok (.invokevirtual 233, 3) := by decide +kernel
theorem dX5_plansBy_39 : decode cX5_plansBy 39 = .ok (.ireturn, 1) := by decide +kernel
theorem dX5_layPlan_0 : decode cX5_layPlan 0 = .ok (.aload_n 0, 1) := by decide +kernel
theorem dX5_layPlan_1 : decode cX5_layPlan 1 = .ok (.aload_n 0, 1) := by decide +kernel
theorem dX5_layPlan_2 : decode cX5_layPlan 2 = .ok (.getfield 17, 3) := by decide +kernel
theorem dX5_layPlan_5 : decode cX5_layPlan 5 = .ok (.iconst 3, 1) := by decide +kernel
theorem dX5_layPlan_6 : decode cX5_layPlan 6 = .ok (.iaload, 1) := by decide +kernel
theorem dX5_layPlan_7 : decode cX5_layPlan 7 = .ok (.bipush 8, 2) := by decide +kernel
theorem dX5_layPlan_9 : decode cX5_layPlan 9 = .ok (.if_icmp .le 8, 3) := by decide +kernel
theorem dX5_layPlan_12 : decode cX5_layPlan 12 = .ok (.bipush (-2), 2) := by decide +kernel
theorem dX5_layPlan_14 : decode cX5_layPlan 14 = .ok (.goto 15, 3) := by decide +kernel
theorem dX5_layPlan_17 : decode cX5_layPlan 17 = .ok (.aload_n 0, 1) := by decide +kernel
theorem dX5_layPlan_18 : decode cX5_layPlan 18 = .ok (.invokevirtual 241, 3) := by decide +kernel
theorem dX5_layPlan_21 : decode cX5_layPlan 21 = .ok (.ifCond .le 7, 3) := by decide +kernel
theorem dX5_layPlan_24 : decode cX5_layPlan 24 = .ok (.iconst (-1), 1) := by decide +kernel
theorem dX5_layPlan_25 : decode cX5_layPlan 25 = .ok (.goto 4, 3) := by decide +kernel
theorem dX5_layPlan_28 : decode cX5_layPlan 28 = .ok (.iconst 0, 1) := by decide +kernel
theorem dX5_layPlan_29 : decode cX5_layPlan 29 = .ok (.putfield 244, 3) := by decide +kernel
theorem dX5_layPlan_32 : decode cX5_layPlan 32 = .ok (.aload_n 0, 1) := by decide +kernel
theorem dX5_layPlan_33 : decode cX5_layPlan 33 = .ok (.getfield 244, 3) := by decide +kernel
theorem dX5_layPlan_36 : decode cX5_layPlan 36 = .ok (.ifCond .lt 12, 3) := by decide +kernel
theorem dX5_layPlan_39 : decode cX5_layPlan 39 = .ok (.aload_n 0, 1) := by decide +kernel
theorem dX5_layPlan_40 : decode cX5_layPlan 40 = .ok (.getfield 17, 3) := by decide +kernel
theorem dX5_layPlan_43 : decode cX5_layPlan 43 = .ok (.iconst 3, 1) := by decide +kernel
theorem dX5_layPlan_44 : decode cX5_layPlan 44 = .ok (.iaload, 1) := by decide +kernel
theorem dX5_layPlan_45 : decode cX5_layPlan 45 = .ok (.ifCond .ne 8, 3) := by decide +kernel
theorem dX5_layPlan_48 : decode cX5_layPlan 48 = .ok (.aload_n 0, 1) := by decide +kernel
theorem dX5_layPlan_49 : decode cX5_layPlan 49 = .ok (.getfield 244, 3) := by decide +kernel
theorem dX5_layPlan_52 : decode cX5_layPlan 52 = .ok (.ireturn, 1) := by decide +kernel
theorem dX5_layPlan_53 : decode cX5_layPlan 53 = .ok (.aload_n 0, 1) := by decide +kernel
theorem dX5_layPlan_54 : decode cX5_layPlan 54 = .ok (.invokevirtual 247, 3) := by decide +kernel
theorem dX5_layPlan_57 : decode cX5_layPlan 57 = .ok (.aload_n 0, 1) := by decide +kernel
theorem dX5_layPlan_58 : decode cX5_layPlan 58 = .ok (.aload_n 0, 1) := by decide +kernel
theorem dX5_layPlan_59 : decode cX5_layPlan 59 = .ok (.getfield 38, 3) := by decide +kernel
theorem dX5_layPlan_62 : decode cX5_layPlan 62 = .ok (.iconst 0, 1) := by decide +kernel
theorem dX5_layPlan_63 : decode cX5_layPlan 63 = .ok (.iaload, 1) := by decide +kernel
theorem dX5_layPlan_64 : decode cX5_layPlan 64 = .ok (.putfield 244, 3) := by decide +kernel
theorem dX5_layPlan_67 : decode cX5_layPlan 67 = .ok (.aload_n 0, 1) := by decide +kernel
theorem dX5_layPlan_68 : decode cX5_layPlan 68 = .ok (.aload_n 0, 1) := by decide +kernel
theorem dX5_layPlan_69 : decode cX5_layPlan 69 = .ok (.getfield 244, 3) := by decide +kernel
theorem dX5_layPlan_72 : decode cX5_layPlan 72 = .ok (.invokevirtual 250, 3) := by decide +kernel
theorem dX5_layPlan_75 : decode cX5_layPlan 75 = .ok (.ifCond .ne 16, 3) := by decide +kernel
theorem dX5_layPlan_78 : decode cX5_layPlan 78 = .ok (.aload_n 0, 1) := by decide +kernel
theorem dX5_layPlan_79 : decode cX5_layPlan 79 = .ok (.dup, 1) := by decide +kernel
theorem dX5_layPlan_80 : decode cX5_layPlan 80 = .ok (.getfield 244, 3) := by decide +kernel
theorem dX5_layPlan_83 : decode cX5_layPlan 83 = .ok (.iconst 1, 1) := by decide +kernel
theorem dX5_layPlan_84 : decode cX5_layPlan 84 = .ok (.iadd, 1) := by decide +kernel
theorem dX5_layPlan_85 : decode cX5_layPlan 85 = .ok (.putfield 244, 3) := by decide +kernel
theorem dX5_layPlan_88 : decode cX5_layPlan 88 = .ok (.goto (-21), 3) := by decide +kernel
theorem dX5_layPlan_91 : decode cX5_layPlan 91 = .ok (.aload_n 0, 1) := by decide +kernel
theorem dX5_layPlan_92 : decode cX5_layPlan 92 = .ok (.getfield 244, 3) := by decide +kernel
theorem dX5_layPlan_95 : decode cX5_layPlan 95 = .ok (.ireturn, 1) := by decide +kernel
theorem dX5_laySizes_0 : decode cX5_laySizes 0 = .ok (.iconst 0, 1) := by decide +kernel
theorem dX5_laySizes_1 : decode cX5_laySizes 1 = .ok (.istore_n 1, 1) := by decide +kernel
theorem dX5_laySizes_2 : decode cX5_laySizes 2 = .ok (.iconst 0, 1) := by decide +kernel
theorem dX5_laySizes_3 : decode cX5_laySizes 3 = .ok (.istore_n 2, 1) := by decide +kernel
theorem dX5_laySizes_4 : decode cX5_laySizes 4 = .ok (.iload_n 2, 1) := by decide +kernel
theorem dX5_laySizes_5 : decode cX5_laySizes 5 = .ok (.aload_n 0, 1) := by decide +kernel
theorem dX5_laySizes_6 : decode cX5_laySizes 6 = .ok (.getfield 244, 3) := by decide +kernel
theorem dX5_laySizes_9 : decode cX5_laySizes 9 = .ok (.if_icmp .ge 52, 3) := by decide +kernel
theorem dX5_laySizes_12 : decode cX5_laySizes 12 = .ok (.iconst 0, 1) := by decide +kernel
theorem dX5_laySizes_13 : decode cX5_laySizes 13 = .ok (.istore_n 3, 1) := by decide +kernel
theorem dX5_laySizes_14 : decode cX5_laySizes 14 = .ok (.iload_n 3, 1) := by decide +kernel
theorem dX5_laySizes_15 : decode cX5_laySizes 15 = .ok (.aload_n 0, 1) := by decide +kernel
theorem dX5_laySizes_16 : decode cX5_laySizes 16 = .ok (.getfield 41, 3) := by decide +kernel
theorem dX5_laySizes_19 : decode cX5_laySizes 19 = .ok (.iload_n 2, 1) := by decide +kernel
theorem dX5_laySizes_20 : decode cX5_laySizes 20 = .ok (.iaload, 1) := by decide +kernel
theorem dX5_laySizes_21 : decode cX5_laySizes 21 = .ok (.if_icmp .ge 34, 3) := by decide +kernel
theorem dX5_laySizes_24 : decode cX5_laySizes 24 = .ok (.aload_n 0, 1) := by decide +kernel
theorem dX5_laySizes_25 : decode cX5_laySizes 25 = .ok (.getfield 57, 3) := by decide +kernel
theorem dX5_laySizes_28 : decode cX5_laySizes 28 = .ok (.iload_n 1, 1) := by decide +kernel
theorem dX5_laySizes_29 : decode cX5_laySizes 29 = .ok (.aload_n 0, 1) := by decide +kernel
theorem dX5_laySizes_30 : decode cX5_laySizes 30 = .ok (.aload_n 0, 1) := by decide +kernel
theorem dX5_laySizes_31 : decode cX5_laySizes 31 = .ok (.getfield 44, 3) := by decide +kernel
theorem dX5_laySizes_34 : decode cX5_laySizes 34 = .ok (.iload_n 2, 1) := by decide +kernel
theorem dX5_laySizes_35 : decode cX5_laySizes 35 = .ok (.iaload, 1) := by decide +kernel
theorem dX5_laySizes_36 : decode cX5_laySizes 36 = .ok (.aload_n 0, 1) := by decide +kernel
theorem dX5_laySizes_37 : decode cX5_laySizes 37 = .ok (.getfield 47, 3) := by decide +kernel
theorem dX5_laySizes_40 : decode cX5_laySizes 40 = .ok (.iload_n 2, 1) := by decide +kernel
theorem dX5_laySizes_41 : decode cX5_laySizes 41 = .ok (.iaload, 1) := by decide +kernel
theorem dX5_laySizes_42 : decode cX5_laySizes 42 = .ok (.invokevirtual 188, 3) := by decide +kernel
theorem dX5_laySizes_45 : decode cX5_laySizes 45 = .ok (.iastore, 1) := by decide +kernel
theorem dX5_laySizes_46 : decode cX5_laySizes 46 = .ok (.iinc 1 1, 3) := by decide +kernel
theorem dX5_laySizes_49 : decode cX5_laySizes 49 = .ok (.iinc 3 1, 3) := by decide +kernel
theorem dX5_laySizes_52 : decode cX5_laySizes 52 = .ok (.goto (-38), 3) := by decide +kernel
theorem dX5_laySizes_55 : decode cX5_laySizes 55 = .ok (.iinc 2 1, 3) := by decide +kernel
theorem dX5_laySizes_58 : decode cX5_laySizes 58 = .ok (.goto (-54), 3) := by decide +kernel
theorem dX5_laySizes_61 : decode cX5_laySizes 61 = .ok (.return_, 1) := by decide +kernel
theorem dX5_goesOff_0 : decode cX5_goesOff 0 = .ok (.iconst 0, 1) := by decide +kernel
theorem dX5_goesOff_1 : decode cX5_goesOff 1 = .ok (.istore 4, 2) := by decide +kernel
theorem dX5_goesOff_3 : decode cX5_goesOff 3 = .ok (.iload 4, 2) := by decide +kernel
theorem dX5_goesOff_5 : decode cX5_goesOff 5 = .ok (.iload_n 3, 1) := by decide +kernel
theorem dX5_goesOff_6 : decode cX5_goesOff 6 = .ok (.if_icmp .ge 27, 3) := by decide +kernel
theorem dX5_goesOff_9 : decode cX5_goesOff 9 = .ok (.aload_n 0, 1) := by decide +kernel
theorem dX5_goesOff_10 : decode cX5_goesOff 10 = .ok (.getfield 17, 3) := by decide +kernel
theorem dX5_goesOff_13 : decode cX5_goesOff 13 = .ok (.bipush 114, 2) := by decide +kernel
theorem dX5_goesOff_15 : decode cX5_goesOff 15 = .ok (.aload_n 0, 1) := by decide +kernel
theorem dX5_goesOff_16 : decode cX5_goesOff 16 = .ok (.iload_n 1, 1) := by decide +kernel
theorem dX5_goesOff_17 : decode cX5_goesOff 17 = .ok (.iload_n 2, 1) := by decide +kernel
theorem dX5_goesOff_18 : decode cX5_goesOff 18 = .ok (.iload 4, 2) := by decide +kernel
theorem dX5_goesOff_20 : decode cX5_goesOff 20 = .ok (.iadd, 1) := by decide +kernel
theorem dX5_goesOff_21 : decode cX5_goesOff 21 = .ok (.invokevirtual 178, 3) := by decide +kernel
theorem dX5_goesOff_24 : decode cX5_goesOff 24 = .ok (.iadd, 1) := by decide +kernel
theorem dX5_goesOff_25 : decode cX5_goesOff 25 = .ok (.iconst 1, 1) := by decide +kernel
theorem dX5_goesOff_26 : decode cX5_goesOff 26 = .ok (.iastore, 1) := by decide +kernel
theorem dX5_goesOff_27 : decode cX5_goesOff 27 = .ok (.iinc 4 1, 3) := by decide +kernel
theorem dX5_goesOff_30 : decode cX5_goesOff 30 = .ok (.goto (-27), 3) := by decide +kernel
theorem dX5_goesOff_33 : decode cX5_goesOff 33 = .ok (.aload_n 0, 1) := by decide +kernel
theorem dX5_goesOff_34 : decode cX5_goesOff 34 = .ok (.getfield 17, 3) := by decide +kernel
theorem dX5_goesOff_37 : decode cX5_goesOff 37 = .ok (.iconst 4, 1) := by decide +kernel
theorem dX5_goesOff_38 : decode cX5_goesOff 38 = .ok (.dup2, 1) := by decide +kernel
theorem dX5_goesOff_39 : decode cX5_goesOff 39 = .ok (.iaload, 1) := by decide +kernel
theorem dX5_goesOff_40 : decode cX5_goesOff 40 = .ok (.iconst 1, 1) := by decide +kernel
theorem dX5_goesOff_41 : decode cX5_goesOff 41 = .ok (.iadd, 1) := by decide +kernel
theorem dX5_goesOff_42 : decode cX5_goesOff 42 = .ok (.iastore, 1) := by decide +kernel
theorem dX5_goesOff_43 : decode cX5_goesOff 43 = .ok (.aload_n 0, 1) := by decide +kernel
theorem dX5_goesOff_44 : decode cX5_goesOff 44 = .ok (.getfield 17, 3) := by decide +kernel
theorem dX5_goesOff_47 : decode cX5_goesOff 47 = .ok (.iconst 5, 1) := by decide +kernel
theorem dX5_goesOff_48 : decode cX5_goesOff 48 = .ok (.dup2, 1) := by decide +kernel
theorem dX5_goesOff_49 : decode cX5_goesOff 49 = .ok (.iaload, 1) := by decide +kernel
theorem dX5_goesOff_50 : decode cX5_goesOff 50 = .ok (.iload_n 3, 1) := by decide +kernel
theorem dX5_goesOff_51 : decode cX5_goesOff 51 = .ok (.iadd, 1) := by decide +kernel
theorem dX5_goesOff_52 : decode cX5_goesOff 52 = .ok (.iastore, 1) := by decide +kernel
theorem dX5_goesOff_53 : decode cX5_goesOff 53 = .ok (.return_, 1) := by decide +kernel
theorem dX5_cutPlan_0 : decode cX5_cutPlan 0 = .ok (.iconst 0, 1) := by decide +kernel
theorem dX5_cutPlan_1 : decode cX5_cutPlan 1 = .ok (.istore_n 1, 1) := by decide +kernel
theorem dX5_cutPlan_2 : decode cX5_cutPlan 2 = .ok (.iload_n 1, 1) := by decide +kernel
theorem dX5_cutPlan_3 : decode cX5_cutPlan 3 = .ok (.aload_n 0, 1) := by decide +kernel
theorem dX5_cutPlan_4 : decode cX5_cutPlan 4 = .ok (.getfield 244, 3) := by decide +kernel
theorem dX5_cutPlan_7 : decode cX5_cutPlan 7 = .ok (.if_icmp .ge 31, 3) := by decide +kernel
theorem dX5_cutPlan_10 : decode cX5_cutPlan 10 = .ok (.aload_n 0, 1) := by decide +kernel
theorem dX5_cutPlan_11 : decode cX5_cutPlan 11 = .ok (.aload_n 0, 1) := by decide +kernel
theorem dX5_cutPlan_12 : decode cX5_cutPlan 12 = .ok (.getfield 44, 3) := by decide +kernel
theorem dX5_cutPlan_15 : decode cX5_cutPlan 15 = .ok (.iload_n 1, 1) := by decide +kernel
theorem dX5_cutPlan_16 : decode cX5_cutPlan 16 = .ok (.iaload, 1) := by decide +kernel
theorem dX5_cutPlan_17 : decode cX5_cutPlan 17 = .ok (.aload_n 0, 1) := by decide +kernel
theorem dX5_cutPlan_18 : decode cX5_cutPlan 18 = .ok (.getfield 47, 3) := by decide +kernel
theorem dX5_cutPlan_21 : decode cX5_cutPlan 21 = .ok (.iload_n 1, 1) := by decide +kernel
theorem dX5_cutPlan_22 : decode cX5_cutPlan 22 = .ok (.iaload, 1) := by decide +kernel
theorem dX5_cutPlan_23 : decode cX5_cutPlan 23 = .ok (.aload_n 0, 1) := by decide +kernel
theorem dX5_cutPlan_24 : decode cX5_cutPlan 24 = .ok (.getfield 41, 3) := by decide +kernel
theorem dX5_cutPlan_27 : decode cX5_cutPlan 27 = .ok (.iload_n 1, 1) := by decide +kernel
theorem dX5_cutPlan_28 : decode cX5_cutPlan 28 = .ok (.iaload, 1) := by decide +kernel
theorem dX5_cutPlan_29 : decode cX5_cutPlan 29 = .ok (.invokevirtual 253, 3) := by decide +kernel
theorem dX5_cutPlan_32 : decode cX5_cutPlan 32 = .ok (.iinc 1 1, 3) := by decide +kernel
theorem dX5_cutPlan_35 : decode cX5_cutPlan 35 = .ok (.goto (-33), 3) := by decide +kernel
theorem dX5_cutPlan_38 : decode cX5_cutPlan 38 = .ok (.return_, 1) := by decide +kernel
theorem dX5_cellsThere_0 : decode cX5_cellsThere 0 = .ok (.iconst 0, 1) := by decide +kernel
theorem dX5_cellsThere_1 : decode cX5_cellsThere 1 = .ok (.istore_n 1, 1) := by decide +kernel
theorem dX5_cellsThere_2 : decode cX5_cellsThere 2 = .ok (.iconst 0, 1) := by decide +kernel
theorem dX5_cellsThere_3 : decode cX5_cellsThere 3 = .ok (.istore_n 2, 1) := by decide +kernel
theorem dX5_cellsThere_4 : decode cX5_cellsThere 4 = .ok (.iload_n 2, 1) := by decide +kernel
theorem dX5_cellsThere_5 : decode cX5_cellsThere 5 = .ok (.aload_n 0, 1) := by decide +kernel
theorem dX5_cellsThere_6 : decode cX5_cellsThere 6 = .ok (.invokevirtual 172, 3) := by decide +kernel
theorem dX5_cellsThere_9 : decode cX5_cellsThere 9 = .ok (.if_icmp .ge 23, 3) := by decide +kernel
theorem dX5_cellsThere_12 : decode cX5_cellsThere 12 = .ok (.iload_n 1, 1) := by decide +kernel
theorem dX5_cellsThere_13 : decode cX5_cellsThere 13 = .ok (.iconst 1, 1) := by decide +kernel
theorem dX5_cellsThere_14 : decode cX5_cellsThere 14 = .ok (.aload_n 0, 1) := by decide +kernel
theorem dX5_cellsThere_15 : decode cX5_cellsThere 15 = .ok (.getfield 17, 3) := by decide +kernel
theorem dX5_cellsThere_18 : decode cX5_cellsThere 18 = .ok (.bipush 114, 2) := by decide +kernel
theorem dX5_cellsThere_20 : decode cX5_cellsThere 20 = .ok (.iload_n 2, 1) := by decide +kernel
theorem dX5_cellsThere_21 : decode cX5_cellsThere 21 = .ok (.iadd, 1) := by decide +kernel
theorem dX5_cellsThere_22 : decode cX5_cellsThere 22 = .ok (.iaload, 1) := by decide +kernel
theorem dX5_cellsThere_23 : decode cX5_cellsThere 23 = .ok (.isub, 1) := by decide +kernel
theorem dX5_cellsThere_24 : decode cX5_cellsThere 24 = .ok (.iadd, 1) := by decide +kernel
theorem dX5_cellsThere_25 : decode cX5_cellsThere 25 = .ok (.istore_n 1, 1) := by decide +kernel
theorem dX5_cellsThere_26 : decode cX5_cellsThere 26 = .ok (.iinc 2 1, 3) := by decide +kernel
theorem dX5_cellsThere_29 : decode cX5_cellsThere 29 = .ok (.goto (-25), 3) := by decide +kernel
theorem dX5_cellsThere_32 : decode cX5_cellsThere 32 = .ok (.iload_n 1, 1) := by decide +kernel
theorem dX5_cellsThere_33 : decode cX5_cellsThere 33 = .ok (.ireturn, 1) := by decide +kernel
theorem dX5_usable_0 : decode cX5_usable 0 = .ok (.iconst 0, 1) := by decide +kernel
theorem dX5_usable_1 : decode cX5_usable 1 = .ok (.istore_n 1, 1) := by decide +kernel
theorem dX5_usable_2 : decode cX5_usable 2 = .ok (.iconst 0, 1) := by decide +kernel
theorem dX5_usable_3 : decode cX5_usable 3 = .ok (.istore_n 2, 1) := by decide +kernel
theorem dX5_usable_4 : decode cX5_usable 4 = .ok (.iload_n 2, 1) := by decide +kernel
theorem dX5_usable_5 : decode cX5_usable 5 = .ok (.iconst 2, 1) := by decide +kernel
theorem dX5_usable_6 : decode cX5_usable 6 = .ok (.if_icmp .ge 42, 3) := by decide +kernel
theorem dX5_usable_9 : decode cX5_usable 9 = .ok (.iconst 0, 1) := by decide +kernel
theorem dX5_usable_10 : decode cX5_usable 10 = .ok (.istore_n 3, 1) := by decide +kernel
theorem dX5_usable_11 : decode cX5_usable 11 = .ok (.iload_n 3, 1) := by decide +kernel
theorem dX5_usable_12 : decode cX5_usable 12 = .ok (.aload_n 0, 1) := by decide +kernel
theorem dX5_usable_13 : decode cX5_usable 13 = .ok (.invokevirtual 172, 3) := by decide +kernel
theorem dX5_usable_16 : decode cX5_usable 16 = .ok (.if_icmp .ge 26, 3) := by decide +kernel
theorem dX5_usable_19 : decode cX5_usable 19 = .ok (.iload_n 1, 1) := by decide +kernel
theorem dX5_usable_20 : decode cX5_usable 20 = .ok (.aload_n 0, 1) := by decide +kernel
theorem dX5_usable_21 : decode cX5_usable 21 = .ok (.iload_n 2, 1) := by decide +kernel
theorem dX5_usable_22 : decode cX5_usable 22 = .ok (.iload_n 3, 1) := by decide +kernel
theorem dX5_usable_23 : decode cX5_usable 23 = .ok (.invokevirtual 191, 3) := by decide +kernel
theorem dX5_usable_26 : decode cX5_usable 26 = .ok (.ifCond .eq 7, 3) := by decide +kernel
theorem dX5_usable_29 : decode cX5_usable 29 = .ok (.iconst 1, 1) := by decide +kernel
theorem dX5_usable_30 : decode cX5_usable 30 = .ok (.goto 4, 3) := by decide +kernel
theorem dX5_usable_33 : decode cX5_usable 33 = .ok (.iconst 0, 1) := by decide +kernel
theorem dX5_usable_34 : decode cX5_usable 34 = .ok (.iadd, 1) := by decide +kernel
theorem dX5_usable_35 : decode cX5_usable 35 = .ok (.istore_n 1, 1) := by decide +kernel
theorem dX5_usable_36 : decode cX5_usable 36 = .ok (.iinc 3 1, 3) := by decide +kernel
theorem dX5_usable_39 : decode cX5_usable 39 = .ok (.goto (-28), 3) := by decide +kernel
theorem dX5_usable_42 : decode cX5_usable 42 = .ok (.iinc 2 1, 3) := by decide +kernel
theorem dX5_usable_45 : decode cX5_usable 45 = .ok (.goto (-41), 3) := by decide +kernel
theorem dX5_usable_48 : decode cX5_usable 48 = .ok (.iload_n 1, 1) := by decide +kernel
theorem dX5_usable_49 : decode cX5_usable 49 = .ok (.ireturn, 1) := by decide +kernel
theorem dX5_told_0 : decode cX5_told 0 = .ok (.iload_n 1, 1) := by decide +kernel
theorem dX5_told_1 : decode cX5_told 1 = .ok (.tableswitch 54 3 7 #[35, 40, 40, 40, 49], 35) := by decide +kernel
theorem dX5_told_36 : decode cX5_told 36 = .ok (.aload_n 0, 1) := by decide +kernel
theorem dX5_told_37 : decode cX5_told 37 = .ok (.invokevirtual 257, 3) := by decide +kernel
theorem dX5_told_40 : decode cX5_told 40 = .ok (.ireturn, 1) := by decide +kernel
theorem dX5_told_41 : decode cX5_told 41 = .ok (.aload_n 0, 1) := by decide +kernel
theorem dX5_told_42 : decode cX5_told 42 = .ok (.getfield 17, 3) := by decide +kernel
theorem dX5_told_45 : decode cX5_told 45 = .ok (.iload_n 1, 1) := by decide +kernel
theorem dX5_told_46 : decode cX5_told 46 = .ok (.iconst 1, 1) := by decide +kernel
theorem dX5_told_47 : decode cX5_told 47 = .ok (.isub, 1) := by decide +kernel
theorem dX5_told_48 : decode cX5_told 48 = .ok (.iaload, 1) := by decide +kernel
theorem dX5_told_49 : decode cX5_told 49 = .ok (.ireturn, 1) := by decide +kernel
theorem dX5_told_50 : decode cX5_told 50 = .ok (.aload_n 0, 1) := by decide +kernel
theorem dX5_told_51 : decode cX5_told 51 = .ok (.invokevirtual 260, 3) := by decide +kernel
theorem dX5_told_54 : decode cX5_told 54 = .ok (.ireturn, 1) := by decide +kernel
theorem dX5_told_55 : decode cX5_told 55 = .ok (.aload_n 0, 1) := by decide +kernel
theorem dX5_told_56 : decode cX5_told 56 = .ok (.getfield 17, 3) := by decide +kernel
theorem dX5_told_59 : decode cX5_told 59 = .ok (.iload_n 1, 1) := by decide +kernel
theorem dX5_told_60 : decode cX5_told 60 = .ok (.iaload, 1) := by decide +kernel
theorem dX5_told_61 : decode cX5_told 61 = .ok (.ireturn, 1) := by decide +kernel
theorem dX5_state_0 : decode cX5_state 0 = .ok (.aload_n 0, 1) := by decide +kernel
theorem dX5_state_1 : decode cX5_state 1 = .ok (.iconst 0, 1) := by decide +kernel
theorem dX5_state_2 : decode cX5_state 2 = .ok (.putfield 64, 3) := by decide +kernel
theorem dX5_state_5 : decode cX5_state 5 = .ok (.aload_n 0, 1) := by decide +kernel
theorem dX5_state_6 : decode cX5_state 6 = .ok (.iload_n 1, 1) := by decide +kernel
theorem dX5_state_7 : decode cX5_state 7 = .ok (.iconst 0, 1) := by decide +kernel
theorem dX5_state_8 : decode cX5_state 8 = .ok (.bipush 7, 2) := by decide +kernel
theorem dX5_state_10 : decode cX5_state 10 = .ok (.invokestatic 86, 3) := by decide +kernel
theorem dX5_state_13 : decode cX5_state 13 = .ok (.ifCond .ne 7, 3) := by decide +kernel
theorem dX5_state_16 : decode cX5_state 16 = .ok (.iconst 1, 1) := by decide +kernel
theorem dX5_state_17 : decode cX5_state 17 = .ok (.goto 4, 3) := by decide +kernel
theorem dX5_state_20 : decode cX5_state 20 = .ok (.iconst 0, 1) := by decide +kernel
theorem dX5_state_21 : decode cX5_state 21 = .ok (.iconst 1, 1) := by decide +kernel
theorem dX5_state_22 : decode cX5_state 22 = .ok (.invokevirtual 156, 3) := by decide +kernel
theorem dX5_state_25 : decode cX5_state 25 = .ok (.ifCond .eq 7, 3) := by decide +kernel
theorem dX5_state_28 : decode cX5_state 28 = .ok (.iconst 0, 1) := by decide +kernel
theorem dX5_state_29 : decode cX5_state 29 = .ok (.goto 8, 3) := by decide +kernel
theorem dX5_state_32 : decode cX5_state 32 = .ok (.aload_n 0, 1) := by decide +kernel
theorem dX5_state_33 : decode cX5_state 33 = .ok (.iload_n 1, 1) := by decide +kernel
theorem dX5_state_34 : decode cX5_state 34 = .ok (.invokevirtual 263, 3) := by decide +kernel
theorem dX5_state_37 : decode cX5_state 37 = .ok (.ireturn, 1) := by decide +kernel
theorem dX5_noPlace_0 : decode cX5_noPlace 0 = .ok (.aload_n 0, 1) := by decide +kernel
theorem dX5_noPlace_1 : decode cX5_noPlace 1 = .ok (.iload_n 1, 1) := by decide +kernel
theorem dX5_noPlace_2 : decode cX5_noPlace 2 = .ok (.iconst 0, 1) := by decide +kernel
theorem dX5_noPlace_3 : decode cX5_noPlace 3 = .ok (.iconst 1, 1) := by decide +kernel
theorem dX5_noPlace_4 : decode cX5_noPlace 4 = .ok (.invokestatic 86, 3) := by decide +kernel
theorem dX5_noPlace_7 : decode cX5_noPlace 7 = .ok (.ifCond .eq 17, 3) := by decide +kernel
theorem dX5_noPlace_10 : decode cX5_noPlace 10 = .ok (.iload_n 2, 1) := by decide +kernel
theorem dX5_noPlace_11 : decode cX5_noPlace 11 = .ok (.iconst 0, 1) := by decide +kernel
theorem dX5_noPlace_12 : decode cX5_noPlace 12 = .ok (.aload_n 0, 1) := by decide +kernel
theorem dX5_noPlace_13 : decode cX5_noPlace 13 = .ok (.invokevirtual 172, 3) := by decide +kernel
theorem dX5_noPlace_16 : decode cX5_noPlace 16 = .ok (.iconst 1, 1) := by decide +kernel
theorem dX5_noPlace_17 : decode cX5_noPlace 17 = .ok (.isub, 1) := by decide +kernel
theorem dX5_noPlace_18 : decode cX5_noPlace 18 = .ok (.invokestatic 86, 3) := by decide +kernel
theorem dX5_noPlace_21 : decode cX5_noPlace 21 = .ok (.ifCond .ne 7, 3) := by decide +kernel
theorem dX5_noPlace_24 : decode cX5_noPlace 24 = .ok (.iconst 1, 1) := by decide +kernel
theorem dX5_noPlace_25 : decode cX5_noPlace 25 = .ok (.goto 4, 3) := by decide +kernel
theorem dX5_noPlace_28 : decode cX5_noPlace 28 = .ok (.iconst 0, 1) := by decide +kernel
theorem dX5_noPlace_29 : decode cX5_noPlace 29 = .ok (.iconst 1, 1) := by decide +kernel
theorem dX5_noPlace_30 : decode cX5_noPlace 30 = .ok (.invokevirtual 156, 3) := by decide +kernel
theorem dX5_noPlace_33 : decode cX5_noPlace 33 = .ok (.ireturn, 1) := by decide +kernel
theorem dX5_toldLetter_0 : decode cX5_toldLetter 0 = .ok (.aload_n 0, 1) := by decide +kernel
theorem dX5_toldLetter_1 : decode cX5_toldLetter 1 = .ok (.iload_n 1, 1) := by decide +kernel
theorem dX5_toldLetter_2 : decode cX5_toldLetter 2 = .ok (.iload_n 2, 1) := by decide +kernel
theorem dX5_toldLetter_3 : decode cX5_toldLetter 3 = .ok (.invokevirtual 184, 3) := by decide +kernel
theorem dX5_toldLetter_6 : decode cX5_toldLetter 6 = .ok (.ifCond .eq 8, 3) := by decide +kernel
theorem dX5_toldLetter_9 : decode cX5_toldLetter 9 = .ok (.bipush (-2), 2) := by decide +kernel
theorem dX5_toldLetter_11 : decode cX5_toldLetter 11 = .ok (.goto 9, 3) := by decide +kernel
theorem dX5_toldLetter_14 : decode cX5_toldLetter 14 = .ok (.aload_n 0, 1) := by decide +kernel
theorem dX5_toldLetter_15 : decode cX5_toldLetter 15 = .ok (.iload_n 1, 1) := by decide +kernel
theorem dX5_toldLetter_16 : decode cX5_toldLetter 16 = .ok (.iload_n 2, 1) := by decide +kernel
theorem dX5_toldLetter_17 : decode cX5_toldLetter 17 = .ok (.invokevirtual 181, 3) := by decide +kernel
theorem dX5_toldLetter_20 : decode cX5_toldLetter 20 = .ok (.ireturn, 1) := by decide +kernel
theorem dX5_letter_0 : decode cX5_letter 0 = .ok (.aload_n 0, 1) := by decide +kernel
theorem dX5_letter_1 : decode cX5_letter 1 = .ok (.iconst 0, 1) := by decide +kernel
theorem dX5_letter_2 : decode cX5_letter 2 = .ok (.putfield 64, 3) := by decide +kernel
theorem dX5_letter_5 : decode cX5_letter 5 = .ok (.aload_n 0, 1) := by decide +kernel
theorem dX5_letter_6 : decode cX5_letter 6 = .ok (.iload_n 1, 1) := by decide +kernel
theorem dX5_letter_7 : decode cX5_letter 7 = .ok (.iload_n 2, 1) := by decide +kernel
theorem dX5_letter_8 : decode cX5_letter 8 = .ok (.invokevirtual 266, 3) := by decide +kernel
theorem dX5_letter_11 : decode cX5_letter 11 = .ok (.ifCond .eq 7, 3) := by decide +kernel
theorem dX5_letter_14 : decode cX5_letter 14 = .ok (.iconst 0, 1) := by decide +kernel
theorem dX5_letter_15 : decode cX5_letter 15 = .ok (.goto 9, 3) := by decide +kernel
theorem dX5_letter_18 : decode cX5_letter 18 = .ok (.aload_n 0, 1) := by decide +kernel
theorem dX5_letter_19 : decode cX5_letter 19 = .ok (.iload_n 1, 1) := by decide +kernel
theorem dX5_letter_20 : decode cX5_letter 20 = .ok (.iload_n 2, 1) := by decide +kernel
theorem dX5_letter_21 : decode cX5_letter 21 = .ok (.invokevirtual 269, 3) := by decide +kernel
theorem dX5_letter_24 : decode cX5_letter 24 = .ok (.ireturn, 1) := by decide +kernel
theorem dX5_toldPlace_0 : decode cX5_toldPlace 0 = .ok (.iload_n 3, 1) := by decide +kernel
theorem dX5_toldPlace_1 : decode cX5_toldPlace 1 = .ok (.tableswitch 66 0 3 #[31, 38, 45, 51], 31) := by decide +kernel
theorem dX5_toldPlace_32 : decode cX5_toldPlace 32 = .ok (.aload_n 0, 1) := by decide +kernel
theorem dX5_toldPlace_33 : decode cX5_toldPlace 33 = .ok (.iload_n 1, 1) := by decide +kernel
theorem dX5_toldPlace_34 : decode cX5_toldPlace 34 = .ok (.iload_n 2, 1) := by decide +kernel
theorem dX5_toldPlace_35 : decode cX5_toldPlace 35 = .ok (.invokevirtual 178, 3) := by decide +kernel
theorem dX5_toldPlace_38 : decode cX5_toldPlace 38 = .ok (.ireturn, 1) := by decide +kernel
theorem dX5_toldPlace_39 : decode cX5_toldPlace 39 = .ok (.aload_n 0, 1) := by decide +kernel
theorem dX5_toldPlace_40 : decode cX5_toldPlace 40 = .ok (.iload_n 1, 1) := by decide +kernel
theorem dX5_toldPlace_41 : decode cX5_toldPlace 41 = .ok (.iload_n 2, 1) := by decide +kernel
theorem dX5_toldPlace_42 : decode cX5_toldPlace 42 = .ok (.invokevirtual 188, 3) := by decide +kernel
theorem dX5_toldPlace_45 : decode cX5_toldPlace 45 = .ok (.ireturn, 1) := by decide +kernel
theorem dX5_toldPlace_46 : decode cX5_toldPlace 46 = .ok (.aload_n 0, 1) := by decide +kernel
theorem dX5_toldPlace_47 : decode cX5_toldPlace 47 = .ok (.iload_n 2, 1) := by decide +kernel
theorem dX5_toldPlace_48 : decode cX5_toldPlace 48 = .ok (.invokevirtual 175, 3) := by decide +kernel
theorem dX5_toldPlace_51 : decode cX5_toldPlace 51 = .ok (.ireturn, 1) := by decide +kernel
theorem dX5_toldPlace_52 : decode cX5_toldPlace 52 = .ok (.aload_n 0, 1) := by decide +kernel
theorem dX5_toldPlace_53 : decode cX5_toldPlace 53 = .ok (.iload_n 1, 1) := by decide +kernel
theorem dX5_toldPlace_54 : decode cX5_toldPlace 54 = .ok (.iload_n 2, 1) := by decide +kernel
theorem dX5_toldPlace_55 : decode cX5_toldPlace 55 = .ok (.invokevirtual 191, 3) := by decide +kernel
theorem dX5_toldPlace_58 : decode cX5_toldPlace 58 = .ok (.ifCond .eq 7, 3) := by decide +kernel
theorem dX5_toldPlace_61 : decode cX5_toldPlace 61 = .ok (.iconst 1, 1) := by decide +kernel
theorem dX5_toldPlace_62 : decode cX5_toldPlace 62 = .ok (.goto 4, 3) := by decide +kernel
theorem dX5_toldPlace_65 : decode cX5_toldPlace 65 = .ok (.iconst 0, 1) := by decide +kernel
theorem dX5_toldPlace_66 : decode cX5_toldPlace 66 = .ok (.ireturn, 1) := by decide +kernel
theorem dX5_toldPlace_67 : decode cX5_toldPlace 67 = .ok (.aload_n 0, 1) := by decide +kernel
theorem dX5_toldPlace_68 : decode cX5_toldPlace 68 = .ok (.iload_n 1, 1) := by decide +kernel
theorem dX5_toldPlace_69 : decode cX5_toldPlace 69 = .ok (.iload_n 2, 1) := by decide +kernel
theorem dX5_toldPlace_70 : decode cX5_toldPlace 70 = .ok (.invokevirtual 181, 3) := by decide +kernel
theorem dX5_toldPlace_73 : decode cX5_toldPlace 73 = .ok (.iconst (-1), 1) := by decide +kernel
theorem dX5_toldPlace_74 : decode cX5_toldPlace 74 = .ok (.if_icmp .ne 7, 3) := by decide +kernel
theorem dX5_toldPlace_77 : decode cX5_toldPlace 77 = .ok (.iconst 0, 1) := by decide +kernel
theorem dX5_toldPlace_78 : decode cX5_toldPlace 78 = .ok (.goto 13, 3) := by decide +kernel
theorem dX5_toldPlace_81 : decode cX5_toldPlace 81 = .ok (.aload_n 0, 1) := by decide +kernel
theorem dX5_toldPlace_82 : decode cX5_toldPlace 82 = .ok (.aload_n 0, 1) := by decide +kernel
theorem dX5_toldPlace_83 : decode cX5_toldPlace 83 = .ok (.iload_n 1, 1) := by decide +kernel
theorem dX5_toldPlace_84 : decode cX5_toldPlace 84 = .ok (.iload_n 2, 1) := by decide +kernel
theorem dX5_toldPlace_85 : decode cX5_toldPlace 85 = .ok (.invokevirtual 181, 3) := by decide +kernel
theorem dX5_toldPlace_88 : decode cX5_toldPlace 88 = .ok (.invokevirtual 272, 3) := by decide +kernel
theorem dX5_toldPlace_91 : decode cX5_toldPlace 91 = .ok (.ireturn, 1) := by decide +kernel
theorem dX5_place_0 : decode cX5_place 0 = .ok (.aload_n 0, 1) := by decide +kernel
theorem dX5_place_1 : decode cX5_place 1 = .ok (.iconst 0, 1) := by decide +kernel
theorem dX5_place_2 : decode cX5_place 2 = .ok (.putfield 64, 3) := by decide +kernel
theorem dX5_place_5 : decode cX5_place 5 = .ok (.aload_n 0, 1) := by decide +kernel
theorem dX5_place_6 : decode cX5_place 6 = .ok (.iload_n 1, 1) := by decide +kernel
theorem dX5_place_7 : decode cX5_place 7 = .ok (.iload_n 2, 1) := by decide +kernel
theorem dX5_place_8 : decode cX5_place 8 = .ok (.invokevirtual 266, 3) := by decide +kernel
theorem dX5_place_11 : decode cX5_place 11 = .ok (.ifCond .ne 25, 3) := by decide +kernel
theorem dX5_place_14 : decode cX5_place 14 = .ok (.aload_n 0, 1) := by decide +kernel
theorem dX5_place_15 : decode cX5_place 15 = .ok (.iload_n 3, 1) := by decide +kernel
theorem dX5_place_16 : decode cX5_place 16 = .ok (.iconst 0, 1) := by decide +kernel
theorem dX5_place_17 : decode cX5_place 17 = .ok (.iconst 4, 1) := by decide +kernel
theorem dX5_place_18 : decode cX5_place 18 = .ok (.invokestatic 86, 3) := by decide +kernel
theorem dX5_place_21 : decode cX5_place 21 = .ok (.ifCond .ne 7, 3) := by decide +kernel
theorem dX5_place_24 : decode cX5_place 24 = .ok (.iconst 1, 1) := by decide +kernel
theorem dX5_place_25 : decode cX5_place 25 = .ok (.goto 4, 3) := by decide +kernel
theorem dX5_place_28 : decode cX5_place 28 = .ok (.iconst 0, 1) := by decide +kernel
theorem dX5_place_29 : decode cX5_place 29 = .ok (.iconst 2, 1) := by decide +kernel
theorem dX5_place_30 : decode cX5_place 30 = .ok (.invokevirtual 156, 3) := by decide +kernel
theorem dX5_place_33 : decode cX5_place 33 = .ok (.ifCond .eq 7, 3) := by decide +kernel
theorem dX5_place_36 : decode cX5_place 36 = .ok (.iconst 0, 1) := by decide +kernel
theorem dX5_place_37 : decode cX5_place 37 = .ok (.goto 10, 3) := by decide +kernel
theorem dX5_place_40 : decode cX5_place 40 = .ok (.aload_n 0, 1) := by decide +kernel
theorem dX5_place_41 : decode cX5_place 41 = .ok (.iload_n 1, 1) := by decide +kernel
theorem dX5_place_42 : decode cX5_place 42 = .ok (.iload_n 2, 1) := by decide +kernel
theorem dX5_place_43 : decode cX5_place 43 = .ok (.iload_n 3, 1) := by decide +kernel
theorem dX5_place_44 : decode cX5_place 44 = .ok (.invokevirtual 275, 3) := by decide +kernel
theorem dX5_place_47 : decode cX5_place 47 = .ok (.ireturn, 1) := by decide +kernel
theorem dX5_stock_0 : decode cX5_stock 0 = .ok (.aload_n 0, 1) := by decide +kernel
theorem dX5_stock_1 : decode cX5_stock 1 = .ok (.iconst 0, 1) := by decide +kernel
theorem dX5_stock_2 : decode cX5_stock 2 = .ok (.putfield 64, 3) := by decide +kernel
theorem dX5_stock_5 : decode cX5_stock 5 = .ok (.aload_n 0, 1) := by decide +kernel
theorem dX5_stock_6 : decode cX5_stock 6 = .ok (.iload_n 1, 1) := by decide +kernel
theorem dX5_stock_7 : decode cX5_stock 7 = .ok (.iconst 0, 1) := by decide +kernel
theorem dX5_stock_8 : decode cX5_stock 8 = .ok (.bipush 25, 2) := by decide +kernel
theorem dX5_stock_10 : decode cX5_stock 10 = .ok (.invokestatic 86, 3) := by decide +kernel
theorem dX5_stock_13 : decode cX5_stock 13 = .ok (.ifCond .eq 12, 3) := by decide +kernel
theorem dX5_stock_16 : decode cX5_stock 16 = .ok (.iload_n 2, 1) := by decide +kernel
theorem dX5_stock_17 : decode cX5_stock 17 = .ok (.iconst 0, 1) := by decide +kernel
theorem dX5_stock_18 : decode cX5_stock 18 = .ok (.iconst 2, 1) := by decide +kernel
theorem dX5_stock_19 : decode cX5_stock 19 = .ok (.invokestatic 86, 3) := by decide +kernel
theorem dX5_stock_22 : decode cX5_stock 22 = .ok (.ifCond .ne 7, 3) := by decide +kernel
theorem dX5_stock_25 : decode cX5_stock 25 = .ok (.iconst 1, 1) := by decide +kernel
theorem dX5_stock_26 : decode cX5_stock 26 = .ok (.goto 4, 3) := by decide +kernel
theorem dX5_stock_29 : decode cX5_stock 29 = .ok (.iconst 0, 1) := by decide +kernel
theorem dX5_stock_30 : decode cX5_stock 30 = .ok (.iconst 1, 1) := by decide +kernel
theorem dX5_stock_31 : decode cX5_stock 31 = .ok (.invokevirtual 156, 3) := by decide +kernel
theorem dX5_stock_34 : decode cX5_stock 34 = .ok (.ifCond .eq 5, 3) := by decide +kernel
theorem dX5_stock_37 : decode cX5_stock 37 = .ok (.iconst 0, 1) := by decide +kernel
theorem dX5_stock_38 : decode cX5_stock 38 = .ok (.ireturn, 1) := by decide +kernel
theorem dX5_stock_39 : decode cX5_stock 39 = .ok (.iload_n 2, 1) := by decide +kernel
theorem dX5_stock_40 : decode cX5_stock 40 = .ok (.iconst 2, 1) := by decide +kernel
theorem dX5_stock_41 : decode cX5_stock 41 = .ok (.if_icmp .ne 9, 3) := by decide +kernel
theorem dX5_stock_44 : decode cX5_stock 44 = .ok (.aload_n 0, 1) := by decide +kernel
theorem dX5_stock_45 : decode cX5_stock 45 = .ok (.iload_n 1, 1) := by decide +kernel
theorem dX5_stock_46 : decode cX5_stock 46 = .ok (.invokevirtual 272, 3) := by decide +kernel
theorem dX5_stock_49 : decode cX5_stock 49 = .ok (.ireturn, 1) := by decide +kernel
theorem dX5_stock_50 : decode cX5_stock 50 = .ok (.iconst 0, 1) := by decide +kernel
theorem dX5_stock_51 : decode cX5_stock 51 = .ok (.istore_n 3, 1) := by decide +kernel
theorem dX5_stock_52 : decode cX5_stock 52 = .ok (.iconst 0, 1) := by decide +kernel
theorem dX5_stock_53 : decode cX5_stock 53 = .ok (.istore 4, 2) := by decide +kernel
theorem dX5_stock_55 : decode cX5_stock 55 = .ok (.iload 4, 2) := by decide +kernel
theorem dX5_stock_57 : decode cX5_stock 57 = .ok (.aload_n 0, 1) := by decide +kernel
theorem dX5_stock_58 : decode cX5_stock 58 = .ok (.invokevirtual 172, 3) := by decide +kernel
theorem dX5_stock_61 : decode cX5_stock 61 = .ok (.if_icmp .ge 66, 3) := by decide +kernel
theorem dX5_stock_64 : decode cX5_stock 64 = .ok (.aload_n 0, 1) := by decide +kernel
theorem dX5_stock_65 : decode cX5_stock 65 = .ok (.iconst 0, 1) := by decide +kernel
theorem dX5_stock_66 : decode cX5_stock 66 = .ok (.iload 4, 2) := by decide +kernel
theorem dX5_stock_68 : decode cX5_stock 68 = .ok (.iload_n 1, 1) := by decide +kernel
theorem dX5_stock_69 : decode cX5_stock 69 = .ok (.invokevirtual 194, 3) := by decide +kernel
theorem dX5_stock_72 : decode cX5_stock 72 = .ok (.ifCond .eq 7, 3) := by decide +kernel
theorem dX5_stock_75 : decode cX5_stock 75 = .ok (.iconst 1, 1) := by decide +kernel
theorem dX5_stock_76 : decode cX5_stock 76 = .ok (.goto 4, 3) := by decide +kernel
theorem dX5_stock_79 : decode cX5_stock 79 = .ok (.iconst 0, 1) := by decide +kernel
theorem dX5_stock_80 : decode cX5_stock 80 = .ok (.aload_n 0, 1) := by decide +kernel
theorem dX5_stock_81 : decode cX5_stock 81 = .ok (.iconst 1, 1) := by decide +kernel
theorem dX5_stock_82 : decode cX5_stock 82 = .ok (.aload_n 0, 1) := by decide +kernel
theorem dX5_stock_83 : decode cX5_stock 83 = .ok (.iload 4, 2) := by decide +kernel
theorem dX5_stock_85 : decode cX5_stock 85 = .ok (.invokevirtual 175, 3) := by decide +kernel
theorem dX5_stock_88 : decode cX5_stock 88 = .ok (.iload_n 1, 1) := by decide +kernel
theorem dX5_stock_89 : decode cX5_stock 89 = .ok (.invokevirtual 194, 3) := by decide +kernel
theorem dX5_stock_92 : decode cX5_stock 92 = .ok (.ifCond .eq 7, 3) := by decide +kernel
theorem dX5_stock_95 : decode cX5_stock 95 = .ok (.iconst 1, 1) := by decide +kernel
theorem dX5_stock_96 : decode cX5_stock 96 = .ok (.goto 4, 3) := by decide +kernel
theorem dX5_stock_99 : decode cX5_stock 99 = .ok (.iconst 0, 1) := by decide +kernel
theorem dX5_stock_100 : decode cX5_stock 100 = .ok (.iadd, 1) := by decide +kernel
theorem dX5_stock_101 : decode cX5_stock 101 = .ok (.istore 5, 2) := by decide +kernel
theorem dX5_stock_103 : decode cX5_stock 103 = .ok (.iload_n 3, 1) := by decide +kernel
theorem dX5_stock_104 : decode cX5_stock 104 = .ok (.iload_n 2, 1) := by decide +kernel
theorem dX5_stock_105 : decode cX5_stock 105 = .ok (.ifCond .ne 8, 3) := by decide +kernel
theorem dX5_stock_108 : decode cX5_stock 108 = .ok (.iload 5, 2) := by decide +kernel
theorem dX5_stock_110 : decode cX5_stock 110 = .ok (.goto 9, 3) := by decide +kernel
theorem dX5_stock_113 : decode cX5_stock 113 = .ok (.iconst 1, 1) := by decide +kernel
theorem dX5_stock_114 : decode cX5_stock 114 = .ok (.iload 5, 2) := by decide +kernel
theorem dX5_stock_116 : decode cX5_stock 116 = .ok (.invokestatic 119, 3) := by decide +kernel
theorem dX5_stock_119 : decode cX5_stock 119 = .ok (.iadd, 1) := by decide +kernel
theorem dX5_stock_120 : decode cX5_stock 120 = .ok (.istore_n 3, 1) := by decide +kernel
theorem dX5_stock_121 : decode cX5_stock 121 = .ok (.iinc 4 1, 3) := by decide +kernel
theorem dX5_stock_124 : decode cX5_stock 124 = .ok (.goto (-69), 3) := by decide +kernel
theorem dX5_stock_127 : decode cX5_stock 127 = .ok (.iload_n 3, 1) := by decide +kernel
theorem dX5_stock_128 : decode cX5_stock 128 = .ok (.ireturn, 1) := by decide +kernel
theorem dX5_message_0 : decode cX5_message 0 = .ok (.aload_n 0, 1) := by decide +kernel
theorem dX5_message_1 : decode cX5_message 1 = .ok (.iconst 0, 1) := by decide +kernel
theorem dX5_message_2 : decode cX5_message 2 = .ok (.putfield 64, 3) := by decide +kernel
theorem dX5_message_5 : decode cX5_message 5 = .ok (.aload_n 0, 1) := by decide +kernel
theorem dX5_message_6 : decode cX5_message 6 = .ok (.iload_n 1, 1) := by decide +kernel
theorem dX5_message_7 : decode cX5_message 7 = .ok (.iconst 0, 1) := by decide +kernel
theorem dX5_message_8 : decode cX5_message 8 = .ok (.aload_n 0, 1) := by decide +kernel
theorem dX5_message_9 : decode cX5_message 9 = .ok (.getfield 17, 3) := by decide +kernel
theorem dX5_message_12 : decode cX5_message 12 = .ok (.iconst 3, 1) := by decide +kernel
theorem dX5_message_13 : decode cX5_message 13 = .ok (.iaload, 1) := by decide +kernel
theorem dX5_message_14 : decode cX5_message 14 = .ok (.iconst 1, 1) := by decide +kernel
theorem dX5_message_15 : decode cX5_message 15 = .ok (.isub, 1) := by decide +kernel
theorem dX5_message_16 : decode cX5_message 16 = .ok (.invokestatic 86, 3) := by decide +kernel
theorem dX5_message_19 : decode cX5_message 19 = .ok (.ifCond .ne 7, 3) := by decide +kernel
theorem dX5_message_22 : decode cX5_message 22 = .ok (.iconst 1, 1) := by decide +kernel
theorem dX5_message_23 : decode cX5_message 23 = .ok (.goto 4, 3) := by decide +kernel
theorem dX5_message_26 : decode cX5_message 26 = .ok (.iconst 0, 1) := by decide +kernel
theorem dX5_message_27 : decode cX5_message 27 = .ok (.iconst 1, 1) := by decide +kernel
theorem dX5_message_28 : decode cX5_message 28 = .ok (.invokevirtual 156, 3) := by decide +kernel
theorem dX5_message_31 : decode cX5_message 31 = .ok (.ifCond .eq 7, 3) := by decide +kernel
theorem dX5_message_34 : decode cX5_message 34 = .ok (.iconst 0, 1) := by decide +kernel
theorem dX5_message_35 : decode cX5_message 35 = .ok (.goto 13, 3) := by decide +kernel
theorem dX5_message_38 : decode cX5_message 38 = .ok (.aload_n 0, 1) := by decide +kernel
theorem dX5_message_39 : decode cX5_message 39 = .ok (.getfield 17, 3) := by decide +kernel
theorem dX5_message_42 : decode cX5_message 42 = .ok (.sipush 162, 3) := by decide +kernel
theorem dX5_message_45 : decode cX5_message 45 = .ok (.iload_n 1, 1) := by decide +kernel
theorem dX5_message_46 : decode cX5_message 46 = .ok (.iadd, 1) := by decide +kernel
theorem dX5_message_47 : decode cX5_message 47 = .ok (.iaload, 1) := by decide +kernel
theorem dX5_message_48 : decode cX5_message 48 = .ok (.ireturn, 1) := by decide +kernel
theorem dX5_missing_0 : decode cX5_missing 0 = .ok (.aload_n 0, 1) := by decide +kernel
theorem dX5_missing_1 : decode cX5_missing 1 = .ok (.iconst 0, 1) := by decide +kernel
theorem dX5_missing_2 : decode cX5_missing 2 = .ok (.putfield 64, 3) := by decide +kernel
theorem dX5_missing_5 : decode cX5_missing 5 = .ok (.aload_n 0, 1) := by decide +kernel
theorem dX5_missing_6 : decode cX5_missing 6 = .ok (.invokevirtual 241, 3) := by decide +kernel
theorem dX5_missing_9 : decode cX5_missing 9 = .ok (.ireturn, 1) := by decide +kernel
theorem dX5_fewest_0 : decode cX5_fewest 0 = .ok (.aload_n 0, 1) := by decide +kernel
theorem dX5_fewest_1 : decode cX5_fewest 1 = .ok (.iconst 0, 1) := by decide +kernel
theorem dX5_fewest_2 : decode cX5_fewest 2 = .ok (.putfield 64, 3) := by decide +kernel
theorem dX5_fewest_5 : decode cX5_fewest 5 = .ok (.aload_n 0, 1) := by decide +kernel
theorem dX5_fewest_6 : decode cX5_fewest 6 = .ok (.invokevirtual 279, 3) := by decide +kernel
theorem dX5_fewest_9 : decode cX5_fewest 9 = .ok (.ireturn, 1) := by decide +kernel
theorem dX5_toldCut_0 : decode cX5_toldCut 0 = .ok (.iload_n 2, 1) := by decide +kernel
theorem dX5_toldCut_1 : decode cX5_toldCut 1 = .ok (.ifCond .ne 12, 3) := by decide +kernel
theorem dX5_toldCut_4 : decode cX5_toldCut 4 = .ok (.aload_n 0, 1) := by decide +kernel
theorem dX5_toldCut_5 : decode cX5_toldCut 5 = .ok (.getfield 41, 3) := by decide +kernel
theorem dX5_toldCut_8 : decode cX5_toldCut 8 = .ok (.iload_n 1, 1) := by decide +kernel
theorem dX5_toldCut_9 : decode cX5_toldCut 9 = .ok (.iaload, 1) := by decide +kernel
theorem dX5_toldCut_10 : decode cX5_toldCut 10 = .ok (.goto 54, 3) := by decide +kernel
theorem dX5_toldCut_13 : decode cX5_toldCut 13 = .ok (.iload_n 2, 1) := by decide +kernel
theorem dX5_toldCut_14 : decode cX5_toldCut 14 = .ok (.iconst 1, 1) := by decide +kernel
theorem dX5_toldCut_15 : decode cX5_toldCut 15 = .ok (.if_icmp .ne 12, 3) := by decide +kernel
theorem dX5_toldCut_18 : decode cX5_toldCut 18 = .ok (.aload_n 0, 1) := by decide +kernel
theorem dX5_toldCut_19 : decode cX5_toldCut 19 = .ok (.getfield 44, 3) := by decide +kernel
theorem dX5_toldCut_22 : decode cX5_toldCut 22 = .ok (.iload_n 1, 1) := by decide +kernel
theorem dX5_toldCut_23 : decode cX5_toldCut 23 = .ok (.iaload, 1) := by decide +kernel
theorem dX5_toldCut_24 : decode cX5_toldCut 24 = .ok (.goto 40, 3) := by decide +kernel
theorem dX5_toldCut_27 : decode cX5_toldCut 27 = .ok (.iload_n 2, 1) := by decide +kernel
theorem dX5_toldCut_28 : decode cX5_toldCut 28 = .ok (.iconst 2, 1) := by decide +kernel
theorem dX5_toldCut_29 : decode cX5_toldCut 29 = .ok (.if_icmp .ne 12, 3) := by decide +kernel
theorem dX5_toldCut_32 : decode cX5_toldCut 32 = .ok (.aload_n 0, 1) := by decide +kernel
theorem dX5_toldCut_33 : decode cX5_toldCut 33 = .ok (.getfield 47, 3) := by decide +kernel
theorem dX5_toldCut_36 : decode cX5_toldCut 36 = .ok (.iload_n 1, 1) := by decide +kernel
theorem dX5_toldCut_37 : decode cX5_toldCut 37 = .ok (.iaload, 1) := by decide +kernel
theorem dX5_toldCut_38 : decode cX5_toldCut 38 = .ok (.goto 26, 3) := by decide +kernel
theorem dX5_toldCut_41 : decode cX5_toldCut 41 = .ok (.aload_n 0, 1) := by decide +kernel
theorem dX5_toldCut_42 : decode cX5_toldCut 42 = .ok (.getfield 41, 3) := by decide +kernel
theorem dX5_toldCut_45 : decode cX5_toldCut 45 = .ok (.iload_n 1, 1) := by decide +kernel
theorem dX5_toldCut_46 : decode cX5_toldCut 46 = .ok (.iaload, 1) := by decide +kernel
theorem dX5_toldCut_47 : decode cX5_toldCut 47 = .ok (.aload_n 0, 1) := by decide +kernel
theorem dX5_toldCut_48 : decode cX5_toldCut 48 = .ok (.aload_n 0, 1) := by decide +kernel
theorem dX5_toldCut_49 : decode cX5_toldCut 49 = .ok (.getfield 44, 3) := by decide +kernel
theorem dX5_toldCut_52 : decode cX5_toldCut 52 = .ok (.iload_n 1, 1) := by decide +kernel
theorem dX5_toldCut_53 : decode cX5_toldCut 53 = .ok (.iaload, 1) := by decide +kernel
theorem dX5_toldCut_54 : decode cX5_toldCut 54 = .ok (.aload_n 0, 1) := by decide +kernel
theorem dX5_toldCut_55 : decode cX5_toldCut 55 = .ok (.getfield 47, 3) := by decide +kernel
theorem dX5_toldCut_58 : decode cX5_toldCut 58 = .ok (.iload_n 1, 1) := by decide +kernel
theorem dX5_toldCut_59 : decode cX5_toldCut 59 = .ok (.iaload, 1) := by decide +kernel
theorem dX5_toldCut_60 : decode cX5_toldCut 60 = .ok (.invokevirtual 188, 3) := by decide +kernel
theorem dX5_toldCut_63 : decode cX5_toldCut 63 = .ok (.imul, 1) := by decide +kernel
theorem dX5_toldCut_64 : decode cX5_toldCut 64 = .ok (.ireturn, 1) := by decide +kernel
theorem dX5_cutOf_0 : decode cX5_cutOf 0 = .ok (.aload_n 0, 1) := by decide +kernel
theorem dX5_cutOf_1 : decode cX5_cutOf 1 = .ok (.iconst 0, 1) := by decide +kernel
theorem dX5_cutOf_2 : decode cX5_cutOf 2 = .ok (.putfield 64, 3) := by decide +kernel
theorem dX5_cutOf_5 : decode cX5_cutOf 5 = .ok (.aload_n 0, 1) := by decide +kernel
theorem dX5_cutOf_6 : decode cX5_cutOf 6 = .ok (.invokevirtual 279, 3) := by decide +kernel
theorem dX5_cutOf_9 : decode cX5_cutOf 9 = .ok (.istore_n 3, 1) := by decide +kernel
theorem dX5_cutOf_10 : decode cX5_cutOf 10 = .ok (.aload_n 0, 1) := by decide +kernel
theorem dX5_cutOf_11 : decode cX5_cutOf 11 = .ok (.iload_n 1, 1) := by decide +kernel
theorem dX5_cutOf_12 : decode cX5_cutOf 12 = .ok (.iconst 0, 1) := by decide +kernel
theorem dX5_cutOf_13 : decode cX5_cutOf 13 = .ok (.iload_n 3, 1) := by decide +kernel
theorem dX5_cutOf_14 : decode cX5_cutOf 14 = .ok (.iconst 1, 1) := by decide +kernel
theorem dX5_cutOf_15 : decode cX5_cutOf 15 = .ok (.isub, 1) := by decide +kernel
theorem dX5_cutOf_16 : decode cX5_cutOf 16 = .ok (.invokestatic 86, 3) := by decide +kernel
theorem dX5_cutOf_19 : decode cX5_cutOf 19 = .ok (.ifCond .ne 7, 3) := by decide +kernel
theorem dX5_cutOf_22 : decode cX5_cutOf 22 = .ok (.iconst 1, 1) := by decide +kernel
theorem dX5_cutOf_23 : decode cX5_cutOf 23 = .ok (.goto 4, 3) := by decide +kernel
theorem dX5_cutOf_26 : decode cX5_cutOf 26 = .ok (.iconst 0, 1) := by decide +kernel
theorem dX5_cutOf_27 : decode cX5_cutOf 27 = .ok (.iconst 1, 1) := by decide +kernel
theorem dX5_cutOf_28 : decode cX5_cutOf 28 = .ok (.invokevirtual 156, 3) := by decide +kernel
theorem dX5_cutOf_31 : decode cX5_cutOf 31 = .ok (.ifCond .ne 25, 3) := by decide +kernel
theorem dX5_cutOf_34 : decode cX5_cutOf 34 = .ok (.aload_n 0, 1) := by decide +kernel
theorem dX5_cutOf_35 : decode cX5_cutOf 35 = .ok (.iload_n 2, 1) := by decide +kernel
theorem dX5_cutOf_36 : decode cX5_cutOf 36 = .ok (.iconst 0, 1) := by decide +kernel
theorem dX5_cutOf_37 : decode cX5_cutOf 37 = .ok (.iconst 3, 1) := by decide +kernel
theorem dX5_cutOf_38 : decode cX5_cutOf 38 = .ok (.invokestatic 86, 3) := by decide +kernel
theorem dX5_cutOf_41 : decode cX5_cutOf 41 = .ok (.ifCond .ne 7, 3) := by decide +kernel
theorem dX5_cutOf_44 : decode cX5_cutOf 44 = .ok (.iconst 1, 1) := by decide +kernel
theorem dX5_cutOf_45 : decode cX5_cutOf 45 = .ok (.goto 4, 3) := by decide +kernel
theorem dX5_cutOf_48 : decode cX5_cutOf 48 = .ok (.iconst 0, 1) := by decide +kernel
theorem dX5_cutOf_49 : decode cX5_cutOf 49 = .ok (.iconst 2, 1) := by decide +kernel
theorem dX5_cutOf_50 : decode cX5_cutOf 50 = .ok (.invokevirtual 156, 3) := by decide +kernel
theorem dX5_cutOf_53 : decode cX5_cutOf 53 = .ok (.ifCond .eq 7, 3) := by decide +kernel
theorem dX5_cutOf_56 : decode cX5_cutOf 56 = .ok (.iconst 0, 1) := by decide +kernel
theorem dX5_cutOf_57 : decode cX5_cutOf 57 = .ok (.goto 9, 3) := by decide +kernel
theorem dX5_cutOf_60 : decode cX5_cutOf 60 = .ok (.aload_n 0, 1) := by decide +kernel
theorem dX5_cutOf_61 : decode cX5_cutOf 61 = .ok (.iload_n 1, 1) := by decide +kernel
theorem dX5_cutOf_62 : decode cX5_cutOf 62 = .ok (.iload_n 2, 1) := by decide +kernel
theorem dX5_cutOf_63 : decode cX5_cutOf 63 = .ok (.invokevirtual 282, 3) := by decide +kernel
theorem dX5_cutOf_66 : decode cX5_cutOf 66 = .ok (.ireturn, 1) := by decide +kernel
theorem dX5_unevenness_0 : decode cX5_unevenness 0 = .ok (.aload_n 0, 1) := by decide +kernel
theorem dX5_unevenness_1 : decode cX5_unevenness 1 = .ok (.iconst 0, 1) := by decide +kernel
theorem dX5_unevenness_2 : decode cX5_unevenness 2 = .ok (.putfield 64, 3) := by decide +kernel
theorem dX5_unevenness_5 : decode cX5_unevenness 5 = .ok (.aload_n 0, 1) := by decide +kernel
theorem dX5_unevenness_6 : decode cX5_unevenness 6 = .ok (.invokevirtual 279, 3) := by decide +kernel
theorem dX5_unevenness_9 : decode cX5_unevenness 9 = .ok (.ifCond .ge 5, 3) := by decide +kernel
theorem dX5_unevenness_12 : decode cX5_unevenness 12 = .ok (.iconst (-1), 1) := by decide +kernel
theorem dX5_unevenness_13 : decode cX5_unevenness 13 = .ok (.ireturn, 1) := by decide +kernel
theorem dX5_unevenness_14 : decode cX5_unevenness 14 = .ok (.aload_n 0, 1) := by decide +kernel
theorem dX5_unevenness_15 : decode cX5_unevenness 15 = .ok (.invokevirtual 285, 3) := by decide +kernel
theorem dX5_unevenness_18 : decode cX5_unevenness 18 = .ok (.iconst 0, 1) := by decide +kernel
theorem dX5_unevenness_19 : decode cX5_unevenness 19 = .ok (.istore_n 1, 1) := by decide +kernel
theorem dX5_unevenness_20 : decode cX5_unevenness 20 = .ok (.iconst 1, 1) := by decide +kernel
theorem dX5_unevenness_21 : decode cX5_unevenness 21 = .ok (.istore_n 2, 1) := by decide +kernel
theorem dX5_unevenness_22 : decode cX5_unevenness 22 = .ok (.iload_n 2, 1) := by decide +kernel
theorem dX5_unevenness_23 : decode cX5_unevenness 23 = .ok (.aload_n 0, 1) := by decide +kernel
theorem dX5_unevenness_24 : decode cX5_unevenness 24 = .ok (.getfield 17, 3) := by decide +kernel
theorem dX5_unevenness_27 : decode cX5_unevenness 27 = .ok (.iconst 3, 1) := by decide +kernel
theorem dX5_unevenness_28 : decode cX5_unevenness 28 = .ok (.iaload, 1) := by decide +kernel
theorem dX5_unevenness_29 : decode cX5_unevenness 29 = .ok (.if_icmp .ge 30, 3) := by decide +kernel
theorem dX5_unevenness_32 : decode cX5_unevenness 32 = .ok (.iload_n 1, 1) := by decide +kernel
theorem dX5_unevenness_33 : decode cX5_unevenness 33 = .ok (.aload_n 0, 1) := by decide +kernel
theorem dX5_unevenness_34 : decode cX5_unevenness 34 = .ok (.getfield 57, 3) := by decide +kernel
theorem dX5_unevenness_37 : decode cX5_unevenness 37 = .ok (.iload_n 2, 1) := by decide +kernel
theorem dX5_unevenness_38 : decode cX5_unevenness 38 = .ok (.iaload, 1) := by decide +kernel
theorem dX5_unevenness_39 : decode cX5_unevenness 39 = .ok (.aload_n 0, 1) := by decide +kernel
theorem dX5_unevenness_40 : decode cX5_unevenness 40 = .ok (.getfield 57, 3) := by decide +kernel
theorem dX5_unevenness_43 : decode cX5_unevenness 43 = .ok (.iload_n 2, 1) := by decide +kernel
theorem dX5_unevenness_44 : decode cX5_unevenness 44 = .ok (.iconst 1, 1) := by decide +kernel
theorem dX5_unevenness_45 : decode cX5_unevenness 45 = .ok (.isub, 1) := by decide +kernel
theorem dX5_unevenness_46 : decode cX5_unevenness 46 = .ok (.iaload, 1) := by decide +kernel
theorem dX5_unevenness_47 : decode cX5_unevenness 47 = .ok (.isub, 1) := by decide +kernel
theorem dX5_unevenness_48 : decode cX5_unevenness 48 = .ok (.invokestatic 288, 3) := by decide +kernel
theorem dX5_unevenness_51 : decode cX5_unevenness 51 = .ok (.iadd, 1) := by decide +kernel
theorem dX5_unevenness_52 : decode cX5_unevenness 52 = .ok (.istore_n 1, 1) := by decide +kernel
theorem dX5_unevenness_53 : decode cX5_unevenness 53 = .ok (.iinc 2 1, 3) := by decide +kernel
theorem dX5_unevenness_56 : decode cX5_unevenness 56 = .ok (.goto (-34), 3) := by decide +kernel
theorem dX5_unevenness_59 : decode cX5_unevenness 59 = .ok (.iload_n 1, 1) := by decide +kernel
theorem dX5_unevenness_60 : decode cX5_unevenness 60 = .ok (.ireturn, 1) := by decide +kernel
theorem dX5_copies_0 : decode cX5_copies 0 = .ok (.aload_n 0, 1) := by decide +kernel
theorem dX5_copies_1 : decode cX5_copies 1 = .ok (.iconst 0, 1) := by decide +kernel
theorem dX5_copies_2 : decode cX5_copies 2 = .ok (.putfield 64, 3) := by decide +kernel
theorem dX5_copies_5 : decode cX5_copies 5 = .ok (.iconst 0, 1) := by decide +kernel
theorem dX5_copies_6 : decode cX5_copies 6 = .ok (.istore_n 1, 1) := by decide +kernel
theorem dX5_copies_7 : decode cX5_copies 7 = .ok (.aload_n 0, 1) := by decide +kernel
theorem dX5_copies_8 : decode cX5_copies 8 = .ok (.getfield 17, 3) := by decide +kernel
theorem dX5_copies_11 : decode cX5_copies 11 = .ok (.aload_n 0, 1) := by decide +kernel
theorem dX5_copies_12 : decode cX5_copies 12 = .ok (.getfield 23, 3) := by decide +kernel
theorem dX5_copies_15 : decode cX5_copies 15 = .ok (.invokestatic 168, 3) := by decide +kernel
theorem dX5_copies_18 : decode cX5_copies 18 = .ok (.aload_n 0, 1) := by decide +kernel
theorem dX5_copies_19 : decode cX5_copies 19 = .ok (.invokevirtual 279, 3) := by decide +kernel
theorem dX5_copies_22 : decode cX5_copies 22 = .ok (.ifCond .le 13, 3) := by decide +kernel
theorem dX5_copies_25 : decode cX5_copies 25 = .ok (.aload_n 0, 1) := by decide +kernel
theorem dX5_copies_26 : decode cX5_copies 26 = .ok (.invokevirtual 293, 3) := by decide +kernel
theorem dX5_copies_29 : decode cX5_copies 29 = .ok (.iinc 1 1, 3) := by decide +kernel
theorem dX5_copies_32 : decode cX5_copies 32 = .ok (.goto (-14), 3) := by decide +kernel
theorem dX5_copies_35 : decode cX5_copies 35 = .ok (.aload_n 0, 1) := by decide +kernel
theorem dX5_copies_36 : decode cX5_copies 36 = .ok (.getfield 23, 3) := by decide +kernel
theorem dX5_copies_39 : decode cX5_copies 39 = .ok (.aload_n 0, 1) := by decide +kernel
theorem dX5_copies_40 : decode cX5_copies 40 = .ok (.getfield 17, 3) := by decide +kernel
theorem dX5_copies_43 : decode cX5_copies 43 = .ok (.invokestatic 168, 3) := by decide +kernel
theorem dX5_copies_46 : decode cX5_copies 46 = .ok (.iload_n 1, 1) := by decide +kernel
theorem dX5_copies_47 : decode cX5_copies 47 = .ok (.ireturn, 1) := by decide +kernel
theorem dX5_longest_0 : decode cX5_longest 0 = .ok (.aload_n 0, 1) := by decide +kernel
theorem dX5_longest_1 : decode cX5_longest 1 = .ok (.iconst 0, 1) := by decide +kernel
theorem dX5_longest_2 : decode cX5_longest 2 = .ok (.putfield 64, 3) := by decide +kernel
theorem dX5_longest_5 : decode cX5_longest 5 = .ok (.aload_n 0, 1) := by decide +kernel
theorem dX5_longest_6 : decode cX5_longest 6 = .ok (.iload_n 1, 1) := by decide +kernel
theorem dX5_longest_7 : decode cX5_longest 7 = .ok (.iconst 0, 1) := by decide +kernel
theorem dX5_longest_8 : decode cX5_longest 8 = .ok (.aload_n 0, 1) := by decide +kernel
theorem dX5_longest_9 : decode cX5_longest 9 = .ok (.getfield 17, 3) := by decide +kernel
theorem dX5_longest_12 : decode cX5_longest 12 = .ok (.iconst 3, 1) := by decide +kernel
theorem dX5_longest_13 : decode cX5_longest 13 = .ok (.iaload, 1) := by decide +kernel
theorem dX5_longest_14 : decode cX5_longest 14 = .ok (.iconst 1, 1) := by decide +kernel
theorem dX5_longest_15 : decode cX5_longest 15 = .ok (.isub, 1) := by decide +kernel
theorem dX5_longest_16 : decode cX5_longest 16 = .ok (.invokestatic 86, 3) := by decide +kernel
theorem dX5_longest_19 : decode cX5_longest 19 = .ok (.ifCond .ne 7, 3) := by decide +kernel
theorem dX5_longest_22 : decode cX5_longest 22 = .ok (.iconst 1, 1) := by decide +kernel
theorem dX5_longest_23 : decode cX5_longest 23 = .ok (.goto 4, 3) := by decide +kernel
theorem dX5_longest_26 : decode cX5_longest 26 = .ok (.iconst 0, 1) := by decide +kernel
theorem dX5_longest_27 : decode cX5_longest 27 = .ok (.iconst 1, 1) := by decide +kernel
theorem dX5_longest_28 : decode cX5_longest 28 = .ok (.invokevirtual 156, 3) := by decide +kernel
theorem dX5_longest_31 : decode cX5_longest 31 = .ok (.ifCond .eq 7, 3) := by decide +kernel
theorem dX5_longest_34 : decode cX5_longest 34 = .ok (.iconst 0, 1) := by decide +kernel
theorem dX5_longest_35 : decode cX5_longest 35 = .ok (.goto 8, 3) := by decide +kernel
theorem dX5_longest_38 : decode cX5_longest 38 = .ok (.aload_n 0, 1) := by decide +kernel
theorem dX5_longest_39 : decode cX5_longest 39 = .ok (.iload_n 1, 1) := by decide +kernel
theorem dX5_longest_40 : decode cX5_longest 40 = .ok (.invokevirtual 214, 3) := by decide +kernel
theorem dX5_longest_43 : decode cX5_longest 43 = .ok (.ireturn, 1) := by decide +kernel
theorem dX5_isWanted_0 : decode cX5_isWanted 0 = .ok (.aload_n 0, 1) := by decide +kernel
theorem dX5_isWanted_1 : decode cX5_isWanted 1 = .ok (.iload_n 1, 1) := by decide +kernel
theorem dX5_isWanted_2 : decode cX5_isWanted 2 = .ok (.iload_n 2, 1) := by decide +kernel
theorem dX5_isWanted_3 : decode cX5_isWanted 3 = .ok (.invokevirtual 191, 3) := by decide +kernel
theorem dX5_isWanted_6 : decode cX5_isWanted 6 = .ok (.ifCond .eq 20, 3) := by decide +kernel
theorem dX5_isWanted_9 : decode cX5_isWanted 9 = .ok (.aload_n 0, 1) := by decide +kernel
theorem dX5_isWanted_10 : decode cX5_isWanted 10 = .ok (.aload_n 0, 1) := by decide +kernel
theorem dX5_isWanted_11 : decode cX5_isWanted 11 = .ok (.iload_n 1, 1) := by decide +kernel
theorem dX5_isWanted_12 : decode cX5_isWanted 12 = .ok (.iload_n 2, 1) := by decide +kernel
theorem dX5_isWanted_13 : decode cX5_isWanted 13 = .ok (.invokevirtual 181, 3) := by decide +kernel
theorem dX5_isWanted_16 : decode cX5_isWanted 16 = .ok (.invokevirtual 272, 3) := by decide +kernel
theorem dX5_isWanted_19 : decode cX5_isWanted 19 = .ok (.ifCond .le 7, 3) := by decide +kernel
theorem dX5_isWanted_22 : decode cX5_isWanted 22 = .ok (.iconst 1, 1) := by decide +kernel
theorem dX5_isWanted_23 : decode cX5_isWanted 23 = .ok (.goto 4, 3) := by decide +kernel
theorem dX5_isWanted_26 : decode cX5_isWanted 26 = .ok (.iconst 0, 1) := by decide +kernel
theorem dX5_isWanted_27 : decode cX5_isWanted 27 = .ok (.ireturn, 1) := by decide +kernel
theorem dX5_clashesNow_0 : decode cX5_clashesNow 0 = .ok (.iconst 0, 1) := by decide +kernel
theorem dX5_clashesNow_1 : decode cX5_clashesNow 1 = .ok (.istore_n 1, 1) := by decide +kernel
theorem dX5_clashesNow_2 : decode cX5_clashesNow 2 = .ok (.iconst 0, 1) := by decide +kernel
theorem dX5_clashesNow_3 : decode cX5_clashesNow 3 = .ok (.istore_n 2, 1) := by decide +kernel
theorem dX5_clashesNow_4 : decode cX5_clashesNow 4 = .ok (.iload_n 2, 1) := by decide +kernel
theorem dX5_clashesNow_5 : decode cX5_clashesNow 5 = .ok (.aload_n 0, 1) := by decide +kernel
theorem dX5_clashesNow_6 : decode cX5_clashesNow 6 = .ok (.invokevirtual 172, 3) := by decide +kernel
theorem dX5_clashesNow_9 : decode cX5_clashesNow 9 = .ok (.if_icmp .ge 39, 3) := by decide +kernel
theorem dX5_clashesNow_12 : decode cX5_clashesNow 12 = .ok (.iload_n 1, 1) := by decide +kernel
theorem dX5_clashesNow_13 : decode cX5_clashesNow 13 = .ok (.aload_n 0, 1) := by decide +kernel
theorem dX5_clashesNow_14 : decode cX5_clashesNow 14 = .ok (.iconst 0, 1) := by decide +kernel
theorem dX5_clashesNow_15 : decode cX5_clashesNow 15 = .ok (.iload_n 2, 1) := by decide +kernel
theorem dX5_clashesNow_16 : decode cX5_clashesNow 16 = .ok (.invokevirtual 296, 3) := by decide +kernel
theorem dX5_clashesNow_19 : decode cX5_clashesNow 19 = .ok (.ifCond .eq 20, 3) := by decide +kernel
theorem dX5_clashesNow_22 : decode cX5_clashesNow 22 = .ok (.aload_n 0, 1) := by decide +kernel
theorem dX5_clashesNow_23 : decode cX5_clashesNow 23 = .ok (.iconst 1, 1) := by decide +kernel
theorem dX5_clashesNow_24 : decode cX5_clashesNow 24 = .ok (.aload_n 0, 1) := by decide +kernel
theorem dX5_clashesNow_25 : decode cX5_clashesNow 25 = .ok (.iload_n 2, 1) := by decide +kernel
theorem dX5_clashesNow_26 : decode cX5_clashesNow 26 = .ok (.invokevirtual 175, 3) := by decide +kernel
theorem dX5_clashesNow_29 : decode cX5_clashesNow 29 = .ok (.invokevirtual 296, 3) := by decide +kernel
theorem dX5_clashesNow_32 : decode cX5_clashesNow 32 = .ok (.ifCond .eq 7, 3) := by decide +kernel
theorem dX5_clashesNow_35 : decode cX5_clashesNow 35 = .ok (.iconst 1, 1) := by decide +kernel
theorem dX5_clashesNow_36 : decode cX5_clashesNow 36 = .ok (.goto 4, 3) := by decide +kernel
theorem dX5_clashesNow_39 : decode cX5_clashesNow 39 = .ok (.iconst 0, 1) := by decide +kernel
theorem dX5_clashesNow_40 : decode cX5_clashesNow 40 = .ok (.iadd, 1) := by decide +kernel
theorem dX5_clashesNow_41 : decode cX5_clashesNow 41 = .ok (.istore_n 1, 1) := by decide +kernel
theorem dX5_clashesNow_42 : decode cX5_clashesNow 42 = .ok (.iinc 2 1, 3) := by decide +kernel
theorem dX5_clashesNow_45 : decode cX5_clashesNow 45 = .ok (.goto (-41), 3) := by decide +kernel
theorem dX5_clashesNow_48 : decode cX5_clashesNow 48 = .ok (.iload_n 1, 1) := by decide +kernel
theorem dX5_clashesNow_49 : decode cX5_clashesNow 49 = .ok (.ireturn, 1) := by decide +kernel
theorem dX5_clashes_0 : decode cX5_clashes 0 = .ok (.aload_n 0, 1) := by decide +kernel
theorem dX5_clashes_1 : decode cX5_clashes 1 = .ok (.iconst 0, 1) := by decide +kernel
theorem dX5_clashes_2 : decode cX5_clashes 2 = .ok (.putfield 64, 3) := by decide +kernel
theorem dX5_clashes_5 : decode cX5_clashes 5 = .ok (.aload_n 0, 1) := by decide +kernel
theorem dX5_clashes_6 : decode cX5_clashes 6 = .ok (.invokevirtual 299, 3) := by decide +kernel
theorem dX5_clashes_9 : decode cX5_clashes 9 = .ok (.ireturn, 1) := by decide +kernel
theorem dX5_meanSize_0 : decode cX5_meanSize 0 = .ok (.aload_n 0, 1) := by decide +kernel
theorem dX5_meanSize_1 : decode cX5_meanSize 1 = .ok (.iconst 0, 1) := by decide +kernel
theorem dX5_meanSize_2 : decode cX5_meanSize 2 = .ok (.putfield 64, 3) := by decide +kernel
theorem dX5_meanSize_5 : decode cX5_meanSize 5 = .ok (.aload_n 0, 1) := by decide +kernel
theorem dX5_meanSize_6 : decode cX5_meanSize 6 = .ok (.invokevirtual 279, 3) := by decide +kernel
theorem dX5_meanSize_9 : decode cX5_meanSize 9 = .ok (.ifCond .gt 5, 3) := by decide +kernel
theorem dX5_meanSize_12 : decode cX5_meanSize 12 = .ok (.dconst 0, 1) := by decide +kernel
theorem dX5_meanSize_13 : decode cX5_meanSize 13 = .ok (.dreturn, 1) := by decide +kernel
theorem dX5_meanSize_14 : decode cX5_meanSize 14 = .ok (.aload_n 0, 1) := by decide +kernel
theorem dX5_meanSize_15 : decode cX5_meanSize 15 = .ok (.invokevirtual 285, 3) := by decide +kernel
theorem dX5_meanSize_18 : decode cX5_meanSize 18 = .ok (.iconst 0, 1) := by decide +kernel
theorem dX5_meanSize_19 : decode cX5_meanSize 19 = .ok (.istore_n 1, 1) := by decide +kernel
theorem dX5_meanSize_20 : decode cX5_meanSize 20 = .ok (.iconst 0, 1) := by decide +kernel
theorem dX5_meanSize_21 : decode cX5_meanSize 21 = .ok (.istore_n 2, 1) := by decide +kernel
theorem dX5_meanSize_22 : decode cX5_meanSize 22 = .ok (.iload_n 2, 1) := by decide +kernel
theorem dX5_meanSize_23 : decode cX5_meanSize 23 = .ok (.aload_n 0, 1) := by decide +kernel
theorem dX5_meanSize_24 : decode cX5_meanSize 24 = .ok (.getfield 17, 3) := by decide +kernel
theorem dX5_meanSize_27 : decode cX5_meanSize 27 = .ok (.iconst 3, 1) := by decide +kernel
theorem dX5_meanSize_28 : decode cX5_meanSize 28 = .ok (.iaload, 1) := by decide +kernel
theorem dX5_meanSize_29 : decode cX5_meanSize 29 = .ok (.if_icmp .ge 18, 3) := by decide +kernel
theorem dX5_meanSize_32 : decode cX5_meanSize 32 = .ok (.iload_n 1, 1) := by decide +kernel
theorem dX5_meanSize_33 : decode cX5_meanSize 33 = .ok (.aload_n 0, 1) := by decide +kernel
theorem dX5_meanSize_34 : decode cX5_meanSize 34 = .ok (.getfield 57, 3) := by decide +kernel
theorem dX5_meanSize_37 : decode cX5_meanSize 37 = .ok (.iload_n 2, 1) := by decide +kernel
theorem dX5_meanSize_38 : decode cX5_meanSize 38 = .ok (.iaload, 1) := by decide +kernel
theorem dX5_meanSize_39 : decode cX5_meanSize 39 = .ok (.iadd, 1) := by decide +kernel
theorem dX5_meanSize_40 : decode cX5_meanSize 40 = .ok (.istore_n 1, 1) := by decide +kernel
theorem dX5_meanSize_41 : decode cX5_meanSize 41 = .ok (.iinc 2 1, 3) := by decide +kernel
theorem dX5_meanSize_44 : decode cX5_meanSize 44 = .ok (.goto (-22), 3) := by decide +kernel
theorem dX5_meanSize_47 : decode cX5_meanSize 47 = .ok (.iload_n 1, 1) := by decide +kernel
theorem dX5_meanSize_48 : decode cX5_meanSize 48 = .ok (.i2d, 1) := by decide +kernel
theorem dX5_meanSize_49 : decode cX5_meanSize 49 = .ok (.aload_n 0, 1) := by decide +kernel
theorem dX5_meanSize_50 : decode cX5_meanSize 50 = .ok (.getfield 17, 3) := by decide +kernel
theorem dX5_meanSize_53 : decode cX5_meanSize 53 = .ok (.iconst 3, 1) := by decide +kernel
theorem dX5_meanSize_54 : decode cX5_meanSize 54 = .ok (.iaload, 1) := by decide +kernel
theorem dX5_meanSize_55 : decode cX5_meanSize 55 = .ok (.i2d, 1) := by decide +kernel
theorem dX5_meanSize_56 : decode cX5_meanSize 56 = .ok (.ddiv, 1) := by decide +kernel
theorem dX5_meanSize_57 : decode cX5_meanSize 57 = .ok (.dreturn, 1) := by decide +kernel
theorem dX5_remember_0 : decode cX5_remember 0 = .ok (.aload_n 0, 1) := by decide +kernel
theorem dX5_remember_1 : decode cX5_remember 1 = .ok (.getfield 302, 3) := by decide +kernel
theorem dX5_remember_4 : decode cX5_remember 4 = .ok (.bipush 8, 2) := by decide +kernel
theorem dX5_remember_6 : decode cX5_remember 6 = .ok (.if_icmp .ne 44, 3) := by decide +kernel
theorem dX5_remember_9 : decode cX5_remember 9 = .ok (.iconst 1, 1) := by decide +kernel
theorem dX5_remember_10 : decode cX5_remember 10 = .ok (.istore_n 1, 1) := by decide +kernel
theorem dX5_remember_11 : decode cX5_remember 11 = .ok (.iload_n 1, 1) := by decide +kernel
theorem dX5_remember_12 : decode cX5_remember 12 = .ok (.bipush 8, 2) := by decide +kernel
theorem dX5_remember_14 : decode cX5_remember 14 = .ok (.if_icmp .ge 26, 3) := by decide +kernel
theorem dX5_remember_17 : decode cX5_remember 17 = .ok (.aload_n 0, 1) := by decide +kernel
theorem dX5_remember_18 : decode cX5_remember 18 = .ok (.getfield 28, 3) := by decide +kernel
theorem dX5_remember_21 : decode cX5_remember 21 = .ok (.iload_n 1, 1) := by decide +kernel
theorem dX5_remember_22 : decode cX5_remember 22 = .ok (.aaload, 1) := by decide +kernel
theorem dX5_remember_23 : decode cX5_remember 23 = .ok (.aload_n 0, 1) := by decide +kernel
theorem dX5_remember_24 : decode cX5_remember 24 = .ok (.getfield 28, 3) := by decide +kernel
theorem dX5_remember_27 : decode cX5_remember 27 = .ok (.iload_n 1, 1) := by decide +kernel
theorem dX5_remember_28 : decode cX5_remember 28 = .ok (.iconst 1, 1) := by decide +kernel
theorem dX5_remember_29 : decode cX5_remember 29 = .ok (.isub, 1) := by decide +kernel
theorem dX5_remember_30 : decode cX5_remember 30 = .ok (.aaload, 1) := by decide +kernel
theorem dX5_remember_31 : decode cX5_remember 31 = .ok (.invokestatic 168, 3) := by decide +kernel
theorem dX5_remember_34 : decode cX5_remember 34 = .ok (.iinc 1 1, 3) := by decide +kernel
theorem dX5_remember_37 : decode cX5_remember 37 = .ok (.goto (-26), 3) := by decide +kernel
theorem dX5_remember_40 : decode cX5_remember 40 = .ok (.aload_n 0, 1) := by decide +kernel
theorem dX5_remember_41 : decode cX5_remember 41 = .ok (.dup, 1) := by decide +kernel
theorem dX5_remember_42 : decode cX5_remember 42 = .ok (.getfield 302, 3) := by decide +kernel
theorem dX5_remember_45 : decode cX5_remember 45 = .ok (.iconst 1, 1) := by decide +kernel
theorem dX5_remember_46 : decode cX5_remember 46 = .ok (.isub, 1) := by decide +kernel
theorem dX5_remember_47 : decode cX5_remember 47 = .ok (.putfield 302, 3) := by decide +kernel
theorem dX5_remember_50 : decode cX5_remember 50 = .ok (.aload_n 0, 1) := by decide +kernel
theorem dX5_remember_51 : decode cX5_remember 51 = .ok (.getfield 17, 3) := by decide +kernel
theorem dX5_remember_54 : decode cX5_remember 54 = .ok (.aload_n 0, 1) := by decide +kernel
theorem dX5_remember_55 : decode cX5_remember 55 = .ok (.getfield 28, 3) := by decide +kernel
theorem dX5_remember_58 : decode cX5_remember 58 = .ok (.aload_n 0, 1) := by decide +kernel
theorem dX5_remember_59 : decode cX5_remember 59 = .ok (.getfield 302, 3) := by decide +kernel
theorem dX5_remember_62 : decode cX5_remember 62 = .ok (.aaload, 1) := by decide +kernel
theorem dX5_remember_63 : decode cX5_remember 63 = .ok (.invokestatic 168, 3) := by decide +kernel
theorem dX5_remember_66 : decode cX5_remember 66 = .ok (.aload_n 0, 1) := by decide +kernel
theorem dX5_remember_67 : decode cX5_remember 67 = .ok (.dup, 1) := by decide +kernel
theorem dX5_remember_68 : decode cX5_remember 68 = .ok (.getfield 302, 3) := by decide +kernel
theorem dX5_remember_71 : decode cX5_remember 71 = .ok (.iconst 1, 1) := by decide +kernel
theorem dX5_remember_72 : decode cX5_remember 72 = .ok (.iadd, 1) := by decide +kernel
theorem dX5_remember_73 : decode cX5_remember 73 = .ok (.putfield 302, 3) := by decide +kernel
theorem dX5_remember_76 : decode cX5_remember 76 = .ok (.return_, 1) := by decide +kernel
theorem dX5_areLetters_0 : decode cX5_areLetters 0 = .ok (.iconst 0, 1) := by decide +kernel
theorem dX5_areLetters_1 : decode cX5_areLetters 1 = .ok (.istore_n 2, 1) := by decide +kernel
theorem dX5_areLetters_2 : decode cX5_areLetters 2 = .ok (.iload_n 2, 1) := by decide +kernel
theorem dX5_areLetters_3 : decode cX5_areLetters 3 = .ok (.iload_n 1, 1) := by decide +kernel
theorem dX5_areLetters_4 : decode cX5_areLetters 4 = .ok (.if_icmp .ge 27, 3) := by decide +kernel
theorem dX5_areLetters_7 : decode cX5_areLetters 7 = .ok (.aload_n 0, 1) := by decide +kernel
theorem dX5_areLetters_8 : decode cX5_areLetters 8 = .ok (.getfield 9, 3) := by decide +kernel
theorem dX5_areLetters_11 : decode cX5_areLetters 11 = .ok (.iload_n 2, 1) := by decide +kernel
theorem dX5_areLetters_12 : decode cX5_areLetters 12 = .ok (.iaload, 1) := by decide +kernel
theorem dX5_areLetters_13 : decode cX5_areLetters 13 = .ok (.bipush 97, 2) := by decide +kernel
theorem dX5_areLetters_15 : decode cX5_areLetters 15 = .ok (.bipush 122, 2) := by decide +kernel
theorem dX5_areLetters_17 : decode cX5_areLetters 17 = .ok (.invokestatic 86, 3) := by decide +kernel
theorem dX5_areLetters_20 : decode cX5_areLetters 20 = .ok (.ifCond .ne 5, 3) := by decide +kernel
theorem dX5_areLetters_23 : decode cX5_areLetters 23 = .ok (.iconst 0, 1) := by decide +kernel
theorem dX5_areLetters_24 : decode cX5_areLetters 24 = .ok (.ireturn, 1) := by decide +kernel
theorem dX5_areLetters_25 : decode cX5_areLetters 25 = .ok (.iinc 2 1, 3) := by decide +kernel
theorem dX5_areLetters_28 : decode cX5_areLetters 28 = .ok (.goto (-26), 3) := by decide +kernel
theorem dX5_areLetters_31 : decode cX5_areLetters 31 = .ok (.iconst 1, 1) := by decide +kernel
theorem dX5_areLetters_32 : decode cX5_areLetters 32 = .ok (.ireturn, 1) := by decide +kernel
theorem dX5_tell_0 : decode cX5_tell 0 = .ok (.aload_n 0, 1) := by decide +kernel
theorem dX5_tell_1 : decode cX5_tell 1 = .ok (.iconst 0, 1) := by decide +kernel
theorem dX5_tell_2 : decode cX5_tell 2 = .ok (.putfield 64, 3) := by decide +kernel
theorem dX5_tell_5 : decode cX5_tell 5 = .ok (.aload_n 0, 1) := by decide +kernel
theorem dX5_tell_6 : decode cX5_tell 6 = .ok (.iload_n 1, 1) := by decide +kernel
theorem dX5_tell_7 : decode cX5_tell 7 = .ok (.iconst 1, 1) := by decide +kernel
theorem dX5_tell_8 : decode cX5_tell 8 = .ok (.bipush 24, 2) := by decide +kernel
theorem dX5_tell_10 : decode cX5_tell 10 = .ok (.aload_n 0, 1) := by decide +kernel
theorem dX5_tell_11 : decode cX5_tell 11 = .ok (.getfield 67, 3) := by decide +kernel
theorem dX5_tell_14 : decode cX5_tell 14 = .ok (.invokestatic 119, 3) := by decide +kernel
theorem dX5_tell_17 : decode cX5_tell 17 = .ok (.invokestatic 86, 3) := by decide +kernel
theorem dX5_tell_20 : decode cX5_tell 20 = .ok (.ifCond .eq 11, 3) := by decide +kernel
theorem dX5_tell_23 : decode cX5_tell 23 = .ok (.aload_n 0, 1) := by decide +kernel
theorem dX5_tell_24 : decode cX5_tell 24 = .ok (.iload_n 1, 1) := by decide +kernel
theorem dX5_tell_25 : decode cX5_tell 25 = .ok (.invokevirtual 305, 3) := by decide +kernel
theorem dX5_tell_28 : decode cX5_tell 28 = .ok (.ifCond .ne 7, 3) := by decide +kernel
theorem dX5_tell_31 : decode cX5_tell 31 = .ok (.iconst 1, 1) := by decide +kernel
theorem dX5_tell_32 : decode cX5_tell 32 = .ok (.goto 4, 3) := by decide +kernel
theorem dX5_tell_35 : decode cX5_tell 35 = .ok (.iconst 0, 1) := by decide +kernel
theorem dX5_tell_36 : decode cX5_tell 36 = .ok (.iconst 1, 1) := by decide +kernel
theorem dX5_tell_37 : decode cX5_tell 37 = .ok (.invokevirtual 156, 3) := by decide +kernel
theorem dX5_tell_40 : decode cX5_tell 40 = .ok (.ifCond .eq 5, 3) := by decide +kernel
theorem dX5_tell_43 : decode cX5_tell 43 = .ok (.iconst 0, 1) := by decide +kernel
theorem dX5_tell_44 : decode cX5_tell 44 = .ok (.ireturn, 1) := by decide +kernel
theorem dX5_tell_45 : decode cX5_tell 45 = .ok (.aload_n 0, 1) := by decide +kernel
theorem dX5_tell_46 : decode cX5_tell 46 = .ok (.invokevirtual 165, 3) := by decide +kernel
theorem dX5_tell_49 : decode cX5_tell 49 = .ok (.aload_n 0, 1) := by decide +kernel
theorem dX5_tell_50 : decode cX5_tell 50 = .ok (.iconst 0, 1) := by decide +kernel
theorem dX5_tell_51 : decode cX5_tell 51 = .ok (.putfield 67, 3) := by decide +kernel
theorem dX5_tell_54 : decode cX5_tell 54 = .ok (.aload_n 0, 1) := by decide +kernel
theorem dX5_tell_55 : decode cX5_tell 55 = .ok (.getfield 17, 3) := by decide +kernel
theorem dX5_tell_58 : decode cX5_tell 58 = .ok (.iconst 3, 1) := by decide +kernel
theorem dX5_tell_59 : decode cX5_tell 59 = .ok (.iload_n 1, 1) := by decide +kernel
theorem dX5_tell_60 : decode cX5_tell 60 = .ok (.iastore, 1) := by decide +kernel
theorem dX5_tell_61 : decode cX5_tell 61 = .ok (.iconst 0, 1) := by decide +kernel
theorem dX5_tell_62 : decode cX5_tell 62 = .ok (.istore_n 2, 1) := by decide +kernel
theorem dX5_tell_63 : decode cX5_tell 63 = .ok (.iload_n 2, 1) := by decide +kernel
theorem dX5_tell_64 : decode cX5_tell 64 = .ok (.iload_n 1, 1) := by decide +kernel
theorem dX5_tell_65 : decode cX5_tell 65 = .ok (.if_icmp .ge 28, 3) := by decide +kernel
theorem dX5_tell_68 : decode cX5_tell 68 = .ok (.aload_n 0, 1) := by decide +kernel
theorem dX5_tell_69 : decode cX5_tell 69 = .ok (.getfield 17, 3) := by decide +kernel
theorem dX5_tell_72 : decode cX5_tell 72 = .ok (.sipush 162, 3) := by decide +kernel
theorem dX5_tell_75 : decode cX5_tell 75 = .ok (.iload_n 2, 1) := by decide +kernel
theorem dX5_tell_76 : decode cX5_tell 76 = .ok (.iadd, 1) := by decide +kernel
theorem dX5_tell_77 : decode cX5_tell 77 = .ok (.aload_n 0, 1) := by decide +kernel
theorem dX5_tell_78 : decode cX5_tell 78 = .ok (.getfield 9, 3) := by decide +kernel
theorem dX5_tell_81 : decode cX5_tell 81 = .ok (.iload_n 2, 1) := by decide +kernel
theorem dX5_tell_82 : decode cX5_tell 82 = .ok (.iaload, 1) := by decide +kernel
theorem dX5_tell_83 : decode cX5_tell 83 = .ok (.bipush 97, 2) := by decide +kernel
theorem dX5_tell_85 : decode cX5_tell 85 = .ok (.isub, 1) := by decide +kernel
theorem dX5_tell_86 : decode cX5_tell 86 = .ok (.iastore, 1) := by decide +kernel
theorem dX5_tell_87 : decode cX5_tell 87 = .ok (.iinc 2 1, 3) := by decide +kernel
theorem dX5_tell_90 : decode cX5_tell 90 = .ok (.goto (-27), 3) := by decide +kernel
theorem dX5_tell_93 : decode cX5_tell 93 = .ok (.aload_n 0, 1) := by decide +kernel
theorem dX5_tell_94 : decode cX5_tell 94 = .ok (.invokevirtual 241, 3) := by decide +kernel
theorem dX5_tell_97 : decode cX5_tell 97 = .ok (.ireturn, 1) := by decide +kernel
theorem dX5_cut_0 : decode cX5_cut 0 = .ok (.aload_n 0, 1) := by decide +kernel
theorem dX5_cut_1 : decode cX5_cut 1 = .ok (.iconst 0, 1) := by decide +kernel
theorem dX5_cut_2 : decode cX5_cut 2 = .ok (.putfield 64, 3) := by decide +kernel
theorem dX5_cut_5 : decode cX5_cut 5 = .ok (.aload_n 0, 1) := by decide +kernel
theorem dX5_cut_6 : decode cX5_cut 6 = .ok (.invokevirtual 279, 3) := by decide +kernel
theorem dX5_cut_9 : decode cX5_cut 9 = .ok (.istore_n 1, 1) := by decide +kernel
theorem dX5_cut_10 : decode cX5_cut 10 = .ok (.aload_n 0, 1) := by decide +kernel
theorem dX5_cut_11 : decode cX5_cut 11 = .ok (.iload_n 1, 1) := by decide +kernel
theorem dX5_cut_12 : decode cX5_cut 12 = .ok (.ifCond .gt 7, 3) := by decide +kernel
theorem dX5_cut_15 : decode cX5_cut 15 = .ok (.iconst 1, 1) := by decide +kernel
theorem dX5_cut_16 : decode cX5_cut 16 = .ok (.goto 4, 3) := by decide +kernel
theorem dX5_cut_19 : decode cX5_cut 19 = .ok (.iconst 0, 1) := by decide +kernel
theorem dX5_cut_20 : decode cX5_cut 20 = .ok (.iconst 1, 1) := by decide +kernel
theorem dX5_cut_21 : decode cX5_cut 21 = .ok (.invokevirtual 156, 3) := by decide +kernel
theorem dX5_cut_24 : decode cX5_cut 24 = .ok (.ifCond .eq 5, 3) := by decide +kernel
theorem dX5_cut_27 : decode cX5_cut 27 = .ok (.iconst 0, 1) := by decide +kernel
theorem dX5_cut_28 : decode cX5_cut 28 = .ok (.ireturn, 1) := by decide +kernel
theorem dX5_cut_29 : decode cX5_cut 29 = .ok (.aload_n 0, 1) := by decide +kernel
theorem dX5_cut_30 : decode cX5_cut 30 = .ok (.invokevirtual 165, 3) := by decide +kernel
theorem dX5_cut_33 : decode cX5_cut 33 = .ok (.aload_n 0, 1) := by decide +kernel
theorem dX5_cut_34 : decode cX5_cut 34 = .ok (.invokevirtual 293, 3) := by decide +kernel
theorem dX5_cut_37 : decode cX5_cut 37 = .ok (.iload_n 1, 1) := by decide +kernel
theorem dX5_cut_38 : decode cX5_cut 38 = .ok (.ireturn, 1) := by decide +kernel
theorem dX5_isCut_0 : decode cX5_isCut 0 = .ok (.iload_n 2, 1) := by decide +kernel
theorem dX5_isCut_1 : decode cX5_isCut 1 = .ok (.aload_n 0, 1) := by decide +kernel
theorem dX5_isCut_2 : decode cX5_isCut 2 = .ok (.getfield 17, 3) := by decide +kernel
theorem dX5_isCut_5 : decode cX5_isCut 5 = .ok (.iconst 0, 1) := by decide +kernel
theorem dX5_isCut_6 : decode cX5_isCut 6 = .ok (.iaload, 1) := by decide +kernel
theorem dX5_isCut_7 : decode cX5_isCut 7 = .ok (.irem, 1) := by decide +kernel
theorem dX5_isCut_8 : decode cX5_isCut 8 = .ok (.iload_n 3, 1) := by decide +kernel
theorem dX5_isCut_9 : decode cX5_isCut 9 = .ok (.iadd, 1) := by decide +kernel
theorem dX5_isCut_10 : decode cX5_isCut 10 = .ok (.aload_n 0, 1) := by decide +kernel
theorem dX5_isCut_11 : decode cX5_isCut 11 = .ok (.getfield 17, 3) := by decide +kernel
theorem dX5_isCut_14 : decode cX5_isCut 14 = .ok (.iconst 0, 1) := by decide +kernel
theorem dX5_isCut_15 : decode cX5_isCut 15 = .ok (.iaload, 1) := by decide +kernel
theorem dX5_isCut_16 : decode cX5_isCut 16 = .ok (.if_icmp .le 5, 3) := by decide +kernel
theorem dX5_isCut_19 : decode cX5_isCut 19 = .ok (.iconst 0, 1) := by decide +kernel
theorem dX5_isCut_20 : decode cX5_isCut 20 = .ok (.ireturn, 1) := by decide +kernel
theorem dX5_isCut_21 : decode cX5_isCut 21 = .ok (.iconst 0, 1) := by decide +kernel
theorem dX5_isCut_22 : decode cX5_isCut 22 = .ok (.istore 4, 2) := by decide +kernel
theorem dX5_isCut_24 : decode cX5_isCut 24 = .ok (.iload 4, 2) := by decide +kernel
theorem dX5_isCut_26 : decode cX5_isCut 26 = .ok (.iload_n 3, 1) := by decide +kernel
theorem dX5_isCut_27 : decode cX5_isCut 27 = .ok (.if_icmp .ge 23, 3) := by decide +kernel
theorem dX5_isCut_30 : decode cX5_isCut 30 = .ok (.aload_n 0, 1) := by decide +kernel
theorem dX5_isCut_31 : decode cX5_isCut 31 = .ok (.iload_n 1, 1) := by decide +kernel
theorem dX5_isCut_32 : decode cX5_isCut 32 = .ok (.iload_n 2, 1) := by decide +kernel
theorem dX5_isCut_33 : decode cX5_isCut 33 = .ok (.iload 4, 2) := by decide +kernel
theorem dX5_isCut_35 : decode cX5_isCut 35 = .ok (.iadd, 1) := by decide +kernel
theorem dX5_isCut_36 : decode cX5_isCut 36 = .ok (.invokevirtual 191, 3) := by decide +kernel
theorem dX5_isCut_39 : decode cX5_isCut 39 = .ok (.ifCond .ne 5, 3) := by decide +kernel
theorem dX5_isCut_42 : decode cX5_isCut 42 = .ok (.iconst 0, 1) := by decide +kernel
theorem dX5_isCut_43 : decode cX5_isCut 43 = .ok (.ireturn, 1) := by decide +kernel
theorem dX5_isCut_44 : decode cX5_isCut 44 = .ok (.iinc 4 1, 3) := by decide +kernel
theorem dX5_isCut_47 : decode cX5_isCut 47 = .ok (.goto (-23), 3) := by decide +kernel
theorem dX5_isCut_50 : decode cX5_isCut 50 = .ok (.iconst 1, 1) := by decide +kernel
theorem dX5_isCut_51 : decode cX5_isCut 51 = .ok (.ireturn, 1) := by decide +kernel
theorem dX5_snip_0 : decode cX5_snip 0 = .ok (.aload_n 0, 1) := by decide +kernel
theorem dX5_snip_1 : decode cX5_snip 1 = .ok (.iconst 0, 1) := by decide +kernel
theorem dX5_snip_2 : decode cX5_snip 2 = .ok (.putfield 64, 3) := by decide +kernel
theorem dX5_snip_5 : decode cX5_snip 5 = .ok (.aload_n 0, 1) := by decide +kernel
theorem dX5_snip_6 : decode cX5_snip 6 = .ok (.iload_n 1, 1) := by decide +kernel
theorem dX5_snip_7 : decode cX5_snip 7 = .ok (.iload_n 2, 1) := by decide +kernel
theorem dX5_snip_8 : decode cX5_snip 8 = .ok (.invokevirtual 266, 3) := by decide +kernel
theorem dX5_snip_11 : decode cX5_snip 11 = .ok (.ifCond .ne 49, 3) := by decide +kernel
theorem dX5_snip_14 : decode cX5_snip 14 = .ok (.aload_n 0, 1) := by decide +kernel
theorem dX5_snip_15 : decode cX5_snip 15 = .ok (.iload_n 3, 1) := by decide +kernel
theorem dX5_snip_16 : decode cX5_snip 16 = .ok (.iconst 1, 1) := by decide +kernel
theorem dX5_snip_17 : decode cX5_snip 17 = .ok (.bipush 8, 2) := by decide +kernel
theorem dX5_snip_19 : decode cX5_snip 19 = .ok (.invokestatic 86, 3) := by decide +kernel
theorem dX5_snip_22 : decode cX5_snip 22 = .ok (.ifCond .ne 7, 3) := by decide +kernel
theorem dX5_snip_25 : decode cX5_snip 25 = .ok (.iconst 1, 1) := by decide +kernel
theorem dX5_snip_26 : decode cX5_snip 26 = .ok (.goto 4, 3) := by decide +kernel
theorem dX5_snip_29 : decode cX5_snip 29 = .ok (.iconst 0, 1) := by decide +kernel
theorem dX5_snip_30 : decode cX5_snip 30 = .ok (.iconst 2, 1) := by decide +kernel
theorem dX5_snip_31 : decode cX5_snip 31 = .ok (.invokevirtual 156, 3) := by decide +kernel
theorem dX5_snip_34 : decode cX5_snip 34 = .ok (.ifCond .ne 26, 3) := by decide +kernel
theorem dX5_snip_37 : decode cX5_snip 37 = .ok (.aload_n 0, 1) := by decide +kernel
theorem dX5_snip_38 : decode cX5_snip 38 = .ok (.aload_n 0, 1) := by decide +kernel
theorem dX5_snip_39 : decode cX5_snip 39 = .ok (.iload_n 1, 1) := by decide +kernel
theorem dX5_snip_40 : decode cX5_snip 40 = .ok (.iload_n 2, 1) := by decide +kernel
theorem dX5_snip_41 : decode cX5_snip 41 = .ok (.iload_n 3, 1) := by decide +kernel
theorem dX5_snip_42 : decode cX5_snip 42 = .ok (.invokevirtual 308, 3) := by decide +kernel
theorem dX5_snip_45 : decode cX5_snip 45 = .ok (.ifCond .ne 7, 3) := by decide +kernel
theorem dX5_snip_48 : decode cX5_snip 48 = .ok (.iconst 1, 1) := by decide +kernel
theorem dX5_snip_49 : decode cX5_snip 49 = .ok (.goto 4, 3) := by decide +kernel
theorem dX5_snip_52 : decode cX5_snip 52 = .ok (.iconst 0, 1) := by decide +kernel
theorem dX5_snip_53 : decode cX5_snip 53 = .ok (.iconst 3, 1) := by decide +kernel
theorem dX5_snip_54 : decode cX5_snip 54 = .ok (.invokevirtual 156, 3) := by decide +kernel
theorem dX5_snip_57 : decode cX5_snip 57 = .ok (.ifCond .eq 5, 3) := by decide +kernel
theorem dX5_snip_60 : decode cX5_snip 60 = .ok (.iconst 0, 1) := by decide +kernel
theorem dX5_snip_61 : decode cX5_snip 61 = .ok (.ireturn, 1) := by decide +kernel
theorem dX5_snip_62 : decode cX5_snip 62 = .ok (.aload_n 0, 1) := by decide +kernel
theorem dX5_snip_63 : decode cX5_snip 63 = .ok (.invokevirtual 165, 3) := by decide +kernel
theorem dX5_snip_66 : decode cX5_snip 66 = .ok (.aload_n 0, 1) := by decide +kernel
theorem dX5_snip_67 : decode cX5_snip 67 = .ok (.iload_n 1, 1) := by decide +kernel
theorem dX5_snip_68 : decode cX5_snip 68 = .ok (.iload_n 2, 1) := by decide +kernel
theorem dX5_snip_69 : decode cX5_snip 69 = .ok (.iload_n 3, 1) := by decide +kernel
theorem dX5_snip_70 : decode cX5_snip 70 = .ok (.invokevirtual 253, 3) := by decide +kernel
theorem dX5_snip_73 : decode cX5_snip 73 = .ok (.aload_n 0, 1) := by decide +kernel
theorem dX5_snip_74 : decode cX5_snip 74 = .ok (.invokevirtual 257, 3) := by decide +kernel
theorem dX5_snip_77 : decode cX5_snip 77 = .ok (.ireturn, 1) := by decide +kernel
theorem dX5_least_0 : decode cX5_least 0 = .ok (.aload_n 0, 1) := by decide +kernel
theorem dX5_least_1 : decode cX5_least 1 = .ok (.iconst 0, 1) := by decide +kernel
theorem dX5_least_2 : decode cX5_least 2 = .ok (.putfield 64, 3) := by decide +kernel
theorem dX5_least_5 : decode cX5_least 5 = .ok (.aload_n 0, 1) := by decide +kernel
theorem dX5_least_6 : decode cX5_least 6 = .ok (.iload_n 1, 1) := by decide +kernel
theorem dX5_least_7 : decode cX5_least 7 = .ok (.iconst 1, 1) := by decide +kernel
theorem dX5_least_8 : decode cX5_least 8 = .ok (.bipush 9, 2) := by decide +kernel
theorem dX5_least_10 : decode cX5_least 10 = .ok (.invokestatic 86, 3) := by decide +kernel
theorem dX5_least_13 : decode cX5_least 13 = .ok (.ifCond .ne 7, 3) := by decide +kernel
theorem dX5_least_16 : decode cX5_least 16 = .ok (.iconst 1, 1) := by decide +kernel
theorem dX5_least_17 : decode cX5_least 17 = .ok (.goto 4, 3) := by decide +kernel
theorem dX5_least_20 : decode cX5_least 20 = .ok (.iconst 0, 1) := by decide +kernel
theorem dX5_least_21 : decode cX5_least 21 = .ok (.iconst 1, 1) := by decide +kernel
theorem dX5_least_22 : decode cX5_least 22 = .ok (.invokevirtual 156, 3) := by decide +kernel
theorem dX5_least_25 : decode cX5_least 25 = .ok (.ifCond .eq 5, 3) := by decide +kernel
theorem dX5_least_28 : decode cX5_least 28 = .ok (.iconst 0, 1) := by decide +kernel
theorem dX5_least_29 : decode cX5_least 29 = .ok (.ireturn, 1) := by decide +kernel
theorem dX5_least_30 : decode cX5_least 30 = .ok (.aload_n 0, 1) := by decide +kernel
theorem dX5_least_31 : decode cX5_least 31 = .ok (.invokevirtual 165, 3) := by decide +kernel
theorem dX5_least_34 : decode cX5_least 34 = .ok (.aload_n 0, 1) := by decide +kernel
theorem dX5_least_35 : decode cX5_least 35 = .ok (.getfield 17, 3) := by decide +kernel
theorem dX5_least_38 : decode cX5_least 38 = .ok (.iconst 2, 1) := by decide +kernel
theorem dX5_least_39 : decode cX5_least 39 = .ok (.iaload, 1) := by decide +kernel
theorem dX5_least_40 : decode cX5_least 40 = .ok (.istore_n 2, 1) := by decide +kernel
theorem dX5_least_41 : decode cX5_least 41 = .ok (.aload_n 0, 1) := by decide +kernel
theorem dX5_least_42 : decode cX5_least 42 = .ok (.getfield 17, 3) := by decide +kernel
theorem dX5_least_45 : decode cX5_least 45 = .ok (.iconst 2, 1) := by decide +kernel
theorem dX5_least_46 : decode cX5_least 46 = .ok (.iload_n 1, 1) := by decide +kernel
theorem dX5_least_47 : decode cX5_least 47 = .ok (.iastore, 1) := by decide +kernel
theorem dX5_least_48 : decode cX5_least 48 = .ok (.iload_n 2, 1) := by decide +kernel
theorem dX5_least_49 : decode cX5_least 49 = .ok (.ireturn, 1) := by decide +kernel
theorem dX5_mend_0 : decode cX5_mend 0 = .ok (.aload_n 0, 1) := by decide +kernel
theorem dX5_mend_1 : decode cX5_mend 1 = .ok (.iconst 0, 1) := by decide +kernel
theorem dX5_mend_2 : decode cX5_mend 2 = .ok (.putfield 64, 3) := by decide +kernel
theorem dX5_mend_5 : decode cX5_mend 5 = .ok (.aload_n 0, 1) := by decide +kernel
theorem dX5_mend_6 : decode cX5_mend 6 = .ok (.iload_n 1, 1) := by decide +kernel
theorem dX5_mend_7 : decode cX5_mend 7 = .ok (.iconst 0, 1) := by decide +kernel
theorem dX5_mend_8 : decode cX5_mend 8 = .ok (.aload_n 0, 1) := by decide +kernel
theorem dX5_mend_9 : decode cX5_mend 9 = .ok (.invokevirtual 172, 3) := by decide +kernel
theorem dX5_mend_12 : decode cX5_mend 12 = .ok (.iconst 1, 1) := by decide +kernel
theorem dX5_mend_13 : decode cX5_mend 13 = .ok (.isub, 1) := by decide +kernel
theorem dX5_mend_14 : decode cX5_mend 14 = .ok (.invokestatic 86, 3) := by decide +kernel
theorem dX5_mend_17 : decode cX5_mend 17 = .ok (.ifCond .ne 7, 3) := by decide +kernel
theorem dX5_mend_20 : decode cX5_mend 20 = .ok (.iconst 1, 1) := by decide +kernel
theorem dX5_mend_21 : decode cX5_mend 21 = .ok (.goto 4, 3) := by decide +kernel
theorem dX5_mend_24 : decode cX5_mend 24 = .ok (.iconst 0, 1) := by decide +kernel
theorem dX5_mend_25 : decode cX5_mend 25 = .ok (.iconst 1, 1) := by decide +kernel
theorem dX5_mend_26 : decode cX5_mend 26 = .ok (.invokevirtual 156, 3) := by decide +kernel
theorem dX5_mend_29 : decode cX5_mend 29 = .ok (.ifCond .ne 28, 3) := by decide +kernel
theorem dX5_mend_32 : decode cX5_mend 32 = .ok (.aload_n 0, 1) := by decide +kernel
theorem dX5_mend_33 : decode cX5_mend 33 = .ok (.aload_n 0, 1) := by decide +kernel
theorem dX5_mend_34 : decode cX5_mend 34 = .ok (.getfield 17, 3) := by decide +kernel
theorem dX5_mend_37 : decode cX5_mend 37 = .ok (.bipush 114, 2) := by decide +kernel
theorem dX5_mend_39 : decode cX5_mend 39 = .ok (.iload_n 1, 1) := by decide +kernel
theorem dX5_mend_40 : decode cX5_mend 40 = .ok (.iadd, 1) := by decide +kernel
theorem dX5_mend_41 : decode cX5_mend 41 = .ok (.iaload, 1) := by decide +kernel
theorem dX5_mend_42 : decode cX5_mend 42 = .ok (.ifCond .ne 7, 3) := by decide +kernel
theorem dX5_mend_45 : decode cX5_mend 45 = .ok (.iconst 1, 1) := by decide +kernel
theorem dX5_mend_46 : decode cX5_mend 46 = .ok (.goto 4, 3) := by decide +kernel
theorem dX5_mend_49 : decode cX5_mend 49 = .ok (.iconst 0, 1) := by decide +kernel
theorem dX5_mend_50 : decode cX5_mend 50 = .ok (.iconst 2, 1) := by decide +kernel
theorem dX5_mend_51 : decode cX5_mend 51 = .ok (.invokevirtual 156, 3) := by decide +kernel
theorem dX5_mend_54 : decode cX5_mend 54 = .ok (.ifCond .eq 5, 3) := by decide +kernel
theorem dX5_mend_57 : decode cX5_mend 57 = .ok (.iconst 0, 1) := by decide +kernel
theorem dX5_mend_58 : decode cX5_mend 58 = .ok (.ireturn, 1) := by decide +kernel
theorem dX5_mend_59 : decode cX5_mend 59 = .ok (.aload_n 0, 1) := by decide +kernel
theorem dX5_mend_60 : decode cX5_mend 60 = .ok (.invokevirtual 165, 3) := by decide +kernel
theorem dX5_mend_63 : decode cX5_mend 63 = .ok (.aload_n 0, 1) := by decide +kernel
theorem dX5_mend_64 : decode cX5_mend 64 = .ok (.getfield 17, 3) := by decide +kernel
theorem dX5_mend_67 : decode cX5_mend 67 = .ok (.bipush 114, 2) := by decide +kernel
theorem dX5_mend_69 : decode cX5_mend 69 = .ok (.iload_n 1, 1) := by decide +kernel
theorem dX5_mend_70 : decode cX5_mend 70 = .ok (.iadd, 1) := by decide +kernel
theorem dX5_mend_71 : decode cX5_mend 71 = .ok (.iconst 0, 1) := by decide +kernel
theorem dX5_mend_72 : decode cX5_mend 72 = .ok (.iastore, 1) := by decide +kernel
theorem dX5_mend_73 : decode cX5_mend 73 = .ok (.aload_n 0, 1) := by decide +kernel
theorem dX5_mend_74 : decode cX5_mend 74 = .ok (.invokevirtual 257, 3) := by decide +kernel
theorem dX5_mend_77 : decode cX5_mend 77 = .ok (.ireturn, 1) := by decide +kernel
theorem dX5_undo_0 : decode cX5_undo 0 = .ok (.aload_n 0, 1) := by decide +kernel
theorem dX5_undo_1 : decode cX5_undo 1 = .ok (.iconst 0, 1) := by decide +kernel
theorem dX5_undo_2 : decode cX5_undo 2 = .ok (.putfield 64, 3) := by decide +kernel
theorem dX5_undo_5 : decode cX5_undo 5 = .ok (.aload_n 0, 1) := by decide +kernel
theorem dX5_undo_6 : decode cX5_undo 6 = .ok (.getfield 302, 3) := by decide +kernel
theorem dX5_undo_9 : decode cX5_undo 9 = .ok (.ifCond .ne 5, 3) := by decide +kernel
theorem dX5_undo_12 : decode cX5_undo 12 = .ok (.iconst (-1), 1) := by decide +kernel
theorem dX5_undo_13 : decode cX5_undo 13 = .ok (.ireturn, 1) := by decide +kernel
theorem dX5_undo_14 : decode cX5_undo 14 = .ok (.aload_n 0, 1) := by decide +kernel
theorem dX5_undo_15 : decode cX5_undo 15 = .ok (.dup, 1) := by decide +kernel
theorem dX5_undo_16 : decode cX5_undo 16 = .ok (.getfield 302, 3) := by decide +kernel
theorem dX5_undo_19 : decode cX5_undo 19 = .ok (.iconst 1, 1) := by decide +kernel
theorem dX5_undo_20 : decode cX5_undo 20 = .ok (.isub, 1) := by decide +kernel
theorem dX5_undo_21 : decode cX5_undo 21 = .ok (.putfield 302, 3) := by decide +kernel
theorem dX5_undo_24 : decode cX5_undo 24 = .ok (.aload_n 0, 1) := by decide +kernel
theorem dX5_undo_25 : decode cX5_undo 25 = .ok (.getfield 28, 3) := by decide +kernel
theorem dX5_undo_28 : decode cX5_undo 28 = .ok (.aload_n 0, 1) := by decide +kernel
theorem dX5_undo_29 : decode cX5_undo 29 = .ok (.getfield 302, 3) := by decide +kernel
theorem dX5_undo_32 : decode cX5_undo 32 = .ok (.aaload, 1) := by decide +kernel
theorem dX5_undo_33 : decode cX5_undo 33 = .ok (.aload_n 0, 1) := by decide +kernel
theorem dX5_undo_34 : decode cX5_undo 34 = .ok (.getfield 17, 3) := by decide +kernel
theorem dX5_undo_37 : decode cX5_undo 37 = .ok (.invokestatic 168, 3) := by decide +kernel
theorem dX5_undo_40 : decode cX5_undo 40 = .ok (.aload_n 0, 1) := by decide +kernel
theorem dX5_undo_41 : decode cX5_undo 41 = .ok (.getfield 302, 3) := by decide +kernel
theorem dX5_undo_44 : decode cX5_undo 44 = .ok (.ireturn, 1) := by decide +kernel
theorem dX5_checksum_0 : decode cX5_checksum 0 = .ok (.aload_n 0, 1) := by decide +kernel
theorem dX5_checksum_1 : decode cX5_checksum 1 = .ok (.iconst 0, 1) := by decide +kernel
theorem dX5_checksum_2 : decode cX5_checksum 2 = .ok (.putfield 64, 3) := by decide +kernel
theorem dX5_checksum_5 : decode cX5_checksum 5 = .ok (.lconst 0, 1) := by decide +kernel
theorem dX5_checksum_6 : decode cX5_checksum 6 = .ok (.lstore_n 1, 1) := by decide +kernel
theorem dX5_checksum_7 : decode cX5_checksum 7 = .ok (.iconst 0, 1) := by decide +kernel
theorem dX5_checksum_8 : decode cX5_checksum 8 = .ok (.istore_n 3, 1) := by decide +kernel
theorem dX5_checksum_9 : decode cX5_checksum 9 = .ok (.iload_n 3, 1) := by decide +kernel
theorem dX5_checksum_10 : decode cX5_checksum 10 = .ok (.bipush 8, 2) := by decide +kernel
theorem dX5_checksum_12 : decode cX5_checksum 12 = .ok (.if_icmp .ge 22, 3) := by decide +kernel
theorem dX5_checksum_15 : decode cX5_checksum 15 = .ok (.ldc2_w 311, 3) := by decide +kernel
theorem dX5_checksum_18 : decode cX5_checksum 18 = .ok (.lload_n 1, 1) := by decide +kernel
theorem dX5_checksum_19 : decode cX5_checksum 19 = .ok (.lmul, 1) := by decide +kernel
theorem dX5_checksum_20 : decode cX5_checksum 20 = .ok (.aload_n 0, 1) := by decide +kernel
theorem dX5_checksum_21 : decode cX5_checksum 21 = .ok (.iload_n 3, 1) := by decide +kernel
theorem dX5_checksum_22 : decode cX5_checksum 22 = .ok (.invokevirtual 263, 3) := by decide +kernel
theorem dX5_checksum_25 : decode cX5_checksum 25 = .ok (.i2l, 1) := by decide +kernel
theorem dX5_checksum_26 : decode cX5_checksum 26 = .ok (.ladd, 1) := by decide +kernel
theorem dX5_checksum_27 : decode cX5_checksum 27 = .ok (.lstore_n 1, 1) := by decide +kernel
theorem dX5_checksum_28 : decode cX5_checksum 28 = .ok (.iinc 3 1, 3) := by decide +kernel
theorem dX5_checksum_31 : decode cX5_checksum 31 = .ok (.goto (-22), 3) := by decide +kernel
theorem dX5_checksum_34 : decode cX5_checksum 34 = .ok (.iconst 0, 1) := by decide +kernel
theorem dX5_checksum_35 : decode cX5_checksum 35 = .ok (.istore_n 3, 1) := by decide +kernel
theorem dX5_checksum_36 : decode cX5_checksum 36 = .ok (.iload_n 3, 1) := by decide +kernel
theorem dX5_checksum_37 : decode cX5_checksum 37 = .ok (.iconst 2, 1) := by decide +kernel
theorem dX5_checksum_38 : decode cX5_checksum 38 = .ok (.if_icmp .ge 55, 3) := by decide +kernel
theorem dX5_checksum_41 : decode cX5_checksum 41 = .ok (.iconst 0, 1) := by decide +kernel
theorem dX5_checksum_42 : decode cX5_checksum 42 = .ok (.istore 4, 2) := by decide +kernel
theorem dX5_checksum_44 : decode cX5_checksum 44 = .ok (.iload 4, 2) := by decide +kernel
theorem dX5_checksum_46 : decode cX5_checksum 46 = .ok (.aload_n 0, 1) := by decide +kernel
theorem dX5_checksum_47 : decode cX5_checksum 47 = .ok (.invokevirtual 172, 3) := by decide +kernel
theorem dX5_checksum_50 : decode cX5_checksum 50 = .ok (.if_icmp .ge 37, 3) := by decide +kernel
theorem dX5_checksum_53 : decode cX5_checksum 53 = .ok (.ldc2_w 311, 3) := by decide +kernel
theorem dX5_checksum_56 : decode cX5_checksum 56 = .ok (.ldc2_w 311, 3) := by decide +kernel
theorem dX5_checksum_59 : decode cX5_checksum 59 = .ok (.lload_n 1, 1) := by decide +kernel
theorem dX5_checksum_60 : decode cX5_checksum 60 = .ok (.lmul, 1) := by decide +kernel
theorem dX5_checksum_61 : decode cX5_checksum 61 = .ok (.aload_n 0, 1) := by decide +kernel
theorem dX5_checksum_62 : decode cX5_checksum 62 = .ok (.iload_n 3, 1) := by decide +kernel
theorem dX5_checksum_63 : decode cX5_checksum 63 = .ok (.iload 4, 2) := by decide +kernel
theorem dX5_checksum_65 : decode cX5_checksum 65 = .ok (.invokevirtual 269, 3) := by decide +kernel
theorem dX5_checksum_68 : decode cX5_checksum 68 = .ok (.i2l, 1) := by decide +kernel
theorem dX5_checksum_69 : decode cX5_checksum 69 = .ok (.ladd, 1) := by decide +kernel
theorem dX5_checksum_70 : decode cX5_checksum 70 = .ok (.lmul, 1) := by decide +kernel
theorem dX5_checksum_71 : decode cX5_checksum 71 = .ok (.aload_n 0, 1) := by decide +kernel
theorem dX5_checksum_72 : decode cX5_checksum 72 = .ok (.iload_n 3, 1) := by decide +kernel
theorem dX5_checksum_73 : decode cX5_checksum 73 = .ok (.iload 4, 2) := by decide +kernel
theorem dX5_checksum_75 : decode cX5_checksum 75 = .ok (.invokevirtual 188, 3) := by decide +kernel
theorem dX5_checksum_78 : decode cX5_checksum 78 = .ok (.i2l, 1) := by decide +kernel
theorem dX5_checksum_79 : decode cX5_checksum 79 = .ok (.ladd, 1) := by decide +kernel
theorem dX5_checksum_80 : decode cX5_checksum 80 = .ok (.lstore_n 1, 1) := by decide +kernel
theorem dX5_checksum_81 : decode cX5_checksum 81 = .ok (.iinc 4 1, 3) := by decide +kernel
theorem dX5_checksum_84 : decode cX5_checksum 84 = .ok (.goto (-40), 3) := by decide +kernel
theorem dX5_checksum_87 : decode cX5_checksum 87 = .ok (.iinc 3 1, 3) := by decide +kernel
theorem dX5_checksum_90 : decode cX5_checksum 90 = .ok (.goto (-54), 3) := by decide +kernel
theorem dX5_checksum_93 : decode cX5_checksum 93 = .ok (.iconst 0, 1) := by decide +kernel
theorem dX5_checksum_94 : decode cX5_checksum 94 = .ok (.istore_n 3, 1) := by decide +kernel
theorem dX5_checksum_95 : decode cX5_checksum 95 = .ok (.iload_n 3, 1) := by decide +kernel
theorem dX5_checksum_96 : decode cX5_checksum 96 = .ok (.aload_n 0, 1) := by decide +kernel
theorem dX5_checksum_97 : decode cX5_checksum 97 = .ok (.getfield 17, 3) := by decide +kernel
theorem dX5_checksum_100 : decode cX5_checksum 100 = .ok (.iconst 3, 1) := by decide +kernel
theorem dX5_checksum_101 : decode cX5_checksum 101 = .ok (.iaload, 1) := by decide +kernel
theorem dX5_checksum_102 : decode cX5_checksum 102 = .ok (.if_icmp .ge 27, 3) := by decide +kernel
theorem dX5_checksum_105 : decode cX5_checksum 105 = .ok (.ldc2_w 311, 3) := by decide +kernel
theorem dX5_checksum_108 : decode cX5_checksum 108 = .ok (.lload_n 1, 1) := by decide +kernel
theorem dX5_checksum_109 : decode cX5_checksum 109 = .ok (.lmul, 1) := by decide +kernel
theorem dX5_checksum_110 : decode cX5_checksum 110 = .ok (.aload_n 0, 1) := by decide +kernel
theorem dX5_checksum_111 : decode cX5_checksum 111 = .ok (.getfield 17, 3) := by decide +kernel
theorem dX5_checksum_114 : decode cX5_checksum 114 = .ok (.sipush 162, 3) := by decide +kernel
theorem dX5_checksum_117 : decode cX5_checksum 117 = .ok (.iload_n 3, 1) := by decide +kernel
theorem dX5_checksum_118 : decode cX5_checksum 118 = .ok (.iadd, 1) := by decide +kernel
theorem dX5_checksum_119 : decode cX5_checksum 119 = .ok (.iaload, 1) := by decide +kernel
theorem dX5_checksum_120 : decode cX5_checksum 120 = .ok (.i2l, 1) := by decide +kernel
theorem dX5_checksum_121 : decode cX5_checksum 121 = .ok (.ladd, 1) := by decide +kernel
theorem dX5_checksum_122 : decode cX5_checksum 122 = .ok (.lstore_n 1, 1) := by decide +kernel
theorem dX5_checksum_123 : decode cX5_checksum 123 = .ok (.iinc 3 1, 3) := by decide +kernel
theorem dX5_checksum_126 : decode cX5_checksum 126 = .ok (.goto (-31), 3) := by decide +kernel
theorem dX5_checksum_129 : decode cX5_checksum 129 = .ok (.ldc2_w 311, 3) := by decide +kernel
theorem dX5_checksum_132 : decode cX5_checksum 132 = .ok (.lload_n 1, 1) := by decide +kernel
theorem dX5_checksum_133 : decode cX5_checksum 133 = .ok (.lmul, 1) := by decide +kernel
theorem dX5_checksum_134 : decode cX5_checksum 134 = .ok (.aload_n 0, 1) := by decide +kernel
theorem dX5_checksum_135 : decode cX5_checksum 135 = .ok (.invokevirtual 241, 3) := by decide +kernel
theorem dX5_checksum_138 : decode cX5_checksum 138 = .ok (.i2l, 1) := by decide +kernel
theorem dX5_checksum_139 : decode cX5_checksum 139 = .ok (.ladd, 1) := by decide +kernel
theorem dX5_checksum_140 : decode cX5_checksum 140 = .ok (.lstore_n 1, 1) := by decide +kernel
theorem dX5_checksum_141 : decode cX5_checksum 141 = .ok (.ldc2_w 311, 3) := by decide +kernel
theorem dX5_checksum_144 : decode cX5_checksum 144 = .ok (.lload_n 1, 1) := by decide +kernel
theorem dX5_checksum_145 : decode cX5_checksum 145 = .ok (.lmul, 1) := by decide +kernel
theorem dX5_checksum_146 : decode cX5_checksum 146 = .ok (.aload_n 0, 1) := by decide +kernel
theorem dX5_checksum_147 : decode cX5_checksum 147 = .ok (.invokevirtual 279, 3) := by decide +kernel
theorem dX5_checksum_150 : decode cX5_checksum 150 = .ok (.i2l, 1) := by decide +kernel
theorem dX5_checksum_151 : decode cX5_checksum 151 = .ok (.ladd, 1) := by decide +kernel
theorem dX5_checksum_152 : decode cX5_checksum 152 = .ok (.lstore_n 1, 1) := by decide +kernel
theorem dX5_checksum_153 : decode cX5_checksum 153 = .ok (.ldc2_w 311, 3) := by decide +kernel
theorem dX5_checksum_156 : decode cX5_checksum 156 = .ok (.lload_n 1, 1) := by decide +kernel
theorem dX5_checksum_157 : decode cX5_checksum 157 = .ok (.lmul, 1) := by decide +kernel
theorem dX5_checksum_158 : decode cX5_checksum 158 = .ok (.aload_n 0, 1) := by decide +kernel
theorem dX5_checksum_159 : decode cX5_checksum 159 = .ok (.invokevirtual 299, 3) := by decide +kernel
theorem dX5_checksum_162 : decode cX5_checksum 162 = .ok (.i2l, 1) := by decide +kernel
theorem dX5_checksum_163 : decode cX5_checksum 163 = .ok (.ladd, 1) := by decide +kernel
theorem dX5_checksum_164 : decode cX5_checksum 164 = .ok (.lreturn, 1) := by decide +kernel
theorem dJ13_bitCount_95d88_0 : decode cJ13_bitCount_95d88 0 = .ok (.lload_n 0, 1) := by decide +kernel
theorem dJ13_bitCount_95d88_1 : decode cJ13_bitCount_95d88 1 = .ok (.lload_n 0, 1) := by decide +kernel
theorem dJ13_bitCount_95d88_2 : decode cJ13_bitCount_95d88 2 = .ok (.iconst 1, 1) := by decide +kernel
theorem dJ13_bitCount_95d88_3 : decode cJ13_bitCount_95d88 3 = .ok (.lushr, 1) := by decide +kernel
theorem dJ13_bitCount_95d88_4 : decode cJ13_bitCount_95d88 4 = .ok (.ldc2_w 314, 3) := by decide +kernel
theorem dJ13_bitCount_95d88_7 : decode cJ13_bitCount_95d88 7 = .ok (.land, 1) := by decide +kernel
theorem dJ13_bitCount_95d88_8 : decode cJ13_bitCount_95d88 8 = .ok (.lsub, 1) := by decide +kernel
theorem dJ13_bitCount_95d88_9 : decode cJ13_bitCount_95d88 9 = .ok (.lstore_n 0, 1) := by decide +kernel
theorem dJ13_bitCount_95d88_10 : decode cJ13_bitCount_95d88 10 = .ok (.lload_n 0, 1) := by decide +kernel
theorem dJ13_bitCount_95d88_11 : decode cJ13_bitCount_95d88 11 = .ok (.ldc2_w 316, 3) := by decide +kernel
theorem dJ13_bitCount_95d88_14 : decode cJ13_bitCount_95d88 14 = .ok (.land, 1) := by decide +kernel
theorem dJ13_bitCount_95d88_15 : decode cJ13_bitCount_95d88 15 = .ok (.lload_n 0, 1) := by decide +kernel
theorem dJ13_bitCount_95d88_16 : decode cJ13_bitCount_95d88 16 = .ok (.iconst 2, 1) := by decide +kernel
theorem dJ13_bitCount_95d88_17 : decode cJ13_bitCount_95d88 17 = .ok (.lushr, 1) := by decide +kernel
theorem dJ13_bitCount_95d88_18 : decode cJ13_bitCount_95d88 18 = .ok (.ldc2_w 316, 3) := by decide +kernel
theorem dJ13_bitCount_95d88_21 : decode cJ13_bitCount_95d88 21 = .ok (.land, 1) := by decide +kernel
theorem dJ13_bitCount_95d88_22 : decode cJ13_bitCount_95d88 22 = .ok (.ladd, 1) := by decide +kernel
theorem dJ13_bitCount_95d88_23 : decode cJ13_bitCount_95d88 23 = .ok (.lstore_n 0, 1) := by decide +kernel
theorem dJ13_bitCount_95d88_24 : decode cJ13_bitCount_95d88 24 = .ok (.lload_n 0, 1) := by decide +kernel
theorem dJ13_bitCount_95d88_25 : decode cJ13_bitCount_95d88 25 = .ok (.lload_n 0, 1) := by decide +kernel
theorem dJ13_bitCount_95d88_26 : decode cJ13_bitCount_95d88 26 = .ok (.iconst 4, 1) := by decide +kernel
theorem dJ13_bitCount_95d88_27 : decode cJ13_bitCount_95d88 27 = .ok (.lushr, 1) := by decide +kernel
theorem dJ13_bitCount_95d88_28 : decode cJ13_bitCount_95d88 28 = .ok (.ladd, 1) := by decide +kernel
theorem dJ13_bitCount_95d88_29 : decode cJ13_bitCount_95d88 29 = .ok (.ldc2_w 318, 3) := by decide +kernel
theorem dJ13_bitCount_95d88_32 : decode cJ13_bitCount_95d88 32 = .ok (.land, 1) := by decide +kernel
theorem dJ13_bitCount_95d88_33 : decode cJ13_bitCount_95d88 33 = .ok (.lstore_n 0, 1) := by decide +kernel
theorem dJ13_bitCount_95d88_34 : decode cJ13_bitCount_95d88 34 = .ok (.lload_n 0, 1) := by decide +kernel
theorem dJ13_bitCount_95d88_35 : decode cJ13_bitCount_95d88 35 = .ok (.lload_n 0, 1) := by decide +kernel
theorem dJ13_bitCount_95d88_36 : decode cJ13_bitCount_95d88 36 = .ok (.bipush 8, 2) := by decide +kernel
theorem dJ13_bitCount_95d88_38 : decode cJ13_bitCount_95d88 38 = .ok (.lushr, 1) := by decide +kernel
theorem dJ13_bitCount_95d88_39 : decode cJ13_bitCount_95d88 39 = .ok (.ladd, 1) := by decide +kernel
theorem dJ13_bitCount_95d88_40 : decode cJ13_bitCount_95d88 40 = .ok (.lstore_n 0, 1) := by decide +kernel
theorem dJ13_bitCount_95d88_41 : decode cJ13_bitCount_95d88 41 = .ok (.lload_n 0, 1) := by decide +kernel
theorem dJ13_bitCount_95d88_42 : decode cJ13_bitCount_95d88 42 = .ok (.lload_n 0, 1) := by decide +kernel
theorem dJ13_bitCount_95d88_43 : decode cJ13_bitCount_95d88 43 = .ok (.bipush 16, 2) := by decide +kernel
theorem dJ13_bitCount_95d88_45 : decode cJ13_bitCount_95d88 45 = .ok (.lushr, 1) := by decide +kernel
theorem dJ13_bitCount_95d88_46 : decode cJ13_bitCount_95d88 46 = .ok (.ladd, 1) := by decide +kernel
theorem dJ13_bitCount_95d88_47 : decode cJ13_bitCount_95d88 47 = .ok (.lstore_n 0, 1) := by decide +kernel
theorem dJ13_bitCount_95d88_48 : decode cJ13_bitCount_95d88 48 = .ok (.lload_n 0, 1) := by decide +kernel
theorem dJ13_bitCount_95d88_49 : decode cJ13_bitCount_95d88 49 = .ok (.lload_n 0, 1) := by decide +kernel
theorem dJ13_bitCount_95d88_50 : decode cJ13_bitCount_95d88 50 = .ok (.bipush 32, 2) := by decide +kernel
theorem dJ13_bitCount_95d88_52 : decode cJ13_bitCount_95d88 52 = .ok (.lushr, 1) := by decide +kernel
theorem dJ13_bitCount_95d88_53 : decode cJ13_bitCount_95d88 53 = .ok (.ladd, 1) := by decide +kernel
theorem dJ13_bitCount_95d88_54 : decode cJ13_bitCount_95d88 54 = .ok (.lstore_n 0, 1) := by decide +kernel
theorem dJ13_bitCount_95d88_55 : decode cJ13_bitCount_95d88 55 = .ok (.lload_n 0, 1) := by decide +kernel
theorem dJ13_bitCount_95d88_56 : decode cJ13_bitCount_95d88 56 = .ok (.l2i, 1) := by decide +kernel
theorem dJ13_bitCount_95d88_57 : decode cJ13_bitCount_95d88 57 = .ok (.bipush 127, 2) := by decide +kernel
theorem dJ13_bitCount_95d88_59 : decode cJ13_bitCount_95d88 59 = .ok (.iand, 1) := by decide +kernel
theorem dJ13_bitCount_95d88_60 : decode cJ13_bitCount_95d88 60 = .ok (.ireturn, 1) := by decide +kernel
theorem dJ9_abs_0f7a4_0 : decode cJ9_abs_0f7a4 0 = .ok (.iload_n 0, 1) := by decide +kernel
theorem dJ9_abs_0f7a4_1 : decode cJ9_abs_0f7a4 1 = .ok (.ifCond .ge 8, 3) := by decide +kernel
theorem dJ9_abs_0f7a4_4 : decode cJ9_abs_0f7a4 4 = .ok (.iload_n 0, 1) := by decide +kernel
theorem dJ9_abs_0f7a4_5 : decode cJ9_abs_0f7a4 5 = .ok (.ineg, 1) := by decide +kernel
theorem dJ9_abs_0f7a4_6 : decode cJ9_abs_0f7a4 6 = .ok (.goto 4, 3) := by decide +kernel
theorem dJ9_abs_0f7a4_9 : decode cJ9_abs_0f7a4 9 = .ok (.iload_n 0, 1) := by decide +kernel
theorem dJ9_abs_0f7a4_10 : decode cJ9_abs_0f7a4 10 = .ok (.ireturn, 1) := by decide +kernel
theorem dJ9_max_7cf53_0 : decode cJ9_max_7cf53 0 = .ok (.iload_n 0, 1) := by decide +kernel
theorem dJ9_max_7cf53_1 : decode cJ9_max_7cf53 1 = .ok (.iload_n 1, 1) := by decide +kernel
theorem dJ9_max_7cf53_2 : decode cJ9_max_7cf53 2 = .ok (.if_icmp .lt 7, 3) := by decide +kernel
theorem dJ9_max_7cf53_5 : decode cJ9_max_7cf53 5 = .ok (.iload_n 0, 1) := by decide +kernel
theorem dJ9_max_7cf53_6 : decode cJ9_max_7cf53 6 = .ok (.goto 4, 3) := by decide +kernel
theorem dJ9_max_7cf53_9 : decode cJ9_max_7cf53 9 = .ok (.iload_n 1, 1) := by decide +kernel
theorem dJ9_max_7cf53_10 : decode cJ9_max_7cf53 10 = .ok (.ireturn, 1) := by decide +kernel
theorem dJ9_min_7cf53_0 : decode cJ9_min_7cf53 0 = .ok (.iload_n 0, 1) := by decide +kernel
theorem dJ9_min_7cf53_1 : decode cJ9_min_7cf53 1 = .ok (.iload_n 1, 1) := by decide +kernel
theorem dJ9_min_7cf53_2 : decode cJ9_min_7cf53 2 = .ok (.if_icmp .gt 7, 3) := by decide +kernel
theorem dJ9_min_7cf53_5 : decode cJ9_min_7cf53 5 = .ok (.iload_n 0, 1) := by decide +kernel
theorem dJ9_min_7cf53_6 : decode cJ9_min_7cf53 6 = .ok (.goto 4, 3) := by decide +kernel
theorem dJ9_min_7cf53_9 : decode cJ9_min_7cf53 9 = .ok (.iload_n 1, 1) := by decide +kernel
theorem dJ9_min_7cf53_10 : decode cJ9_min_7cf53 10 = .ok (.ireturn, 1) := by decide +kernel
theorem dJ0_length_8abf5_0 : decode cJ0_length_8abf5 0 = .ok (.aload_n 0, 1) := by decide +kernel
theorem dJ0_length_8abf5_1 : decode cJ0_length_8abf5 1 = .ok (.getfield 9, 3) := by decide +kernel
theorem dJ0_length_8abf5_4 : decode cJ0_length_8abf5 4 = .ok (.arraylength, 1) := by decide +kernel
theorem dJ0_length_8abf5_5 : decode cJ0_length_8abf5 5 = .ok (.aload_n 0, 1) := by decide +kernel
theorem dJ0_length_8abf5_6 : decode cJ0_length_8abf5 6 = .ok (.invokevirtual 335, 3) := by decide +kernel
theorem dJ0_length_8abf5_9 : decode cJ0_length_8abf5 9 = .ok (.ishr, 1) := by decide +kernel
theorem dJ0_length_8abf5_10 : decode cJ0_length_8abf5 10 = .ok (.ireturn, 1) := by decide +kernel
theorem dJ0_charAt_5068e_0 : decode cJ0_charAt_5068e 0 = .ok (.aload_n 0, 1) := by decide +kernel
theorem dJ0_charAt_5068e_1 : decode cJ0_charAt_5068e 1 = .ok (.invokevirtual 492, 3) := by decide +kernel
theorem dJ0_charAt_5068e_4 : decode cJ0_charAt_5068e 4 = .ok (.ifCond .eq 12, 3) := by decide +kernel
theorem dJ0_charAt_5068e_7 : decode cJ0_charAt_5068e 7 = .ok (.aload_n 0, 1) := by decide +kernel
theorem dJ0_charAt_5068e_8 : decode cJ0_charAt_5068e 8 = .ok (.getfield 9, 3) := by decide +kernel
theorem dJ0_charAt_5068e_11 : decode cJ0_charAt_5068e 11 = .ok (.iload_n 1, 1) := by decide +kernel
theorem dJ0_charAt_5068e_12 : decode cJ0_charAt_5068e 12 = .ok (.invokestatic 495, 3) := by decide +kernel
theorem dJ0_charAt_5068e_15 : decode cJ0_charAt_5068e 15 = .ok (.ireturn, 1) := by decide +kernel
theorem dJ0_charAt_5068e_16 : decode cJ0_charAt_5068e 16 = .ok (.aload_n 0, 1) := by decide +kernel
theorem dJ0_charAt_5068e_17 : decode cJ0_charAt_5068e 17 = .ok (.getfield 9, 3) := by decide +kernel
theorem dJ0_charAt_5068e_20 : decode cJ0_charAt_5068e 20 = .ok (.iload_n 1, 1) := by decide +kernel
theorem dJ0_charAt_5068e_21 : decode cJ0_charAt_5068e 21 = .ok (.invokestatic 498, 3) := by decide +kernel
theorem dJ0_charAt_5068e_24 : decode cJ0_charAt_5068e 24 = .ok (.ireturn, 1) := by decide +kernel
theorem dJ0_coder_7d493_0 : decode cJ0_coder_7d493 0 = .ok (.getstatic 38, 3) := by decide +kernel
theorem dJ0_coder_7d493_3 : decode cJ0_coder_7d493 3 = .ok (.ifCond .eq 10, 3) := by decide +kernel
theorem dJ0_coder_7d493_6 : decode cJ0_coder_7d493 6 = .ok (.aload_n 0, 1) := by decide +kernel
theorem dJ0_coder_7d493_7 : decode cJ0_coder_7d493 7 = .ok (.getfield 15, 3) := by decide +kernel
theorem dJ0_coder_7d493_10 : decode cJ0_coder_7d493 10 = .ok (.goto 4, 3) := by decide +kernel
theorem dJ0_coder_7d493_13 : decode cJ0_coder_7d493 13 = .ok (.iconst 1, 1) := by decide +kernel
theorem dJ0_coder_7d493_14 : decode cJ0_coder_7d493 14 = .ok (.ireturn, 1) := by decide +kernel
theorem dJ0_isLatin1_aae02_0 : decode cJ0_isLatin1_aae02 0 = .ok (.getstatic 38, 3) := by decide +kernel
theorem dJ0_isLatin1_aae02_3 : decode cJ0_isLatin1_aae02 3 = .ok (.ifCond .eq 14, 3) := by decide +kernel
theorem dJ0_isLatin1_aae02_6 : decode cJ0_isLatin1_aae02 6 = .ok (.aload_n 0, 1) := by decide +kernel
theorem dJ0_isLatin1_aae02_7 : decode cJ0_isLatin1_aae02 7 = .ok (.getfield 15, 3) := by decide +kernel
theorem dJ0_isLatin1_aae02_10 : decode cJ0_isLatin1_aae02 10 = .ok (.ifCond .ne 7, 3) := by decide +kernel
theorem dJ0_isLatin1_aae02_13 : decode cJ0_isLatin1_aae02 13 = .ok (.iconst 1, 1) := by decide +kernel
theorem dJ0_isLatin1_aae02_14 : decode cJ0_isLatin1_aae02 14 = .ok (.goto 4, 3) := by decide +kernel
theorem dJ0_isLatin1_aae02_17 : decode cJ0_isLatin1_aae02 17 = .ok (.iconst 0, 1) := by decide +kernel
theorem dJ0_isLatin1_aae02_18 : decode cJ0_isLatin1_aae02 18 = .ok (.ireturn, 1) := by decide +kernel
theorem dJ0_checkIndex_df160_0 : decode cJ0_checkIndex_df160 0 = .ok (.iload_n 0, 1) := by decide +kernel
theorem dJ0_checkIndex_df160_1 : decode cJ0_checkIndex_df160 1 = .ok (.iload_n 1, 1) := by decide +kernel
theorem dJ0_checkIndex_df160_2 : decode cJ0_checkIndex_df160 2 = .ok (.getstatic 1053, 3) := by decide +kernel
theorem dJ0_checkIndex_df160_5 : decode cJ0_checkIndex_df160 5 = .ok (.invokestatic 1059, 3) := by decide +kernel
theorem dJ0_checkIndex_df160_8 : decode cJ0_checkIndex_df160 8 = .ok (.pop, 1) := by decide +kernel
theorem dJ0_checkIndex_df160_9 : decode cJ0_checkIndex_df160 9 = .ok (.return_, 1) := by decide +kernel
theorem dJ1_charAt_3b067_0 : decode cJ1_charAt_3b067 0 = .ok (.iload_n 1, 1) := by decide +kernel
theorem dJ1_charAt_3b067_1 : decode cJ1_charAt_3b067 1 = .ok (.aload_n 0, 1) := by decide +kernel
theorem dJ1_charAt_3b067_2 : decode cJ1_charAt_3b067 2 = .ok (.arraylength, 1) := by decide +kernel
theorem dJ1_charAt_3b067_3 : decode cJ1_charAt_3b067 3 = .ok (.invokestatic 9, 3) := by decide +kernel
theorem dJ1_charAt_3b067_6 : decode cJ1_charAt_3b067 6 = .ok (.aload_n 0, 1) := by decide +kernel
theorem dJ1_charAt_3b067_7 : decode cJ1_charAt_3b067 7 = .ok (.iload_n 1, 1) := by decide +kernel
theorem dJ1_charAt_3b067_8 : decode cJ1_charAt_3b067 8 = .ok (.baload, 1) := by decide +kernel
theorem dJ1_charAt_3b067_9 : decode cJ1_charAt_3b067 9 = .ok (.sipush 255, 3) := by decide +kernel
theorem dJ1_charAt_3b067_12 : decode cJ1_charAt_3b067 12 = .ok (.iand, 1) := by decide +kernel
theorem dJ1_charAt_3b067_13 : decode cJ1_charAt_3b067 13 = .ok (.i2c, 1) := by decide +kernel
theorem dJ1_charAt_3b067_14 : decode cJ1_charAt_3b067 14 = .ok (.ireturn, 1) := by decide +kernel
theorem dJ2_getChar_3b067_0 : decode cJ2_getChar_3b067 0 = .ok (.getstatic 44, 3) := by decide +kernel
theorem dJ2_getChar_3b067_3 : decode cJ2_getChar_3b067 3 = .ok (.ifCond .ne 25, 3) := by decide +kernel
theorem dJ2_getChar_3b067_6 : decode cJ2_getChar_3b067 6 = .ok (.iload_n 1, 1) := by decide +kernel
theorem dJ2_getChar_3b067_7 : decode cJ2_getChar_3b067 7 = .ok (.ifCond .lt 11, 3) := by decide +kernel
theorem dJ2_getChar_3b067_10 : decode cJ2_getChar_3b067 10 = .ok (.iload_n 1, 1) := by decide +kernel
theorem dJ2_getChar_3b067_11 : decode cJ2_getChar_3b067 11 = .ok (.aload_n 0, 1) := by decide +kernel
theorem dJ2_getChar_3b067_12 : decode cJ2_getChar_3b067 12 = .ok (.invokestatic 48, 3) := by decide +kernel
theorem dJ2_getChar_3b067_15 : decode cJ2_getChar_3b067 15 = .ok (.if_icmp .lt 13, 3) := by decide +kernel
theorem dJ2_getChar_3b067_18 : decode cJ2_getChar_3b067 18 = .ok (.new 52, 3) := by decide +kernel
theorem dJ2_getChar_3b067_21 : decode cJ2_getChar_3b067 21 = .ok (.dup, 1) := by decide +kernel
theorem dJ2_getChar_3b067_22 : decode cJ2_getChar_3b067 22 = .ok (.ldc 54, 2) := by decide +kernel
theorem dJ2_getChar_3b067_24 : decode cJ2_getChar_3b067 24 = .ok (.invokespecial 56, 3) := by decide +kernel
theorem dJ2_getChar_3b067_27 : decode cJ2_getChar_3b067 27 = .ok (.athrow, 1) := by decide +kernel
theorem dJ2_getChar_3b067_28 : decode cJ2_getChar_3b067 28 = .ok (.iload_n 1, 1) := by decide +kernel
theorem dJ2_getChar_3b067_29 : decode cJ2_getChar_3b067 29 = .ok (.iconst 1, 1) := by decide +kernel
theorem dJ2_getChar_3b067_30 : decode cJ2_getChar_3b067 30 = .ok (.ishl, 1) := by decide +kernel
theorem dJ2_getChar_3b067_31 : decode cJ2_getChar_3b067 31 = .ok (.istore_n 1, 1) := by decide +kernel
theorem dJ2_getChar_3b067_32 : decode cJ2_getChar_3b067 32 = .ok (.aload_n 0, 1) := by decide +kernel
theorem dJ2_getChar_3b067_33 : decode cJ2_getChar_3b067 33 = .ok (.iload_n 1, 1) := by decide +kernel
theorem dJ2_getChar_3b067_34 : decode cJ2_getChar_3b067 34 = .ok (.iinc 1 1, 3) := by decide +kernel
theorem dJ2_getChar_3b067_37 : decode cJ2_getChar_3b067 37 = .ok (.baload, 1) := by decide +kernel
theorem dJ2_getChar_3b067_38 : decode cJ2_getChar_3b067 38 = .ok (.sipush 255, 3) := by decide +kernel
theorem dJ2_getChar_3b067_41 : decode cJ2_getChar_3b067 41 = .ok (.iand, 1) := by decide +kernel
theorem dJ2_getChar_3b067_42 : decode cJ2_getChar_3b067 42 = .ok (.getstatic 59, 3) := by decide +kernel
theorem dJ2_getChar_3b067_45 : decode cJ2_getChar_3b067 45 = .ok (.ishl, 1) := by decide +kernel
theorem dJ2_getChar_3b067_46 : decode cJ2_getChar_3b067 46 = .ok (.aload_n 0, 1) := by decide +kernel
theorem dJ2_getChar_3b067_47 : decode cJ2_getChar_3b067 47 = .ok (.iload_n 1, 1) := by decide +kernel
theorem dJ2_getChar_3b067_48 : decode cJ2_getChar_3b067 48 = .ok (.baload, 1) := by decide +kernel
theorem dJ2_getChar_3b067_49 : decode cJ2_getChar_3b067 49 = .ok (.sipush 255, 3) := by decide +kernel
theorem dJ2_getChar_3b067_52 : decode cJ2_getChar_3b067 52 = .ok (.iand, 1) := by decide +kernel
theorem dJ2_getChar_3b067_53 : decode cJ2_getChar_3b067 53 = .ok (.getstatic 63, 3) := by decide +kernel
theorem dJ2_getChar_3b067_56 : decode cJ2_getChar_3b067 56 = .ok (.ishl, 1) := by decide +kernel
theorem dJ2_getChar_3b067_57 : decode cJ2_getChar_3b067 57 = .ok (.ior, 1) := by decide +kernel
theorem dJ2_getChar_3b067_58 : decode cJ2_getChar_3b067 58 = .ok (.i2c, 1) := by decide +kernel
theorem dJ2_getChar_3b067_59 : decode cJ2_getChar_3b067 59 = .ok (.ireturn, 1) := by decide +kernel
theorem dJ2_length_9d52b_0 : decode cJ2_length_9d52b 0 = .ok (.aload_n 0, 1) := by decide +kernel
theorem dJ2_length_9d52b_1 : decode cJ2_length_9d52b 1 = .ok (.arraylength, 1) := by decide +kernel
theorem dJ2_length_9d52b_2 : decode cJ2_length_9d52b 2 = .ok (.iconst 1, 1) := by decide +kernel
theorem dJ2_length_9d52b_3 : decode cJ2_length_9d52b 3 = .ok (.ishr, 1) := by decide +kernel
theorem dJ2_length_9d52b_4 : decode cJ2_length_9d52b 4 = .ok (.ireturn, 1) := by decide +kernel
theorem dJ2_charAt_3b067_0 : decode cJ2_charAt_3b067 0 = .ok (.iload_n 1, 1) := by decide +kernel
theorem dJ2_charAt_3b067_1 : decode cJ2_charAt_3b067 1 = .ok (.aload_n 0, 1) := by decide +kernel
theorem dJ2_charAt_3b067_2 : decode cJ2_charAt_3b067 2 = .ok (.invokestatic 67, 3) := by decide +kernel
theorem dJ2_charAt_3b067_5 : decode cJ2_charAt_3b067 5 = .ok (.aload_n 0, 1) := by decide +kernel
theorem dJ2_charAt_3b067_6 : decode cJ2_charAt_3b067 6 = .ok (.iload_n 1, 1) := by decide +kernel
theorem dJ2_charAt_3b067_7 : decode cJ2_charAt_3b067 7 = .ok (.invokestatic 71, 3) := by decide +kernel
theorem dJ2_charAt_3b067_10 : decode cJ2_charAt_3b067 10 = .ok (.ireturn, 1) := by decide +kernel
theorem dJ2_checkIndex_2214a_0 : decode cJ2_checkIndex_2214a 0 = .ok (.iload_n 0, 1) := by decide +kernel
theorem dJ2_checkIndex_2214a_1 : decode cJ2_checkIndex_2214a 1 = .ok (.aload_n 1, 1) := by decide +kernel
theorem dJ2_checkIndex_2214a_2 : decode cJ2_checkIndex_2214a 2 = .ok (.invokestatic 48, 3) := by decide +kernel
theorem dJ2_checkIndex_2214a_5 : decode cJ2_checkIndex_2214a 5 = .ok (.invokestatic 414, 3) := by decide +kernel
theorem dJ2_checkIndex_2214a_8 : decode cJ2_checkIndex_2214a 8 = .ok (.return_, 1) := by decide +kernel
theorem dJ7_fill_53178_0 : decode cJ7_fill_53178 0 = .ok (.iconst 0, 1) := by decide +kernel
theorem dJ7_fill_53178_1 : decode cJ7_fill_53178 1 = .ok (.istore_n 2, 1) := by decide +kernel
theorem dJ7_fill_53178_2 : decode cJ7_fill_53178 2 = .ok (.aload_n 0, 1) := by decide +kernel
theorem dJ7_fill_53178_3 : decode cJ7_fill_53178 3 = .ok (.arraylength, 1) := by decide +kernel
theorem dJ7_fill_53178_4 : decode cJ7_fill_53178 4 = .ok (.istore_n 3, 1) := by decide +kernel
theorem dJ7_fill_53178_5 : decode cJ7_fill_53178 5 = .ok (.iload_n 2, 1) := by decide +kernel
theorem dJ7_fill_53178_6 : decode cJ7_fill_53178 6 = .ok (.iload_n 3, 1) := by decide +kernel
theorem dJ7_fill_53178_7 : decode cJ7_fill_53178 7 = .ok (.if_icmp .ge 13, 3) := by decide +kernel
theorem dJ7_fill_53178_10 : decode cJ7_fill_53178 10 = .ok (.aload_n 0, 1) := by decide +kernel
theorem dJ7_fill_53178_11 : decode cJ7_fill_53178 11 = .ok (.iload_n 2, 1) := by decide +kernel
theorem dJ7_fill_53178_12 : decode cJ7_fill_53178 12 = .ok (.iload_n 1, 1) := by decide +kernel
theorem dJ7_fill_53178_13 : decode cJ7_fill_53178 13 = .ok (.iastore, 1) := by decide +kernel
theorem dJ7_fill_53178_14 : decode cJ7_fill_53178 14 = .ok (.iinc 2 1, 3) := by decide +kernel
theorem dJ7_fill_53178_17 : decode cJ7_fill_53178 17 = .ok (.goto (-12), 3) := by decide +kernel
theorem dJ7_fill_53178_20 : decode cJ7_fill_53178 20 = .ok (.return_, 1) := by decide +kernel
theorem dJ3_checkIndex_8e157_0 : decode cJ3_checkIndex_8e157 0 = .ok (.iload_n 0, 1) := by decide +kernel
theorem dJ3_checkIndex_8e157_1 : decode cJ3_checkIndex_8e157 1 = .ok (.ifCond .lt 8, 3) := by decide +kernel
theorem dJ3_checkIndex_8e157_4 : decode cJ3_checkIndex_8e157 4 = .ok (.iload_n 0, 1) := by decide +kernel
theorem dJ3_checkIndex_8e157_5 : decode cJ3_checkIndex_8e157 5 = .ok (.iload_n 1, 1) := by decide +kernel
theorem dJ3_checkIndex_8e157_6 : decode cJ3_checkIndex_8e157 6 = .ok (.if_icmp .lt 10, 3) := by decide +kernel
theorem dJ3_checkIndex_8e157_9 : decode cJ3_checkIndex_8e157 9 = .ok (.aload_n 2, 1) := by decide +kernel
theorem dJ3_checkIndex_8e157_10 : decode cJ3_checkIndex_8e157 10 = .ok (.iload_n 0, 1) := by decide +kernel
theorem dJ3_checkIndex_8e157_11 : decode cJ3_checkIndex_8e157 11 = .ok (.iload_n 1, 1) := by decide +kernel
theorem dJ3_checkIndex_8e157_12 : decode cJ3_checkIndex_8e157 12 = .ok (.invokestatic 95, 3) := by decide +kernel
theorem dJ3_checkIndex_8e157_15 : decode cJ3_checkIndex_8e157 15 = .ok (.athrow, 1) := by decide +kernel
theorem dJ3_checkIndex_8e157_16 : decode cJ3_checkIndex_8e157 16 = .ok (.iload_n 0, 1) := by decide +kernel
theorem dJ3_checkIndex_8e157_17 : decode cJ3_checkIndex_8e157 17 = .ok (.ireturn, 1) := by decide +kernel
theorem dL_load_0 : decode cL_load 0 = .ok (.aload_n 2, 1) := by decide +kernel
theorem dL_load_1 : decode cL_load 1 = .ok (.iconst 0, 1) := by decide +kernel
theorem dL_load_2 : decode cL_load 2 = .ok (.aload_n 0, 1) := by decide +kernel
theorem dL_load_3 : decode cL_load 3 = .ok (.iload_n 1, 1) := by decide +kernel
theorem dL_load_4 : decode cL_load 4 = .ok (.invokevirtual 7, 3) := by decide +kernel
theorem dL_load_7 : decode cL_load 7 = .ok (.i2l, 1) := by decide +kernel
theorem dL_load_8 : decode cL_load 8 = .ok (.lastore, 1) := by decide +kernel
theorem dL_load_9 : decode cL_load 9 = .ok (.goto 6, 3) := by decide +kernel
theorem dL_load_12 : decode cL_load 12 = .ok (.astore_n 3, 1) := by decide +kernel
theorem dL_load_13 : decode cL_load 13 = .ok (.iconst 1, 1) := by decide +kernel
theorem dL_load_14 : decode cL_load 14 = .ok (.ireturn, 1) := by decide +kernel
theorem dL_load_15 : decode cL_load 15 = .ok (.iconst 0, 1) := by decide +kernel
theorem dL_load_16 : decode cL_load 16 = .ok (.ireturn, 1) := by decide +kernel
theorem dL_state_0 : decode cL_state 0 = .ok (.aload_n 2, 1) := by decide +kernel
theorem dL_state_1 : decode cL_state 1 = .ok (.iconst 0, 1) := by decide +kernel
theorem dL_state_2 : decode cL_state 2 = .ok (.aload_n 0, 1) := by decide +kernel
theorem dL_state_3 : decode cL_state 3 = .ok (.iload_n 1, 1) := by decide +kernel
theorem dL_state_4 : decode cL_state 4 = .ok (.invokevirtual 15, 3) := by decide +kernel
theorem dL_state_7 : decode cL_state 7 = .ok (.i2l, 1) := by decide +kernel
theorem dL_state_8 : decode cL_state 8 = .ok (.lastore, 1) := by decide +kernel
theorem dL_state_9 : decode cL_state 9 = .ok (.goto 6, 3) := by decide +kernel
theorem dL_state_12 : decode cL_state 12 = .ok (.astore_n 3, 1) := by decide +kernel
theorem dL_state_13 : decode cL_state 13 = .ok (.iconst 1, 1) := by decide +kernel
theorem dL_state_14 : decode cL_state 14 = .ok (.ireturn, 1) := by decide +kernel
theorem dL_state_15 : decode cL_state 15 = .ok (.iconst 0, 1) := by decide +kernel
theorem dL_state_16 : decode cL_state 16 = .ok (.ireturn, 1) := by decide +kernel
theorem dL_letter_0 : decode cL_letter 0 = .ok (.aload_n 3, 1) := by decide +kernel
theorem dL_letter_1 : decode cL_letter 1 = .ok (.iconst 0, 1) := by decide +kernel
theorem dL_letter_2 : decode cL_letter 2 = .ok (.aload_n 0, 1) := by decide +kernel
theorem dL_letter_3 : decode cL_letter 3 = .ok (.iload_n 1, 1) := by decide +kernel
theorem dL_letter_4 : decode cL_letter 4 = .ok (.iload_n 2, 1) := by decide +kernel
theorem dL_letter_5 : decode cL_letter 5 = .ok (.invokevirtual 18, 3) := by decide +kernel
theorem dL_letter_8 : decode cL_letter 8 = .ok (.i2l, 1) := by decide +kernel
theorem dL_letter_9 : decode cL_letter 9 = .ok (.lastore, 1) := by decide +kernel
theorem dL_letter_10 : decode cL_letter 10 = .ok (.goto 7, 3) := by decide +kernel
theorem dL_letter_13 : decode cL_letter 13 = .ok (.astore 4, 2) := by decide +kernel
theorem dL_letter_15 : decode cL_letter 15 = .ok (.iconst 1, 1) := by decide +kernel
theorem dL_letter_16 : decode cL_letter 16 = .ok (.ireturn, 1) := by decide +kernel
theorem dL_letter_17 : decode cL_letter 17 = .ok (.iconst 0, 1) := by decide +kernel
theorem dL_letter_18 : decode cL_letter 18 = .ok (.ireturn, 1) := by decide +kernel
theorem dL_place_0 : decode cL_place 0 = .ok (.aload 4, 2) := by decide +kernel
theorem dL_place_2 : decode cL_place 2 = .ok (.iconst 0, 1) := by decide +kernel
theorem dL_place_3 : decode cL_place 3 = .ok (.aload_n 0, 1) := by decide +kernel
theorem dL_place_4 : decode cL_place 4 = .ok (.iload_n 1, 1) := by decide +kernel
theorem dL_place_5 : decode cL_place 5 = .ok (.iload_n 2, 1) := by decide +kernel
theorem dL_place_6 : decode cL_place 6 = .ok (.iload_n 3, 1) := by decide +kernel
theorem dL_place_7 : decode cL_place 7 = .ok (.invokevirtual 24, 3) := by decide +kernel
theorem dL_place_10 : decode cL_place 10 = .ok (.i2l, 1) := by decide +kernel
theorem dL_place_11 : decode cL_place 11 = .ok (.lastore, 1) := by decide +kernel
theorem dL_place_12 : decode cL_place 12 = .ok (.goto 11, 3) := by decide +kernel
theorem dL_place_15 : decode cL_place 15 = .ok (.astore 5, 2) := by decide +kernel
theorem dL_place_17 : decode cL_place 17 = .ok (.iconst 1, 1) := by decide +kernel
theorem dL_place_18 : decode cL_place 18 = .ok (.ireturn, 1) := by decide +kernel
theorem dL_place_19 : decode cL_place 19 = .ok (.astore 5, 2) := by decide +kernel
theorem dL_place_21 : decode cL_place 21 = .ok (.iconst 2, 1) := by decide +kernel
theorem dL_place_22 : decode cL_place 22 = .ok (.ireturn, 1) := by decide +kernel
theorem dL_place_23 : decode cL_place 23 = .ok (.iconst 0, 1) := by decide +kernel
theorem dL_place_24 : decode cL_place 24 = .ok (.ireturn, 1) := by decide +kernel
theorem dL_stock_0 : decode cL_stock 0 = .ok (.aload_n 3, 1) := by decide +kernel
theorem dL_stock_1 : decode cL_stock 1 = .ok (.iconst 0, 1) := by decide +kernel
theorem dL_stock_2 : decode cL_stock 2 = .ok (.aload_n 0, 1) := by decide +kernel
theorem dL_stock_3 : decode cL_stock 3 = .ok (.iload_n 1, 1) := by decide +kernel
theorem dL_stock_4 : decode cL_stock 4 = .ok (.iload_n 2, 1) := by decide +kernel
theorem dL_stock_5 : decode cL_stock 5 = .ok (.invokevirtual 28, 3) := by decide +kernel
theorem dL_stock_8 : decode cL_stock 8 = .ok (.i2l, 1) := by decide +kernel
theorem dL_stock_9 : decode cL_stock 9 = .ok (.lastore, 1) := by decide +kernel
theorem dL_stock_10 : decode cL_stock 10 = .ok (.goto 7, 3) := by decide +kernel
theorem dL_stock_13 : decode cL_stock 13 = .ok (.astore 4, 2) := by decide +kernel
theorem dL_stock_15 : decode cL_stock 15 = .ok (.iconst 1, 1) := by decide +kernel
theorem dL_stock_16 : decode cL_stock 16 = .ok (.ireturn, 1) := by decide +kernel
theorem dL_stock_17 : decode cL_stock 17 = .ok (.iconst 0, 1) := by decide +kernel
theorem dL_stock_18 : decode cL_stock 18 = .ok (.ireturn, 1) := by decide +kernel
theorem dL_message_0 : decode cL_message 0 = .ok (.aload_n 2, 1) := by decide +kernel
theorem dL_message_1 : decode cL_message 1 = .ok (.iconst 0, 1) := by decide +kernel
theorem dL_message_2 : decode cL_message 2 = .ok (.aload_n 0, 1) := by decide +kernel
theorem dL_message_3 : decode cL_message 3 = .ok (.iload_n 1, 1) := by decide +kernel
theorem dL_message_4 : decode cL_message 4 = .ok (.invokevirtual 31, 3) := by decide +kernel
theorem dL_message_7 : decode cL_message 7 = .ok (.i2l, 1) := by decide +kernel
theorem dL_message_8 : decode cL_message 8 = .ok (.lastore, 1) := by decide +kernel
theorem dL_message_9 : decode cL_message 9 = .ok (.goto 6, 3) := by decide +kernel
theorem dL_message_12 : decode cL_message 12 = .ok (.astore_n 3, 1) := by decide +kernel
theorem dL_message_13 : decode cL_message 13 = .ok (.iconst 1, 1) := by decide +kernel
theorem dL_message_14 : decode cL_message 14 = .ok (.ireturn, 1) := by decide +kernel
theorem dL_message_15 : decode cL_message 15 = .ok (.iconst 0, 1) := by decide +kernel
theorem dL_message_16 : decode cL_message 16 = .ok (.ireturn, 1) := by decide +kernel
theorem dL_cutOf_0 : decode cL_cutOf 0 = .ok (.aload_n 3, 1) := by decide +kernel
theorem dL_cutOf_1 : decode cL_cutOf 1 = .ok (.iconst 0, 1) := by decide +kernel
theorem dL_cutOf_2 : decode cL_cutOf 2 = .ok (.aload_n 0, 1) := by decide +kernel
theorem dL_cutOf_3 : decode cL_cutOf 3 = .ok (.iload_n 1, 1) := by decide +kernel
theorem dL_cutOf_4 : decode cL_cutOf 4 = .ok (.iload_n 2, 1) := by decide +kernel
theorem dL_cutOf_5 : decode cL_cutOf 5 = .ok (.invokevirtual 36, 3) := by decide +kernel
theorem dL_cutOf_8 : decode cL_cutOf 8 = .ok (.i2l, 1) := by decide +kernel
theorem dL_cutOf_9 : decode cL_cutOf 9 = .ok (.lastore, 1) := by decide +kernel
theorem dL_cutOf_10 : decode cL_cutOf 10 = .ok (.goto 11, 3) := by decide +kernel
theorem dL_cutOf_13 : decode cL_cutOf 13 = .ok (.astore 4, 2) := by decide +kernel
theorem dL_cutOf_15 : decode cL_cutOf 15 = .ok (.iconst 1, 1) := by decide +kernel
theorem dL_cutOf_16 : decode cL_cutOf 16 = .ok (.ireturn, 1) := by decide +kernel
theorem dL_cutOf_17 : decode cL_cutOf 17 = .ok (.astore 4, 2) := by decide +kernel
theorem dL_cutOf_19 : decode cL_cutOf 19 = .ok (.iconst 2, 1) := by decide +kernel
theorem dL_cutOf_20 : decode cL_cutOf 20 = .ok (.ireturn, 1) := by decide +kernel
theorem dL_cutOf_21 : decode cL_cutOf 21 = .ok (.iconst 0, 1) := by decide +kernel
theorem dL_cutOf_22 : decode cL_cutOf 22 = .ok (.ireturn, 1) := by decide +kernel
theorem dL_longest_0 : decode cL_longest 0 = .ok (.aload_n 2, 1) := by decide +kernel
theorem dL_longest_1 : decode cL_longest 1 = .ok (.iconst 0, 1) := by decide +kernel
theorem dL_longest_2 : decode cL_longest 2 = .ok (.aload_n 0, 1) := by decide +kernel
theorem dL_longest_3 : decode cL_longest 3 = .ok (.iload_n 1, 1) := by decide +kernel
theorem dL_longest_4 : decode cL_longest 4 = .ok (.invokevirtual 39, 3) := by decide +kernel
theorem dL_longest_7 : decode cL_longest 7 = .ok (.i2l, 1) := by decide +kernel
theorem dL_longest_8 : decode cL_longest 8 = .ok (.lastore, 1) := by decide +kernel
theorem dL_longest_9 : decode cL_longest 9 = .ok (.goto 6, 3) := by decide +kernel
theorem dL_longest_12 : decode cL_longest 12 = .ok (.astore_n 3, 1) := by decide +kernel
theorem dL_longest_13 : decode cL_longest 13 = .ok (.iconst 1, 1) := by decide +kernel
theorem dL_longest_14 : decode cL_longest 14 = .ok (.ireturn, 1) := by decide +kernel
theorem dL_longest_15 : decode cL_longest 15 = .ok (.iconst 0, 1) := by decide +kernel
theorem dL_longest_16 : decode cL_longest 16 = .ok (.ireturn, 1) := by decide +kernel
theorem dL_tell_0 : decode cL_tell 0 = .ok (.aload_n 2, 1) := by decide +kernel
theorem dL_tell_1 : decode cL_tell 1 = .ok (.iconst 0, 1) := by decide +kernel
theorem dL_tell_2 : decode cL_tell 2 = .ok (.aload_n 0, 1) := by decide +kernel
theorem dL_tell_3 : decode cL_tell 3 = .ok (.iload_n 1, 1) := by decide +kernel
theorem dL_tell_4 : decode cL_tell 4 = .ok (.invokevirtual 42, 3) := by decide +kernel
theorem dL_tell_7 : decode cL_tell 7 = .ok (.i2l, 1) := by decide +kernel
theorem dL_tell_8 : decode cL_tell 8 = .ok (.lastore, 1) := by decide +kernel
theorem dL_tell_9 : decode cL_tell 9 = .ok (.goto 6, 3) := by decide +kernel
theorem dL_tell_12 : decode cL_tell 12 = .ok (.astore_n 3, 1) := by decide +kernel
theorem dL_tell_13 : decode cL_tell 13 = .ok (.iconst 1, 1) := by decide +kernel
theorem dL_tell_14 : decode cL_tell 14 = .ok (.ireturn, 1) := by decide +kernel
theorem dL_tell_15 : decode cL_tell 15 = .ok (.iconst 0, 1) := by decide +kernel
theorem dL_tell_16 : decode cL_tell 16 = .ok (.ireturn, 1) := by decide +kernel
theorem dL_cut_0 : decode cL_cut 0 = .ok (.aload_n 1, 1) := by decide +kernel
theorem dL_cut_1 : decode cL_cut 1 = .ok (.iconst 0, 1) := by decide +kernel
theorem dL_cut_2 : decode cL_cut 2 = .ok (.aload_n 0, 1) := by decide +kernel
theorem dL_cut_3 : decode cL_cut 3 = .ok (.invokevirtual 45, 3) := by decide +kernel
theorem dL_cut_6 : decode cL_cut 6 = .ok (.i2l, 1) := by decide +kernel
theorem dL_cut_7 : decode cL_cut 7 = .ok (.lastore, 1) := by decide +kernel
theorem dL_cut_8 : decode cL_cut 8 = .ok (.goto 6, 3) := by decide +kernel
theorem dL_cut_11 : decode cL_cut 11 = .ok (.astore_n 2, 1) := by decide +kernel
theorem dL_cut_12 : decode cL_cut 12 = .ok (.iconst 1, 1) := by decide +kernel
theorem dL_cut_13 : decode cL_cut 13 = .ok (.ireturn, 1) := by decide +kernel
theorem dL_cut_14 : decode cL_cut 14 = .ok (.iconst 0, 1) := by decide +kernel
theorem dL_cut_15 : decode cL_cut 15 = .ok (.ireturn, 1) := by decide +kernel
theorem dL_snip_0 : decode cL_snip 0 = .ok (.aload 4, 2) := by decide +kernel
theorem dL_snip_2 : decode cL_snip 2 = .ok (.iconst 0, 1) := by decide +kernel
theorem dL_snip_3 : decode cL_snip 3 = .ok (.aload_n 0, 1) := by decide +kernel
theorem dL_snip_4 : decode cL_snip 4 = .ok (.iload_n 1, 1) := by decide +kernel
theorem dL_snip_5 : decode cL_snip 5 = .ok (.iload_n 2, 1) := by decide +kernel
theorem dL_snip_6 : decode cL_snip 6 = .ok (.iload_n 3, 1) := by decide +kernel
theorem dL_snip_7 : decode cL_snip 7 = .ok (.invokevirtual 51, 3) := by decide +kernel
theorem dL_snip_10 : decode cL_snip 10 = .ok (.i2l, 1) := by decide +kernel
theorem dL_snip_11 : decode cL_snip 11 = .ok (.lastore, 1) := by decide +kernel
theorem dL_snip_12 : decode cL_snip 12 = .ok (.goto 15, 3) := by decide +kernel
theorem dL_snip_15 : decode cL_snip 15 = .ok (.astore 5, 2) := by decide +kernel
theorem dL_snip_17 : decode cL_snip 17 = .ok (.iconst 1, 1) := by decide +kernel
theorem dL_snip_18 : decode cL_snip 18 = .ok (.ireturn, 1) := by decide +kernel
theorem dL_snip_19 : decode cL_snip 19 = .ok (.astore 5, 2) := by decide +kernel
theorem dL_snip_21 : decode cL_snip 21 = .ok (.iconst 2, 1) := by decide +kernel
theorem dL_snip_22 : decode cL_snip 22 = .ok (.ireturn, 1) := by decide +kernel
theorem dL_snip_23 : decode cL_snip 23 = .ok (.astore 5, 2) := by decide +kernel
theorem dL_snip_25 : decode cL_snip 25 = .ok (.iconst 3, 1) := by decide +kernel
theorem dL_snip_26 : decode cL_snip 26 = .ok (.ireturn, 1) := by decide +kernel
theorem dL_snip_27 : decode cL_snip 27 = .ok (.iconst 0, 1) := by decide +kernel
theorem dL_snip_28 : decode cL_snip 28 = .ok (.ireturn, 1) := by decide +kernel
theorem dL_least_0 : decode cL_least 0 = .ok (.aload_n 2, 1) := by decide +kernel
theorem dL_least_1 : decode cL_least 1 = .ok (.iconst 0, 1) := by decide +kernel
theorem dL_least_2 : decode cL_least 2 = .ok (.aload_n 0, 1) := by decide +kernel
theorem dL_least_3 : decode cL_least 3 = .ok (.iload_n 1, 1) := by decide +kernel
theorem dL_least_4 : decode cL_least 4 = .ok (.invokevirtual 54, 3) := by decide +kernel
theorem dL_least_7 : decode cL_least 7 = .ok (.i2l, 1) := by decide +kernel
theorem dL_least_8 : decode cL_least 8 = .ok (.lastore, 1) := by decide +kernel
theorem dL_least_9 : decode cL_least 9 = .ok (.goto 6, 3) := by decide +kernel
theorem dL_least_12 : decode cL_least 12 = .ok (.astore_n 3, 1) := by decide +kernel
theorem dL_least_13 : decode cL_least 13 = .ok (.iconst 1, 1) := by decide +kernel
theorem dL_least_14 : decode cL_least 14 = .ok (.ireturn, 1) := by decide +kernel
theorem dL_least_15 : decode cL_least 15 = .ok (.iconst 0, 1) := by decide +kernel
theorem dL_least_16 : decode cL_least 16 = .ok (.ireturn, 1) := by decide +kernel
theorem dL_mend_0 : decode cL_mend 0 = .ok (.aload_n 2, 1) := by decide +kernel
theorem dL_mend_1 : decode cL_mend 1 = .ok (.iconst 0, 1) := by decide +kernel
theorem dL_mend_2 : decode cL_mend 2 = .ok (.aload_n 0, 1) := by decide +kernel
theorem dL_mend_3 : decode cL_mend 3 = .ok (.iload_n 1, 1) := by decide +kernel
theorem dL_mend_4 : decode cL_mend 4 = .ok (.invokevirtual 57, 3) := by decide +kernel
theorem dL_mend_7 : decode cL_mend 7 = .ok (.i2l, 1) := by decide +kernel
theorem dL_mend_8 : decode cL_mend 8 = .ok (.lastore, 1) := by decide +kernel
theorem dL_mend_9 : decode cL_mend 9 = .ok (.goto 9, 3) := by decide +kernel
theorem dL_mend_12 : decode cL_mend 12 = .ok (.astore_n 3, 1) := by decide +kernel
theorem dL_mend_13 : decode cL_mend 13 = .ok (.iconst 1, 1) := by decide +kernel
theorem dL_mend_14 : decode cL_mend 14 = .ok (.ireturn, 1) := by decide +kernel
theorem dL_mend_15 : decode cL_mend 15 = .ok (.astore_n 3, 1) := by decide +kernel
theorem dL_mend_16 : decode cL_mend 16 = .ok (.iconst 2, 1) := by decide +kernel
theorem dL_mend_17 : decode cL_mend 17 = .ok (.ireturn, 1) := by decide +kernel
theorem dL_mend_18 : decode cL_mend 18 = .ok (.iconst 0, 1) := by decide +kernel
theorem dL_mend_19 : decode cL_mend 19 = .ok (.ireturn, 1) := by decide +kernel
theorem dL_law_0 : decode cL_law 0 = .ok (.new 8, 3) := by decide +kernel
theorem dL_law_3 : decode cL_law 3 = .ok (.dup, 1) := by decide +kernel
theorem dL_law_4 : decode cL_law 4 = .ok (.invokespecial 60, 3) := by decide +kernel
theorem dL_law_7 : decode cL_law 7 = .ok (.astore_n 1, 1) := by decide +kernel
theorem dL_law_8 : decode cL_law 8 = .ok (.new 61, 3) := by decide +kernel
theorem dL_law_11 : decode cL_law 11 = .ok (.dup, 1) := by decide +kernel
theorem dL_law_12 : decode cL_law 12 = .ok (.invokespecial 63, 3) := by decide +kernel
theorem dL_law_15 : decode cL_law 15 = .ok (.astore_n 2, 1) := by decide +kernel
theorem dL_law_16 : decode cL_law 16 = .ok (.iconst 1, 1) := by decide +kernel
theorem dL_law_17 : decode cL_law 17 = .ok (.newarray .long, 2) := by decide +kernel
theorem dL_law_19 : decode cL_law 19 = .ok (.astore_n 3, 1) := by decide +kernel
theorem dL_law_20 : decode cL_law 20 = .ok (.iconst 0, 1) := by decide +kernel
theorem dL_law_21 : decode cL_law 21 = .ok (.istore 4, 2) := by decide +kernel
theorem dL_law_23 : decode cL_law 23 = .ok (.iload 4, 2) := by decide +kernel
theorem dL_law_25 : decode cL_law 25 = .ok (.aload_n 0, 1) := by decide +kernel
theorem dL_law_26 : decode cL_law 26 = .ok (.arraylength, 1) := by decide +kernel
theorem dL_law_27 : decode cL_law 27 = .ok (.bipush 6, 2) := by decide +kernel
theorem dL_law_29 : decode cL_law 29 = .ok (.isub, 1) := by decide +kernel
theorem dL_law_30 : decode cL_law 30 = .ok (.if_icmp .gt 1143, 3) := by decide +kernel
theorem dL_law_33 : decode cL_law 33 = .ok (.aload_n 0, 1) := by decide +kernel
theorem dL_law_34 : decode cL_law 34 = .ok (.iload 4, 2) := by decide +kernel
theorem dL_law_36 : decode cL_law 36 = .ok (.iaload, 1) := by decide +kernel
theorem dL_law_37 : decode cL_law 37 = .ok (.bipush 31, 2) := by decide +kernel
theorem dL_law_39 : decode cL_law 39 = .ok (.iand, 1) := by decide +kernel
theorem dL_law_40 : decode cL_law 40 = .ok (.tableswitch 1127 0 22 #[108, 181, 237, 250, 306, 374, 454, 522, 578, 591, 604, 672, 685, 698, 754, 767, 808, 864, 908, 988, 1044, 1100, 1113], 108) := by decide +kernel
theorem dL_law_148 : decode cL_law 148 = .ok (.aload_n 1, 1) := by decide +kernel
theorem dL_law_149 : decode cL_law 149 = .ok (.aload_n 0, 1) := by decide +kernel
theorem dL_law_150 : decode cL_law 150 = .ok (.iload 4, 2) := by decide +kernel
theorem dL_law_152 : decode cL_law 152 = .ok (.iconst 1, 1) := by decide +kernel
theorem dL_law_153 : decode cL_law 153 = .ok (.iadd, 1) := by decide +kernel
theorem dL_law_154 : decode cL_law 154 = .ok (.iaload, 1) := by decide +kernel
theorem dL_law_155 : decode cL_law 155 = .ok (.aload_n 0, 1) := by decide +kernel
theorem dL_law_156 : decode cL_law 156 = .ok (.iload 4, 2) := by decide +kernel
theorem dL_law_158 : decode cL_law 158 = .ok (.iconst 2, 1) := by decide +kernel
theorem dL_law_159 : decode cL_law 159 = .ok (.iadd, 1) := by decide +kernel
theorem dL_law_160 : decode cL_law 160 = .ok (.iaload, 1) := by decide +kernel
theorem dL_law_161 : decode cL_law 161 = .ok (.aload_n 0, 1) := by decide +kernel
theorem dL_law_162 : decode cL_law 162 = .ok (.iload 4, 2) := by decide +kernel
theorem dL_law_164 : decode cL_law 164 = .ok (.iconst 3, 1) := by decide +kernel
theorem dL_law_165 : decode cL_law 165 = .ok (.iadd, 1) := by decide +kernel
theorem dL_law_166 : decode cL_law 166 = .ok (.iaload, 1) := by decide +kernel
theorem dL_law_167 : decode cL_law 167 = .ok (.aload_n 0, 1) := by decide +kernel
theorem dL_law_168 : decode cL_law 168 = .ok (.iload 4, 2) := by decide +kernel
theorem dL_law_170 : decode cL_law 170 = .ok (.iconst 4, 1) := by decide +kernel
theorem dL_law_171 : decode cL_law 171 = .ok (.iadd, 1) := by decide +kernel
theorem dL_law_172 : decode cL_law 172 = .ok (.iaload, 1) := by decide +kernel
theorem dL_law_173 : decode cL_law 173 = .ok (.aload_n 0, 1) := by decide +kernel
theorem dL_law_174 : decode cL_law 174 = .ok (.iload 4, 2) := by decide +kernel
theorem dL_law_176 : decode cL_law 176 = .ok (.iconst 5, 1) := by decide +kernel
theorem dL_law_177 : decode cL_law 177 = .ok (.iadd, 1) := by decide +kernel
theorem dL_law_178 : decode cL_law 178 = .ok (.iaload, 1) := by decide +kernel
theorem dL_law_179 : decode cL_law 179 = .ok (.invokevirtual 64, 3) := by decide +kernel
theorem dL_law_182 : decode cL_law 182 = .ok (.aload_n 2, 1) := by decide +kernel
theorem dL_law_183 : decode cL_law 183 = .ok (.aload_n 0, 1) := by decide +kernel
theorem dL_law_184 : decode cL_law 184 = .ok (.iload 4, 2) := by decide +kernel
theorem dL_law_186 : decode cL_law 186 = .ok (.iconst 1, 1) := by decide +kernel
theorem dL_law_187 : decode cL_law 187 = .ok (.iadd, 1) := by decide +kernel
theorem dL_law_188 : decode cL_law 188 = .ok (.iaload, 1) := by decide +kernel
theorem dL_law_189 : decode cL_law 189 = .ok (.aload_n 0, 1) := by decide +kernel
theorem dL_law_190 : decode cL_law 190 = .ok (.iload 4, 2) := by decide +kernel
theorem dL_law_192 : decode cL_law 192 = .ok (.iconst 2, 1) := by decide +kernel
theorem dL_law_193 : decode cL_law 193 = .ok (.iadd, 1) := by decide +kernel
theorem dL_law_194 : decode cL_law 194 = .ok (.iaload, 1) := by decide +kernel
theorem dL_law_195 : decode cL_law 195 = .ok (.aload_n 0, 1) := by decide +kernel
theorem dL_law_196 : decode cL_law 196 = .ok (.iload 4, 2) := by decide +kernel
theorem dL_law_198 : decode cL_law 198 = .ok (.iconst 3, 1) := by decide +kernel
theorem dL_law_199 : decode cL_law 199 = .ok (.iadd, 1) := by decide +kernel
theorem dL_law_200 : decode cL_law 200 = .ok (.iaload, 1) := by decide +kernel
theorem dL_law_201 : decode cL_law 201 = .ok (.aload_n 0, 1) := by decide +kernel
theorem dL_law_202 : decode cL_law 202 = .ok (.iload 4, 2) := by decide +kernel
theorem dL_law_204 : decode cL_law 204 = .ok (.iconst 4, 1) := by decide +kernel
theorem dL_law_205 : decode cL_law 205 = .ok (.iadd, 1) := by decide +kernel
theorem dL_law_206 : decode cL_law 206 = .ok (.iaload, 1) := by decide +kernel
theorem dL_law_207 : decode cL_law 207 = .ok (.aload_n 0, 1) := by decide +kernel
theorem dL_law_208 : decode cL_law 208 = .ok (.iload 4, 2) := by decide +kernel
theorem dL_law_210 : decode cL_law 210 = .ok (.iconst 5, 1) := by decide +kernel
theorem dL_law_211 : decode cL_law 211 = .ok (.iadd, 1) := by decide +kernel
theorem dL_law_212 : decode cL_law 212 = .ok (.iaload, 1) := by decide +kernel
theorem dL_law_213 : decode cL_law 213 = .ok (.invokevirtual 68, 3) := by decide +kernel
theorem dL_law_216 : decode cL_law 216 = .ok (.if_icmp .eq 951, 3) := by decide +kernel
theorem dL_law_219 : decode cL_law 219 = .ok (.iconst 0, 1) := by decide +kernel
theorem dL_law_220 : decode cL_law 220 = .ok (.ireturn, 1) := by decide +kernel
theorem dL_law_221 : decode cL_law 221 = .ok (.aload_n 1, 1) := by decide +kernel
theorem dL_law_222 : decode cL_law 222 = .ok (.aload_n 0, 1) := by decide +kernel
theorem dL_law_223 : decode cL_law 223 = .ok (.iload 4, 2) := by decide +kernel
theorem dL_law_225 : decode cL_law 225 = .ok (.iconst 1, 1) := by decide +kernel
theorem dL_law_226 : decode cL_law 226 = .ok (.iadd, 1) := by decide +kernel
theorem dL_law_227 : decode cL_law 227 = .ok (.iaload, 1) := by decide +kernel
theorem dL_law_228 : decode cL_law 228 = .ok (.aload_n 3, 1) := by decide +kernel
theorem dL_law_229 : decode cL_law 229 = .ok (.invokestatic 69, 3) := by decide +kernel
theorem dL_law_232 : decode cL_law 232 = .ok (.istore 5, 2) := by decide +kernel
theorem dL_law_234 : decode cL_law 234 = .ok (.aload_n 2, 1) := by decide +kernel
theorem dL_law_235 : decode cL_law 235 = .ok (.aload_n 0, 1) := by decide +kernel
theorem dL_law_236 : decode cL_law 236 = .ok (.iload 4, 2) := by decide +kernel
theorem dL_law_238 : decode cL_law 238 = .ok (.iconst 1, 1) := by decide +kernel
theorem dL_law_239 : decode cL_law 239 = .ok (.iadd, 1) := by decide +kernel
theorem dL_law_240 : decode cL_law 240 = .ok (.iaload, 1) := by decide +kernel
theorem dL_law_241 : decode cL_law 241 = .ok (.invokevirtual 74, 3) := by decide +kernel
theorem dL_law_244 : decode cL_law 244 = .ok (.istore 6, 2) := by decide +kernel
theorem dL_law_246 : decode cL_law 246 = .ok (.aload_n 2, 1) := by decide +kernel
theorem dL_law_247 : decode cL_law 247 = .ok (.invokevirtual 75, 3) := by decide +kernel
theorem dL_law_250 : decode cL_law 250 = .ok (.iload 5, 2) := by decide +kernel
theorem dL_law_252 : decode cL_law 252 = .ok (.if_icmp .eq 5, 3) := by decide +kernel
theorem dL_law_255 : decode cL_law 255 = .ok (.iconst 0, 1) := by decide +kernel
theorem dL_law_256 : decode cL_law 256 = .ok (.ireturn, 1) := by decide +kernel
theorem dL_law_257 : decode cL_law 257 = .ok (.iload 5, 2) := by decide +kernel
theorem dL_law_259 : decode cL_law 259 = .ok (.ifCond .ne 15, 3) := by decide +kernel
theorem dL_law_262 : decode cL_law 262 = .ok (.aload_n 3, 1) := by decide +kernel
theorem dL_law_263 : decode cL_law 263 = .ok (.iconst 0, 1) := by decide +kernel
theorem dL_law_264 : decode cL_law 264 = .ok (.laload, 1) := by decide +kernel
theorem dL_law_265 : decode cL_law 265 = .ok (.iload 6, 2) := by decide +kernel
theorem dL_law_267 : decode cL_law 267 = .ok (.i2l, 1) := by decide +kernel
theorem dL_law_268 : decode cL_law 268 = .ok (.lcmp, 1) := by decide +kernel
theorem dL_law_269 : decode cL_law 269 = .ok (.ifCond .eq 5, 3) := by decide +kernel
theorem dL_law_272 : decode cL_law 272 = .ok (.iconst 0, 1) := by decide +kernel
theorem dL_law_273 : decode cL_law 273 = .ok (.ireturn, 1) := by decide +kernel
theorem dL_law_274 : decode cL_law 274 = .ok (.goto 893, 3) := by decide +kernel
theorem dL_law_277 : decode cL_law 277 = .ok (.aload_n 1, 1) := by decide +kernel
theorem dL_law_278 : decode cL_law 278 = .ok (.invokevirtual 78, 3) := by decide +kernel
theorem dL_law_281 : decode cL_law 281 = .ok (.aload_n 2, 1) := by decide +kernel
theorem dL_law_282 : decode cL_law 282 = .ok (.invokevirtual 81, 3) := by decide +kernel
theorem dL_law_285 : decode cL_law 285 = .ok (.if_icmp .eq 882, 3) := by decide +kernel
theorem dL_law_288 : decode cL_law 288 = .ok (.iconst 0, 1) := by decide +kernel
theorem dL_law_289 : decode cL_law 289 = .ok (.ireturn, 1) := by decide +kernel
theorem dL_law_290 : decode cL_law 290 = .ok (.aload_n 1, 1) := by decide +kernel
theorem dL_law_291 : decode cL_law 291 = .ok (.aload_n 0, 1) := by decide +kernel
theorem dL_law_292 : decode cL_law 292 = .ok (.iload 4, 2) := by decide +kernel
theorem dL_law_294 : decode cL_law 294 = .ok (.iconst 1, 1) := by decide +kernel
theorem dL_law_295 : decode cL_law 295 = .ok (.iadd, 1) := by decide +kernel
theorem dL_law_296 : decode cL_law 296 = .ok (.iaload, 1) := by decide +kernel
theorem dL_law_297 : decode cL_law 297 = .ok (.aload_n 3, 1) := by decide +kernel
theorem dL_law_298 : decode cL_law 298 = .ok (.invokestatic 82, 3) := by decide +kernel
theorem dL_law_301 : decode cL_law 301 = .ok (.istore 5, 2) := by decide +kernel
theorem dL_law_303 : decode cL_law 303 = .ok (.aload_n 2, 1) := by decide +kernel
theorem dL_law_304 : decode cL_law 304 = .ok (.aload_n 0, 1) := by decide +kernel
theorem dL_law_305 : decode cL_law 305 = .ok (.iload 4, 2) := by decide +kernel
theorem dL_law_307 : decode cL_law 307 = .ok (.iconst 1, 1) := by decide +kernel
theorem dL_law_308 : decode cL_law 308 = .ok (.iadd, 1) := by decide +kernel
theorem dL_law_309 : decode cL_law 309 = .ok (.iaload, 1) := by decide +kernel
theorem dL_law_310 : decode cL_law 310 = .ok (.invokevirtual 84, 3) := by decide +kernel
theorem dL_law_313 : decode cL_law 313 = .ok (.istore 6, 2) := by decide +kernel
theorem dL_law_315 : decode cL_law 315 = .ok (.aload_n 2, 1) := by decide +kernel
theorem dL_law_316 : decode cL_law 316 = .ok (.invokevirtual 75, 3) := by decide +kernel
theorem dL_law_319 : decode cL_law 319 = .ok (.iload 5, 2) := by decide +kernel
theorem dL_law_321 : decode cL_law 321 = .ok (.if_icmp .eq 5, 3) := by decide +kernel
theorem dL_law_324 : decode cL_law 324 = .ok (.iconst 0, 1) := by decide +kernel
theorem dL_law_325 : decode cL_law 325 = .ok (.ireturn, 1) := by decide +kernel
theorem dL_law_326 : decode cL_law 326 = .ok (.iload 5, 2) := by decide +kernel
theorem dL_law_328 : decode cL_law 328 = .ok (.ifCond .ne 15, 3) := by decide +kernel
theorem dL_law_331 : decode cL_law 331 = .ok (.aload_n 3, 1) := by decide +kernel
theorem dL_law_332 : decode cL_law 332 = .ok (.iconst 0, 1) := by decide +kernel
theorem dL_law_333 : decode cL_law 333 = .ok (.laload, 1) := by decide +kernel
theorem dL_law_334 : decode cL_law 334 = .ok (.iload 6, 2) := by decide +kernel
theorem dL_law_336 : decode cL_law 336 = .ok (.i2l, 1) := by decide +kernel
theorem dL_law_337 : decode cL_law 337 = .ok (.lcmp, 1) := by decide +kernel
theorem dL_law_338 : decode cL_law 338 = .ok (.ifCond .eq 5, 3) := by decide +kernel
theorem dL_law_341 : decode cL_law 341 = .ok (.iconst 0, 1) := by decide +kernel
theorem dL_law_342 : decode cL_law 342 = .ok (.ireturn, 1) := by decide +kernel
theorem dL_law_343 : decode cL_law 343 = .ok (.goto 824, 3) := by decide +kernel
theorem dL_law_346 : decode cL_law 346 = .ok (.aload_n 1, 1) := by decide +kernel
theorem dL_law_347 : decode cL_law 347 = .ok (.aload_n 0, 1) := by decide +kernel
theorem dL_law_348 : decode cL_law 348 = .ok (.iload 4, 2) := by decide +kernel
theorem dL_law_350 : decode cL_law 350 = .ok (.iconst 1, 1) := by decide +kernel
theorem dL_law_351 : decode cL_law 351 = .ok (.iadd, 1) := by decide +kernel
theorem dL_law_352 : decode cL_law 352 = .ok (.iaload, 1) := by decide +kernel
theorem dL_law_353 : decode cL_law 353 = .ok (.aload_n 0, 1) := by decide +kernel
theorem dL_law_354 : decode cL_law 354 = .ok (.iload 4, 2) := by decide +kernel
theorem dL_law_356 : decode cL_law 356 = .ok (.iconst 2, 1) := by decide +kernel
theorem dL_law_357 : decode cL_law 357 = .ok (.iadd, 1) := by decide +kernel
theorem dL_law_358 : decode cL_law 358 = .ok (.iaload, 1) := by decide +kernel
theorem dL_law_359 : decode cL_law 359 = .ok (.aload_n 3, 1) := by decide +kernel
theorem dL_law_360 : decode cL_law 360 = .ok (.invokestatic 85, 3) := by decide +kernel
theorem dL_law_363 : decode cL_law 363 = .ok (.istore 5, 2) := by decide +kernel
theorem dL_law_365 : decode cL_law 365 = .ok (.aload_n 2, 1) := by decide +kernel
theorem dL_law_366 : decode cL_law 366 = .ok (.aload_n 0, 1) := by decide +kernel
theorem dL_law_367 : decode cL_law 367 = .ok (.iload 4, 2) := by decide +kernel
theorem dL_law_369 : decode cL_law 369 = .ok (.iconst 1, 1) := by decide +kernel
theorem dL_law_370 : decode cL_law 370 = .ok (.iadd, 1) := by decide +kernel
theorem dL_law_371 : decode cL_law 371 = .ok (.iaload, 1) := by decide +kernel
theorem dL_law_372 : decode cL_law 372 = .ok (.aload_n 0, 1) := by decide +kernel
theorem dL_law_373 : decode cL_law 373 = .ok (.iload 4, 2) := by decide +kernel
theorem dL_law_375 : decode cL_law 375 = .ok (.iconst 2, 1) := by decide +kernel
theorem dL_law_376 : decode cL_law 376 = .ok (.iadd, 1) := by decide +kernel
theorem dL_law_377 : decode cL_law 377 = .ok (.iaload, 1) := by decide +kernel
theorem dL_law_378 : decode cL_law 378 = .ok (.invokevirtual 88, 3) := by decide +kernel
theorem dL_law_381 : decode cL_law 381 = .ok (.istore 6, 2) := by decide +kernel
theorem dL_law_383 : decode cL_law 383 = .ok (.aload_n 2, 1) := by decide +kernel
theorem dL_law_384 : decode cL_law 384 = .ok (.invokevirtual 75, 3) := by decide +kernel
theorem dL_law_387 : decode cL_law 387 = .ok (.iload 5, 2) := by decide +kernel
theorem dL_law_389 : decode cL_law 389 = .ok (.if_icmp .eq 5, 3) := by decide +kernel
theorem dL_law_392 : decode cL_law 392 = .ok (.iconst 0, 1) := by decide +kernel
theorem dL_law_393 : decode cL_law 393 = .ok (.ireturn, 1) := by decide +kernel
theorem dL_law_394 : decode cL_law 394 = .ok (.iload 5, 2) := by decide +kernel
theorem dL_law_396 : decode cL_law 396 = .ok (.ifCond .ne 15, 3) := by decide +kernel
theorem dL_law_399 : decode cL_law 399 = .ok (.aload_n 3, 1) := by decide +kernel
theorem dL_law_400 : decode cL_law 400 = .ok (.iconst 0, 1) := by decide +kernel
theorem dL_law_401 : decode cL_law 401 = .ok (.laload, 1) := by decide +kernel
theorem dL_law_402 : decode cL_law 402 = .ok (.iload 6, 2) := by decide +kernel
theorem dL_law_404 : decode cL_law 404 = .ok (.i2l, 1) := by decide +kernel
theorem dL_law_405 : decode cL_law 405 = .ok (.lcmp, 1) := by decide +kernel
theorem dL_law_406 : decode cL_law 406 = .ok (.ifCond .eq 5, 3) := by decide +kernel
theorem dL_law_409 : decode cL_law 409 = .ok (.iconst 0, 1) := by decide +kernel
theorem dL_law_410 : decode cL_law 410 = .ok (.ireturn, 1) := by decide +kernel
theorem dL_law_411 : decode cL_law 411 = .ok (.goto 756, 3) := by decide +kernel
theorem dL_law_414 : decode cL_law 414 = .ok (.aload_n 1, 1) := by decide +kernel
theorem dL_law_415 : decode cL_law 415 = .ok (.aload_n 0, 1) := by decide +kernel
theorem dL_law_416 : decode cL_law 416 = .ok (.iload 4, 2) := by decide +kernel
theorem dL_law_418 : decode cL_law 418 = .ok (.iconst 1, 1) := by decide +kernel
theorem dL_law_419 : decode cL_law 419 = .ok (.iadd, 1) := by decide +kernel
theorem dL_law_420 : decode cL_law 420 = .ok (.iaload, 1) := by decide +kernel
theorem dL_law_421 : decode cL_law 421 = .ok (.aload_n 0, 1) := by decide +kernel
theorem dL_law_422 : decode cL_law 422 = .ok (.iload 4, 2) := by decide +kernel
theorem dL_law_424 : decode cL_law 424 = .ok (.iconst 2, 1) := by decide +kernel
theorem dL_law_425 : decode cL_law 425 = .ok (.iadd, 1) := by decide +kernel
theorem dL_law_426 : decode cL_law 426 = .ok (.iaload, 1) := by decide +kernel
theorem dL_law_427 : decode cL_law 427 = .ok (.aload_n 0, 1) := by decide +kernel
theorem dL_law_428 : decode cL_law 428 = .ok (.iload 4, 2) := by decide +kernel
theorem dL_law_430 : decode cL_law 430 = .ok (.iconst 3, 1) := by decide +kernel
theorem dL_law_431 : decode cL_law 431 = .ok (.iadd, 1) := by decide +kernel
theorem dL_law_432 : decode cL_law 432 = .ok (.iaload, 1) := by decide +kernel
theorem dL_law_433 : decode cL_law 433 = .ok (.aload_n 3, 1) := by decide +kernel
theorem dL_law_434 : decode cL_law 434 = .ok (.invokestatic 89, 3) := by decide +kernel
theorem dL_law_437 : decode cL_law 437 = .ok (.istore 5, 2) := by decide +kernel
theorem dL_law_439 : decode cL_law 439 = .ok (.aload_n 2, 1) := by decide +kernel
theorem dL_law_440 : decode cL_law 440 = .ok (.aload_n 0, 1) := by decide +kernel
theorem dL_law_441 : decode cL_law 441 = .ok (.iload 4, 2) := by decide +kernel
theorem dL_law_443 : decode cL_law 443 = .ok (.iconst 1, 1) := by decide +kernel
theorem dL_law_444 : decode cL_law 444 = .ok (.iadd, 1) := by decide +kernel
theorem dL_law_445 : decode cL_law 445 = .ok (.iaload, 1) := by decide +kernel
theorem dL_law_446 : decode cL_law 446 = .ok (.aload_n 0, 1) := by decide +kernel
theorem dL_law_447 : decode cL_law 447 = .ok (.iload 4, 2) := by decide +kernel
theorem dL_law_449 : decode cL_law 449 = .ok (.iconst 2, 1) := by decide +kernel
theorem dL_law_450 : decode cL_law 450 = .ok (.iadd, 1) := by decide +kernel
theorem dL_law_451 : decode cL_law 451 = .ok (.iaload, 1) := by decide +kernel
theorem dL_law_452 : decode cL_law 452 = .ok (.aload_n 0, 1) := by decide +kernel
theorem dL_law_453 : decode cL_law 453 = .ok (.iload 4, 2) := by decide +kernel
theorem dL_law_455 : decode cL_law 455 = .ok (.iconst 3, 1) := by decide +kernel
theorem dL_law_456 : decode cL_law 456 = .ok (.iadd, 1) := by decide +kernel
theorem dL_law_457 : decode cL_law 457 = .ok (.iaload, 1) := by decide +kernel
theorem dL_law_458 : decode cL_law 458 = .ok (.invokevirtual 92, 3) := by decide +kernel
theorem dL_law_461 : decode cL_law 461 = .ok (.istore 6, 2) := by decide +kernel
theorem dL_law_463 : decode cL_law 463 = .ok (.aload_n 2, 1) := by decide +kernel
theorem dL_law_464 : decode cL_law 464 = .ok (.invokevirtual 75, 3) := by decide +kernel
theorem dL_law_467 : decode cL_law 467 = .ok (.iload 5, 2) := by decide +kernel
theorem dL_law_469 : decode cL_law 469 = .ok (.if_icmp .eq 5, 3) := by decide +kernel
theorem dL_law_472 : decode cL_law 472 = .ok (.iconst 0, 1) := by decide +kernel
theorem dL_law_473 : decode cL_law 473 = .ok (.ireturn, 1) := by decide +kernel
theorem dL_law_474 : decode cL_law 474 = .ok (.iload 5, 2) := by decide +kernel
theorem dL_law_476 : decode cL_law 476 = .ok (.ifCond .ne 15, 3) := by decide +kernel
theorem dL_law_479 : decode cL_law 479 = .ok (.aload_n 3, 1) := by decide +kernel
theorem dL_law_480 : decode cL_law 480 = .ok (.iconst 0, 1) := by decide +kernel
theorem dL_law_481 : decode cL_law 481 = .ok (.laload, 1) := by decide +kernel
theorem dL_law_482 : decode cL_law 482 = .ok (.iload 6, 2) := by decide +kernel
theorem dL_law_484 : decode cL_law 484 = .ok (.i2l, 1) := by decide +kernel
theorem dL_law_485 : decode cL_law 485 = .ok (.lcmp, 1) := by decide +kernel
theorem dL_law_486 : decode cL_law 486 = .ok (.ifCond .eq 5, 3) := by decide +kernel
theorem dL_law_489 : decode cL_law 489 = .ok (.iconst 0, 1) := by decide +kernel
theorem dL_law_490 : decode cL_law 490 = .ok (.ireturn, 1) := by decide +kernel
theorem dL_law_491 : decode cL_law 491 = .ok (.goto 676, 3) := by decide +kernel
theorem dL_law_494 : decode cL_law 494 = .ok (.aload_n 1, 1) := by decide +kernel
theorem dL_law_495 : decode cL_law 495 = .ok (.aload_n 0, 1) := by decide +kernel
theorem dL_law_496 : decode cL_law 496 = .ok (.iload 4, 2) := by decide +kernel
theorem dL_law_498 : decode cL_law 498 = .ok (.iconst 1, 1) := by decide +kernel
theorem dL_law_499 : decode cL_law 499 = .ok (.iadd, 1) := by decide +kernel
theorem dL_law_500 : decode cL_law 500 = .ok (.iaload, 1) := by decide +kernel
theorem dL_law_501 : decode cL_law 501 = .ok (.aload_n 0, 1) := by decide +kernel
theorem dL_law_502 : decode cL_law 502 = .ok (.iload 4, 2) := by decide +kernel
theorem dL_law_504 : decode cL_law 504 = .ok (.iconst 2, 1) := by decide +kernel
theorem dL_law_505 : decode cL_law 505 = .ok (.iadd, 1) := by decide +kernel
theorem dL_law_506 : decode cL_law 506 = .ok (.iaload, 1) := by decide +kernel
theorem dL_law_507 : decode cL_law 507 = .ok (.aload_n 3, 1) := by decide +kernel
theorem dL_law_508 : decode cL_law 508 = .ok (.invokestatic 93, 3) := by decide +kernel
theorem dL_law_511 : decode cL_law 511 = .ok (.istore 5, 2) := by decide +kernel
theorem dL_law_513 : decode cL_law 513 = .ok (.aload_n 2, 1) := by decide +kernel
theorem dL_law_514 : decode cL_law 514 = .ok (.aload_n 0, 1) := by decide +kernel
theorem dL_law_515 : decode cL_law 515 = .ok (.iload 4, 2) := by decide +kernel
theorem dL_law_517 : decode cL_law 517 = .ok (.iconst 1, 1) := by decide +kernel
theorem dL_law_518 : decode cL_law 518 = .ok (.iadd, 1) := by decide +kernel
theorem dL_law_519 : decode cL_law 519 = .ok (.iaload, 1) := by decide +kernel
theorem dL_law_520 : decode cL_law 520 = .ok (.aload_n 0, 1) := by decide +kernel
theorem dL_law_521 : decode cL_law 521 = .ok (.iload 4, 2) := by decide +kernel
theorem dL_law_523 : decode cL_law 523 = .ok (.iconst 2, 1) := by decide +kernel
theorem dL_law_524 : decode cL_law 524 = .ok (.iadd, 1) := by decide +kernel
theorem dL_law_525 : decode cL_law 525 = .ok (.iaload, 1) := by decide +kernel
theorem dL_law_526 : decode cL_law 526 = .ok (.invokevirtual 95, 3) := by decide +kernel
theorem dL_law_529 : decode cL_law 529 = .ok (.istore 6, 2) := by decide +kernel
theorem dL_law_531 : decode cL_law 531 = .ok (.aload_n 2, 1) := by decide +kernel
theorem dL_law_532 : decode cL_law 532 = .ok (.invokevirtual 75, 3) := by decide +kernel
theorem dL_law_535 : decode cL_law 535 = .ok (.iload 5, 2) := by decide +kernel
theorem dL_law_537 : decode cL_law 537 = .ok (.if_icmp .eq 5, 3) := by decide +kernel
theorem dL_law_540 : decode cL_law 540 = .ok (.iconst 0, 1) := by decide +kernel
theorem dL_law_541 : decode cL_law 541 = .ok (.ireturn, 1) := by decide +kernel
theorem dL_law_542 : decode cL_law 542 = .ok (.iload 5, 2) := by decide +kernel
theorem dL_law_544 : decode cL_law 544 = .ok (.ifCond .ne 15, 3) := by decide +kernel
theorem dL_law_547 : decode cL_law 547 = .ok (.aload_n 3, 1) := by decide +kernel
theorem dL_law_548 : decode cL_law 548 = .ok (.iconst 0, 1) := by decide +kernel
theorem dL_law_549 : decode cL_law 549 = .ok (.laload, 1) := by decide +kernel
theorem dL_law_550 : decode cL_law 550 = .ok (.iload 6, 2) := by decide +kernel
theorem dL_law_552 : decode cL_law 552 = .ok (.i2l, 1) := by decide +kernel
theorem dL_law_553 : decode cL_law 553 = .ok (.lcmp, 1) := by decide +kernel
theorem dL_law_554 : decode cL_law 554 = .ok (.ifCond .eq 5, 3) := by decide +kernel
theorem dL_law_557 : decode cL_law 557 = .ok (.iconst 0, 1) := by decide +kernel
theorem dL_law_558 : decode cL_law 558 = .ok (.ireturn, 1) := by decide +kernel
theorem dL_law_559 : decode cL_law 559 = .ok (.goto 608, 3) := by decide +kernel
theorem dL_law_562 : decode cL_law 562 = .ok (.aload_n 1, 1) := by decide +kernel
theorem dL_law_563 : decode cL_law 563 = .ok (.aload_n 0, 1) := by decide +kernel
theorem dL_law_564 : decode cL_law 564 = .ok (.iload 4, 2) := by decide +kernel
theorem dL_law_566 : decode cL_law 566 = .ok (.iconst 1, 1) := by decide +kernel
theorem dL_law_567 : decode cL_law 567 = .ok (.iadd, 1) := by decide +kernel
theorem dL_law_568 : decode cL_law 568 = .ok (.iaload, 1) := by decide +kernel
theorem dL_law_569 : decode cL_law 569 = .ok (.aload_n 3, 1) := by decide +kernel
theorem dL_law_570 : decode cL_law 570 = .ok (.invokestatic 96, 3) := by decide +kernel
theorem dL_law_573 : decode cL_law 573 = .ok (.istore 5, 2) := by decide +kernel
theorem dL_law_575 : decode cL_law 575 = .ok (.aload_n 2, 1) := by decide +kernel
theorem dL_law_576 : decode cL_law 576 = .ok (.aload_n 0, 1) := by decide +kernel
theorem dL_law_577 : decode cL_law 577 = .ok (.iload 4, 2) := by decide +kernel
theorem dL_law_579 : decode cL_law 579 = .ok (.iconst 1, 1) := by decide +kernel
theorem dL_law_580 : decode cL_law 580 = .ok (.iadd, 1) := by decide +kernel
theorem dL_law_581 : decode cL_law 581 = .ok (.iaload, 1) := by decide +kernel
theorem dL_law_582 : decode cL_law 582 = .ok (.invokevirtual 98, 3) := by decide +kernel
theorem dL_law_585 : decode cL_law 585 = .ok (.istore 6, 2) := by decide +kernel
theorem dL_law_587 : decode cL_law 587 = .ok (.aload_n 2, 1) := by decide +kernel
theorem dL_law_588 : decode cL_law 588 = .ok (.invokevirtual 75, 3) := by decide +kernel
theorem dL_law_591 : decode cL_law 591 = .ok (.iload 5, 2) := by decide +kernel
theorem dL_law_593 : decode cL_law 593 = .ok (.if_icmp .eq 5, 3) := by decide +kernel
theorem dL_law_596 : decode cL_law 596 = .ok (.iconst 0, 1) := by decide +kernel
theorem dL_law_597 : decode cL_law 597 = .ok (.ireturn, 1) := by decide +kernel
theorem dL_law_598 : decode cL_law 598 = .ok (.iload 5, 2) := by decide +kernel
theorem dL_law_600 : decode cL_law 600 = .ok (.ifCond .ne 15, 3) := by decide +kernel
theorem dL_law_603 : decode cL_law 603 = .ok (.aload_n 3, 1) := by decide +kernel
theorem dL_law_604 : decode cL_law 604 = .ok (.iconst 0, 1) := by decide +kernel
theorem dL_law_605 : decode cL_law 605 = .ok (.laload, 1) := by decide +kernel
theorem dL_law_606 : decode cL_law 606 = .ok (.iload 6, 2) := by decide +kernel
theorem dL_law_608 : decode cL_law 608 = .ok (.i2l, 1) := by decide +kernel
theorem dL_law_609 : decode cL_law 609 = .ok (.lcmp, 1) := by decide +kernel
theorem dL_law_610 : decode cL_law 610 = .ok (.ifCond .eq 5, 3) := by decide +kernel
theorem dL_law_613 : decode cL_law 613 = .ok (.iconst 0, 1) := by decide +kernel
theorem dL_law_614 : decode cL_law 614 = .ok (.ireturn, 1) := by decide +kernel
theorem dL_law_615 : decode cL_law 615 = .ok (.goto 552, 3) := by decide +kernel
theorem dL_law_618 : decode cL_law 618 = .ok (.aload_n 1, 1) := by decide +kernel
theorem dL_law_619 : decode cL_law 619 = .ok (.invokevirtual 99, 3) := by decide +kernel
theorem dL_law_622 : decode cL_law 622 = .ok (.aload_n 2, 1) := by decide +kernel
theorem dL_law_623 : decode cL_law 623 = .ok (.invokevirtual 102, 3) := by decide +kernel
theorem dL_law_626 : decode cL_law 626 = .ok (.if_icmp .eq 541, 3) := by decide +kernel
theorem dL_law_629 : decode cL_law 629 = .ok (.iconst 0, 1) := by decide +kernel
theorem dL_law_630 : decode cL_law 630 = .ok (.ireturn, 1) := by decide +kernel
theorem dL_law_631 : decode cL_law 631 = .ok (.aload_n 1, 1) := by decide +kernel
theorem dL_law_632 : decode cL_law 632 = .ok (.invokevirtual 103, 3) := by decide +kernel
theorem dL_law_635 : decode cL_law 635 = .ok (.aload_n 2, 1) := by decide +kernel
theorem dL_law_636 : decode cL_law 636 = .ok (.invokevirtual 106, 3) := by decide +kernel
theorem dL_law_639 : decode cL_law 639 = .ok (.if_icmp .eq 528, 3) := by decide +kernel
theorem dL_law_642 : decode cL_law 642 = .ok (.iconst 0, 1) := by decide +kernel
theorem dL_law_643 : decode cL_law 643 = .ok (.ireturn, 1) := by decide +kernel
theorem dL_law_644 : decode cL_law 644 = .ok (.aload_n 1, 1) := by decide +kernel
theorem dL_law_645 : decode cL_law 645 = .ok (.aload_n 0, 1) := by decide +kernel
theorem dL_law_646 : decode cL_law 646 = .ok (.iload 4, 2) := by decide +kernel
theorem dL_law_648 : decode cL_law 648 = .ok (.iconst 1, 1) := by decide +kernel
theorem dL_law_649 : decode cL_law 649 = .ok (.iadd, 1) := by decide +kernel
theorem dL_law_650 : decode cL_law 650 = .ok (.iaload, 1) := by decide +kernel
theorem dL_law_651 : decode cL_law 651 = .ok (.aload_n 0, 1) := by decide +kernel
theorem dL_law_652 : decode cL_law 652 = .ok (.iload 4, 2) := by decide +kernel
theorem dL_law_654 : decode cL_law 654 = .ok (.iconst 2, 1) := by decide +kernel
theorem dL_law_655 : decode cL_law 655 = .ok (.iadd, 1) := by decide +kernel
theorem dL_law_656 : decode cL_law 656 = .ok (.iaload, 1) := by decide +kernel
theorem dL_law_657 : decode cL_law 657 = .ok (.aload_n 3, 1) := by decide +kernel
theorem dL_law_658 : decode cL_law 658 = .ok (.invokestatic 107, 3) := by decide +kernel
theorem dL_law_661 : decode cL_law 661 = .ok (.istore 5, 2) := by decide +kernel
theorem dL_law_663 : decode cL_law 663 = .ok (.aload_n 2, 1) := by decide +kernel
theorem dL_law_664 : decode cL_law 664 = .ok (.aload_n 0, 1) := by decide +kernel
theorem dL_law_665 : decode cL_law 665 = .ok (.iload 4, 2) := by decide +kernel
theorem dL_law_667 : decode cL_law 667 = .ok (.iconst 1, 1) := by decide +kernel
theorem dL_law_668 : decode cL_law 668 = .ok (.iadd, 1) := by decide +kernel
theorem dL_law_669 : decode cL_law 669 = .ok (.iaload, 1) := by decide +kernel
theorem dL_law_670 : decode cL_law 670 = .ok (.aload_n 0, 1) := by decide +kernel
theorem dL_law_671 : decode cL_law 671 = .ok (.iload 4, 2) := by decide +kernel
theorem dL_law_673 : decode cL_law 673 = .ok (.iconst 2, 1) := by decide +kernel
theorem dL_law_674 : decode cL_law 674 = .ok (.iadd, 1) := by decide +kernel
theorem dL_law_675 : decode cL_law 675 = .ok (.iaload, 1) := by decide +kernel
theorem dL_law_676 : decode cL_law 676 = .ok (.invokevirtual 109, 3) := by decide +kernel
theorem dL_law_679 : decode cL_law 679 = .ok (.istore 6, 2) := by decide +kernel
theorem dL_law_681 : decode cL_law 681 = .ok (.aload_n 2, 1) := by decide +kernel
theorem dL_law_682 : decode cL_law 682 = .ok (.invokevirtual 75, 3) := by decide +kernel
theorem dL_law_685 : decode cL_law 685 = .ok (.iload 5, 2) := by decide +kernel
theorem dL_law_687 : decode cL_law 687 = .ok (.if_icmp .eq 5, 3) := by decide +kernel
theorem dL_law_690 : decode cL_law 690 = .ok (.iconst 0, 1) := by decide +kernel
theorem dL_law_691 : decode cL_law 691 = .ok (.ireturn, 1) := by decide +kernel
theorem dL_law_692 : decode cL_law 692 = .ok (.iload 5, 2) := by decide +kernel
theorem dL_law_694 : decode cL_law 694 = .ok (.ifCond .ne 15, 3) := by decide +kernel
theorem dL_law_697 : decode cL_law 697 = .ok (.aload_n 3, 1) := by decide +kernel
theorem dL_law_698 : decode cL_law 698 = .ok (.iconst 0, 1) := by decide +kernel
theorem dL_law_699 : decode cL_law 699 = .ok (.laload, 1) := by decide +kernel
theorem dL_law_700 : decode cL_law 700 = .ok (.iload 6, 2) := by decide +kernel
theorem dL_law_702 : decode cL_law 702 = .ok (.i2l, 1) := by decide +kernel
theorem dL_law_703 : decode cL_law 703 = .ok (.lcmp, 1) := by decide +kernel
theorem dL_law_704 : decode cL_law 704 = .ok (.ifCond .eq 5, 3) := by decide +kernel
theorem dL_law_707 : decode cL_law 707 = .ok (.iconst 0, 1) := by decide +kernel
theorem dL_law_708 : decode cL_law 708 = .ok (.ireturn, 1) := by decide +kernel
theorem dL_law_709 : decode cL_law 709 = .ok (.goto 458, 3) := by decide +kernel
theorem dL_law_712 : decode cL_law 712 = .ok (.aload_n 1, 1) := by decide +kernel
theorem dL_law_713 : decode cL_law 713 = .ok (.invokevirtual 110, 3) := by decide +kernel
theorem dL_law_716 : decode cL_law 716 = .ok (.aload_n 2, 1) := by decide +kernel
theorem dL_law_717 : decode cL_law 717 = .ok (.invokevirtual 113, 3) := by decide +kernel
theorem dL_law_720 : decode cL_law 720 = .ok (.if_icmp .eq 447, 3) := by decide +kernel
theorem dL_law_723 : decode cL_law 723 = .ok (.iconst 0, 1) := by decide +kernel
theorem dL_law_724 : decode cL_law 724 = .ok (.ireturn, 1) := by decide +kernel
theorem dL_law_725 : decode cL_law 725 = .ok (.aload_n 1, 1) := by decide +kernel
theorem dL_law_726 : decode cL_law 726 = .ok (.invokevirtual 114, 3) := by decide +kernel
theorem dL_law_729 : decode cL_law 729 = .ok (.aload_n 2, 1) := by decide +kernel
theorem dL_law_730 : decode cL_law 730 = .ok (.invokevirtual 117, 3) := by decide +kernel
theorem dL_law_733 : decode cL_law 733 = .ok (.if_icmp .eq 434, 3) := by decide +kernel
theorem dL_law_736 : decode cL_law 736 = .ok (.iconst 0, 1) := by decide +kernel
theorem dL_law_737 : decode cL_law 737 = .ok (.ireturn, 1) := by decide +kernel
theorem dL_law_738 : decode cL_law 738 = .ok (.aload_n 1, 1) := by decide +kernel
theorem dL_law_739 : decode cL_law 739 = .ok (.aload_n 0, 1) := by decide +kernel
theorem dL_law_740 : decode cL_law 740 = .ok (.iload 4, 2) := by decide +kernel
theorem dL_law_742 : decode cL_law 742 = .ok (.iconst 1, 1) := by decide +kernel
theorem dL_law_743 : decode cL_law 743 = .ok (.iadd, 1) := by decide +kernel
theorem dL_law_744 : decode cL_law 744 = .ok (.iaload, 1) := by decide +kernel
theorem dL_law_745 : decode cL_law 745 = .ok (.aload_n 3, 1) := by decide +kernel
theorem dL_law_746 : decode cL_law 746 = .ok (.invokestatic 118, 3) := by decide +kernel
theorem dL_law_749 : decode cL_law 749 = .ok (.istore 5, 2) := by decide +kernel
theorem dL_law_751 : decode cL_law 751 = .ok (.aload_n 2, 1) := by decide +kernel
theorem dL_law_752 : decode cL_law 752 = .ok (.aload_n 0, 1) := by decide +kernel
theorem dL_law_753 : decode cL_law 753 = .ok (.iload 4, 2) := by decide +kernel
theorem dL_law_755 : decode cL_law 755 = .ok (.iconst 1, 1) := by decide +kernel
theorem dL_law_756 : decode cL_law 756 = .ok (.iadd, 1) := by decide +kernel
theorem dL_law_757 : decode cL_law 757 = .ok (.iaload, 1) := by decide +kernel
theorem dL_law_758 : decode cL_law 758 = .ok (.invokevirtual 120, 3) := by decide +kernel
theorem dL_law_761 : decode cL_law 761 = .ok (.istore 6, 2) := by decide +kernel
theorem dL_law_763 : decode cL_law 763 = .ok (.aload_n 2, 1) := by decide +kernel
theorem dL_law_764 : decode cL_law 764 = .ok (.invokevirtual 75, 3) := by decide +kernel
theorem dL_law_767 : decode cL_law 767 = .ok (.iload 5, 2) := by decide +kernel
theorem dL_law_769 : decode cL_law 769 = .ok (.if_icmp .eq 5, 3) := by decide +kernel
theorem dL_law_772 : decode cL_law 772 = .ok (.iconst 0, 1) := by decide +kernel
theorem dL_law_773 : decode cL_law 773 = .ok (.ireturn, 1) := by decide +kernel
theorem dL_law_774 : decode cL_law 774 = .ok (.iload 5, 2) := by decide +kernel
theorem dL_law_776 : decode cL_law 776 = .ok (.ifCond .ne 15, 3) := by decide +kernel
theorem dL_law_779 : decode cL_law 779 = .ok (.aload_n 3, 1) := by decide +kernel
theorem dL_law_780 : decode cL_law 780 = .ok (.iconst 0, 1) := by decide +kernel
theorem dL_law_781 : decode cL_law 781 = .ok (.laload, 1) := by decide +kernel
theorem dL_law_782 : decode cL_law 782 = .ok (.iload 6, 2) := by decide +kernel
theorem dL_law_784 : decode cL_law 784 = .ok (.i2l, 1) := by decide +kernel
theorem dL_law_785 : decode cL_law 785 = .ok (.lcmp, 1) := by decide +kernel
theorem dL_law_786 : decode cL_law 786 = .ok (.ifCond .eq 5, 3) := by decide +kernel
theorem dL_law_789 : decode cL_law 789 = .ok (.iconst 0, 1) := by decide +kernel
theorem dL_law_790 : decode cL_law 790 = .ok (.ireturn, 1) := by decide +kernel
theorem dL_law_791 : decode cL_law 791 = .ok (.goto 376, 3) := by decide +kernel
theorem dL_law_794 : decode cL_law 794 = .ok (.aload_n 1, 1) := by decide +kernel
theorem dL_law_795 : decode cL_law 795 = .ok (.invokevirtual 121, 3) := by decide +kernel
theorem dL_law_798 : decode cL_law 798 = .ok (.aload_n 2, 1) := by decide +kernel
theorem dL_law_799 : decode cL_law 799 = .ok (.invokevirtual 124, 3) := by decide +kernel
theorem dL_law_802 : decode cL_law 802 = .ok (.if_icmp .eq 365, 3) := by decide +kernel
theorem dL_law_805 : decode cL_law 805 = .ok (.iconst 0, 1) := by decide +kernel
theorem dL_law_806 : decode cL_law 806 = .ok (.ireturn, 1) := by decide +kernel
theorem dL_law_807 : decode cL_law 807 = .ok (.aload_n 1, 1) := by decide +kernel
theorem dL_law_808 : decode cL_law 808 = .ok (.invokevirtual 125, 3) := by decide +kernel
theorem dL_law_811 : decode cL_law 811 = .ok (.dstore 5, 2) := by decide +kernel
theorem dL_law_813 : decode cL_law 813 = .ok (.aload_n 2, 1) := by decide +kernel
theorem dL_law_814 : decode cL_law 814 = .ok (.invokevirtual 129, 3) := by decide +kernel
theorem dL_law_817 : decode cL_law 817 = .ok (.dstore 7, 2) := by decide +kernel
theorem dL_law_819 : decode cL_law 819 = .ok (.dload 5, 2) := by decide +kernel
theorem dL_law_821 : decode cL_law 821 = .ok (.dload 7, 2) := by decide +kernel
theorem dL_law_823 : decode cL_law 823 = .ok (.dcmp .l, 1) := by decide +kernel
theorem dL_law_824 : decode cL_law 824 = .ok (.ifCond .eq 21, 3) := by decide +kernel
theorem dL_law_827 : decode cL_law 827 = .ok (.dload 5, 2) := by decide +kernel
theorem dL_law_829 : decode cL_law 829 = .ok (.dload 5, 2) := by decide +kernel
theorem dL_law_831 : decode cL_law 831 = .ok (.dcmp .l, 1) := by decide +kernel
theorem dL_law_832 : decode cL_law 832 = .ok (.ifCond .eq 11, 3) := by decide +kernel
theorem dL_law_835 : decode cL_law 835 = .ok (.dload 7, 2) := by decide +kernel
theorem dL_law_837 : decode cL_law 837 = .ok (.dload 7, 2) := by decide +kernel
theorem dL_law_839 : decode cL_law 839 = .ok (.dcmp .l, 1) := by decide +kernel
theorem dL_law_840 : decode cL_law 840 = .ok (.ifCond .ne 5, 3) := by decide +kernel
theorem dL_law_843 : decode cL_law 843 = .ok (.iconst 0, 1) := by decide +kernel
theorem dL_law_844 : decode cL_law 844 = .ok (.ireturn, 1) := by decide +kernel
theorem dL_law_845 : decode cL_law 845 = .ok (.goto 322, 3) := by decide +kernel
theorem dL_law_848 : decode cL_law 848 = .ok (.aload_n 1, 1) := by decide +kernel
theorem dL_law_849 : decode cL_law 849 = .ok (.aload_n 0, 1) := by decide +kernel
theorem dL_law_850 : decode cL_law 850 = .ok (.iload 4, 2) := by decide +kernel
theorem dL_law_852 : decode cL_law 852 = .ok (.iconst 1, 1) := by decide +kernel
theorem dL_law_853 : decode cL_law 853 = .ok (.iadd, 1) := by decide +kernel
theorem dL_law_854 : decode cL_law 854 = .ok (.iaload, 1) := by decide +kernel
theorem dL_law_855 : decode cL_law 855 = .ok (.aload_n 3, 1) := by decide +kernel
theorem dL_law_856 : decode cL_law 856 = .ok (.invokestatic 130, 3) := by decide +kernel
theorem dL_law_859 : decode cL_law 859 = .ok (.istore 5, 2) := by decide +kernel
theorem dL_law_861 : decode cL_law 861 = .ok (.aload_n 2, 1) := by decide +kernel
theorem dL_law_862 : decode cL_law 862 = .ok (.aload_n 0, 1) := by decide +kernel
theorem dL_law_863 : decode cL_law 863 = .ok (.iload 4, 2) := by decide +kernel
theorem dL_law_865 : decode cL_law 865 = .ok (.iconst 1, 1) := by decide +kernel
theorem dL_law_866 : decode cL_law 866 = .ok (.iadd, 1) := by decide +kernel
theorem dL_law_867 : decode cL_law 867 = .ok (.iaload, 1) := by decide +kernel
theorem dL_law_868 : decode cL_law 868 = .ok (.invokevirtual 132, 3) := by decide +kernel
theorem dL_law_871 : decode cL_law 871 = .ok (.istore 6, 2) := by decide +kernel
theorem dL_law_873 : decode cL_law 873 = .ok (.aload_n 2, 1) := by decide +kernel
theorem dL_law_874 : decode cL_law 874 = .ok (.invokevirtual 75, 3) := by decide +kernel
theorem dL_law_877 : decode cL_law 877 = .ok (.iload 5, 2) := by decide +kernel
theorem dL_law_879 : decode cL_law 879 = .ok (.if_icmp .eq 5, 3) := by decide +kernel
theorem dL_law_882 : decode cL_law 882 = .ok (.iconst 0, 1) := by decide +kernel
theorem dL_law_883 : decode cL_law 883 = .ok (.ireturn, 1) := by decide +kernel
theorem dL_law_884 : decode cL_law 884 = .ok (.iload 5, 2) := by decide +kernel
theorem dL_law_886 : decode cL_law 886 = .ok (.ifCond .ne 15, 3) := by decide +kernel
theorem dL_law_889 : decode cL_law 889 = .ok (.aload_n 3, 1) := by decide +kernel
theorem dL_law_890 : decode cL_law 890 = .ok (.iconst 0, 1) := by decide +kernel
theorem dL_law_891 : decode cL_law 891 = .ok (.laload, 1) := by decide +kernel
theorem dL_law_892 : decode cL_law 892 = .ok (.iload 6, 2) := by decide +kernel
theorem dL_law_894 : decode cL_law 894 = .ok (.i2l, 1) := by decide +kernel
theorem dL_law_895 : decode cL_law 895 = .ok (.lcmp, 1) := by decide +kernel
theorem dL_law_896 : decode cL_law 896 = .ok (.ifCond .eq 5, 3) := by decide +kernel
theorem dL_law_899 : decode cL_law 899 = .ok (.iconst 0, 1) := by decide +kernel
theorem dL_law_900 : decode cL_law 900 = .ok (.ireturn, 1) := by decide +kernel
theorem dL_law_901 : decode cL_law 901 = .ok (.goto 266, 3) := by decide +kernel
theorem dL_law_904 : decode cL_law 904 = .ok (.aload_n 1, 1) := by decide +kernel
theorem dL_law_905 : decode cL_law 905 = .ok (.aload_n 3, 1) := by decide +kernel
theorem dL_law_906 : decode cL_law 906 = .ok (.invokestatic 133, 3) := by decide +kernel
theorem dL_law_909 : decode cL_law 909 = .ok (.istore 5, 2) := by decide +kernel
theorem dL_law_911 : decode cL_law 911 = .ok (.aload_n 2, 1) := by decide +kernel
theorem dL_law_912 : decode cL_law 912 = .ok (.invokevirtual 136, 3) := by decide +kernel
theorem dL_law_915 : decode cL_law 915 = .ok (.istore 6, 2) := by decide +kernel
theorem dL_law_917 : decode cL_law 917 = .ok (.aload_n 2, 1) := by decide +kernel
theorem dL_law_918 : decode cL_law 918 = .ok (.invokevirtual 75, 3) := by decide +kernel
theorem dL_law_921 : decode cL_law 921 = .ok (.iload 5, 2) := by decide +kernel
theorem dL_law_923 : decode cL_law 923 = .ok (.if_icmp .eq 5, 3) := by decide +kernel
theorem dL_law_926 : decode cL_law 926 = .ok (.iconst 0, 1) := by decide +kernel
theorem dL_law_927 : decode cL_law 927 = .ok (.ireturn, 1) := by decide +kernel
theorem dL_law_928 : decode cL_law 928 = .ok (.iload 5, 2) := by decide +kernel
theorem dL_law_930 : decode cL_law 930 = .ok (.ifCond .ne 15, 3) := by decide +kernel
theorem dL_law_933 : decode cL_law 933 = .ok (.aload_n 3, 1) := by decide +kernel
theorem dL_law_934 : decode cL_law 934 = .ok (.iconst 0, 1) := by decide +kernel
theorem dL_law_935 : decode cL_law 935 = .ok (.laload, 1) := by decide +kernel
theorem dL_law_936 : decode cL_law 936 = .ok (.iload 6, 2) := by decide +kernel
theorem dL_law_938 : decode cL_law 938 = .ok (.i2l, 1) := by decide +kernel
theorem dL_law_939 : decode cL_law 939 = .ok (.lcmp, 1) := by decide +kernel
theorem dL_law_940 : decode cL_law 940 = .ok (.ifCond .eq 5, 3) := by decide +kernel
theorem dL_law_943 : decode cL_law 943 = .ok (.iconst 0, 1) := by decide +kernel
theorem dL_law_944 : decode cL_law 944 = .ok (.ireturn, 1) := by decide +kernel
theorem dL_law_945 : decode cL_law 945 = .ok (.goto 222, 3) := by decide +kernel
theorem dL_law_948 : decode cL_law 948 = .ok (.aload_n 1, 1) := by decide +kernel
theorem dL_law_949 : decode cL_law 949 = .ok (.aload_n 0, 1) := by decide +kernel
theorem dL_law_950 : decode cL_law 950 = .ok (.iload 4, 2) := by decide +kernel
theorem dL_law_952 : decode cL_law 952 = .ok (.iconst 1, 1) := by decide +kernel
theorem dL_law_953 : decode cL_law 953 = .ok (.iadd, 1) := by decide +kernel
theorem dL_law_954 : decode cL_law 954 = .ok (.iaload, 1) := by decide +kernel
theorem dL_law_955 : decode cL_law 955 = .ok (.aload_n 0, 1) := by decide +kernel
theorem dL_law_956 : decode cL_law 956 = .ok (.iload 4, 2) := by decide +kernel
theorem dL_law_958 : decode cL_law 958 = .ok (.iconst 2, 1) := by decide +kernel
theorem dL_law_959 : decode cL_law 959 = .ok (.iadd, 1) := by decide +kernel
theorem dL_law_960 : decode cL_law 960 = .ok (.iaload, 1) := by decide +kernel
theorem dL_law_961 : decode cL_law 961 = .ok (.aload_n 0, 1) := by decide +kernel
theorem dL_law_962 : decode cL_law 962 = .ok (.iload 4, 2) := by decide +kernel
theorem dL_law_964 : decode cL_law 964 = .ok (.iconst 3, 1) := by decide +kernel
theorem dL_law_965 : decode cL_law 965 = .ok (.iadd, 1) := by decide +kernel
theorem dL_law_966 : decode cL_law 966 = .ok (.iaload, 1) := by decide +kernel
theorem dL_law_967 : decode cL_law 967 = .ok (.aload_n 3, 1) := by decide +kernel
theorem dL_law_968 : decode cL_law 968 = .ok (.invokestatic 137, 3) := by decide +kernel
theorem dL_law_971 : decode cL_law 971 = .ok (.istore 5, 2) := by decide +kernel
theorem dL_law_973 : decode cL_law 973 = .ok (.aload_n 2, 1) := by decide +kernel
theorem dL_law_974 : decode cL_law 974 = .ok (.aload_n 0, 1) := by decide +kernel
theorem dL_law_975 : decode cL_law 975 = .ok (.iload 4, 2) := by decide +kernel
theorem dL_law_977 : decode cL_law 977 = .ok (.iconst 1, 1) := by decide +kernel
theorem dL_law_978 : decode cL_law 978 = .ok (.iadd, 1) := by decide +kernel
theorem dL_law_979 : decode cL_law 979 = .ok (.iaload, 1) := by decide +kernel
theorem dL_law_980 : decode cL_law 980 = .ok (.aload_n 0, 1) := by decide +kernel
theorem dL_law_981 : decode cL_law 981 = .ok (.iload 4, 2) := by decide +kernel
theorem dL_law_983 : decode cL_law 983 = .ok (.iconst 2, 1) := by decide +kernel
theorem dL_law_984 : decode cL_law 984 = .ok (.iadd, 1) := by decide +kernel
theorem dL_law_985 : decode cL_law 985 = .ok (.iaload, 1) := by decide +kernel
theorem dL_law_986 : decode cL_law 986 = .ok (.aload_n 0, 1) := by decide +kernel
theorem dL_law_987 : decode cL_law 987 = .ok (.iload 4, 2) := by decide +kernel
theorem dL_law_989 : decode cL_law 989 = .ok (.iconst 3, 1) := by decide +kernel
theorem dL_law_990 : decode cL_law 990 = .ok (.iadd, 1) := by decide +kernel
theorem dL_law_991 : decode cL_law 991 = .ok (.iaload, 1) := by decide +kernel
theorem dL_law_992 : decode cL_law 992 = .ok (.invokevirtual 139, 3) := by decide +kernel
theorem dL_law_995 : decode cL_law 995 = .ok (.istore 6, 2) := by decide +kernel
theorem dL_law_997 : decode cL_law 997 = .ok (.aload_n 2, 1) := by decide +kernel
theorem dL_law_998 : decode cL_law 998 = .ok (.invokevirtual 75, 3) := by decide +kernel
theorem dL_law_1001 : decode cL_law 1001 = .ok (.iload 5, 2) := by decide +kernel
theorem dL_law_1003 : decode cL_law 1003 = .ok (.if_icmp .eq 5, 3) := by decide +kernel
theorem dL_law_1006 : decode cL_law 1006 = .ok (.iconst 0, 1) := by decide +kernel
theorem dL_law_1007 : decode cL_law 1007 = .ok (.ireturn, 1) := by decide +kernel
theorem dL_law_1008 : decode cL_law 1008 = .ok (.iload 5, 2) := by decide +kernel
theorem dL_law_1010 : decode cL_law 1010 = .ok (.ifCond .ne 15, 3) := by decide +kernel
theorem dL_law_1013 : decode cL_law 1013 = .ok (.aload_n 3, 1) := by decide +kernel
theorem dL_law_1014 : decode cL_law 1014 = .ok (.iconst 0, 1) := by decide +kernel
theorem dL_law_1015 : decode cL_law 1015 = .ok (.laload, 1) := by decide +kernel
theorem dL_law_1016 : decode cL_law 1016 = .ok (.iload 6, 2) := by decide +kernel
theorem dL_law_1018 : decode cL_law 1018 = .ok (.i2l, 1) := by decide +kernel
theorem dL_law_1019 : decode cL_law 1019 = .ok (.lcmp, 1) := by decide +kernel
theorem dL_law_1020 : decode cL_law 1020 = .ok (.ifCond .eq 5, 3) := by decide +kernel
theorem dL_law_1023 : decode cL_law 1023 = .ok (.iconst 0, 1) := by decide +kernel
theorem dL_law_1024 : decode cL_law 1024 = .ok (.ireturn, 1) := by decide +kernel
theorem dL_law_1025 : decode cL_law 1025 = .ok (.goto 142, 3) := by decide +kernel
theorem dL_law_1028 : decode cL_law 1028 = .ok (.aload_n 1, 1) := by decide +kernel
theorem dL_law_1029 : decode cL_law 1029 = .ok (.aload_n 0, 1) := by decide +kernel
theorem dL_law_1030 : decode cL_law 1030 = .ok (.iload 4, 2) := by decide +kernel
theorem dL_law_1032 : decode cL_law 1032 = .ok (.iconst 1, 1) := by decide +kernel
theorem dL_law_1033 : decode cL_law 1033 = .ok (.iadd, 1) := by decide +kernel
theorem dL_law_1034 : decode cL_law 1034 = .ok (.iaload, 1) := by decide +kernel
theorem dL_law_1035 : decode cL_law 1035 = .ok (.aload_n 3, 1) := by decide +kernel
theorem dL_law_1036 : decode cL_law 1036 = .ok (.invokestatic 140, 3) := by decide +kernel
theorem dL_law_1039 : decode cL_law 1039 = .ok (.istore 5, 2) := by decide +kernel
theorem dL_law_1041 : decode cL_law 1041 = .ok (.aload_n 2, 1) := by decide +kernel
theorem dL_law_1042 : decode cL_law 1042 = .ok (.aload_n 0, 1) := by decide +kernel
theorem dL_law_1043 : decode cL_law 1043 = .ok (.iload 4, 2) := by decide +kernel
theorem dL_law_1045 : decode cL_law 1045 = .ok (.iconst 1, 1) := by decide +kernel
theorem dL_law_1046 : decode cL_law 1046 = .ok (.iadd, 1) := by decide +kernel
theorem dL_law_1047 : decode cL_law 1047 = .ok (.iaload, 1) := by decide +kernel
theorem dL_law_1048 : decode cL_law 1048 = .ok (.invokevirtual 142, 3) := by decide +kernel
theorem dL_law_1051 : decode cL_law 1051 = .ok (.istore 6, 2) := by decide +kernel
theorem dL_law_1053 : decode cL_law 1053 = .ok (.aload_n 2, 1) := by decide +kernel
theorem dL_law_1054 : decode cL_law 1054 = .ok (.invokevirtual 75, 3) := by decide +kernel
theorem dL_law_1057 : decode cL_law 1057 = .ok (.iload 5, 2) := by decide +kernel
theorem dL_law_1059 : decode cL_law 1059 = .ok (.if_icmp .eq 5, 3) := by decide +kernel
theorem dL_law_1062 : decode cL_law 1062 = .ok (.iconst 0, 1) := by decide +kernel
theorem dL_law_1063 : decode cL_law 1063 = .ok (.ireturn, 1) := by decide +kernel
theorem dL_law_1064 : decode cL_law 1064 = .ok (.iload 5, 2) := by decide +kernel
theorem dL_law_1066 : decode cL_law 1066 = .ok (.ifCond .ne 15, 3) := by decide +kernel
theorem dL_law_1069 : decode cL_law 1069 = .ok (.aload_n 3, 1) := by decide +kernel
theorem dL_law_1070 : decode cL_law 1070 = .ok (.iconst 0, 1) := by decide +kernel
theorem dL_law_1071 : decode cL_law 1071 = .ok (.laload, 1) := by decide +kernel
theorem dL_law_1072 : decode cL_law 1072 = .ok (.iload 6, 2) := by decide +kernel
theorem dL_law_1074 : decode cL_law 1074 = .ok (.i2l, 1) := by decide +kernel
theorem dL_law_1075 : decode cL_law 1075 = .ok (.lcmp, 1) := by decide +kernel
theorem dL_law_1076 : decode cL_law 1076 = .ok (.ifCond .eq 5, 3) := by decide +kernel
theorem dL_law_1079 : decode cL_law 1079 = .ok (.iconst 0, 1) := by decide +kernel
theorem dL_law_1080 : decode cL_law 1080 = .ok (.ireturn, 1) := by decide +kernel
theorem dL_law_1081 : decode cL_law 1081 = .ok (.goto 86, 3) := by decide +kernel
theorem dL_law_1084 : decode cL_law 1084 = .ok (.aload_n 1, 1) := by decide +kernel
theorem dL_law_1085 : decode cL_law 1085 = .ok (.aload_n 0, 1) := by decide +kernel
theorem dL_law_1086 : decode cL_law 1086 = .ok (.iload 4, 2) := by decide +kernel
theorem dL_law_1088 : decode cL_law 1088 = .ok (.iconst 1, 1) := by decide +kernel
theorem dL_law_1089 : decode cL_law 1089 = .ok (.iadd, 1) := by decide +kernel
theorem dL_law_1090 : decode cL_law 1090 = .ok (.iaload, 1) := by decide +kernel
theorem dL_law_1091 : decode cL_law 1091 = .ok (.aload_n 3, 1) := by decide +kernel
theorem dL_law_1092 : decode cL_law 1092 = .ok (.invokestatic 143, 3) := by decide +kernel
theorem dL_law_1095 : decode cL_law 1095 = .ok (.istore 5, 2) := by decide +kernel
theorem dL_law_1097 : decode cL_law 1097 = .ok (.aload_n 2, 1) := by decide +kernel
theorem dL_law_1098 : decode cL_law 1098 = .ok (.aload_n 0, 1) := by decide +kernel
theorem dL_law_1099 : decode cL_law 1099 = .ok (.iload 4, 2) := by decide +kernel
theorem dL_law_1101 : decode cL_law 1101 = .ok (.iconst 1, 1) := by decide +kernel
theorem dL_law_1102 : decode cL_law 1102 = .ok (.iadd, 1) := by decide +kernel
theorem dL_law_1103 : decode cL_law 1103 = .ok (.iaload, 1) := by decide +kernel
theorem dL_law_1104 : decode cL_law 1104 = .ok (.invokevirtual 145, 3) := by decide +kernel
theorem dL_law_1107 : decode cL_law 1107 = .ok (.istore 6, 2) := by decide +kernel
theorem dL_law_1109 : decode cL_law 1109 = .ok (.aload_n 2, 1) := by decide +kernel
theorem dL_law_1110 : decode cL_law 1110 = .ok (.invokevirtual 75, 3) := by decide +kernel
theorem dL_law_1113 : decode cL_law 1113 = .ok (.iload 5, 2) := by decide +kernel
theorem dL_law_1115 : decode cL_law 1115 = .ok (.if_icmp .eq 5, 3) := by decide +kernel
theorem dL_law_1118 : decode cL_law 1118 = .ok (.iconst 0, 1) := by decide +kernel
theorem dL_law_1119 : decode cL_law 1119 = .ok (.ireturn, 1) := by decide +kernel
theorem dL_law_1120 : decode cL_law 1120 = .ok (.iload 5, 2) := by decide +kernel
theorem dL_law_1122 : decode cL_law 1122 = .ok (.ifCond .ne 15, 3) := by decide +kernel
theorem dL_law_1125 : decode cL_law 1125 = .ok (.aload_n 3, 1) := by decide +kernel
theorem dL_law_1126 : decode cL_law 1126 = .ok (.iconst 0, 1) := by decide +kernel
theorem dL_law_1127 : decode cL_law 1127 = .ok (.laload, 1) := by decide +kernel
theorem dL_law_1128 : decode cL_law 1128 = .ok (.iload 6, 2) := by decide +kernel
theorem dL_law_1130 : decode cL_law 1130 = .ok (.i2l, 1) := by decide +kernel
theorem dL_law_1131 : decode cL_law 1131 = .ok (.lcmp, 1) := by decide +kernel
theorem dL_law_1132 : decode cL_law 1132 = .ok (.ifCond .eq 5, 3) := by decide +kernel
theorem dL_law_1135 : decode cL_law 1135 = .ok (.iconst 0, 1) := by decide +kernel
theorem dL_law_1136 : decode cL_law 1136 = .ok (.ireturn, 1) := by decide +kernel
theorem dL_law_1137 : decode cL_law 1137 = .ok (.goto 30, 3) := by decide +kernel
theorem dL_law_1140 : decode cL_law 1140 = .ok (.aload_n 1, 1) := by decide +kernel
theorem dL_law_1141 : decode cL_law 1141 = .ok (.invokevirtual 146, 3) := by decide +kernel
theorem dL_law_1144 : decode cL_law 1144 = .ok (.aload_n 2, 1) := by decide +kernel
theorem dL_law_1145 : decode cL_law 1145 = .ok (.invokevirtual 149, 3) := by decide +kernel
theorem dL_law_1148 : decode cL_law 1148 = .ok (.if_icmp .eq 19, 3) := by decide +kernel
theorem dL_law_1151 : decode cL_law 1151 = .ok (.iconst 0, 1) := by decide +kernel
theorem dL_law_1152 : decode cL_law 1152 = .ok (.ireturn, 1) := by decide +kernel
theorem dL_law_1153 : decode cL_law 1153 = .ok (.aload_n 1, 1) := by decide +kernel
theorem dL_law_1154 : decode cL_law 1154 = .ok (.invokevirtual 150, 3) := by decide +kernel
theorem dL_law_1157 : decode cL_law 1157 = .ok (.aload_n 2, 1) := by decide +kernel
theorem dL_law_1158 : decode cL_law 1158 = .ok (.invokevirtual 154, 3) := by decide +kernel
theorem dL_law_1161 : decode cL_law 1161 = .ok (.lcmp, 1) := by decide +kernel
theorem dL_law_1162 : decode cL_law 1162 = .ok (.ifCond .eq 5, 3) := by decide +kernel
theorem dL_law_1165 : decode cL_law 1165 = .ok (.iconst 0, 1) := by decide +kernel
theorem dL_law_1166 : decode cL_law 1166 = .ok (.ireturn, 1) := by decide +kernel
theorem dL_law_1167 : decode cL_law 1167 = .ok (.iinc 4 6, 3) := by decide +kernel
theorem dL_law_1170 : decode cL_law 1170 = .ok (.goto (-1147), 3) := by decide +kernel
theorem dL_law_1173 : decode cL_law 1173 = .ok (.iconst 1, 1) := by decide +kernel
theorem dL_law_1174 : decode cL_law 1174 = .ok (.ireturn, 1) := by decide +kernel
